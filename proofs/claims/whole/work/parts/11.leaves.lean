def maxF (x y : Int32) : Int32 := if x < y then y else x
def minF (x y : Int32) : Int32 := if y < x then y else x
def maxL (x y : Int64) : Int64 := if y < x then x else y
section MM
variable {K : Kx} {M : Md} {d mc ms : Nat} {Q : Qx} {pc idx : Nat} {L : List (Option Value)} {st : List Value} {w : Wd} {sz cc ss : Nat}
theorem mk_maxs : Cond.static Lib.Math.max.name ∈ gT := gm3 6 (by decide +kernel) rfl
theorem mk_maxc : Cond.code Lib.Math.max.name Lib.Math.max.code 2 (some .int) ∈ gT := gm3 7 (by decide +kernel) rfl
theorem N.mmax {x y : Int32} (hd : decode M.2.1 pc = .ok (.invokestatic idx, 3)) (hk : Cond.methodLink M.1.cls idx Lib.Math.max.name ∈ gT) (h1 : 1 ≤ d) (hr : (st.map fun v => v.category).sum ≤ 8) (hc : cc ≤ mc) (hs : ss ≤ ms) (k : N K M d mc ms Q (pc + 3) L (.int (maxF x y) :: st) w sz cc ss) : N K M d mc ms Q pc L (.int y :: .int x :: st) w sz cc ss := by
  intro p e s m args below meth c H locs ls C hW hF hL hl
  have ok : ∀ x ∈ gT, x.before args s = true := fun x hx => C.2.2.2.2.2.2.2.1 x (List.mem_cons_of_mem _ hx)
  exact va_mmax C.1 C.2.1 (by rw [C.2.2.2.2.1]; exact hl.1.symm) C.2.2.2.2.2.1 (ok _ hk) (ok _ mk_maxs) (ok _ (gm1 14 (by decide +kernel) rfl)) (ok _ mk_maxc) h1 (by show _ ≤ 40 * d; omega) hc hs hd (k p e s m args below meth c H locs ls C hW hF hL hl)
theorem mk_mins : Cond.static Lib.Math.min.name ∈ gT := gm2 236 (by decide +kernel) rfl
theorem mk_minc : Cond.code Lib.Math.min.name Lib.Math.min.code 2 (some .int) ∈ gT := gm2 237 (by decide +kernel) rfl
theorem N.mmin {x y : Int32} (hd : decode M.2.1 pc = .ok (.invokestatic idx, 3)) (hk : Cond.methodLink M.1.cls idx Lib.Math.min.name ∈ gT) (h1 : 1 ≤ d) (hr : (st.map fun v => v.category).sum ≤ 8) (hc : cc ≤ mc) (hs : ss ≤ ms) (k : N K M d mc ms Q (pc + 3) L (.int (minF x y) :: st) w sz cc ss) : N K M d mc ms Q pc L (.int y :: .int x :: st) w sz cc ss := by
  intro p e s m args below meth c H locs ls C hW hF hL hl
  have ok : ∀ x ∈ gT, x.before args s = true := fun x hx => C.2.2.2.2.2.2.2.1 x (List.mem_cons_of_mem _ hx)
  exact va_mmin C.1 C.2.1 (by rw [C.2.2.2.2.1]; exact hl.1.symm) C.2.2.2.2.2.1 (ok _ hk) (ok _ mk_mins) (ok _ (gm1 14 (by decide +kernel) rfl)) (ok _ mk_minc) h1 (by show _ ≤ 40 * d; omega) hc hs hd (k p e s m args below meth c H locs ls C hW hF hL hl)
theorem mk_Ls : Cond.static Lib.MathLoose.max_long.x ∈ gT := gm3 227 (by decide +kernel) rfl
theorem mk_Lc : Cond.code Lib.MathLoose.max_long.x Lib.MathLoose.max_long.code 4 (some .long) ∈ gT := gm3 228 (by decide +kernel) rfl
theorem N.mmaxL {x y : Int64} (hd : decode M.2.1 pc = .ok (.invokestatic idx, 3)) (hk : Cond.methodLink M.1.cls idx Lib.MathLoose.max_long.x ∈ gT) (h1 : 1 ≤ d) (hr : (st.map fun v => v.category).sum ≤ 8) (hc : cc ≤ mc) (hs : ss ≤ ms) (k : N K M d mc ms Q (pc + 3) L (.long (maxL x y) :: st) w sz cc ss) : N K M d mc ms Q pc L (.long y :: .long x :: st) w sz cc ss := by
  intro p e s m args below meth c H locs ls C hW hF hL hl
  have ok : ∀ x ∈ gT, x.before args s = true := fun x hx => C.2.2.2.2.2.2.2.1 x (List.mem_cons_of_mem _ hx)
  exact va_mmax_long C.1 C.2.1 (by rw [C.2.2.2.2.1]; exact hl.1.symm) C.2.2.2.2.2.1 (ok _ hk) (ok _ mk_Ls) (ok _ (gm1 14 (by decide +kernel) rfl)) (ok _ mk_Lc) h1 (by show _ ≤ 40 * d; omega) hc hs hd (k p e s m args below meth c H locs ls C hW hF hL hl)
end MM
theorem mkX1_125 : Cond.methodLink RX1 125 Lib.Math.min.name ∈ gT := gm2 235 (by decide +kernel) rfl
theorem mkX1_117 : Cond.methodLink RX1 117 Lib.Math.max.name ∈ gT := gm3 5 (by decide +kernel) rfl
theorem mkX4_232 : Cond.methodLink RX4 232 Lib.Math.min.name ∈ gT := gm3 118 (by decide +kernel) rfl
theorem mkX4_327 : Cond.methodLink RX4 327 Lib.Math.max.name ∈ gT := gm3 188 (by decide +kernel) rfl
theorem mkX2_36 : Cond.methodLink RX2 36 Lib.MathLoose.max_long.x ∈ gT := gm3 226 (by decide +kernel) rfl
/-! leaves: the JDK's, and the class's own static helpers -/
def ushr (x k : Int32) : Int32 := (x.toUInt32 >>> (k.toUInt32 &&& Int32.toUInt32 31)).toInt32
def bc1 (x : Int32) : Int32 := x - (ushr x 1 &&& 1431655765)
def bc2 (x : Int32) : Int32 := (x &&& 858993459) + (ushr x 2 &&& 858993459)
def bc3 (x : Int32) : Int32 := (x + ushr x 4) &&& 252645135
def bc4 (x : Int32) : Int32 := x + ushr x 8
def bc5 (x : Int32) : Int32 := x + ushr x 16
def bcF (x : Int32) : Int32 := bc5 (bc4 (bc3 (bc2 (bc1 x)))) &&& 63
def isInF (v a b : Int32) : Int32 := if v < a then 0 else if b < v then 0 else 1
def bitF (x p : Int32) : Int32 := (x >>> (p &&& 31)) &&& 1
def isUnderF (k a : Int32) : Int32 := if a = 0 then 1 else if k = a then 1 else if k = 3 ∧ a = 1 then 1 else if k = 5 ∧ a = 4 then 1 else 0
def tiresF (k : Int32) : Int32 := if k = 1 then 3 else if k = 3 then 3 else 2
def restsF (k : Int32) : Int32 := if k = 3 then 2 else 1
def spellsF (s l : Int32) : Int32 := if l = 0 then s / 81 else if l = 1 then s / 9 - s / 9 / 9 * 9 else if l = 2 then s - s / 9 * 9 else 8 - s / 81 - (s / 9 - s / 9 / 9 * 9) - (s - s / 9 * 9)
theorem isIn_nar (v a b : Int32) : narrow .boolean (.int (isInF v a b)) = .int (isInF v a b) := by
  unfold isInF
  split
  · rfl
  · split <;> rfl
set_option maxRecDepth 100000 in
theorem s_J6_bitCount_0f7a4 {K : Kx} (x : Int32) (w : Wd) (sz : Nat) : Sp K mJ6_bitCount_0f7a4 0 0 0 [.int x] w sz (Qi fun r w' sz' => r = bcF x ∧ w' = w ∧ sz' = sz) := by
  refine Sp.ofNF [some (.int x)] rfl rfl rfl (Nat.le_of_ble_eq_true rfl) ?_
  refine N.iload0 dJ6_bitCount_0f7a4_0 ?_
  refine N.iload0 dJ6_bitCount_0f7a4_1 ?_
  refine N.iconst (v := 1) dJ6_bitCount_0f7a4_2 (by decide) ?_
  refine N.iushr dJ6_bitCount_0f7a4_3 ?_
  refine N.ldcw dJ6_bitCount_0f7a4_4 ctJ6_265 ?_
  refine N.iand dJ6_bitCount_0f7a4_7 ?_
  refine N.isub dJ6_bitCount_0f7a4_8 ?_
  refine N.istore0 dJ6_bitCount_0f7a4_9 ?_
  refine N.iload0 dJ6_bitCount_0f7a4_10 ?_
  refine N.ldcw dJ6_bitCount_0f7a4_11 ctJ6_266 ?_
  refine N.iand dJ6_bitCount_0f7a4_14 ?_
  refine N.iload0 dJ6_bitCount_0f7a4_15 ?_
  refine N.iconst (v := 2) dJ6_bitCount_0f7a4_16 (by decide) ?_
  refine N.iushr dJ6_bitCount_0f7a4_17 ?_
  refine N.ldcw dJ6_bitCount_0f7a4_18 ctJ6_266 ?_
  refine N.iand dJ6_bitCount_0f7a4_21 ?_
  refine N.iadd dJ6_bitCount_0f7a4_22 ?_
  refine N.istore0 dJ6_bitCount_0f7a4_23 ?_
  refine N.iload0 dJ6_bitCount_0f7a4_24 ?_
  refine N.iload0 dJ6_bitCount_0f7a4_25 ?_
  refine N.iconst (v := 4) dJ6_bitCount_0f7a4_26 (by decide) ?_
  refine N.iushr dJ6_bitCount_0f7a4_27 ?_
  refine N.iadd dJ6_bitCount_0f7a4_28 ?_
  refine N.ldcw dJ6_bitCount_0f7a4_29 ctJ6_267 ?_
  refine N.iand dJ6_bitCount_0f7a4_32 ?_
  refine N.istore0 dJ6_bitCount_0f7a4_33 ?_
  refine N.iload0 dJ6_bitCount_0f7a4_34 ?_
  refine N.iload0 dJ6_bitCount_0f7a4_35 ?_
  refine N.bipush (v := 8) dJ6_bitCount_0f7a4_36 (by decide) ?_
  refine N.iushr dJ6_bitCount_0f7a4_38 ?_
  refine N.iadd dJ6_bitCount_0f7a4_39 ?_
  refine N.istore0 dJ6_bitCount_0f7a4_40 ?_
  refine N.iload0 dJ6_bitCount_0f7a4_41 ?_
  refine N.iload0 dJ6_bitCount_0f7a4_42 ?_
  refine N.bipush (v := 16) dJ6_bitCount_0f7a4_43 (by decide) ?_
  refine N.iushr dJ6_bitCount_0f7a4_45 ?_
  refine N.iadd dJ6_bitCount_0f7a4_46 ?_
  refine N.istore0 dJ6_bitCount_0f7a4_47 ?_
  refine N.iload0 dJ6_bitCount_0f7a4_48 ?_
  refine N.bipush (v := 63) dJ6_bitCount_0f7a4_49 (by decide) ?_
  refine N.iand dJ6_bitCount_0f7a4_51 ?_
  exact N.iret dJ6_bitCount_0f7a4_52 rfl (Nat.zero_le _) (Nat.zero_le _) ⟨_, rfl, ⟨by simp only [bcF, bc1, bc2, bc3, bc4, bc5, ushr], rfl, rfl⟩⟩
set_option maxRecDepth 100000 in
theorem s_X4_isIn {K : Kx} (x y z : Int32) (w : Wd) (sz : Nat) : Sp K mX4_isIn 0 0 0 [.int x, .int y, .int z] w sz (Qi fun r w' sz' => r = isInF x y z ∧ w' = w ∧ sz' = sz) := by
  refine Sp.ofN [some (.int x), some (.int y), some (.int z)] rfl rfl rfl (Nat.le_of_ble_eq_true rfl) ?_
  refine N.iload1 dX4_isIn_0 ?_
  refine N.iload0 dX4_isIn_1 ?_
  refine N.icmp_gt (tgt := 14) dX4_isIn_2 (by decide) (fun c2 => ?_) (fun c2 => ?_)
  · refine N.iconst (v := 0) dX4_isIn_14 (by decide) ?_
    exact N.zret dX4_isIn_15 rfl rfl (Nat.zero_le _) (Nat.zero_le _) ⟨_, rfl, ⟨(by first | (simp only [isInF, c2, ↓reduceIte]; done) | (simp_all [isInF]; done)), rfl, rfl⟩⟩
  · refine N.iload0 dX4_isIn_5 ?_
    refine N.iload2 dX4_isIn_6 ?_
    refine N.icmp_gt (tgt := 14) dX4_isIn_7 (by decide) (fun c7 => ?_) (fun c7 => ?_)
    · refine N.iconst (v := 0) dX4_isIn_14 (by decide) ?_
      exact N.zret dX4_isIn_15 rfl rfl (Nat.zero_le _) (Nat.zero_le _) ⟨_, rfl, ⟨(by first | (simp only [isInF, c2, c7, ↓reduceIte]; done) | (simp_all [isInF]; done)), rfl, rfl⟩⟩
    · refine N.iconst (v := 1) dX4_isIn_10 (by decide) ?_
      refine N.goto (tgt := 15) dX4_isIn_11 (by decide) ?_
      exact N.zret dX4_isIn_15 rfl rfl (Nat.zero_le _) (Nat.zero_le _) ⟨_, rfl, ⟨(by first | (simp only [isInF, c2, c7, ↓reduceIte]; done) | (simp_all [isInF]; done)), rfl, rfl⟩⟩
set_option maxRecDepth 100000 in
theorem s_X4_bit {K : Kx} (x y : Int32) (w : Wd) (sz : Nat) : Sp K mX4_bit 0 0 0 [.int x, .int y] w sz (Qi fun r w' sz' => r = bitF x y ∧ w' = w ∧ sz' = sz) := by
  refine Sp.ofN [some (.int x), some (.int y)] rfl rfl rfl (Nat.le_of_ble_eq_true rfl) ?_
  refine N.iload0 dX4_bit_0 ?_
  refine N.iload1 dX4_bit_1 ?_
  refine N.ishr dX4_bit_2 ?_
  refine N.iconst (v := 1) dX4_bit_3 (by decide) ?_
  refine N.iand dX4_bit_4 ?_
  exact N.iret dX4_bit_5 rfl (Nat.zero_le _) (Nat.zero_le _) ⟨_, rfl, ⟨rfl, rfl, rfl⟩⟩
set_option maxRecDepth 100000 in
theorem s_X4_isUnder {K : Kx} (x y : Int32) (w : Wd) (sz : Nat) : Sp K mX4_isUnder 0 0 0 [.int x, .int y] w sz (Qi fun r w' sz' => r = isUnderF x y ∧ w' = w ∧ sz' = sz) := by
  refine Sp.ofN [some (.int x), some (.int y)] rfl rfl rfl (Nat.le_of_ble_eq_true rfl) ?_
  refine N.iload1 dX4_isUnder_0 ?_
  refine N.if_eq (tgt := 29) dX4_isUnder_1 (by decide) (fun c1 => ?_) (fun c1 => ?_)
  · refine N.iconst (v := 1) dX4_isUnder_29 (by decide) ?_
    refine N.goto (tgt := 34) dX4_isUnder_30 (by decide) ?_
    exact N.zret dX4_isUnder_34 rfl rfl (Nat.zero_le _) (Nat.zero_le _) ⟨_, rfl, ⟨(by first | (simp only [isUnderF, c1, ↓reduceIte]; done) | (simp_all [isUnderF]; done)), rfl, rfl⟩⟩
  · refine N.iload0 dX4_isUnder_4 ?_
    refine N.iload1 dX4_isUnder_5 ?_
    refine N.icmp_eq (tgt := 29) dX4_isUnder_6 (by decide) (fun c6 => ?_) (fun c6 => ?_)
    · refine N.iconst (v := 1) dX4_isUnder_29 (by decide) ?_
      refine N.goto (tgt := 34) dX4_isUnder_30 (by decide) ?_
      exact N.zret dX4_isUnder_34 rfl rfl (Nat.zero_le _) (Nat.zero_le _) ⟨_, rfl, ⟨(by first | (simp only [isUnderF, c1, c6, ↓reduceIte]; done) | (simp_all [isUnderF]; done)), rfl, rfl⟩⟩
    · refine N.iload0 dX4_isUnder_9 ?_
      refine N.iconst (v := 3) dX4_isUnder_10 (by decide) ?_
      refine N.icmp_ne (tgt := 19) dX4_isUnder_11 (by decide) (fun c11 => ?_) (fun c11 => ?_)
      · refine N.iload0 dX4_isUnder_19 ?_
        refine N.iconst (v := 5) dX4_isUnder_20 (by decide) ?_
        refine N.icmp_ne (tgt := 33) dX4_isUnder_21 (by decide) (fun c21 => ?_) (fun c21 => ?_)
        · refine N.iconst (v := 0) dX4_isUnder_33 (by decide) ?_
          exact N.zret dX4_isUnder_34 rfl rfl (Nat.zero_le _) (Nat.zero_le _) ⟨_, rfl, ⟨(by first | (simp only [isUnderF, c1, c6, c11, c21, ↓reduceIte]; done) | (simp_all [isUnderF]; done)), rfl, rfl⟩⟩
        · refine N.iload1 dX4_isUnder_24 ?_
          refine N.iconst (v := 4) dX4_isUnder_25 (by decide) ?_
          refine N.icmp_ne (tgt := 33) dX4_isUnder_26 (by decide) (fun c26 => ?_) (fun c26 => ?_)
          · refine N.iconst (v := 0) dX4_isUnder_33 (by decide) ?_
            exact N.zret dX4_isUnder_34 rfl rfl (Nat.zero_le _) (Nat.zero_le _) ⟨_, rfl, ⟨(by first | (simp only [isUnderF, c1, c6, c11, c21, c26, ↓reduceIte]; done) | (simp_all [isUnderF]; done)), rfl, rfl⟩⟩
          · refine N.iconst (v := 1) dX4_isUnder_29 (by decide) ?_
            refine N.goto (tgt := 34) dX4_isUnder_30 (by decide) ?_
            exact N.zret dX4_isUnder_34 rfl rfl (Nat.zero_le _) (Nat.zero_le _) ⟨_, rfl, ⟨(by first | (simp only [isUnderF, c1, c6, c11, c21, c26, ↓reduceIte]; done) | (simp_all [isUnderF]; done)), rfl, rfl⟩⟩
      · refine N.iload1 dX4_isUnder_14 ?_
        refine N.iconst (v := 1) dX4_isUnder_15 (by decide) ?_
        refine N.icmp_eq (tgt := 29) dX4_isUnder_16 (by decide) (fun c16 => ?_) (fun c16 => ?_)
        · refine N.iconst (v := 1) dX4_isUnder_29 (by decide) ?_
          refine N.goto (tgt := 34) dX4_isUnder_30 (by decide) ?_
          exact N.zret dX4_isUnder_34 rfl rfl (Nat.zero_le _) (Nat.zero_le _) ⟨_, rfl, ⟨(by first | (simp only [isUnderF, c1, c6, c11, c16, ↓reduceIte]; done) | (simp_all [isUnderF]; done)), rfl, rfl⟩⟩
        · refine N.iload0 dX4_isUnder_19 ?_
          refine N.iconst (v := 5) dX4_isUnder_20 (by decide) ?_
          refine N.icmp_ne (tgt := 33) dX4_isUnder_21 (by decide) (fun c21 => ?_) (fun c21 => ?_)
          · refine N.iconst (v := 0) dX4_isUnder_33 (by decide) ?_
            exact N.zret dX4_isUnder_34 rfl rfl (Nat.zero_le _) (Nat.zero_le _) ⟨_, rfl, ⟨(by first | (simp only [isUnderF, c1, c6, c11, c16, c21, ↓reduceIte]; done) | (simp_all [isUnderF]; done)), rfl, rfl⟩⟩
          · refine N.iload1 dX4_isUnder_24 ?_
            refine N.iconst (v := 4) dX4_isUnder_25 (by decide) ?_
            refine N.icmp_ne (tgt := 33) dX4_isUnder_26 (by decide) (fun c26 => ?_) (fun c26 => ?_)
            · refine N.iconst (v := 0) dX4_isUnder_33 (by decide) ?_
              exact N.zret dX4_isUnder_34 rfl rfl (Nat.zero_le _) (Nat.zero_le _) ⟨_, rfl, ⟨(by first | (simp only [isUnderF, c1, c6, c11, c16, c21, c26, ↓reduceIte]; done) | (simp_all [isUnderF]; done)), rfl, rfl⟩⟩
            · refine N.iconst (v := 1) dX4_isUnder_29 (by decide) ?_
              refine N.goto (tgt := 34) dX4_isUnder_30 (by decide) ?_
              exact N.zret dX4_isUnder_34 rfl rfl (Nat.zero_le _) (Nat.zero_le _) ⟨_, rfl, ⟨(by first | (simp only [isUnderF, c1, c6, c11, c16, c21, c26, ↓reduceIte]; done) | (simp_all [isUnderF]; done)), rfl, rfl⟩⟩
set_option maxRecDepth 100000 in
theorem s_X4_tiresBy {K : Kx} (x : Int32) (w : Wd) (sz : Nat) : Sp K mX4_tiresBy 0 0 0 [.int x] w sz (Qi fun r w' sz' => r = tiresF x ∧ w' = w ∧ sz' = sz) := by
  refine Sp.ofN [some (.int x)] rfl rfl rfl (Nat.le_of_ble_eq_true rfl) ?_
  refine N.iload0 dX4_tiresBy_0 ?_
  refine N.iconst (v := 1) dX4_tiresBy_1 (by decide) ?_
  refine N.icmp_eq (tgt := 10) dX4_tiresBy_2 (by decide) (fun c2 => ?_) (fun c2 => ?_)
  · refine N.iconst (v := 3) dX4_tiresBy_10 (by decide) ?_
    refine N.goto (tgt := 15) dX4_tiresBy_11 (by decide) ?_
    exact N.iret dX4_tiresBy_15 rfl (Nat.zero_le _) (Nat.zero_le _) ⟨_, rfl, ⟨(by first | (simp only [tiresF, c2, ↓reduceIte]; done) | (simp_all [tiresF]; done)), rfl, rfl⟩⟩
  · refine N.iload0 dX4_tiresBy_5 ?_
    refine N.iconst (v := 3) dX4_tiresBy_6 (by decide) ?_
    refine N.icmp_ne (tgt := 14) dX4_tiresBy_7 (by decide) (fun c7 => ?_) (fun c7 => ?_)
    · refine N.iconst (v := 2) dX4_tiresBy_14 (by decide) ?_
      exact N.iret dX4_tiresBy_15 rfl (Nat.zero_le _) (Nat.zero_le _) ⟨_, rfl, ⟨(by first | (simp only [tiresF, c2, c7, ↓reduceIte]; done) | (simp_all [tiresF]; done)), rfl, rfl⟩⟩
    · refine N.iconst (v := 3) dX4_tiresBy_10 (by decide) ?_
      refine N.goto (tgt := 15) dX4_tiresBy_11 (by decide) ?_
      exact N.iret dX4_tiresBy_15 rfl (Nat.zero_le _) (Nat.zero_le _) ⟨_, rfl, ⟨(by first | (simp only [tiresF, c2, c7, ↓reduceIte]; done) | (simp_all [tiresF]; done)), rfl, rfl⟩⟩
set_option maxRecDepth 100000 in
theorem s_X4_restsBy {K : Kx} (x : Int32) (w : Wd) (sz : Nat) : Sp K mX4_restsBy 0 0 0 [.int x] w sz (Qi fun r w' sz' => r = restsF x ∧ w' = w ∧ sz' = sz) := by
  refine Sp.ofN [some (.int x)] rfl rfl rfl (Nat.le_of_ble_eq_true rfl) ?_
  refine N.iload0 dX4_restsBy_0 ?_
  refine N.iconst (v := 3) dX4_restsBy_1 (by decide) ?_
  refine N.icmp_ne (tgt := 9) dX4_restsBy_2 (by decide) (fun c2 => ?_) (fun c2 => ?_)
  · refine N.iconst (v := 1) dX4_restsBy_9 (by decide) ?_
    exact N.iret dX4_restsBy_10 rfl (Nat.zero_le _) (Nat.zero_le _) ⟨_, rfl, ⟨(by first | (simp only [restsF, c2, ↓reduceIte]; done) | (simp_all [restsF]; done)), rfl, rfl⟩⟩
  · refine N.iconst (v := 2) dX4_restsBy_5 (by decide) ?_
    refine N.goto (tgt := 10) dX4_restsBy_6 (by decide) ?_
    exact N.iret dX4_restsBy_10 rfl (Nat.zero_le _) (Nat.zero_le _) ⟨_, rfl, ⟨(by first | (simp only [restsF, c2, ↓reduceIte]; done) | (simp_all [restsF]; done)), rfl, rfl⟩⟩
set_option maxRecDepth 100000 in
theorem s_X4_isShelf {K : Kx} (x : Int32) (w : Wd) (sz : Nat) : Sp K mX4_isShelf 1 0 0 [.int x] w sz (Qi fun r w' sz' => r = isInF x 0 7 ∧ w' = w ∧ sz' = sz) := by
  refine Sp.ofN [some (.int x)] rfl rfl rfl (Nat.le_of_ble_eq_true rfl) ?_
  refine N.iload0 dX4_isShelf_0 ?_
  refine N.iconst (v := 0) dX4_isShelf_1 (by decide) ?_
  refine N.bipush (v := 7) dX4_isShelf_2 (by decide) ?_
  refine N.si3 dX4_isShelf_4 vX4_isIn lkX4_58 (s_X4_isIn _ _ _ _ _) rfl (Nat.le_of_ble_eq_true rfl) (Nat.le_of_ble_eq_true rfl) (Nat.zero_le _) (Nat.zero_le _) ?_
  rintro _ _ _ ⟨rfl, rfl, rfl⟩
  exact N.zret dX4_isShelf_7 rfl (isIn_nar _ _ _) (Nat.zero_le _) (Nat.zero_le _) ⟨_, rfl, ⟨rfl, rfl, rfl⟩⟩
set_option maxRecDepth 100000 in
theorem s_X4_isLine {K : Kx} (x : Int32) (w : Wd) (sz : Nat) : Sp K mX4_isLine 1 0 0 [.int x] w sz (Qi fun r w' sz' => r = isInF x 0 3 ∧ w' = w ∧ sz' = sz) := by
  refine Sp.ofN [some (.int x)] rfl rfl rfl (Nat.le_of_ble_eq_true rfl) ?_
  refine N.iload0 dX4_isLine_0 ?_
  refine N.iconst (v := 0) dX4_isLine_1 (by decide) ?_
  refine N.iconst (v := 3) dX4_isLine_2 (by decide) ?_
  refine N.si3 dX4_isLine_3 vX4_isIn lkX4_58 (s_X4_isIn _ _ _ _ _) rfl (Nat.le_of_ble_eq_true rfl) (Nat.le_of_ble_eq_true rfl) (Nat.zero_le _) (Nat.zero_le _) ?_
  rintro _ _ _ ⟨rfl, rfl, rfl⟩
  exact N.zret dX4_isLine_6 rfl (isIn_nar _ _ _) (Nat.zero_le _) (Nat.zero_le _) ⟨_, rfl, ⟨rfl, rfl, rfl⟩⟩
set_option maxRecDepth 100000 in
theorem s_X4_spellsIn {K : Kx} (x y : Int32) (w : Wd) (sz : Nat) : Sp K mX4_spellsIn 0 0 0 [.int x, .int y] w sz (Qi fun r w' sz' => r = spellsF x y ∧ w' = w ∧ sz' = sz) := by
  refine Sp.ofN [some (.int x), some (.int y)] rfl rfl rfl (Nat.le_of_ble_eq_true rfl) ?_
  refine N.iload1 dX4_spellsIn_0 ?_
  refine N.swc 0 (fun t1_0 => ?_) (fun t1_0 => ?_)
  · refine N.tsIn (off := 27) (tgt := 28) 0 t1_0 dX4_spellsIn_1 (by decide) (by decide) (by decide) (by decide) ?_
    refine N.iload0 dX4_spellsIn_28 ?_
    refine N.bipush (v := 81) dX4_spellsIn_29 (by decide) ?_
    refine N.idiv dX4_spellsIn_31 (by decide) ?_
    exact N.iret dX4_spellsIn_32 rfl (Nat.zero_le _) (Nat.zero_le _) ⟨_, rfl, ⟨(by first | (simp only [spellsF, t1_0, ↓reduceIte]; done) | (simp_all [spellsF]; done)), rfl, rfl⟩⟩
  refine N.swc 1 (fun t1_1 => ?_) (fun t1_1 => ?_)
  · refine N.tsIn (off := 32) (tgt := 33) 1 t1_1 dX4_spellsIn_1 (by decide) (by decide) (by decide) (by decide) ?_
    refine N.iload0 dX4_spellsIn_33 ?_
    refine N.bipush (v := 9) dX4_spellsIn_34 (by decide) ?_
    refine N.idiv dX4_spellsIn_36 (by decide) ?_
    refine N.bipush (v := 9) dX4_spellsIn_37 (by decide) ?_
    refine N.irem dX4_spellsIn_39 (by decide) ?_
    exact N.iret dX4_spellsIn_40 rfl (Nat.zero_le _) (Nat.zero_le _) ⟨_, rfl, ⟨(by first | (simp only [spellsF, t1_0, t1_1, ↓reduceIte]; done) | (simp_all [spellsF]; done)), rfl, rfl⟩⟩
  refine N.swc 2 (fun t1_2 => ?_) (fun t1_2 => ?_)
  · refine N.tsIn (off := 40) (tgt := 41) 2 t1_2 dX4_spellsIn_1 (by decide) (by decide) (by decide) (by decide) ?_
    refine N.iload0 dX4_spellsIn_41 ?_
    refine N.bipush (v := 9) dX4_spellsIn_42 (by decide) ?_
    refine N.irem dX4_spellsIn_44 (by decide) ?_
    exact N.iret dX4_spellsIn_45 rfl (Nat.zero_le _) (Nat.zero_le _) ⟨_, rfl, ⟨(by first | (simp only [spellsF, t1_0, t1_1, t1_2, ↓reduceIte]; done) | (simp_all [spellsF]; done)), rfl, rfl⟩⟩
  refine N.tsOut (tgt := 46) dX4_spellsIn_1 (by have h0 := sw_ne t1_0 (z := 0) (by decide); have h1 := sw_ne t1_1 (z := 1) (by decide); have h2 := sw_ne t1_2 (z := 2) (by decide); omega) (by decide) ?_
  refine N.bipush (v := 8) dX4_spellsIn_46 (by decide) ?_
  refine N.iload0 dX4_spellsIn_48 ?_
  refine N.bipush (v := 81) dX4_spellsIn_49 (by decide) ?_
  refine N.idiv dX4_spellsIn_51 (by decide) ?_
  refine N.isub dX4_spellsIn_52 ?_
  refine N.iload0 dX4_spellsIn_53 ?_
  refine N.bipush (v := 9) dX4_spellsIn_54 (by decide) ?_
  refine N.idiv dX4_spellsIn_56 (by decide) ?_
  refine N.bipush (v := 9) dX4_spellsIn_57 (by decide) ?_
  refine N.irem dX4_spellsIn_59 (by decide) ?_
  refine N.isub dX4_spellsIn_60 ?_
  refine N.iload0 dX4_spellsIn_61 ?_
  refine N.bipush (v := 9) dX4_spellsIn_62 (by decide) ?_
  refine N.irem dX4_spellsIn_64 (by decide) ?_
  refine N.isub dX4_spellsIn_65 ?_
  exact N.iret dX4_spellsIn_66 rfl (Nat.zero_le _) (Nat.zero_le _) ⟨_, rfl, ⟨(by first | (simp only [spellsF, t1_0, t1_1, t1_2, ↓reduceIte]; done) | (simp_all [spellsF]; done)), rfl, rfl⟩⟩
