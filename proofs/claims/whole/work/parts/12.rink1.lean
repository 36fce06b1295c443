/-! Rink: what its methods answer and do, as plain functions, and their contracts -/
def okP (v : CV) : Prop := ∃ P : Nat, P ≤ 10 ∧ v.1 0 = nI P
def np (v : CV) : Nat := (v.1 0).toNatClampNeg
theorem np_of {v : CV} {P : Nat} (h : v.1 0 = nI P) (h2 : P ≤ 10) : np v = P := by unfold np; rw [h, nI_clamp (by omega)]
theorem nI_inc (k : Nat) : nI k + Int32.ofInt 1 = nI (k + 1) := nI_1 k
theorem pl_ge {x : Int32} {P k : Nat} (hx : x = nI P) (h : P ≤ k) (hk : k < 2 ^ 31) : x ≤ nI k := by rw [hx]; exact nI_le h hk
theorem pl_nge {x : Int32} {P k : Nat} (hx : x = nI P) (h : k < P) (hP : P ≤ 10) : ¬ x ≤ nI k := by rw [hx]; exact nI_ge h (by omega)
theorem in10 {k : Nat} (h : k < 10) : vp_in (nI k) 10 := vp_in_nI h (by omega)
theorem in4 {k : Nat} (h : k < 4) : vp_in (nI k) 4 := vp_in_nI h (by omega)
theorem isIn_ne {v a b : Int32} (h : ¬ isInF v a b = 0) : ¬ v < a ∧ ¬ b < v := by
  unfold isInF at h
  by_cases h1 : v < a
  · rw [if_pos h1] at h; exact absurd rfl h
  · rw [if_neg h1] at h
    by_cases h2 : b < v
    · rw [if_pos h2] at h; exact absurd rfl h
    · exact ⟨h1, h2⟩
theorem isIn_vp {v b : Int32} {n : Nat} (hb : b.toInt < n) (h : ¬ isInF v 0 b = 0) : vp_in v n := by
  obtain ⟨h1, h2⟩ := isIn_ne h
  rw [vp_in_iff]
  have e1 := Int32.not_lt.mp h1
  have e2 := Int32.not_lt.mp h2
  rw [Int32.le_iff_toInt_le] at e1 e2
  have : (0 : Int32).toInt = 0 := rfl
  omega
def hasRoomF (v : CV) : Int32 := if 10 ≤ v.1 0 then 0 else 1
def isPlF (v : CV) (p : Int32) : Int32 := isInF p 0 (v.1 0 - 1)
def everyF (v : CV) : Int32 := ((1 : Int32) <<< (v.1 0 &&& 31)) - 1
def addV (v : CV) (k s e : Int32) : CV := (upd v.1 0 (v.1 0 + 1), upA (upA (upA (upA v.2 0 (upd (v.2 0) (v.1 0).toNatClampNeg k)) 1 (upd (v.2 1) (v.1 0).toNatClampNeg s)) 2 (upd (v.2 2) (v.1 0).toNatClampNeg e)) 3 (upd (v.2 3) (v.1 0).toNatClampNeg 0))
def hasPlF (v : CV) (l : Int32) : Int32 := if isInF l 0 3 = 0 then 0 else if v.2 4 l.toNatClampNeg = 0 then 0 else 1
def firstLF (v : CV) : Int32 := if v.2 4 0 = 0 then (if v.2 4 1 = 0 then (if v.2 4 2 = 0 then (if v.2 4 3 = 0 then -1 else 3) else 2) else 1) else 0
def nx4 (l s : Int32) : Int32 := (l + s) - (l + s) / 4 * 4
def nextLF (v : CV) (l : Int32) : Int32 := if hasPlF v (nx4 l 1) = 0 then (if hasPlF v (nx4 l 2) = 0 then (if hasPlF v (nx4 l 3) = 0 then (if hasPlF v (nx4 l 4) = 0 then l else nx4 l 4) else nx4 l 3) else nx4 l 2) else nx4 l 1
def sumTo (f : Nat → Int32) : Nat → Int32
  | 0 => 0
  | n + 1 => sumTo f n + f n
def tiredF (v : CV) (set : Int32) : Int32 := sumTo (fun j => bitF set (nI j) * v.2 3 (nI j).toNatClampNeg) (np v)
def skillF (v : CV) (set : Int32) : Int32 := sumTo (fun j => bitF set (nI j) * v.2 1 (nI j).toNatClampNeg) (np v)
def legsF (v : CV) (p : Int32) : Int32 := v.2 1 p.toNatClampNeg * (100 - v.2 3 p.toNatClampNeg) / 100
def othersF (v : CV) (p : Int32) : Int32 := bcF (v.1 1) - bitF (v.1 1) p
def powF (v : CV) (p : Int32) : Int32 := if v.2 0 p.toNatClampNeg = 2 ∧ ¬ 10 ≤ v.2 3 p.toNatClampNeg then legsF v p + v.2 2 p.toNatClampNeg else if v.2 0 p.toNatClampNeg = 5 then legsF v p + 2 * othersF v p else legsF v p
def saidF (v : CV) (k p : Int32) : Int32 := if k = 1 then tiresF (v.2 0 p.toNatClampNeg) else if k = 2 then powF v p else if k = 3 then tiresF (v.2 0 p.toNatClampNeg) else if k = 4 then bitF (v.1 1) p else if k = 5 then othersF v p else legsF v p
/-- there, on the way -/
def pwTo (v : CV) : Nat → Int32 × Int32
  | 0 => (0, 0)
  | k + 1 => if bitF (v.1 2) (nI k) = 1 then ((pwTo v k).1, (pwTo v k).2 + powF v (nI k)) else if bitF (v.1 1) (nI k) = 1 then ((pwTo v k).1 + powF v (nI k), (pwTo v k).2) else pwTo v k
def powAll (v : CV) : Int32 := (pwTo v (np v)).1 + (pwTo v (np v)).2 / 2 + (if v.1 7 = 0 then 30 else 0)
def oddsOF (v : CV) (p : Int32) : Int32 := 2 * p * (v.1 4 + 1) / 3
def oddsAF (v : CV) : Int32 := if v.1 7 = 0 then 5 * (2 * v.1 6 * (3 - v.1 4) / 3) else 2 * v.1 6 * (3 - v.1 4) / 3
/-- best, least -/
def frTo (v : CV) : Nat → Int32 × Int32
  | 0 => (-1, 0)
  | k + 1 => if v.2 4 (nI k).toNatClampNeg = 0 then frTo v k else if (frTo v k).1 = -1 then (nI k, tiredF v (v.2 4 (nI k).toNatClampNeg)) else if (frTo v k).2 ≤ tiredF v (v.2 4 (nI k).toNatClampNeg) then frTo v k else (nI k, tiredF v (v.2 4 (nI k).toNatClampNeg))
def freshF (v : CV) : Int32 := (frTo v 4).1
def notI (x : Int32) : Int32 := x ^^^ (-1)
def wyTo (v : CV) (l : Nat) : Nat → Int32
  | 0 => 3 + 2 * v.1 5 - (if v.1 4 = 2 then 2 else 0)
  | k + 1 => if bitF (v.1 1 &&& notI (v.2 4 l)) (nI k) = 1 ∧ ¬ isUnderF (v.2 0 (nI k).toNatClampNeg) 4 = 0 then wyTo v l k + (-1) else wyTo v l k
def wayF (v : CV) (l : Int32) : Int32 := if v.2 4 l.toNatClampNeg &&& notI (v.1 1) = 0 then 0 else maxF 1 (wyTo v l.toNatClampNeg (np v))
def chgV (v : CV) (l : Int32) : CV := (upd (upd (upd v.1 2 (v.2 4 l.toNatClampNeg &&& notI (v.1 1))) 3 (wayF v l)) 1 (v.2 4 l.toNatClampNeg), v.2)
def putOnV (v : CV) (s : Int32) : CV := (upd (upd (upd v.1 1 s) 2 0) 3 0, v.2)
def offB (x p : Int32) : Int32 := x &&& notI ((1 : Int32) <<< (p &&& 31))
def takeOffV (v : CV) (p : Int32) : CV := if offB (v.1 2) p = 0 then (upd (upd (upd v.1 1 (offB (v.1 1) p)) 2 (offB (v.1 2) p)) 3 0, v.2) else (upd (upd v.1 1 (offB (v.1 1) p)) 2 (offB (v.1 2) p), v.2)
def tireTo (n : Int32) (v : CV) : Nat → CV
  | 0 => v
  | k + 1 => if bitF ((tireTo n v k).1 1) (nI k) = 1 then ((tireTo n v k).1, upA (tireTo n v k).2 3 (upd ((tireTo n v k).2 3) (nI k).toNatClampNeg (minF 100 ((tireTo n v k).2 3 (nI k).toNatClampNeg + n * tiresF ((tireTo n v k).2 0 (nI k).toNatClampNeg))))) else tireTo n v k
def tireV (n : Int32) (v : CV) : CV := tireTo n v (np v)
def restTo (n : Int32) (v : CV) : Nat → CV
  | 0 => v
  | k + 1 => if bitF ((restTo n v k).1 1) (nI k) = 0 then ((restTo n v k).1, upA (restTo n v k).2 3 (upd ((restTo n v k).2 3) (nI k).toNatClampNeg (maxF 0 ((restTo n v k).2 3 (nI k).toNatClampNeg - n * restsF ((restTo n v k).2 0 (nI k).toNatClampNeg))))) else restTo n v k
def restV (n : Int32) (v : CV) : CV := restTo n v (np v)
def comeV (n : Int32) (v : CV) : CV := if maxF 0 (v.1 3 - n) = 0 then (upd (upd v.1 3 (maxF 0 (v.1 3 - n))) 2 0, v.2) else (upd v.1 3 (maxF 0 (v.1 3 - n)), v.2)
def passV (n : Int32) (v : CV) : CV := comeV n (restV n (tireV n v))
def oursTo (v : CV) : Nat → CV × Int32
  | 0 => (v, 0)
  | k + 1 => (comeV 1 (tireV 1 (oursTo v k).1), (oursTo v k).2 + oddsOF (tireV 1 (oursTo v k).1) (powAll (tireV 1 (oursTo v k).1)))
def scoreV (v : CV) (dr a b : Int32) : CV := if dr < b then (if a ≤ dr then (upd (upd v.1 11 (v.1 11 + 1)) 4 1, v.2) else (upd (upd v.1 10 (v.1 10 + 1)) 4 1, v.2)) else v
def seedF (v : CV) : Int32 := v.1 12 * 1103515245 + 12345
def drawV (v : CV) : CV := (upd v.1 12 (seedF v), v.2)
def drawF (v : CV) (n : Int32) : Int32 := ushr (seedF v) 16 - ushr (seedF v) 16 / n * n
def secV (v : CV) : CV := if v.1 2 = 0 then (upd v.1 8 (v.1 8 + 1), v.2) else (upd (upd v.1 8 (v.1 8 + 1)) 9 (v.1 9 + 1), v.2)
/-- one second in truth -/
def playV1 (v : CV) : CV := let u := restV 1 (tireV 1 v); let a := oddsOF u (powAll u); let c := comeV 1 (secV u); scoreV (drawV c) (drawF c 50000) a (a + oddsAF u)
def playTo (v : CV) : Nat → CV
  | 0 => v
  | k + 1 => playV1 (playTo v k)
set_option maxRecDepth 100000 in
theorem s_X1_hasRoom {K : Kx} (w : Wd) (b sz : Nat) (v : CV)  : Sp K mX1_hasRoom 0 0 0 [.ref b] (putR K w b v) sz (Qi fun r w' sz' => r = (hasRoomF v) ∧ w' = putR K w b v ∧ sz' = sz) := by
  refine Sp.ofN [some (.ref b)] rfl rfl rfl (Nat.le_of_ble_eq_true rfl) ?_
  refine N.aload0 dX1_hasRoom_0 ?_
  refine N.getf dX1_hasRoom_1 flX1_27 rO rfl ?_
  refine N.bipush (v := 10) dX1_hasRoom_4 (by decide) ?_
  refine N.icmp_ge (tgt := 13) dX1_hasRoom_6 (by decide) (fun c6 => ?_) (fun c6 => ?_)
  · refine N.iconst (v := 0) dX1_hasRoom_13 (by decide) ?_
    exact N.zret dX1_hasRoom_14 rfl rfl (Nat.zero_le _) (Nat.zero_le _) ⟨_, rfl, ⟨(by first | (simp only [hasRoomF, c6, ↓reduceIte]; done) | (simp_all [hasRoomF]; done)), rfl, rfl⟩⟩
  · refine N.iconst (v := 1) dX1_hasRoom_9 (by decide) ?_
    refine N.goto (tgt := 14) dX1_hasRoom_10 (by decide) ?_
    exact N.zret dX1_hasRoom_14 rfl rfl (Nat.zero_le _) (Nat.zero_le _) ⟨_, rfl, ⟨(by first | (simp only [hasRoomF, c6, ↓reduceIte]; done) | (simp_all [hasRoomF]; done)), rfl, rfl⟩⟩
set_option maxRecDepth 100000 in
theorem s_X1_isPlayer {K : Kx} (w : Wd) (b sz : Nat) (v : CV) (p : Int32)  : Sp K mX1_isPlayer 1 0 0 [.ref b, .int p] (putR K w b v) sz (Qi fun r w' sz' => r = (isPlF v p) ∧ w' = putR K w b v ∧ sz' = sz) := by
  refine Sp.ofN [some (.ref b), some (.int p)] rfl rfl rfl (Nat.le_of_ble_eq_true rfl) ?_
  refine N.iload1 dX1_isPlayer_0 ?_
  refine N.iconst (v := 0) dX1_isPlayer_1 (by decide) ?_
  refine N.aload0 dX1_isPlayer_2 ?_
  refine N.getf dX1_isPlayer_3 flX1_27 rO rfl ?_
  refine N.iconst (v := 1) dX1_isPlayer_6 (by decide) ?_
  refine N.isub dX1_isPlayer_7 ?_
  refine N.si3 dX1_isPlayer_8 vX4_isIn lkX1_73 (s_X4_isIn _ _ _ _ _) rfl (Nat.le_of_ble_eq_true rfl) (Nat.le_of_ble_eq_true rfl) (Nat.zero_le _) (Nat.zero_le _) ?_
  rintro _ _ _ ⟨rfl, rfl, rfl⟩
  exact N.zret dX1_isPlayer_11 rfl (isIn_nar _ _ _) (Nat.zero_le _) (Nat.zero_le _) ⟨_, rfl, ⟨rfl, rfl, rfl⟩⟩
set_option maxRecDepth 100000 in
theorem s_X1_everybody {K : Kx} (w : Wd) (b sz : Nat) (v : CV)  : Sp K mX1_everybody 0 0 0 [.ref b] (putR K w b v) sz (Qi fun r w' sz' => r = (everyF v) ∧ w' = putR K w b v ∧ sz' = sz) := by
  refine Sp.ofN [some (.ref b)] rfl rfl rfl (Nat.le_of_ble_eq_true rfl) ?_
  refine N.iconst (v := 1) dX1_everybody_0 (by decide) ?_
  refine N.aload0 dX1_everybody_1 ?_
  refine N.getf dX1_everybody_2 flX1_27 rO rfl ?_
  refine N.ishl dX1_everybody_5 ?_
  refine N.iconst (v := 1) dX1_everybody_6 (by decide) ?_
  refine N.isub dX1_everybody_7 ?_
  exact N.iret dX1_everybody_8 rfl (Nat.zero_le _) (Nat.zero_le _) ⟨_, rfl, ⟨rfl, rfl, rfl⟩⟩
theorem room_in {v : CV} (h : okP v) (c : ¬ hasRoomF v = 0) : vp_in (v.1 0) 10 := by
  obtain ⟨P, hP, e⟩ := h
  have h10 : ¬ 10 ≤ v.1 0 := fun q => c (if_pos q)
  rw [e] at h10 ⊢
  have : P < 10 := Nat.not_le.mp fun q => h10 (nI_le (a := 10) q (by omega))
  exact in10 this
set_option maxRecDepth 100000 in
theorem s_X1_addPlayer {K : Kx} (w : Wd) (b sz : Nat) (v : CV) (k s e : Int32) (h : okP v) : Sp K mX1_addPlayer 1 0 0 [.ref b, .int k, .int s, .int e] (putR K w b v) sz (Qi fun r w' sz' => r = (if hasRoomF v = 0 then -1 else v.1 0) ∧ w' = putR K w b (if hasRoomF v = 0 then v else addV v k s e) ∧ sz' = sz) := by
  refine Sp.ofN [some (.ref b), some (.int k), some (.int s), some (.int e), none] rfl rfl rfl (Nat.le_of_ble_eq_true rfl) ?_
  refine N.aload0 dX1_addPlayer_0 ?_
  refine N.vi0 dX1_addPlayer_1 vX1_hasRoom lkX1_77 (s_X1_hasRoom _ _ _ _) rO rfl (Nat.le_of_ble_eq_true rfl) (Nat.le_of_ble_eq_true rfl) (Nat.zero_le _) (Nat.zero_le _) ?_
  rintro _ _ _ ⟨rfl, rfl, rfl⟩
  refine N.if_ne (tgt := 9) dX1_addPlayer_4 (by decide) (fun c4 => ?_) (fun c4 => ?_)
  · refine N.aload0 dX1_addPlayer_9 ?_
    refine N.dup dX1_addPlayer_10 rfl ?_
    refine N.getf dX1_addPlayer_11 flX1_27 rO rfl ?_
    refine N.dup_x1 dX1_addPlayer_14 rfl rfl ?_
    refine N.iconst (v := 1) dX1_addPlayer_15 (by decide) ?_
    refine N.iadd dX1_addPlayer_16 ?_
    refine N.putf dX1_addPlayer_17 flX1_27 rO (Nat.le_of_ble_eq_true rfl) (fun _ h => by cases h; rfl) rfl rfl rP0 ?_
    refine N.istore4 dX1_addPlayer_20 rfl ?_
    refine N.aload0 dX1_addPlayer_22 ?_
    refine N.getf dX1_addPlayer_23 flX1_9 rO rfl ?_
    refine N.iload4 dX1_addPlayer_26 ?_
    refine N.iload1 dX1_addPlayer_28 ?_
    refine N.iast dX1_addPlayer_29 rA0 (room_in h c4) rS0 ?_
    refine N.aload0 dX1_addPlayer_30 ?_
    refine N.getf dX1_addPlayer_31 flX1_15 rO rfl ?_
    refine N.iload4 dX1_addPlayer_34 ?_
    refine N.iload2 dX1_addPlayer_36 ?_
    refine N.iast dX1_addPlayer_37 rA1 (room_in h c4) rS1 ?_
    refine N.aload0 dX1_addPlayer_38 ?_
    refine N.getf dX1_addPlayer_39 flX1_18 rO rfl ?_
    refine N.iload4 dX1_addPlayer_42 ?_
    refine N.iload3 dX1_addPlayer_44 ?_
    refine N.iast dX1_addPlayer_45 rA2 (room_in h c4) rS2 ?_
    refine N.aload0 dX1_addPlayer_46 ?_
    refine N.getf dX1_addPlayer_47 flX1_21 rO rfl ?_
    refine N.iload4 dX1_addPlayer_50 ?_
    refine N.iconst (v := 0) dX1_addPlayer_52 (by decide) ?_
    refine N.iast dX1_addPlayer_53 rA3 (room_in h c4) rS3 ?_
    refine N.iload4 dX1_addPlayer_54 ?_
    exact N.iret dX1_addPlayer_56 rfl (Nat.zero_le _) (Nat.zero_le _) ⟨_, rfl, ⟨by rw [if_neg c4], by rw [if_neg c4]; rfl, rfl⟩⟩
  · refine N.iconst (v := -1) dX1_addPlayer_7 (by decide) ?_
    exact N.iret dX1_addPlayer_8 rfl (Nat.zero_le _) (Nat.zero_le _) ⟨_, rfl, ⟨by rw [if_pos c4], by rw [if_pos c4], rfl⟩⟩
set_option maxRecDepth 100000 in
theorem s_X1_hasPlayers {K : Kx} (w : Wd) (b sz : Nat) (v : CV) (l : Int32)  : Sp K mX1_hasPlayers 2 0 0 [.ref b, .int l] (putR K w b v) sz (Qi fun r w' sz' => r = (hasPlF v l) ∧ w' = putR K w b v ∧ sz' = sz) := by
  refine Sp.ofN [some (.ref b), some (.int l)] rfl rfl rfl (Nat.le_of_ble_eq_true rfl) ?_
  refine N.iload1 dX1_hasPlayers_0 ?_
  refine N.si1 dX1_hasPlayers_1 vX4_isLine lkX1_81 (s_X4_isLine _ _ _) rfl (Nat.le_of_ble_eq_true rfl) (Nat.le_of_ble_eq_true rfl) (Nat.zero_le _) (Nat.zero_le _) ?_
  rintro _ _ _ ⟨rfl, rfl, rfl⟩
  refine N.if_eq (tgt := 20) dX1_hasPlayers_4 (by decide) (fun c4 => ?_) (fun c4 => ?_)
  · refine N.iconst (v := 0) dX1_hasPlayers_20 (by decide) ?_
    exact N.zret dX1_hasPlayers_21 rfl rfl (Nat.zero_le _) (Nat.zero_le _) ⟨_, rfl, ⟨(by first | (simp only [hasPlF, c4, ↓reduceIte]; done) | (simp_all [hasPlF]; done)), rfl, rfl⟩⟩
  · refine N.aload0 dX1_hasPlayers_7 ?_
    refine N.getf dX1_hasPlayers_8 flX1_24 rO rfl ?_
    refine N.iload1 dX1_hasPlayers_11 ?_
    refine N.iald dX1_hasPlayers_12 rA4 (isIn_vp (by decide) c4) ?_
    refine N.if_eq (tgt := 20) dX1_hasPlayers_13 (by decide) (fun c13 => ?_) (fun c13 => ?_)
    · refine N.iconst (v := 0) dX1_hasPlayers_20 (by decide) ?_
      exact N.zret dX1_hasPlayers_21 rfl rfl (Nat.zero_le _) (Nat.zero_le _) ⟨_, rfl, ⟨(by first | (simp only [hasPlF, c4, c13, ↓reduceIte]; done) | (simp_all [hasPlF]; done)), rfl, rfl⟩⟩
    · refine N.iconst (v := 1) dX1_hasPlayers_16 (by decide) ?_
      refine N.goto (tgt := 21) dX1_hasPlayers_17 (by decide) ?_
      exact N.zret dX1_hasPlayers_21 rfl rfl (Nat.zero_le _) (Nat.zero_le _) ⟨_, rfl, ⟨(by first | (simp only [hasPlF, c4, c13, ↓reduceIte]; done) | (simp_all [hasPlF]; done)), rfl, rfl⟩⟩
set_option maxRecDepth 100000 in
theorem s_X1_firstLine {K : Kx} (w : Wd) (b sz : Nat) (v : CV)  : Sp K mX1_firstLine 0 0 0 [.ref b] (putR K w b v) sz (Qi fun r w' sz' => r = (firstLF v) ∧ w' = putR K w b v ∧ sz' = sz) := by
  refine Sp.ofN [some (.ref b), none] rfl rfl rfl (Nat.le_of_ble_eq_true rfl) ?_
  refine N.iconst (v := 0) dX1_firstLine_0 (by decide) ?_
  refine N.istore1 dX1_firstLine_1 rfl ?_
  refine N.iload1 dX1_firstLine_2 ?_
  refine N.iconst (v := 4) dX1_firstLine_3 (by decide) ?_
  refine N.icmp_ge (tgt := 24) dX1_firstLine_4 (by decide) (fun c4 => absurd c4 (by decide)) (fun c4 => ?_)
  refine N.aload0 dX1_firstLine_7 ?_
  refine N.getf dX1_firstLine_8 flX1_24 rO rfl ?_
  refine N.iload1 dX1_firstLine_11 ?_
  refine N.iald dX1_firstLine_12 rA4 (vp_in_nI (n := 0) (by decide) (by decide)) ?_
  refine N.if_eq (tgt := 18) dX1_firstLine_13 (by decide) (fun c13 => ?_) (fun c13 => ?_)
  · refine N.iinc1 (v := 1) dX1_firstLine_18 rfl (by decide) ?_
    refine N.goto (tgt := 2) dX1_firstLine_21 (by decide) ?_
    refine N.iload1 dX1_firstLine_2 ?_
    refine N.iconst (v := 4) dX1_firstLine_3 (by decide) ?_
    refine N.icmp_ge (tgt := 24) dX1_firstLine_4 (by decide) (fun c4 => absurd c4 (by decide)) (fun c4 => ?_)
    refine N.aload0 dX1_firstLine_7 ?_
    refine N.getf dX1_firstLine_8 flX1_24 rO rfl ?_
    refine N.iload1 dX1_firstLine_11 ?_
    refine N.iald dX1_firstLine_12 rA4 (vp_in_nI (n := 1) (by decide) (by decide)) ?_
    refine N.if_eq (tgt := 18) dX1_firstLine_13 (by decide) (fun c13 => ?_) (fun c13 => ?_)
    · refine N.iinc1 (v := 2) dX1_firstLine_18 rfl (by decide) ?_
      refine N.goto (tgt := 2) dX1_firstLine_21 (by decide) ?_
      refine N.iload1 dX1_firstLine_2 ?_
      refine N.iconst (v := 4) dX1_firstLine_3 (by decide) ?_
      refine N.icmp_ge (tgt := 24) dX1_firstLine_4 (by decide) (fun c4 => absurd c4 (by decide)) (fun c4 => ?_)
      refine N.aload0 dX1_firstLine_7 ?_
      refine N.getf dX1_firstLine_8 flX1_24 rO rfl ?_
      refine N.iload1 dX1_firstLine_11 ?_
      refine N.iald dX1_firstLine_12 rA4 (vp_in_nI (n := 2) (by decide) (by decide)) ?_
      refine N.if_eq (tgt := 18) dX1_firstLine_13 (by decide) (fun c13 => ?_) (fun c13 => ?_)
      · refine N.iinc1 (v := 3) dX1_firstLine_18 rfl (by decide) ?_
        refine N.goto (tgt := 2) dX1_firstLine_21 (by decide) ?_
        refine N.iload1 dX1_firstLine_2 ?_
        refine N.iconst (v := 4) dX1_firstLine_3 (by decide) ?_
        refine N.icmp_ge (tgt := 24) dX1_firstLine_4 (by decide) (fun c4 => absurd c4 (by decide)) (fun c4 => ?_)
        refine N.aload0 dX1_firstLine_7 ?_
        refine N.getf dX1_firstLine_8 flX1_24 rO rfl ?_
        refine N.iload1 dX1_firstLine_11 ?_
        refine N.iald dX1_firstLine_12 rA4 (vp_in_nI (n := 3) (by decide) (by decide)) ?_
        refine N.if_eq (tgt := 18) dX1_firstLine_13 (by decide) (fun c13 => ?_) (fun c13 => ?_)
        · refine N.iinc1 (v := 4) dX1_firstLine_18 rfl (by decide) ?_
          refine N.goto (tgt := 2) dX1_firstLine_21 (by decide) ?_
          refine N.iload1 dX1_firstLine_2 ?_
          refine N.iconst (v := 4) dX1_firstLine_3 (by decide) ?_
          refine N.icmp_ge (tgt := 24) dX1_firstLine_4 (by decide) (fun c4 => ?_) (fun c4 => absurd (by decide) c4)
          refine N.iconst (v := -1) dX1_firstLine_24 (by decide) ?_
          exact N.iret dX1_firstLine_25 rfl (Nat.zero_le _) (Nat.zero_le _) ⟨_, rfl, ⟨(by first | (simp only [firstLF, c13, c13, c13, c13, ↓reduceIte]; done) | (simp_all [firstLF]; done)), rfl, rfl⟩⟩
        · refine N.iload1 dX1_firstLine_16 ?_
          exact N.iret dX1_firstLine_17 rfl (Nat.zero_le _) (Nat.zero_le _) ⟨_, rfl, ⟨(by first | (simp only [firstLF, c13, c13, c13, c13, ↓reduceIte]; done) | (simp_all [firstLF]; done)), rfl, rfl⟩⟩
      · refine N.iload1 dX1_firstLine_16 ?_
        exact N.iret dX1_firstLine_17 rfl (Nat.zero_le _) (Nat.zero_le _) ⟨_, rfl, ⟨(by first | (simp only [firstLF, c13, c13, c13, ↓reduceIte]; done) | (simp_all [firstLF]; done)), rfl, rfl⟩⟩
    · refine N.iload1 dX1_firstLine_16 ?_
      exact N.iret dX1_firstLine_17 rfl (Nat.zero_le _) (Nat.zero_le _) ⟨_, rfl, ⟨(by first | (simp only [firstLF, c13, c13, ↓reduceIte]; done) | (simp_all [firstLF]; done)), rfl, rfl⟩⟩
  · refine N.iload1 dX1_firstLine_16 ?_
    exact N.iret dX1_firstLine_17 rfl (Nat.zero_le _) (Nat.zero_le _) ⟨_, rfl, ⟨(by first | (simp only [firstLF, c13, ↓reduceIte]; done) | (simp_all [firstLF]; done)), rfl, rfl⟩⟩
set_option maxRecDepth 100000 in
theorem s_X1_nextLine {K : Kx} (w : Wd) (b sz : Nat) (v : CV) (l : Int32)  : Sp K mX1_nextLine 3 0 0 [.ref b, .int l] (putR K w b v) sz (Qi fun r w' sz' => r = (nextLF v l) ∧ w' = putR K w b v ∧ sz' = sz) := by
  refine Sp.ofN [some (.ref b), some (.int l), none, none] rfl rfl rfl (Nat.le_of_ble_eq_true rfl) ?_
  refine N.iconst (v := 1) dX1_nextLine_0 (by decide) ?_
  refine N.istore2 dX1_nextLine_1 rfl ?_
  refine N.iload2 dX1_nextLine_2 ?_
  refine N.iconst (v := 4) dX1_nextLine_3 (by decide) ?_
  refine N.icmp_gt (tgt := 29) dX1_nextLine_4 (by decide) (fun c4 => absurd c4 (by decide)) (fun c4 => ?_)
  refine N.iload1 dX1_nextLine_7 ?_
  refine N.iload2 dX1_nextLine_8 ?_
  refine N.iadd dX1_nextLine_9 ?_
  refine N.iconst (v := 4) dX1_nextLine_10 (by decide) ?_
  refine N.irem dX1_nextLine_11 (by decide) ?_
  refine N.istore3 dX1_nextLine_12 rfl ?_
  refine N.aload0 dX1_nextLine_13 ?_
  refine N.iload3 dX1_nextLine_14 ?_
  refine N.vi1 dX1_nextLine_15 vX1_hasPlayers lkX1_85 (s_X1_hasPlayers _ _ _ _ _) rO rfl (Nat.le_of_ble_eq_true rfl) (Nat.le_of_ble_eq_true rfl) (Nat.zero_le _) (Nat.zero_le _) ?_
  rintro _ _ _ ⟨rfl, rfl, rfl⟩
  refine N.if_eq (tgt := 23) dX1_nextLine_18 (by decide) (fun c18 => ?_) (fun c18 => ?_)
  · refine N.iinc2 (v := 2) dX1_nextLine_23 rfl (by decide) ?_
    refine N.goto (tgt := 2) dX1_nextLine_26 (by decide) ?_
    refine N.iload2 dX1_nextLine_2 ?_
    refine N.iconst (v := 4) dX1_nextLine_3 (by decide) ?_
    refine N.icmp_gt (tgt := 29) dX1_nextLine_4 (by decide) (fun c4 => absurd c4 (by decide)) (fun c4 => ?_)
    refine N.iload1 dX1_nextLine_7 ?_
    refine N.iload2 dX1_nextLine_8 ?_
    refine N.iadd dX1_nextLine_9 ?_
    refine N.iconst (v := 4) dX1_nextLine_10 (by decide) ?_
    refine N.irem dX1_nextLine_11 (by decide) ?_
    refine N.istore3 dX1_nextLine_12 rfl ?_
    refine N.aload0 dX1_nextLine_13 ?_
    refine N.iload3 dX1_nextLine_14 ?_
    refine N.vi1 dX1_nextLine_15 vX1_hasPlayers lkX1_85 (s_X1_hasPlayers _ _ _ _ _) rO rfl (Nat.le_of_ble_eq_true rfl) (Nat.le_of_ble_eq_true rfl) (Nat.zero_le _) (Nat.zero_le _) ?_
    rintro _ _ _ ⟨rfl, rfl, rfl⟩
    refine N.if_eq (tgt := 23) dX1_nextLine_18 (by decide) (fun c18 => ?_) (fun c18 => ?_)
    · refine N.iinc2 (v := 3) dX1_nextLine_23 rfl (by decide) ?_
      refine N.goto (tgt := 2) dX1_nextLine_26 (by decide) ?_
      refine N.iload2 dX1_nextLine_2 ?_
      refine N.iconst (v := 4) dX1_nextLine_3 (by decide) ?_
      refine N.icmp_gt (tgt := 29) dX1_nextLine_4 (by decide) (fun c4 => absurd c4 (by decide)) (fun c4 => ?_)
      refine N.iload1 dX1_nextLine_7 ?_
      refine N.iload2 dX1_nextLine_8 ?_
      refine N.iadd dX1_nextLine_9 ?_
      refine N.iconst (v := 4) dX1_nextLine_10 (by decide) ?_
      refine N.irem dX1_nextLine_11 (by decide) ?_
      refine N.istore3 dX1_nextLine_12 rfl ?_
      refine N.aload0 dX1_nextLine_13 ?_
      refine N.iload3 dX1_nextLine_14 ?_
      refine N.vi1 dX1_nextLine_15 vX1_hasPlayers lkX1_85 (s_X1_hasPlayers _ _ _ _ _) rO rfl (Nat.le_of_ble_eq_true rfl) (Nat.le_of_ble_eq_true rfl) (Nat.zero_le _) (Nat.zero_le _) ?_
      rintro _ _ _ ⟨rfl, rfl, rfl⟩
      refine N.if_eq (tgt := 23) dX1_nextLine_18 (by decide) (fun c18 => ?_) (fun c18 => ?_)
      · refine N.iinc2 (v := 4) dX1_nextLine_23 rfl (by decide) ?_
        refine N.goto (tgt := 2) dX1_nextLine_26 (by decide) ?_
        refine N.iload2 dX1_nextLine_2 ?_
        refine N.iconst (v := 4) dX1_nextLine_3 (by decide) ?_
        refine N.icmp_gt (tgt := 29) dX1_nextLine_4 (by decide) (fun c4 => absurd c4 (by decide)) (fun c4 => ?_)
        refine N.iload1 dX1_nextLine_7 ?_
        refine N.iload2 dX1_nextLine_8 ?_
        refine N.iadd dX1_nextLine_9 ?_
        refine N.iconst (v := 4) dX1_nextLine_10 (by decide) ?_
        refine N.irem dX1_nextLine_11 (by decide) ?_
        refine N.istore3 dX1_nextLine_12 rfl ?_
        refine N.aload0 dX1_nextLine_13 ?_
        refine N.iload3 dX1_nextLine_14 ?_
        refine N.vi1 dX1_nextLine_15 vX1_hasPlayers lkX1_85 (s_X1_hasPlayers _ _ _ _ _) rO rfl (Nat.le_of_ble_eq_true rfl) (Nat.le_of_ble_eq_true rfl) (Nat.zero_le _) (Nat.zero_le _) ?_
        rintro _ _ _ ⟨rfl, rfl, rfl⟩
        refine N.if_eq (tgt := 23) dX1_nextLine_18 (by decide) (fun c18 => ?_) (fun c18 => ?_)
        · refine N.iinc2 (v := 5) dX1_nextLine_23 rfl (by decide) ?_
          refine N.goto (tgt := 2) dX1_nextLine_26 (by decide) ?_
          refine N.iload2 dX1_nextLine_2 ?_
          refine N.iconst (v := 4) dX1_nextLine_3 (by decide) ?_
          refine N.icmp_gt (tgt := 29) dX1_nextLine_4 (by decide) (fun c4 => ?_) (fun c4 => absurd (by decide) c4)
          refine N.iload1 dX1_nextLine_29 ?_
          exact N.iret dX1_nextLine_30 rfl (Nat.zero_le _) (Nat.zero_le _) ⟨_, rfl, ⟨(by simp only [nextLF, nx4] at *; first | (simp only [c18, c18, c18, c18, ↓reduceIte]; done) | (simp_all; done)), rfl, rfl⟩⟩
        · refine N.iload3 dX1_nextLine_21 ?_
          exact N.iret dX1_nextLine_22 rfl (Nat.zero_le _) (Nat.zero_le _) ⟨_, rfl, ⟨(by simp only [nextLF, nx4] at *; first | (simp only [c18, c18, c18, c18, ↓reduceIte]; done) | (simp_all; done)), rfl, rfl⟩⟩
      · refine N.iload3 dX1_nextLine_21 ?_
        exact N.iret dX1_nextLine_22 rfl (Nat.zero_le _) (Nat.zero_le _) ⟨_, rfl, ⟨(by simp only [nextLF, nx4] at *; first | (simp only [c18, c18, c18, ↓reduceIte]; done) | (simp_all; done)), rfl, rfl⟩⟩
    · refine N.iload3 dX1_nextLine_21 ?_
      exact N.iret dX1_nextLine_22 rfl (Nat.zero_le _) (Nat.zero_le _) ⟨_, rfl, ⟨(by simp only [nextLF, nx4] at *; first | (simp only [c18, c18, ↓reduceIte]; done) | (simp_all; done)), rfl, rfl⟩⟩
  · refine N.iload3 dX1_nextLine_21 ?_
    exact N.iret dX1_nextLine_22 rfl (Nat.zero_le _) (Nat.zero_le _) ⟨_, rfl, ⟨(by simp only [nextLF, nx4] at *; first | (simp only [c18, ↓reduceIte]; done) | (simp_all; done)), rfl, rfl⟩⟩
set_option maxRecDepth 100000 in
theorem s_X1_legsOf {K : Kx} (w : Wd) (b sz : Nat) (v : CV) (p : Int32) (hp : vp_in p 10) : Sp K mX1_legsOf 0 0 0 [.ref b, .int p] (putR K w b v) sz (Qi fun r w' sz' => r = (legsF v p) ∧ w' = putR K w b v ∧ sz' = sz) := by
  refine Sp.ofN [some (.ref b), some (.int p)] rfl rfl rfl (Nat.le_of_ble_eq_true rfl) ?_
  refine N.aload0 dX1_legsOf_0 ?_
  refine N.getf dX1_legsOf_1 flX1_15 rO rfl ?_
  refine N.iload1 dX1_legsOf_4 ?_
  refine N.iald dX1_legsOf_5 rA1 hp ?_
  refine N.bipush (v := 100) dX1_legsOf_6 (by decide) ?_
  refine N.aload0 dX1_legsOf_8 ?_
  refine N.getf dX1_legsOf_9 flX1_21 rO rfl ?_
  refine N.iload1 dX1_legsOf_12 ?_
  refine N.iald dX1_legsOf_13 rA3 hp ?_
  refine N.isub dX1_legsOf_14 ?_
  refine N.imul dX1_legsOf_15 ?_
  refine N.bipush (v := 100) dX1_legsOf_16 (by decide) ?_
  refine N.idiv dX1_legsOf_18 (by decide) ?_
  exact N.iret dX1_legsOf_19 rfl (Nat.zero_le _) (Nat.zero_le _) ⟨_, rfl, ⟨rfl, rfl, rfl⟩⟩
set_option maxRecDepth 100000 in
theorem s_X1_othersOnIce {K : Kx} (w : Wd) (b sz : Nat) (v : CV) (p : Int32)  : Sp K mX1_othersOnIce 1 0 0 [.ref b, .int p] (putR K w b v) sz (Qi fun r w' sz' => r = (othersF v p) ∧ w' = putR K w b v ∧ sz' = sz) := by
  refine Sp.ofN [some (.ref b), some (.int p)] rfl rfl rfl (Nat.le_of_ble_eq_true rfl) ?_
  refine N.aload0 dX1_othersOnIce_0 ?_
  refine N.getf dX1_othersOnIce_1 flX1_31 rO rfl ?_
  refine N.si1 dX1_othersOnIce_4 vJ6_bitCount_0f7a4 lkX1_96 (s_J6_bitCount_0f7a4 _ _ _) rfl (Nat.le_of_ble_eq_true rfl) (Nat.le_of_ble_eq_true rfl) (Nat.zero_le _) (Nat.zero_le _) ?_
  rintro _ _ _ ⟨rfl, rfl, rfl⟩
  refine N.aload0 dX1_othersOnIce_7 ?_
  refine N.getf dX1_othersOnIce_8 flX1_31 rO rfl ?_
  refine N.iload1 dX1_othersOnIce_11 ?_
  refine N.si2 dX1_othersOnIce_12 vX4_bit lkX1_92 (s_X4_bit _ _ _ _) rfl (Nat.le_of_ble_eq_true rfl) (Nat.le_of_ble_eq_true rfl) (Nat.zero_le _) (Nat.zero_le _) ?_
  rintro _ _ _ ⟨rfl, rfl, rfl⟩
  refine N.isub dX1_othersOnIce_15 ?_
  exact N.iret dX1_othersOnIce_16 rfl (Nat.zero_le _) (Nat.zero_le _) ⟨_, rfl, ⟨rfl, rfl, rfl⟩⟩
set_option maxRecDepth 100000 in
theorem s_X1_powerOf {K : Kx} (w : Wd) (b sz : Nat) (v : CV) (p : Int32) (hp : vp_in p 10) : Sp K mX1_powerOf 2 0 0 [.ref b, .int p] (putR K w b v) sz (Qi fun r w' sz' => r = (powF v p) ∧ w' = putR K w b v ∧ sz' = sz) := by
  refine Sp.ofN [some (.ref b), some (.int p), none] rfl rfl rfl (Nat.le_of_ble_eq_true rfl) ?_
  refine N.aload0 dX1_powerOf_0 ?_
  refine N.iload1 dX1_powerOf_1 ?_
  refine N.vi1 dX1_powerOf_2 vX1_legsOf lkX1_101 (s_X1_legsOf _ _ _ _ _ hp) rO rfl (Nat.le_of_ble_eq_true rfl) (Nat.le_of_ble_eq_true rfl) (Nat.zero_le _) (Nat.zero_le _) ?_
  rintro _ _ _ ⟨rfl, rfl, rfl⟩
  refine N.istore2 dX1_powerOf_5 rfl ?_
  refine N.aload0 dX1_powerOf_6 ?_
  refine N.getf dX1_powerOf_7 flX1_9 rO rfl ?_
  refine N.iload1 dX1_powerOf_10 ?_
  refine N.iald dX1_powerOf_11 rA0 hp ?_
  refine N.iconst (v := 2) dX1_powerOf_12 (by decide) ?_
  refine N.icmp_ne (tgt := 36) dX1_powerOf_13 (by decide) (fun c13 => ?_) (fun c13 => ?_)
  · refine N.aload0 dX1_powerOf_36 ?_
    refine N.getf dX1_powerOf_37 flX1_9 rO rfl ?_
    refine N.iload1 dX1_powerOf_40 ?_
    refine N.iald dX1_powerOf_41 rA0 hp ?_
    refine N.iconst (v := 5) dX1_powerOf_42 (by decide) ?_
    refine N.icmp_ne (tgt := 58) dX1_powerOf_43 (by decide) (fun c43 => ?_) (fun c43 => ?_)
    · refine N.iload2 dX1_powerOf_58 ?_
      exact N.iret dX1_powerOf_59 rfl (Nat.zero_le _) (Nat.zero_le _) ⟨_, rfl, ⟨(by first | (simp only [powF, c13, c43, ↓reduceIte]; done) | (simp_all [powF]; done)), rfl, rfl⟩⟩
    · refine N.iload2 dX1_powerOf_46 ?_
      refine N.iconst (v := 2) dX1_powerOf_47 (by decide) ?_
      refine N.aload0 dX1_powerOf_48 ?_
      refine N.iload1 dX1_powerOf_49 ?_
      refine N.vi1 dX1_powerOf_50 vX1_othersOnIce lkX1_104 (s_X1_othersOnIce _ _ _ _ _) rO rfl (Nat.le_of_ble_eq_true rfl) (Nat.le_of_ble_eq_true rfl) (Nat.zero_le _) (Nat.zero_le _) ?_
      rintro _ _ _ ⟨rfl, rfl, rfl⟩
      refine N.imul dX1_powerOf_53 ?_
      refine N.iadd dX1_powerOf_54 ?_
      refine N.goto (tgt := 59) dX1_powerOf_55 (by decide) ?_
      exact N.iret dX1_powerOf_59 rfl (Nat.zero_le _) (Nat.zero_le _) ⟨_, rfl, ⟨(by first | (simp only [powF, c13, c43, ↓reduceIte]; done) | (simp_all [powF]; done)), rfl, rfl⟩⟩
  · refine N.aload0 dX1_powerOf_16 ?_
    refine N.getf dX1_powerOf_17 flX1_21 rO rfl ?_
    refine N.iload1 dX1_powerOf_20 ?_
    refine N.iald dX1_powerOf_21 rA3 hp ?_
    refine N.bipush (v := 10) dX1_powerOf_22 (by decide) ?_
    refine N.icmp_ge (tgt := 36) dX1_powerOf_24 (by decide) (fun c24 => ?_) (fun c24 => ?_)
    · refine N.aload0 dX1_powerOf_36 ?_
      refine N.getf dX1_powerOf_37 flX1_9 rO rfl ?_
      refine N.iload1 dX1_powerOf_40 ?_
      refine N.iald dX1_powerOf_41 rA0 hp ?_
      refine N.iconst (v := 5) dX1_powerOf_42 (by decide) ?_
      refine N.icmp_ne (tgt := 58) dX1_powerOf_43 (by decide) (fun c43 => ?_) (fun c43 => ?_)
      · refine N.iload2 dX1_powerOf_58 ?_
        exact N.iret dX1_powerOf_59 rfl (Nat.zero_le _) (Nat.zero_le _) ⟨_, rfl, ⟨(by first | (simp only [powF, c13, c24, c43, ↓reduceIte]; done) | (simp_all [powF]; done)), rfl, rfl⟩⟩
      · refine N.iload2 dX1_powerOf_46 ?_
        refine N.iconst (v := 2) dX1_powerOf_47 (by decide) ?_
        refine N.aload0 dX1_powerOf_48 ?_
        refine N.iload1 dX1_powerOf_49 ?_
        refine N.vi1 dX1_powerOf_50 vX1_othersOnIce lkX1_104 (s_X1_othersOnIce _ _ _ _ _) rO rfl (Nat.le_of_ble_eq_true rfl) (Nat.le_of_ble_eq_true rfl) (Nat.zero_le _) (Nat.zero_le _) ?_
        rintro _ _ _ ⟨rfl, rfl, rfl⟩
        refine N.imul dX1_powerOf_53 ?_
        refine N.iadd dX1_powerOf_54 ?_
        refine N.goto (tgt := 59) dX1_powerOf_55 (by decide) ?_
        exact N.iret dX1_powerOf_59 rfl (Nat.zero_le _) (Nat.zero_le _) ⟨_, rfl, ⟨(by first | (simp only [powF, c13, c24, c43, ↓reduceIte]; done) | (simp_all [powF]; done)), rfl, rfl⟩⟩
    · refine N.iload2 dX1_powerOf_27 ?_
      refine N.aload0 dX1_powerOf_28 ?_
      refine N.getf dX1_powerOf_29 flX1_18 rO rfl ?_
      refine N.iload1 dX1_powerOf_32 ?_
      refine N.iald dX1_powerOf_33 rA2 hp ?_
      refine N.iadd dX1_powerOf_34 ?_
      exact N.iret dX1_powerOf_35 rfl (Nat.zero_le _) (Nat.zero_le _) ⟨_, rfl, ⟨(by first | (simp only [powF, c13, c24, ↓reduceIte]; done) | (simp_all [powF]; done)), rfl, rfl⟩⟩
set_option maxRecDepth 100000 in
theorem s_X1_saidAs {K : Kx} (w : Wd) (b sz : Nat) (v : CV) (k p : Int32) (hp : vp_in p 10) : Sp K mX1_saidAs 3 0 0 [.ref b, .int k, .int p] (putR K w b v) sz (Qi fun r w' sz' => r = (saidF v k p) ∧ w' = putR K w b v ∧ sz' = sz) := by
  refine Sp.ofN [some (.ref b), some (.int k), some (.int p)] rfl rfl rfl (Nat.le_of_ble_eq_true rfl) ?_
  refine N.iload1 dX1_saidAs_0 ?_
  refine N.swc 1 (fun t1_1 => ?_) (fun t1_1 => ?_)
  · refine N.tsIn (off := 35) (tgt := 36) 1 t1_1 dX1_saidAs_1 (by decide) (by decide) (by decide) (by decide) ?_
    refine N.aload0 dX1_saidAs_36 ?_
    refine N.getf dX1_saidAs_37 flX1_9 rO rfl ?_
    refine N.iload2 dX1_saidAs_40 ?_
    refine N.iald dX1_saidAs_41 rA0 hp ?_
    refine N.si1 dX1_saidAs_42 vX4_tiresBy lkX1_107 (s_X4_tiresBy _ _ _) rfl (Nat.le_of_ble_eq_true rfl) (Nat.le_of_ble_eq_true rfl) (Nat.zero_le _) (Nat.zero_le _) ?_
    rintro _ _ _ ⟨rfl, rfl, rfl⟩
    exact N.iret dX1_saidAs_45 rfl (Nat.zero_le _) (Nat.zero_le _) ⟨_, rfl, ⟨(by first | (simp only [saidF, t1_1, ↓reduceIte]; done) | (simp_all [saidF]; done)), rfl, rfl⟩⟩
  refine N.swc 2 (fun t1_2 => ?_) (fun t1_2 => ?_)
  · refine N.tsIn (off := 45) (tgt := 46) 2 t1_2 dX1_saidAs_1 (by decide) (by decide) (by decide) (by decide) ?_
    refine N.aload0 dX1_saidAs_46 ?_
    refine N.iload2 dX1_saidAs_47 ?_
    refine N.vi1 dX1_saidAs_48 vX1_powerOf lkX1_110 (s_X1_powerOf _ _ _ _ _ hp) rO rfl (Nat.le_of_ble_eq_true rfl) (Nat.le_of_ble_eq_true rfl) (Nat.zero_le _) (Nat.zero_le _) ?_
    rintro _ _ _ ⟨rfl, rfl, rfl⟩
    exact N.iret dX1_saidAs_51 rfl (Nat.zero_le _) (Nat.zero_le _) ⟨_, rfl, ⟨(by first | (simp only [saidF, t1_1, t1_2, ↓reduceIte]; done) | (simp_all [saidF]; done)), rfl, rfl⟩⟩
  refine N.swc 3 (fun t1_3 => ?_) (fun t1_3 => ?_)
  · refine N.tsIn (off := 35) (tgt := 36) 3 t1_3 dX1_saidAs_1 (by decide) (by decide) (by decide) (by decide) ?_
    refine N.aload0 dX1_saidAs_36 ?_
    refine N.getf dX1_saidAs_37 flX1_9 rO rfl ?_
    refine N.iload2 dX1_saidAs_40 ?_
    refine N.iald dX1_saidAs_41 rA0 hp ?_
    refine N.si1 dX1_saidAs_42 vX4_tiresBy lkX1_107 (s_X4_tiresBy _ _ _) rfl (Nat.le_of_ble_eq_true rfl) (Nat.le_of_ble_eq_true rfl) (Nat.zero_le _) (Nat.zero_le _) ?_
    rintro _ _ _ ⟨rfl, rfl, rfl⟩
    exact N.iret dX1_saidAs_45 rfl (Nat.zero_le _) (Nat.zero_le _) ⟨_, rfl, ⟨(by first | (simp only [saidF, t1_1, t1_2, t1_3, ↓reduceIte]; done) | (simp_all [saidF]; done)), rfl, rfl⟩⟩
  refine N.swc 4 (fun t1_4 => ?_) (fun t1_4 => ?_)
  · refine N.tsIn (off := 51) (tgt := 52) 4 t1_4 dX1_saidAs_1 (by decide) (by decide) (by decide) (by decide) ?_
    refine N.aload0 dX1_saidAs_52 ?_
    refine N.getf dX1_saidAs_53 flX1_31 rO rfl ?_
    refine N.iload2 dX1_saidAs_56 ?_
    refine N.si2 dX1_saidAs_57 vX4_bit lkX1_92 (s_X4_bit _ _ _ _) rfl (Nat.le_of_ble_eq_true rfl) (Nat.le_of_ble_eq_true rfl) (Nat.zero_le _) (Nat.zero_le _) ?_
    rintro _ _ _ ⟨rfl, rfl, rfl⟩
    exact N.iret dX1_saidAs_60 rfl (Nat.zero_le _) (Nat.zero_le _) ⟨_, rfl, ⟨(by first | (simp only [saidF, t1_1, t1_2, t1_3, t1_4, ↓reduceIte]; done) | (simp_all [saidF]; done)), rfl, rfl⟩⟩
  refine N.swc 5 (fun t1_5 => ?_) (fun t1_5 => ?_)
  · refine N.tsIn (off := 60) (tgt := 61) 5 t1_5 dX1_saidAs_1 (by decide) (by decide) (by decide) (by decide) ?_
    refine N.aload0 dX1_saidAs_61 ?_
    refine N.iload2 dX1_saidAs_62 ?_
    refine N.vi1 dX1_saidAs_63 vX1_othersOnIce lkX1_104 (s_X1_othersOnIce _ _ _ _ _) rO rfl (Nat.le_of_ble_eq_true rfl) (Nat.le_of_ble_eq_true rfl) (Nat.zero_le _) (Nat.zero_le _) ?_
    rintro _ _ _ ⟨rfl, rfl, rfl⟩
    exact N.iret dX1_saidAs_66 rfl (Nat.zero_le _) (Nat.zero_le _) ⟨_, rfl, ⟨(by first | (simp only [saidF, t1_1, t1_2, t1_3, t1_4, t1_5, ↓reduceIte]; done) | (simp_all [saidF]; done)), rfl, rfl⟩⟩
  refine N.tsOut (tgt := 67) dX1_saidAs_1 (by have h1 := sw_ne t1_1 (z := 1) (by decide); have h2 := sw_ne t1_2 (z := 2) (by decide); have h3 := sw_ne t1_3 (z := 3) (by decide); have h4 := sw_ne t1_4 (z := 4) (by decide); have h5 := sw_ne t1_5 (z := 5) (by decide); omega) (by decide) ?_
  refine N.aload0 dX1_saidAs_67 ?_
  refine N.iload2 dX1_saidAs_68 ?_
  refine N.vi1 dX1_saidAs_69 vX1_legsOf lkX1_101 (s_X1_legsOf _ _ _ _ _ hp) rO rfl (Nat.le_of_ble_eq_true rfl) (Nat.le_of_ble_eq_true rfl) (Nat.zero_le _) (Nat.zero_le _) ?_
  rintro _ _ _ ⟨rfl, rfl, rfl⟩
  exact N.iret dX1_saidAs_72 rfl (Nat.zero_le _) (Nat.zero_le _) ⟨_, rfl, ⟨(by first | (simp only [saidF, t1_1, t1_2, t1_3, t1_4, t1_5, ↓reduceIte]; done) | (simp_all [saidF]; done)), rfl, rfl⟩⟩
set_option maxRecDepth 100000 in
theorem s_X1_oddsOurs {K : Kx} (w : Wd) (b sz : Nat) (v : CV) (p : Int32)  : Sp K mX1_oddsOurs 0 0 0 [.ref b, .int p] (putR K w b v) sz (Qi fun r w' sz' => r = (oddsOF v p) ∧ w' = putR K w b v ∧ sz' = sz) := by
  refine Sp.ofN [some (.ref b), some (.int p)] rfl rfl rfl (Nat.le_of_ble_eq_true rfl) ?_
  refine N.iconst (v := 2) dX1_oddsOurs_0 (by decide) ?_
  refine N.iload1 dX1_oddsOurs_1 ?_
  refine N.imul dX1_oddsOurs_2 ?_
  refine N.aload0 dX1_oddsOurs_3 ?_
  refine N.getf dX1_oddsOurs_4 flX1_40 rO rfl ?_
  refine N.iconst (v := 1) dX1_oddsOurs_7 (by decide) ?_
  refine N.iadd dX1_oddsOurs_8 ?_
  refine N.imul dX1_oddsOurs_9 ?_
  refine N.iconst (v := 3) dX1_oddsOurs_10 (by decide) ?_
  refine N.idiv dX1_oddsOurs_11 (by decide) ?_
  exact N.iret dX1_oddsOurs_12 rfl (Nat.zero_le _) (Nat.zero_le _) ⟨_, rfl, ⟨rfl, rfl, rfl⟩⟩
set_option maxRecDepth 100000 in
theorem s_X1_oddsAgainst {K : Kx} (w : Wd) (b sz : Nat) (v : CV)  : Sp K mX1_oddsAgainst 0 0 0 [.ref b] (putR K w b v) sz (Qi fun r w' sz' => r = (oddsAF v) ∧ w' = putR K w b v ∧ sz' = sz) := by
  refine Sp.ofN [some (.ref b), none] rfl rfl rfl (Nat.le_of_ble_eq_true rfl) ?_
  refine N.iconst (v := 2) dX1_oddsAgainst_0 (by decide) ?_
  refine N.aload0 dX1_oddsAgainst_1 ?_
  refine N.getf dX1_oddsAgainst_2 flX1_46 rO rfl ?_
  refine N.imul dX1_oddsAgainst_5 ?_
  refine N.iconst (v := 3) dX1_oddsAgainst_6 (by decide) ?_
  refine N.aload0 dX1_oddsAgainst_7 ?_
  refine N.getf dX1_oddsAgainst_8 flX1_40 rO rfl ?_
  refine N.isub dX1_oddsAgainst_11 ?_
  refine N.imul dX1_oddsAgainst_12 ?_
  refine N.iconst (v := 3) dX1_oddsAgainst_13 (by decide) ?_
  refine N.idiv dX1_oddsAgainst_14 (by decide) ?_
  refine N.istore1 dX1_oddsAgainst_15 rfl ?_
  refine N.aload0 dX1_oddsAgainst_16 ?_
  refine N.getf dX1_oddsAgainst_17 flX1_49 rO rfl ?_
  refine N.if_ne (tgt := 29) dX1_oddsAgainst_20 (by decide) (fun c20 => ?_) (fun c20 => ?_)
  · refine N.iload1 dX1_oddsAgainst_29 ?_
    exact N.iret dX1_oddsAgainst_30 rfl (Nat.zero_le _) (Nat.zero_le _) ⟨_, rfl, ⟨(by first | (simp only [oddsAF, c20, ↓reduceIte]; done) | (simp_all [oddsAF]; done)), rfl, rfl⟩⟩
  · refine N.iconst (v := 5) dX1_oddsAgainst_23 (by decide) ?_
    refine N.iload1 dX1_oddsAgainst_24 ?_
    refine N.imul dX1_oddsAgainst_25 ?_
    refine N.goto (tgt := 30) dX1_oddsAgainst_26 (by decide) ?_
    exact N.iret dX1_oddsAgainst_30 rfl (Nat.zero_le _) (Nat.zero_le _) ⟨_, rfl, ⟨(by first | (simp only [oddsAF, c20, ↓reduceIte]; done) | (simp_all [oddsAF]; done)), rfl, rfl⟩⟩
set_option maxRecDepth 100000 in
theorem s_X1_putOn {K : Kx} (w : Wd) (b sz : Nat) (v : CV) (s : Int32)  : Sp K mX1_putOn 0 0 0 [.ref b, .int s] (putR K w b v) sz (Qv fun w' sz' => w' = putR K w b (putOnV v s) ∧ sz' = sz) := by
  refine Sp.ofN [some (.ref b), some (.int s)] rfl rfl rfl (Nat.le_of_ble_eq_true rfl) ?_
  refine N.aload0 dX1_putOn_0 ?_
  refine N.iload1 dX1_putOn_1 ?_
  refine N.putf dX1_putOn_2 flX1_31 rO (Nat.le_of_ble_eq_true rfl) (fun _ h => by cases h; rfl) rfl rfl rP1 ?_
  refine N.aload0 dX1_putOn_5 ?_
  refine N.iconst (v := 0) dX1_putOn_6 (by decide) ?_
  refine N.putf dX1_putOn_7 flX1_34 rO (Nat.le_of_ble_eq_true rfl) (fun _ h => by cases h; rfl) rfl rfl rP2 ?_
  refine N.aload0 dX1_putOn_10 ?_
  refine N.iconst (v := 0) dX1_putOn_11 (by decide) ?_
  refine N.putf dX1_putOn_12 flX1_37 rO (Nat.le_of_ble_eq_true rfl) (fun _ h => by cases h; rfl) rfl rfl rP3 ?_
  exact N.vret dX1_putOn_15 rfl (Nat.zero_le _) (Nat.zero_le _) ⟨rfl, ⟨rfl, rfl⟩⟩
set_option maxRecDepth 100000 in
theorem s_X1_takeOff {K : Kx} (w : Wd) (b sz : Nat) (v : CV) (p : Int32)  : Sp K mX1_takeOff 0 0 0 [.ref b, .int p] (putR K w b v) sz (Qv fun w' sz' => w' = putR K w b (takeOffV v p) ∧ sz' = sz) := by
  refine Sp.ofN [some (.ref b), some (.int p)] rfl rfl rfl (Nat.le_of_ble_eq_true rfl) ?_
  refine N.aload0 dX1_takeOff_0 ?_
  refine N.dup dX1_takeOff_1 rfl ?_
  refine N.getf dX1_takeOff_2 flX1_31 rO rfl ?_
  refine N.iconst (v := 1) dX1_takeOff_5 (by decide) ?_
  refine N.iload1 dX1_takeOff_6 ?_
  refine N.ishl dX1_takeOff_7 ?_
  refine N.iconst (v := -1) dX1_takeOff_8 (by decide) ?_
  refine N.ixor dX1_takeOff_9 ?_
  refine N.iand dX1_takeOff_10 ?_
  refine N.putf dX1_takeOff_11 flX1_31 rO (Nat.le_of_ble_eq_true rfl) (fun _ h => by cases h; rfl) rfl rfl rP1 ?_
  refine N.aload0 dX1_takeOff_14 ?_
  refine N.dup dX1_takeOff_15 rfl ?_
  refine N.getf dX1_takeOff_16 flX1_34 rO rfl ?_
  refine N.iconst (v := 1) dX1_takeOff_19 (by decide) ?_
  refine N.iload1 dX1_takeOff_20 ?_
  refine N.ishl dX1_takeOff_21 ?_
  refine N.iconst (v := -1) dX1_takeOff_22 (by decide) ?_
  refine N.ixor dX1_takeOff_23 ?_
  refine N.iand dX1_takeOff_24 ?_
  refine N.putf dX1_takeOff_25 flX1_34 rO (Nat.le_of_ble_eq_true rfl) (fun _ h => by cases h; rfl) rfl rfl rP2 ?_
  refine N.aload0 dX1_takeOff_28 ?_
  refine N.getf dX1_takeOff_29 flX1_34 rO rfl ?_
  refine N.if_ne (tgt := 40) dX1_takeOff_32 (by decide) (fun c32 => ?_) (fun c32 => ?_)
  · exact N.vret dX1_takeOff_40 rfl (Nat.zero_le _) (Nat.zero_le _) ⟨rfl, ⟨(by first | (rw [takeOffV, if_pos (show offB (v.1 2) p = 0 from c32)]; try rfl) | (rw [takeOffV, if_neg (show ¬ offB (v.1 2) p = 0 from c32)]; try rfl)), rfl⟩⟩
  · refine N.aload0 dX1_takeOff_35 ?_
    refine N.iconst (v := 0) dX1_takeOff_36 (by decide) ?_
    refine N.putf dX1_takeOff_37 flX1_37 rO (Nat.le_of_ble_eq_true rfl) (fun _ h => by cases h; rfl) rfl rfl rP3 ?_
    exact N.vret dX1_takeOff_40 rfl (Nat.zero_le _) (Nat.zero_le _) ⟨rfl, ⟨(by first | (rw [takeOffV, if_pos (show offB (v.1 2) p = 0 from c32)]; try rfl) | (rw [takeOffV, if_neg (show ¬ offB (v.1 2) p = 0 from c32)]; try rfl)), rfl⟩⟩
set_option maxRecDepth 100000 in
theorem s_X1_comeNearer {K : Kx} (w : Wd) (b sz : Nat) (v : CV) (n : Int32)  : Sp K mX1_comeNearer 1 0 0 [.ref b, .int n] (putR K w b v) sz (Qv fun w' sz' => w' = putR K w b (comeV n v) ∧ sz' = sz) := by
  refine Sp.ofN [some (.ref b), some (.int n)] rfl rfl rfl (Nat.le_of_ble_eq_true rfl) ?_
  refine N.aload0 dX1_comeNearer_0 ?_
  refine N.iconst (v := 0) dX1_comeNearer_1 (by decide) ?_
  refine N.aload0 dX1_comeNearer_2 ?_
  refine N.getf dX1_comeNearer_3 flX1_37 rO rfl ?_
  refine N.iload1 dX1_comeNearer_6 ?_
  refine N.isub dX1_comeNearer_7 ?_
  refine N.mmax dX1_comeNearer_8 mkX1_117 (Nat.le_of_ble_eq_true rfl) (Nat.le_of_ble_eq_true rfl) (Nat.zero_le _) (Nat.zero_le _) ?_
  refine N.putf dX1_comeNearer_11 flX1_37 rO (Nat.le_of_ble_eq_true rfl) (fun _ h => by cases h; rfl) rfl rfl rP3 ?_
  refine N.aload0 dX1_comeNearer_14 ?_
  refine N.getf dX1_comeNearer_15 flX1_37 rO rfl ?_
  refine N.if_ne (tgt := 26) dX1_comeNearer_18 (by decide) (fun c18 => ?_) (fun c18 => ?_)
  · exact N.vret dX1_comeNearer_26 rfl (Nat.zero_le _) (Nat.zero_le _) ⟨rfl, ⟨(by first | (rw [comeV, if_pos (show maxF 0 (v.1 3 - n) = 0 from c18)]; try rfl) | (rw [comeV, if_neg (show ¬ maxF 0 (v.1 3 - n) = 0 from c18)]; try rfl)), rfl⟩⟩
  · refine N.aload0 dX1_comeNearer_21 ?_
    refine N.iconst (v := 0) dX1_comeNearer_22 (by decide) ?_
    refine N.putf dX1_comeNearer_23 flX1_34 rO (Nat.le_of_ble_eq_true rfl) (fun _ h => by cases h; rfl) rfl rfl rP2 ?_
    exact N.vret dX1_comeNearer_26 rfl (Nat.zero_le _) (Nat.zero_le _) ⟨rfl, ⟨(by first | (rw [comeV, if_pos (show maxF 0 (v.1 3 - n) = 0 from c18)]; try rfl) | (rw [comeV, if_neg (show ¬ maxF 0 (v.1 3 - n) = 0 from c18)]; try rfl)), rfl⟩⟩
set_option maxRecDepth 100000 in
theorem s_X1_score {K : Kx} (w : Wd) (b sz : Nat) (v : CV) (dr a c : Int32)  : Sp K mX1_score 0 0 0 [.ref b, .int dr, .int a, .int c] (putR K w b v) sz (Qv fun w' sz' => w' = putR K w b (scoreV v dr a c) ∧ sz' = sz) := by
  refine Sp.ofN [some (.ref b), some (.int dr), some (.int a), some (.int c)] rfl rfl rfl (Nat.le_of_ble_eq_true rfl) ?_
  refine N.iload1 dX1_score_0 ?_
  refine N.iload3 dX1_score_1 ?_
  refine N.icmp_lt (tgt := 6) dX1_score_2 (by decide) (fun c2 => ?_) (fun c2 => ?_)
  · refine N.iload1 dX1_score_6 ?_
    refine N.iload2 dX1_score_7 ?_
    refine N.icmp_ge (tgt := 24) dX1_score_8 (by decide) (fun c8 => ?_) (fun c8 => ?_)
    · refine N.aload0 dX1_score_24 ?_
      refine N.dup dX1_score_25 rfl ?_
      refine N.getf dX1_score_26 flX1_61 rO rfl ?_
      refine N.iconst (v := 1) dX1_score_29 (by decide) ?_
      refine N.iadd dX1_score_30 ?_
      refine N.putf dX1_score_31 flX1_61 rO (Nat.le_of_ble_eq_true rfl) (fun _ h => by cases h; rfl) rfl rfl rP11 ?_
      refine N.aload0 dX1_score_34 ?_
      refine N.iconst (v := 1) dX1_score_35 (by decide) ?_
      refine N.putf dX1_score_36 flX1_40 rO (Nat.le_of_ble_eq_true rfl) (fun _ h => by cases h; rfl) rfl rfl rP4 ?_
      exact N.vret dX1_score_39 rfl (Nat.zero_le _) (Nat.zero_le _) ⟨rfl, ⟨(by first | (rw [scoreV, if_neg c2]; done) | (rw [scoreV, if_pos c2, if_pos c8]; try rfl) | (rw [scoreV, if_pos c2, if_neg c8]; try rfl)), rfl⟩⟩
    · refine N.aload0 dX1_score_11 ?_
      refine N.dup dX1_score_12 rfl ?_
      refine N.getf dX1_score_13 flX1_58 rO rfl ?_
      refine N.iconst (v := 1) dX1_score_16 (by decide) ?_
      refine N.iadd dX1_score_17 ?_
      refine N.putf dX1_score_18 flX1_58 rO (Nat.le_of_ble_eq_true rfl) (fun _ h => by cases h; rfl) rfl rfl rP10 ?_
      refine N.goto (tgt := 34) dX1_score_21 (by decide) ?_
      refine N.aload0 dX1_score_34 ?_
      refine N.iconst (v := 1) dX1_score_35 (by decide) ?_
      refine N.putf dX1_score_36 flX1_40 rO (Nat.le_of_ble_eq_true rfl) (fun _ h => by cases h; rfl) rfl rfl rP4 ?_
      exact N.vret dX1_score_39 rfl (Nat.zero_le _) (Nat.zero_le _) ⟨rfl, ⟨(by first | (rw [scoreV, if_neg c2]; done) | (rw [scoreV, if_pos c2, if_pos c8]; try rfl) | (rw [scoreV, if_pos c2, if_neg c8]; try rfl)), rfl⟩⟩
  · exact N.vret dX1_score_5 rfl (Nat.zero_le _) (Nat.zero_le _) ⟨rfl, ⟨(by first | (rw [scoreV, if_neg c2]; done) | (rw [scoreV, if_pos c2, if_pos c8]; try rfl) | (rw [scoreV, if_pos c2, if_neg c8]; try rfl)), rfl⟩⟩
set_option maxRecDepth 100000 in
theorem s_X1_drawBelow {K : Kx} (w : Wd) (b sz : Nat) (v : CV) (n : Int32) (hn : 1 ≤ n) (hn0 : ¬ n = 0) : Sp K mX1_drawBelow 0 0 0 [.ref b, .int n] (putR K w b v) sz (Qi fun r w' sz' => r = (drawF v n) ∧ w' = putR K w b (drawV v) ∧ sz' = sz) := by
  refine Sp.ofN [some (.ref b), some (.int n)] rfl rfl rfl (Nat.le_of_ble_eq_true rfl) ?_
  refine N.aload0 dX1_drawBelow_0 ?_
  refine N.aload0 dX1_drawBelow_1 ?_
  refine N.getf dX1_drawBelow_2 flX1_64 rO rfl ?_
  refine N.ldc dX1_drawBelow_5 ctX1_165 ?_
  refine N.imul dX1_drawBelow_7 ?_
  refine N.sipush (v := 12345) dX1_drawBelow_8 (by decide) ?_
  refine N.iadd dX1_drawBelow_11 ?_
  refine N.putf dX1_drawBelow_12 flX1_64 rO (Nat.le_of_ble_eq_true rfl) (fun _ h => by cases h; rfl) rfl rfl rP12 ?_
  refine N.iload1 dX1_drawBelow_15 ?_
  refine N.iconst (v := 1) dX1_drawBelow_16 (by decide) ?_
  refine N.icmp_ge (tgt := 24) dX1_drawBelow_17 (by decide) (fun c17 => ?_) (fun c17 => absurd hn c17)
  refine N.aload0 dX1_drawBelow_24 ?_
  refine N.getf dX1_drawBelow_25 flX1_64 rO rfl ?_
  refine N.bipush (v := 16) dX1_drawBelow_28 (by decide) ?_
  refine N.iushr dX1_drawBelow_30 ?_
  refine N.iload1 dX1_drawBelow_31 ?_
  refine N.irem dX1_drawBelow_32 hn0 ?_
  exact N.iret dX1_drawBelow_33 rfl (Nat.zero_le _) (Nat.zero_le _) ⟨_, rfl, ⟨rfl, rfl, rfl⟩⟩
