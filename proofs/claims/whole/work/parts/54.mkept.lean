variable {G : Nat → Prop}
theorem N.bnd {K : Kx} {M : Md} {d mc ms : Nat} {Q : Qx} {pc : Nat} {L : List (Option Value)} {st : List Value} {w : Wd} {sz cc ss a : Nat} {x : ClassId × Nat × ((Nat → Int32) ⊕ (Nat → Int64) ⊕ _)} (h : w a = some (.inl x)) (k : a < sz → N K M d mc ms Q pc L st w sz cc ss) : N K M d mc ms Q pc L st w sz cc ss := by
  intro p e s m args below meth c H locs ls C hW hF hL hl
  have h1 : H[a]? = some _ := (hW.2.2 a _ h).2
  have h2 : a < H.size := by
    rcases Nat.lt_or_ge a H.size with q | q
    · exact q
    · rw [Array.getElem?_eq_none q] at h1; cases h1
  exact k (by rw [hW.1] at h2; exact h2) p e s m args below meth c H locs ls C hW hF hL hl
theorem mLast {K : Kx} {w : Wd} {b : Nat} {v : CV} {E : ME} : putM K w b (v, E) (b + 24) = some (.inl (kC K 0, 4, .inl (E.2.1 8))) := mH8
theorem tLast {K : Kx} {w : Wd} {b q : Nat} {v : CV} {E : ME} {z : MX} (h : ap25 q b) : putM K (putM K w q z) b (v, E) (q + 24) = some (.inl (kC K 0, 4, .inl (z.2.2.1 8))) := by
  rw [m_out (by unfold ap25 at h; omega)]
  exact mH8 (v := z.1) (E := z.2)
theorem tw_sw {K : Kx} {w : Wd} {k0 : Nat} {y z : MX} {t : Option Nat} (h : ∀ q, t = some q → ap25 k0 q) : tw K (putM K w k0 y) t z = putM K (tw K w t z) k0 y := by
  cases t with
  | none => rfl
  | some q => exact m_swap (Or.symm (h q rfl))
def kpE (e : M5) (k : Option Nat) : M5 := (e.1, e.2.1, e.2.2.1, e.2.2.2.1, k)
set_option maxRecDepth 100000 in
theorem image_n {K : Kx} (w : Wd) (b sz : Nat) (v : CV) (e : M5) (t : Option Nat) (z : MX) (ek : e.2.2.2.2 = none) (ht : tOk G b sz t) : Sp K mX5_image 9 25 755 [.ref b] (putM K (tw K w t z) b (v, wt e t)) sz (Qi fun r w' sz' => r = 1 ∧ ∃ Ek, w' = putM K (tw K (putM K w sz (v, Ek)) t z) b (v, wt (kpE e (some sz)) t) ∧ sz' = sz + 25 ∧ b + 25 ≤ sz ∧ ∀ q, t = some q → q + 25 ≤ sz) := by
  refine Sp.ofN [some (.ref b)] rfl rfl rfl (Nat.le_of_ble_eq_true rfl) ?_
  have hd : ap25 sz b := Or.inr ht.1.1
  obtain ⟨e1, e2, e3, e4, e5⟩ := e
  obtain rfl : e5 = none := ek
  refine N.aload0 dX5_image_0 ?_
  refine N.getf (v := .null) dX5_image_1 flX5_385 mO rfl ?_
  refine N.ifnonnullN dX5_image_4 ?_
  refine N.aload0 dX5_image_7 ?_
  have hb : N K mX5_image 9 25 755 (Qi fun r w' sz' => r = 1 ∧ ∃ Ek, w' = putM K (tw K (putM K w sz (v, Ek)) t z) b (v, wt (kpE (e1, e2, e3, e4, none) (some sz)) t) ∧ sz' = sz + 25 ∧ b + 25 ≤ sz ∧ ∀ q, t = some q → q + 25 ≤ sz) 8 [some (.ref b)] [.ref b] (putM K (tw K w t z) b (v, wt (e1, e2, e3, e4, none) t)) sz 0 0 → N K mX5_image 9 25 755 (Qi fun r w' sz' => r = 1 ∧ ∃ Ek, w' = putM K (tw K (putM K w sz (v, Ek)) t z) b (v, wt (kpE (e1, e2, e3, e4, none) (some sz)) t) ∧ sz' = sz + 25 ∧ b + 25 ≤ sz ∧ ∀ q, t = some q → q + 25 ≤ sz) 8 [some (.ref b)] [.ref b] (putM K (tw K w t z) b (v, wt (e1, e2, e3, e4, none) t)) sz 0 0 := fun q => q
  have hcore : (∀ q, t = some q → q + 25 ≤ sz) → N K mX5_image 9 25 755 (Qi fun r w' sz' => r = 1 ∧ ∃ Ek, w' = putM K (tw K (putM K w sz (v, Ek)) t z) b (v, wt (kpE (e1, e2, e3, e4, none) (some sz)) t) ∧ sz' = sz + 25 ∧ b + 25 ≤ sz ∧ ∀ q, t = some q → q + 25 ≤ sz) 8 [some (.ref b)] [.ref b] (putM K (tw K w t z) b (v, wt (e1, e2, e3, e4, none) t)) sz 0 0 := by
    intro hq
    refine N.new f0M dX5_image_8 (ci := 5) rfl clX5_8 isX5 itX5 f0M_d (Nat.le_of_ble_eq_true rfl) (Nat.le_of_ble_eq_true rfl) ?_
    refine N.eqW cl_1 ?_
    refine N.dup dX5_image_11 rfl ?_
    refine N.iv0A dX5_image_12 vX5_init lkX5_243 (s_X5_init _ _) rfl (Nat.le_of_ble_eq_true rfl) (Nat.le_of_ble_eq_true rfl) (Nat.le_of_ble_eq_true rfl) (Nat.le_of_ble_eq_true rfl) ?_
    rintro _ _ ⟨rfl, rfl⟩
    refine N.eqW (m_sw hd).symm ?_
    refine N.putf dX5_image_15 flX5_385 mO (Nat.le_of_ble_eq_true rfl) (fun _ h => by cases h; rfl) rfl rfl (w' := putM K (putM K (tw K w t z) sz (v0M, E0M)) b (v, wt (e1, e2, e3, e4, some sz) t)) mPk ?_
    refine N.aload0 dX5_image_18 ?_
    refine N.getf (v := .ref sz) dX5_image_19 flX5_385 mO rfl ?_
    refine N.aload0 dX5_image_22 ?_
    refine N.vv1 dX5_image_23 vX5_takeFrom lkX5_244 (Sp.tkM (G := fun _ => True) ⟨hd, trivial⟩) (m2O hd) rfl (Nat.le_of_ble_eq_true rfl) (Nat.le_of_ble_eq_true rfl) (Nat.le_of_ble_eq_true rfl) (Nat.le_of_ble_eq_true rfl) ?_
    rintro _ _ ⟨rfl, rfl⟩
    refine N.iconst (v := 1) dX5_image_26 (by decide) ?_
    exact N.iret dX5_image_27 rfl (Nat.le_of_ble_eq_true rfl) (Nat.le_of_ble_eq_true rfl) ⟨_, rfl, rfl, E0M, by rw [tw_sw (fun q e => Or.inr (hq q e))]; rfl, rfl, ht.1.1, hq⟩
  cases t with
  | none => exact hcore (fun q e => by cases e)
  | some q0 => exact N.bnd (tLast (ht.2 q0 rfl).1) (fun hlt => hcore (fun q e => by cases e; omega))
set_option maxRecDepth 100000 in
theorem image_s {K : Kx} (w : Wd) (b sz : Nat) (v : CV) (e : M5) (t : Option Nat) (z : MX) (k0 : Nat) (kz : MX) (ek : e.2.2.2.2 = some k0) (hb : ap25 k0 b) (hq : ∀ q, t = some q → ap25 k0 q) : Sp K mX5_image 9 0 0 [.ref b] (putM K (tw K (putM K w k0 kz) t z) b (v, wt e t)) sz (Qi fun r w' sz' => r = 1 ∧ w' = putM K (tw K (putM K w k0 (v, kz.2)) t z) b (v, wt e t) ∧ sz' = sz) := by
  refine Sp.ofN [some (.ref b)] rfl rfl rfl (Nat.le_of_ble_eq_true rfl) ?_
  obtain ⟨e1, e2, e3, e4, e5⟩ := e
  obtain rfl : e5 = some k0 := ek
  obtain ⟨u, E2⟩ := kz
  refine N.eqW (congrArg (fun z_ => putM K z_ b (v, wt (e1, e2, e3, e4, some k0) t)) (tw_sw hq)) ?_
  refine N.aload0 dX5_image_0 ?_
  refine N.getf (v := .ref k0) dX5_image_1 flX5_385 mO rfl ?_
  refine N.ifnonnull (tgt := 18) dX5_image_4 (by decide) ?_
  refine N.aload0 dX5_image_18 ?_
  refine N.getf (v := .ref k0) dX5_image_19 flX5_385 mO rfl ?_
  refine N.aload0 dX5_image_22 ?_
  refine N.vv1 dX5_image_23 vX5_takeFrom lkX5_244 (Sp.tkM (G := fun _ => True) ⟨hb, trivial⟩) (m2O hb) rfl (Nat.le_of_ble_eq_true rfl) (Nat.le_of_ble_eq_true rfl) (Nat.le_of_ble_eq_true rfl) (Nat.le_of_ble_eq_true rfl) ?_
  rintro _ _ ⟨rfl, rfl⟩
  refine N.iconst (v := 1) dX5_image_26 (by decide) ?_
  exact N.iret dX5_image_27 rfl (Nat.le_of_ble_eq_true rfl) (Nat.le_of_ble_eq_true rfl) ⟨_, rfl, rfl, by rw [tw_sw hq], rfl⟩
def bkS (u : CV) (A : Nat → Nat → Int32) : Nat → (Nat → Nat → Int32)
  | 0 => A
  | k + 1 => if (bkS u A k) 0 (nI k).toNatClampNeg = 2 then (if (bkS u A k) 3 (nI k).toNatClampNeg < u.1 0 then bkS u A k else upA (bkS u A k) 0 (upd ((bkS u A k) 0) (nI k).toNatClampNeg 0)) else bkS u A k
set_option maxRecDepth 100000 in
theorem l_X5_back {K : Kx} (w : Wd) (b sz : Nat) (u : CV) (E : ME) (mc ms : Nat) (B : Nat → Nat → Int32) (hB : bkS u E.2.1 8 = B) (P : Int32 → Wd → Nat → Prop) (hP : P 1 (putM K w b (u, E.1, B, E.2.2)) sz) : ∀ nn k, k + nn = 8 → N K mX5_back 9 mc ms (Qi P) 24 [some (.ref b), some (.int (nI k))] [] (putM K w b (u, (E.1, bkS u E.2.1 k, E.2.2))) sz 0 0 := by
  intro nn
  induction nn with
  | zero =>
    intro k hk
    obtain rfl : k = 8 := by omega
    rw [hB]
    refine N.iload1 dX5_back_24 ?_
    refine N.bipush (v := 8) dX5_back_25 (by decide) ?_
    refine N.icmp_ge (tgt := 66) dX5_back_27 (by decide) (fun c27 => ?_) (fun c27 => absurd (by decide) c27)
    refine N.iconst (v := 1) dX5_back_66 (by decide) ?_
    exact N.iret dX5_back_67 rfl (Nat.zero_le _) (Nat.zero_le _) ⟨_, rfl, hP⟩
  | succ nn ih =>
    intro k hk
    have ihk := ih (k + 1) (by omega)
    rw [bkS] at ihk
    refine N.iload1 dX5_back_24 ?_
    refine N.bipush (v := 8) dX5_back_25 (by decide) ?_
    refine N.icmp_ge (tgt := 66) dX5_back_27 (by decide) (fun c27 => absurd c27 (nI_ge (a := k) (b := 8) (by omega) (by omega))) (fun c27 => ?_)
    refine N.aload0 dX5_back_30 ?_
    refine N.getf dX5_back_31 flX5_7 mO rfl ?_
    refine N.iload1 dX5_back_34 ?_
    refine N.iald dX5_back_35 mH0 (nI8 (by omega)) ?_
    refine N.iconst (v := 2) dX5_back_36 (by decide) ?_
    refine N.icmp_ne (tgt := 60) dX5_back_37 (by decide) (fun c37 => ?_) (fun c37 => ?_)
    · refine N.iinc1 dX5_back_60 rfl (nI_inc _) ?_
      refine N.goto (tgt := 24) dX5_back_63 (by decide) ?_
      rw [if_neg c37] at ihk
      exact ihk
    · refine N.aload0 dX5_back_40 ?_
      refine N.getf dX5_back_41 flX5_28 mO rfl ?_
      refine N.iload1 dX5_back_44 ?_
      refine N.iald dX5_back_45 mH3 (nI8 (by omega)) ?_
      refine N.aload0 dX5_back_46 ?_
      refine N.getf dX5_back_47 flX5_74 mO rfl ?_
      refine N.icmp_lt (tgt := 60) dX5_back_50 (by decide) (fun c50 => ?_) (fun c50 => ?_)
      · refine N.iinc1 dX5_back_60 rfl (nI_inc _) ?_
        refine N.goto (tgt := 24) dX5_back_63 (by decide) ?_
        rw [if_pos c37, if_pos c50] at ihk
        exact ihk
      · refine N.aload0 dX5_back_53 ?_
        refine N.getf dX5_back_54 flX5_7 mO rfl ?_
        refine N.iload1 dX5_back_57 ?_
        refine N.iconst (v := 0) dX5_back_58 (by decide) ?_
        refine N.iast dX5_back_59 mH0 (nI8 (by omega)) mHK0 ?_
        refine N.iinc1 dX5_back_60 rfl (nI_inc _) ?_
        refine N.goto (tgt := 24) dX5_back_63 (by decide) ?_
        rw [if_pos c37, if_neg c50] at ihk
        exact ihk
def bkE (u : CV) (e : M5) : M5 := (e.1, bkS u e.2.1 8, e.2.2)
theorem back_w {K : Kx} {w : Wd} {b : Nat} {u : CV} {e : M5} {t : Option Nat} {B : Nat → Nat → Int32} (hB : bkS u e.2.1 8 = B) : putM K w b (u, (wt e t).1, B, (wt e t).2.2) = putM K w b (u, wt (bkE u e) t) := by
  rw [show bkE u e = (e.1, B, e.2.2) by rw [bkE, hB]]
set_option maxRecDepth 100000 in
theorem back_s {K : Kx} (w : Wd) (b sz : Nat) (v : CV) (e : M5) (t : Option Nat) (z : MX) (k0 : Nat) (kz : MX) (ek : e.2.2.2.2 = some k0) (hb : ap25 k0 b) (hq : ∀ q, t = some q → ap25 k0 q) : Sp K mX5_back 9 0 0 [.ref b] (putM K (tw K (putM K w k0 kz) t z) b (v, wt e t)) sz (Qi fun r w' sz' => r = 1 ∧ w' = putM K (tw K (putM K w k0 kz) t z) b (kz.1, wt (bkE kz.1 e) t) ∧ sz' = sz) := by
  refine Sp.ofN [some (.ref b), none] rfl rfl rfl (Nat.le_of_ble_eq_true rfl) ?_
  obtain ⟨e1, e2, e3, e4, e5⟩ := e
  obtain rfl : e5 = some k0 := ek
  obtain ⟨u, E2⟩ := kz
  refine N.eqW (congrArg (fun z_ => putM K z_ b (v, wt (e1, e2, e3, e4, some k0) t)) (tw_sw hq)) ?_
  refine N.aload0 dX5_back_0 ?_
  refine N.getf (v := .ref k0) dX5_back_1 flX5_385 mO rfl ?_
  refine N.ifnonnull (tgt := 14) dX5_back_4 (by decide) ?_
  refine N.aload0 dX5_back_14 ?_
  refine N.aload0 dX5_back_15 ?_
  refine N.getf (v := .ref k0) dX5_back_16 flX5_385 mO rfl ?_
  refine N.vv1 dX5_back_19 vX5_takeFrom lkX5_244 (Sp.tkB (G := fun _ => True) ⟨hb, trivial⟩) mO rfl (Nat.le_of_ble_eq_true rfl) (Nat.le_of_ble_eq_true rfl) (Nat.le_of_ble_eq_true rfl) (Nat.le_of_ble_eq_true rfl) ?_
  rintro _ _ ⟨rfl, rfl⟩
  refine N.iconst (v := 0) dX5_back_22 (by decide) ?_
  refine N.istore1 dX5_back_23 rfl ?_
  obtain ⟨B, hB⟩ : ∃ B, bkS u e2 8 = B := ⟨_, rfl⟩
  exact N.wk (by exact ⟨rfl, rfl, trivial⟩) (l_X5_back _ b _ u (wt (e1, e2, e3, e4, some k0) t) _ _ B hB _ ⟨rfl, by rw [tw_sw hq]; exact back_w (e := (e1, e2, e3, e4, some k0)) hB, rfl⟩ 8 0 (by omega))
set_option maxRecDepth 100000 in
theorem back_n {K : Kx} (w : Wd) (b sz : Nat) (v : CV) (e : M5) (t : Option Nat) (z : MX) (ek : e.2.2.2.2 = none) (ht : tOk G b sz t) : Sp K mX5_back 9 0 0 [.ref b] (putM K (tw K w t z) b (v, wt e t)) sz (Qi fun r w' sz' => r = (rm (v, e) (-5)).1 ∧ w' = putM K (tw K w t z) b ((rm (v, e) (-5)).2.1, wt (rm (v, e) (-5)).2.2 t) ∧ sz' = sz) := by
  refine Sp.ofN [some (.ref b), none] rfl rfl rfl (Nat.le_of_ble_eq_true rfl) ?_
  obtain ⟨e1, e2, e3, e4, e5⟩ := e
  obtain rfl : e5 = none := ek
  refine N.aload0 dX5_back_0 ?_
  refine N.getf (v := .null) dX5_back_1 flX5_385 mO rfl ?_
  refine N.ifnonnullN dX5_back_4 ?_
  refine N.aload0 dX5_back_7 ?_
  refine N.bipush (v := -5) dX5_back_8 (by decide) ?_
  refine N.vi1 dX5_back_10 vX5_refuse lkX5_89 (s_X5_refuse _ _ _ _ _ _ rfIn5) mO rfl (Nat.le_of_ble_eq_true rfl) (Nat.le_of_ble_eq_true rfl) (Nat.zero_le _) (Nat.zero_le _) ?_
  rintro _ _ _ ⟨rfl, rfl, rfl⟩
  exact N.iret dX5_back_13 rfl (Nat.zero_le _) (Nat.zero_le _) ⟨_, rfl, ⟨rfl, by rw [reE_wt]; rfl, rfl⟩⟩
