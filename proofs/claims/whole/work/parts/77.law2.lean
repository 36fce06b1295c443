theorem rel_1 {x x' : XV} (e : rel x' = rel x) : x'.1 0 = x.1 0 ∧ x'.1 2 = x.1 2 ∧ x'.2.2.2.2.2 = x.2.2.2.2.2 := ⟨congrArg (fun q => q.1) e, congrArg (fun q => q.2.1) e, congrArg (fun q => q.2.2.2.2.2) e⟩
theorem im_2 {x : XV} : (ximage x).2.1 2 = x.1 0 ∧ (ximage x).2.2.2.2.2.2 = 1 := by
  refine ⟨?_, rfl⟩
  show (if (2 : Nat) = 2 then x.1 0 else x.1 2) = x.1 0
  exact if_pos rfl
theorem kp_e {e : M5} {k : Option Nat} (h : e.2.2.2.2 = k) : kpE e k = e := by
  subst h; rfl
set_option maxRecDepth 100000 in
theorem cs_image {K : Kx} {w0 : Wd} {s0 a b i L mc ms sz cc ss : Nat} {Q : Qx} {xs : Nat → Int32} {x : XV} {m : Mst} {k : Option Nat} {kz : MX} {t : Option Nat} {z : MX} (hT : va_T .int s0 L (fun j => .int (xs j)) (fr K) (kS K) (kS K).heap) (hL : L ≤ 3072) (hi : i + 6 ≤ L) (hI : LI a b sz x m k kz t) (hcc : cc + 50 ≤ mc) (hss : ss + 1510 ≤ ms) (hK : CK K w0 s0 a b i mc ms Q cc ss) : N K mL_law 2048 mc ms Q 1633 (LL s0 a b i) [] (LM K w0 a x b m k kz t z) sz cc ss := by
  refine N.eqW (hI.toX x).symm ?_
  obtain ⟨h1, h2, h3, h4, h5, h6, h7, h8, h9⟩ := id hI
  cases k with
  | none =>
    refine N.aload1 dL_law_1633 ?_
    refine N.vi0 dL_law_1634 vX4_image lkL_207 (s_X4_image _ a _ x hI.okx) xO rfl (Nat.le_of_ble_eq_true rfl) (Nat.le_of_ble_eq_true rfl) (by omega) (by omega) ?_
    rintro _ _ _ ⟨rfl, rfl, x2, rfl, hx2⟩
    refine N.eqW (hI.toX x2) ?_
    refine N.aload2 dL_law_1637 ?_
    refine N.vi0A dL_law_1638 vX5_image lkL_210 (image_n _ b _ m.1 m.2 t z h6 hI.tok) mO rfl (Nat.le_of_ble_eq_true rfl) (Nat.le_of_ble_eq_true rfl) (by omega) (by omega) ?_
    rintro _ _ sz2 ⟨rfl, Ek, rfl, rfl, hb25, _⟩
    refine N.icmp_eq (tgt := 1682) dL_law_1641 (by decide) (fun c1641 => ?_) (fun c1641 => absurd rfl c1641)
    obtain ⟨e0, e2, e5⟩ := rel_1 hx2
    have hv : x2.1 2 = m.1 := e2.trans (im_2.1.trans h7.1)
    refine hK x2 (m.1, kpE m.2 (some _)) (some _) (m.1, Ek) t z _ _ _ ⟨h1, by omega, fun q hq => ⟨(h3 q hq).1, by have := (h3 q hq).2; omega⟩, fun q hq => by cases hq; exact ⟨hb25, Nat.le_refl _⟩, fun q p hq hp => by cases hp; exact Or.inr (h3 q hq).2, rfl, (R_image h7 _).rel hx2, by rw [hv]; exact h7.2.1.ok, Or.inr ⟨by rw [e5, im_2.2]; decide, ⟨_, rfl⟩, hv.symm, by rw [hv]; exact h7.2.1⟩⟩ (by omega) (by omega)
  | some k0 =>
    refine N.aload1 dL_law_1633 ?_
    refine N.vi0 dL_law_1634 vX4_image lkL_207 (s_X4_image _ a _ x hI.okx) xO rfl (Nat.le_of_ble_eq_true rfl) (Nat.le_of_ble_eq_true rfl) (by omega) (by omega) ?_
    rintro _ _ _ ⟨rfl, rfl, x2, rfl, hx2⟩
    refine N.eqW (hI.toX x2) ?_
    refine N.aload2 dL_law_1637 ?_
    refine N.vi0 dL_law_1638 vX5_image lkL_210 (image_s _ b _ m.1 m.2 t z k0 kz h6 (Or.inr (h4 k0 rfl).1) (fun q hq => h5 q k0 hq rfl)) mO rfl (Nat.le_of_ble_eq_true rfl) (Nat.le_of_ble_eq_true rfl) (by omega) (by omega) ?_
    rintro _ _ sz2 ⟨rfl, rfl, rfl⟩
    refine N.icmp_eq (tgt := 1682) dL_law_1641 (by decide) (fun c1641 => ?_) (fun c1641 => absurd rfl c1641)
    obtain ⟨e0, e2, e5⟩ := rel_1 hx2
    have hv : x2.1 2 = m.1 := e2.trans (im_2.1.trans h7.1)
    have hr := (R_image h7 (some k0)).rel hx2
    rw [kp_e h6] at hr
    exact hK x2 m (some k0) (m.1, kz.2) t z _ _ _ ⟨h1, h2, h3, h4, h5, h6, hr, by rw [hv]; exact h7.2.1.ok, Or.inr ⟨by rw [e5, im_2.2]; decide, ⟨_, rfl⟩, hv.symm, by rw [hv]; exact h7.2.1⟩⟩ (by omega) (by omega)
set_option maxRecDepth 100000 in
theorem cs_back {K : Kx} {w0 : Wd} {s0 a b i L mc ms sz cc ss : Nat} {Q : Qx} {xs : Nat → Int32} {x : XV} {m : Mst} {k : Option Nat} {kz : MX} {t : Option Nat} {z : MX} (hT : va_T .int s0 L (fun j => .int (xs j)) (fr K) (kS K) (kS K).heap) (hL : L ≤ 3072) (hi : i + 6 ≤ L) (hI : LI a b sz x m k kz t) (hcc : cc + 50 ≤ mc) (hss : ss + 1510 ≤ ms) (hK : CK K w0 s0 a b i mc ms Q cc ss) : N K mL_law 2048 mc ms Q 1646 (LL s0 a b i) [] (LM K w0 a x b m k kz t z) sz cc ss := by
  refine N.eqW (hI.toX x).symm ?_
  obtain ⟨h1, h2, h3, h4, h5, h6, h7, h8, h9⟩ := id hI
  rcases h9 with ⟨k1, k2⟩ | ⟨k1, ⟨k0, k2⟩, k3, k4⟩
  · subst k2
    have eX : xback x = rf x (-5) := by rw [xback, if_pos k1]
    refine N.aload1 dL_law_1646 ?_
    refine N.vi0 dL_law_1647 vX4_back lkL_211 (s_X4_back _ a _ x hI.okx) xO rfl (Nat.le_of_ble_eq_true rfl) (Nat.le_of_ble_eq_true rfl) (by omega) (by omega) ?_
    rintro _ _ _ ⟨rfl, rfl, x2, rfl, hx2⟩
    refine N.eqW (hI.toX x2) ?_
    refine N.aload2 dL_law_1650 ?_
    refine N.vi0 dL_law_1651 vX5_back lkL_214 (back_n _ b _ m.1 m.2 t z h6 hI.tok) mO rfl (Nat.le_of_ble_eq_true rfl) (Nat.le_of_ble_eq_true rfl) (by omega) (by omega) ?_
    rintro _ _ sz2 ⟨rfl, rfl, rfl⟩
    refine N.icmp_eq (tgt := 1682) dL_law_1654 (by decide) (fun c1654 => ?_) (fun c1654 => absurd (by rw [eX]; exact (R_f5 h7).1) c1654)
    rw [eX] at hx2
    exact hK _ _ none kz t z _ _ _ (hI.step (R_f5 h7) hx2 hI.tok (Nat.le_refl _) (fun q hq => (h3 q hq).2)) (by omega) (by omega)
  · subst k2
    have eX : xback x = (1, bkTo (setR x 0 (x.1 2)) 8) := by rw [xback, if_neg k1]
    obtain ⟨b1, b2, b3⟩ := R_back h7 k4
    generalize bkTo (setR x 0 (x.1 2)) 8 = X at eX b1 b2 b3
    refine N.aload1 dL_law_1646 ?_
    refine N.vi0 dL_law_1647 vX4_back lkL_211 (s_X4_back _ a _ x hI.okx) xO rfl (Nat.le_of_ble_eq_true rfl) (Nat.le_of_ble_eq_true rfl) (by omega) (by omega) ?_
    rintro _ _ _ ⟨rfl, rfl, x2, rfl, hx2⟩
    refine N.eqW (hI.toX x2) ?_
    refine N.aload2 dL_law_1650 ?_
    refine N.vi0 dL_law_1651 vX5_back lkL_214 (back_s _ b _ m.1 m.2 t z k0 kz h6 (Or.inr (h4 k0 rfl).1) (fun q hq => h5 q k0 hq rfl)) mO rfl (Nat.le_of_ble_eq_true rfl) (Nat.le_of_ble_eq_true rfl) (by omega) (by omega) ?_
    rintro _ _ sz2 ⟨rfl, rfl, rfl⟩
    refine N.icmp_eq (tgt := 1682) dL_law_1654 (by decide) (fun c1654 => ?_) (fun c1654 => absurd (by rw [eX]) c1654)
    rw [eX] at hx2
    obtain ⟨e0, e2, e5⟩ := rel_1 hx2
    rw [k3]
    have e6 : x2.2.2.2.2.2 = x.2.2.2.2.2 := e5.trans (congrArg (fun q => q.2.2) b3)
    exact hK x2 (x.1 2, bkE (x.1 2) m.2) (some k0) kz t z _ _ _ ⟨h1, h2, h3, h4, h5, h6, b1.rel hx2, by rw [e2, b2]; exact h8, Or.inr ⟨by rw [e6]; exact k1, ⟨_, rfl⟩, by rw [e2, b2]; exact k3, by rw [e2, b2]; exact k4⟩⟩ (by omega) (by omega)
set_option maxRecDepth 100000 in
theorem law_go {K : Kx} {w0 : Wd} {s0 a b i mc ms sz cc ss nn : Nat} {Q : Qx} {x : XV} {m : Mst} {k : Option Nat} {kz : MX} {t : Option Nat} {z : MX} (hI : LI a b sz x m k kz t) (hcc : cc + 50 * nn ≤ mc) (hss : ss + 1510 * nn ≤ ms)
    (ih : ∀ (x : XV) (m : Mst) (k : Option Nat) (kz : MX) (t : Option Nat) (z : MX) (sz cc ss : Nat), LI a b sz x m k kz t → cc + 50 * nn ≤ mc → ss + 1510 * nn ≤ ms → N K mL_law 2048 mc ms Q 18 (LL s0 a b (i + 6)) [] (LM K w0 a x b m k kz t z) sz cc ss) : N K mL_law 2048 mc ms Q 1682 (LL s0 a b i) [] (LM K w0 a x b m k kz t z) sz cc ss := by
  refine N.iinc3 dL_law_1682 rfl (show nI i + Int32.ofInt 6 = nI (i + 6) from nI_add i 6) ?_
  refine N.goto (tgt := 18) dL_law_1685 (by decide) ?_
  exact ih x m k kz t z sz cc ss hI hcc hss
set_option maxRecDepth 100000 in
theorem l_law {K : Kx} {w0 : Wd} {s0 a b L mc ms : Nat} {xs : Nat → Int32} (hT : va_T .int s0 L (fun j => .int (xs j)) (fr K) (kS K) (kS K).heap) (hL : L ≤ 3072) : ∀ (nn i : Nat) (x : XV) (m : Mst) (k : Option Nat) (kz : MX) (t : Option Nat) (z : MX) (sz cc ss : Nat), i + 6 * nn ≤ L → L < i + 6 * nn + 6 → LI a b sz x m k kz t → cc + 50 * nn ≤ mc → ss + 1510 * nn ≤ ms → N K mL_law 2048 mc ms (Qi fun r _ _ => r = 1) 18 (LL s0 a b i) [] (LM K w0 a x b m k kz t z) sz cc ss := by
  intro nn
  induction nn with
  | zero =>
    intro i x m k kz t z sz cc ss h1 h2 hI hcc hss
    refine N.iload3 dL_law_18 ?_
    refine N.aload0 dL_law_19 ?_
    refine N.alenT dL_law_20 (fun _ => hT) ?_
    refine N.bipush (v := 6) dL_law_21 (by decide) ?_
    refine N.isub dL_law_23 ?_
    refine N.icmp_gt (tgt := 1688) dL_law_24 (by decide) (fun c24 => ?_) (fun c24 => absurd ?_ c24)
    · refine N.iconst (v := 1) dL_law_1688 (by decide) ?_
      exact N.zret dL_law_1689 rfl rfl (by omega) (by omega) ⟨_, rfl, rfl⟩
    · by_cases q : 6 ≤ L
      · rw [show nI L - 6 = nI (L - 6) from pk_sub (b := 6) q]; exact nI_lt (by omega) (by omega)
      · exact Int32.lt_of_lt_of_le (pk_sneg (b := 6) (by decide) (by omega)) (nI_pos' (by omega))
  | succ nn ih =>
    intro i x m k kz t z sz cc ss h1 h2 hI hcc hss
    have hi : i + 6 ≤ L := by omega
    have hK : CK K w0 s0 a b i mc ms (Qi fun r _ _ => r = 1) cc ss := fun x' m' k' kz' t' z' sz' cc' ss' hI' c1 c2 => law_go (nn := nn) hI' (by omega) (by omega) (fun x m k kz t z sz cc ss hI hcc hss => ih (i + 6) x m k kz t z sz cc ss (by omega) (by omega) hI hcc hss)
    have hc5 : cc + 50 ≤ mc := by omega
    have hs5 : ss + 1510 ≤ ms := by omega
    refine N.iload3 dL_law_18 ?_
    refine N.aload0 dL_law_19 ?_
    refine N.alenT dL_law_20 (fun _ => hT) ?_
    refine N.bipush (v := 6) dL_law_21 (by decide) ?_
    refine N.isub dL_law_23 ?_
    refine N.icmp_gt (tgt := 1688) dL_law_24 (by decide) (fun c24 => absurd c24 ?_) (fun c24 => ?_)
    · rw [show nI L - 6 = nI (L - 6) from pk_sub (b := 6) (by omega)]; exact nI_nlt (by omega) (by omega)
    refine N.aload0 dL_law_27 ?_
    refine N.iload3 dL_law_28 ?_
    refine N.ialdT dL_law_29 (fun _ => hT) (vp_in_nI (by omega) (by omega)) ?_
    refine N.bipush (v := 63) dL_law_30 (by decide) ?_
    refine N.iand dL_law_32 ?_
    refine N.swc 0 (fun q0 => ?_) (fun q0 => ?_)
    · refine N.tsIn (off := 211) (tgt := 244) 0 q0 dL_law_33 (by decide) (by decide) (by decide) (by decide) ?_
      exact cs_row hT hL hi hI hc5 hs5 hK
    refine N.swc 1 (fun q1 => ?_) (fun q1 => ?_)
    · refine N.tsIn (off := 254) (tgt := 287) 1 q1 dL_law_33 (by decide) (by decide) (by decide) (by decide) ?_
      exact cs_set hT hL hi hI hc5 hs5 hK
    refine N.swc 2 (fun q2 => ?_) (fun q2 => ?_)
    · refine N.tsIn (off := 327) (tgt := 360) 2 q2 dL_law_33 (by decide) (by decide) (by decide) (by decide) ?_
      exact cs_copy hT hL hi hI hc5 hs5 hK
    refine N.swc 3 (fun q3 => ?_) (fun q3 => ?_)
    · refine N.tsIn (off := 390) (tgt := 423) 3 q3 dL_law_33 (by decide) (by decide) (by decide) (by decide) ?_
      exact cs_element hT hL hi hI hc5 hs5 hK
    refine N.swc 4 (fun q4 => ?_) (fun q4 => ?_)
    · refine N.tsIn (off := 424) (tgt := 457) 4 q4 dL_law_33 (by decide) (by decide) (by decide) (by decide) ?_
      exact cs_holds hT hL hi hI hc5 hs5 hK
    refine N.swc 5 (fun q5 => ?_) (fun q5 => ?_)
    · refine N.tsIn (off := 447) (tgt := 480) 5 q5 dL_law_33 (by decide) (by decide) (by decide) (by decide) ?_
      exact cs_show hT hL hi hI hc5 hs5 hK
    refine N.swc 6 (fun q6 => ?_) (fun q6 => ?_)
    · refine N.tsIn (off := 480) (tgt := 513) 6 q6 dL_law_33 (by decide) (by decide) (by decide) (by decide) ?_
      exact cs_says hT hL hi hI hc5 hs5 hK
    refine N.swc 7 (fun q7 => ?_) (fun q7 => ?_)
    · refine N.tsIn (off := 513) (tgt := 546) 7 q7 dL_law_33 (by decide) (by decide) (by decide) (by decide) ?_
      exact cs_player hT hL hi hI hc5 hs5 hK
    refine N.swc 8 (fun q8 => ?_) (fun q8 => ?_)
    · refine N.tsIn (off := 556) (tgt := 589) 8 q8 dL_law_33 (by decide) (by decide) (by decide) (by decide) ?_
      exact cs_tell hT hL hi hI hc5 hs5 hK
    refine N.swc 9 (fun q9 => ?_) (fun q9 => ?_)
    · refine N.tsIn (off := 599) (tgt := 632) 9 q9 dL_law_33 (by decide) (by decide) (by decide) (by decide) ?_
      exact cs_line hT hL hi hI hc5 hs5 hK
    refine N.swc 10 (fun q10 => ?_) (fun q10 => ?_)
    · refine N.tsIn (off := 632) (tgt := 665) 10 q10 dL_law_33 (by decide) (by decide) (by decide) (by decide) ?_
      exact cs_ask hT hL hi hI hc5 hs5 hK
    refine N.swc 11 (fun q11 => ?_) (fun q11 => ?_)
    · refine N.tsIn (off := 665) (tgt := 698) 11 q11 dL_law_33 (by decide) (by decide) (by decide) (by decide) ?_
      exact cs_feed hT hL hi hI hc5 hs5 hK
    refine N.swc 12 (fun q12 => ?_) (fun q12 => ?_)
    · refine N.tsIn (off := 688) (tgt := 721) 12 q12 dL_law_33 (by decide) (by decide) (by decide) (by decide) ?_
      exact cs_wipe hT hL hi hI hc5 hs5 hK
    refine N.swc 13 (fun q13 => ?_) (fun q13 => ?_)
    · refine N.tsIn (off := 701) (tgt := 734) 13 q13 dL_law_33 (by decide) (by decide) (by decide) (by decide) ?_
      exact cs_rink hT hL hi hI hc5 hs5 hK
    refine N.swc 14 (fun q14 => ?_) (fun q14 => ?_)
    · refine N.tsIn (off := 714) (tgt := 747) 14 q14 dL_law_33 (by decide) (by decide) (by decide) (by decide) ?_
      exact cs_playerOf hT hL hi hI hc5 hs5 hK
    refine N.swc 15 (fun q15 => ?_) (fun q15 => ?_)
    · refine N.tsIn (off := 747) (tgt := 780) 15 q15 dL_law_33 (by decide) (by decide) (by decide) (by decide) ?_
      exact cs_lineOf hT hL hi hI hc5 hs5 hK
    refine N.swc 16 (fun q16 => ?_) (fun q16 => ?_)
    · refine N.tsIn (off := 780) (tgt := 813) 16 q16 dL_law_33 (by decide) (by decide) (by decide) (by decide) ?_
      exact cs_power hT hL hi hI hc5 hs5 hK
    refine N.swc 17 (fun q17 => ?_) (fun q17 => ?_)
    · refine N.tsIn (off := 793) (tgt := 826) 17 q17 dL_law_33 (by decide) (by decide) (by decide) (by decide) ?_
      exact cs_odds hT hL hi hI hc5 hs5 hK
    refine N.swc 18 (fun q18 => ?_) (fun q18 => ?_)
    · refine N.tsIn (off := 816) (tgt := 849) 18 q18 dL_law_33 (by decide) (by decide) (by decide) (by decide) ?_
      exact cs_way hT hL hi hI hc5 hs5 hK
    refine N.swc 19 (fun q19 => ?_) (fun q19 => ?_)
    · refine N.tsIn (off := 839) (tgt := 872) 19 q19 dL_law_33 (by decide) (by decide) (by decide) (by decide) ?_
      exact cs_behind hT hL hi hI hc5 hs5 hK
    refine N.swc 20 (fun q20 => ?_) (fun q20 => ?_)
    · refine N.tsIn (off := 872) (tgt := 905) 20 q20 dL_law_33 (by decide) (by decide) (by decide) (by decide) ?_
      exact cs_gains hT hL hi hI hc5 hs5 hK
    refine N.swc 21 (fun q21 => ?_) (fun q21 => ?_)
    · refine N.tsIn (off := 895) (tgt := 928) 21 q21 dL_law_33 (by decide) (by decide) (by decide) (by decide) ?_
      exact cs_tiredest hT hL hi hI hc5 hs5 hK
    refine N.swc 22 (fun q22 => ?_) (fun q22 => ?_)
    · refine N.tsIn (off := 918) (tgt := 951) 22 q22 dL_law_33 (by decide) (by decide) (by decide) (by decide) ?_
      exact cs_fresh hT hL hi hI hc5 hs5 hK
    refine N.swc 23 (fun q23 => ?_) (fun q23 => ?_)
    · refine N.tsIn (off := 951) (tgt := 984) 23 q23 dL_law_33 (by decide) (by decide) (by decide) (by decide) ?_
      exact cs_third hT hL hi hI hc5 hs5 hK
    refine N.swc 24 (fun q24 => ?_) (fun q24 => ?_)
    · refine N.tsIn (off := 974) (tgt := 1007) 24 q24 dL_law_33 (by decide) (by decide) (by decide) (by decide) ?_
      exact cs_theirsFor hT hL hi hI hc5 hs5 hK
    refine N.swc 25 (fun q25 => ?_) (fun q25 => ?_)
    · refine N.tsIn (off := 997) (tgt := 1030) 25 q25 dL_law_33 (by decide) (by decide) (by decide) (by decide) ?_
      exact cs_five hT hL hi hI hc5 hs5 hK
    refine N.swc 26 (fun q26 => ?_) (fun q26 => ?_)
    · refine N.tsIn (off := 1010) (tgt := 1043) 26 q26 dL_law_33 (by decide) (by decide) (by decide) (by decide) ?_
      exact cs_two hT hL hi hI hc5 hs5 hK
    refine N.swc 27 (fun q27 => ?_) (fun q27 => ?_)
    · refine N.tsIn (off := 1053) (tgt := 1086) 27 q27 dL_law_33 (by decide) (by decide) (by decide) (by decide) ?_
      exact cs_shifts hT hL hi hI hc5 hs5 hK
    refine N.swc 28 (fun q28 => ?_) (fun q28 => ?_)
    · refine N.tsIn (off := 1086) (tgt := 1119) 28 q28 dL_law_33 (by decide) (by decide) (by decide) (by decide) ?_
      exact cs_bestShift hT hL hi hI hc5 hs5 hK
    refine N.swc 29 (fun q29 => ?_) (fun q29 => ?_)
    · refine N.tsIn (off := 1109) (tgt := 1142) 29 q29 dL_law_33 (by decide) (by decide) (by decide) (by decide) ?_
      exact cs_changeNow hT hL hi hI hc5 hs5 hK
    refine N.swc 30 (fun q30 => ?_) (fun q30 => ?_)
    · refine N.tsIn (off := 1142) (tgt := 1175) 30 q30 dL_law_33 (by decide) (by decide) (by decide) (by decide) ?_
      exact cs_where hT hL hi hI hc5 hs5 hK
    refine N.swc 31 (fun q31 => ?_) (fun q31 => ?_)
    · refine N.tsIn (off := 1175) (tgt := 1208) 31 q31 dL_law_33 (by decide) (by decide) (by decide) (by decide) ?_
      exact cs_meets hT hL hi hI hc5 hs5 hK
    refine N.swc 32 (fun q32 => ?_) (fun q32 => ?_)
    · refine N.tsIn (off := 1208) (tgt := 1241) 32 q32 dL_law_33 (by decide) (by decide) (by decide) (by decide) ?_
      exact cs_match hT hL hi hI hc5 hs5 hK
    refine N.swc 33 (fun q33 => ?_) (fun q33 => ?_)
    · refine N.tsIn (off := 1251) (tgt := 1284) 33 q33 dL_law_33 (by decide) (by decide) (by decide) (by decide) ?_
      exact cs_pull hT hL hi hI hc5 hs5 hK
    refine N.swc 34 (fun q34 => ?_) (fun q34 => ?_)
    · refine N.tsIn (off := 1284) (tgt := 1317) 34 q34 dL_law_33 (by decide) (by decide) (by decide) (by decide) ?_
      exact cs_minutes hT hL hi hI hc5 hs5 hK
    refine N.swc 35 (fun q35 => ?_) (fun q35 => ?_)
    · refine N.tsIn (off := 1307) (tgt := 1340) 35 q35 dL_law_33 (by decide) (by decide) (by decide) (by decide) ?_
      exact cs_penalty hT hL hi hI hc5 hs5 hK
    refine N.swc 36 (fun q36 => ?_) (fun q36 => ?_)
    · refine N.tsIn (off := 1330) (tgt := 1363) 36 q36 dL_law_33 (by decide) (by decide) (by decide) (by decide) ?_
      exact cs_judge hT hL hi hI hc5 hs5 hK
    refine N.swc 37 (fun q37 => ?_) (fun q37 => ?_)
    · refine N.tsIn (off := 1363) (tgt := 1396) 37 q37 dL_law_33 (by decide) (by decide) (by decide) (by decide) ?_
      exact cs_booked hT hL hi hI hc5 hs5 hK
    refine N.swc 38 (fun q38 => ?_) (fun q38 => ?_)
    · refine N.tsIn (off := 1416) (tgt := 1449) 38 q38 dL_law_33 (by decide) (by decide) (by decide) (by decide) ?_
      exact cs_best hT hL hi hI hc5 hs5 hK
    refine N.swc 39 (fun q39 => ?_) (fun q39 => ?_)
    · refine N.tsIn (off := 1439) (tgt := 1472) 39 q39 dL_law_33 (by decide) (by decide) (by decide) (by decide) ?_
      exact cs_rests hT hL hi hI hc5 hs5 hK
    refine N.swc 40 (fun q40 => ?_) (fun q40 => ?_)
    · refine N.tsIn (off := 1462) (tgt := 1495) 40 q40 dL_law_33 (by decide) (by decide) (by decide) (by decide) ?_
      exact cs_whistle hT hL hi hI hc5 hs5 hK
    refine N.swc 41 (fun q41 => ?_) (fun q41 => ?_)
    · refine N.tsIn (off := 1485) (tgt := 1518) 41 q41 dL_law_33 (by decide) (by decide) (by decide) (by decide) ?_
      exact cs_change hT hL hi hI hc5 hs5 hK
    refine N.swc 42 (fun q42 => ?_) (fun q42 => ?_)
    · refine N.tsIn (off := 1508) (tgt := 1541) 42 q42 dL_law_33 (by decide) (by decide) (by decide) (by decide) ?_
      exact cs_skate hT hL hi hI hc5 hs5 hK
    refine N.swc 43 (fun q43 => ?_) (fun q43 => ?_)
    · refine N.tsIn (off := 1531) (tgt := 1564) 43 q43 dL_law_33 (by decide) (by decide) (by decide) (by decide) ?_
      exact cs_game hT hL hi hI hc5 hs5 hK
    refine N.swc 44 (fun q44 => ?_) (fun q44 => ?_)
    · refine N.tsIn (off := 1554) (tgt := 1587) 44 q44 dL_law_33 (by decide) (by decide) (by decide) (by decide) ?_
      exact cs_pause hT hL hi hI hc5 hs5 hK
    refine N.swc 45 (fun q45 => ?_) (fun q45 => ?_)
    · refine N.tsIn (off := 1577) (tgt := 1610) 45 q45 dL_law_33 (by decide) (by decide) (by decide) (by decide) ?_
      exact cs_seed hT hL hi hI hc5 hs5 hK
    refine N.swc 46 (fun q46 => ?_) (fun q46 => ?_)
    · refine N.tsIn (off := 1600) (tgt := 1633) 46 q46 dL_law_33 (by decide) (by decide) (by decide) (by decide) ?_
      exact cs_image hT hL hi hI hc5 hs5 hK
    refine N.swc 47 (fun q47 => ?_) (fun q47 => ?_)
    · refine N.tsIn (off := 1613) (tgt := 1646) 47 q47 dL_law_33 (by decide) (by decide) (by decide) (by decide) ?_
      exact cs_back hT hL hi hI hc5 hs5 hK
    refine N.swc 48 (fun q48 => ?_) (fun q48 => ?_)
    · refine N.tsIn (off := 1626) (tgt := 1659) 48 q48 dL_law_33 (by decide) (by decide) (by decide) (by decide) ?_
      exact cs_status hT hL hi hI hc5 hs5 hK
    refine N.tsOut (tgt := 1682) dL_law_33 (by have h0 := sw_ne q0 (z := 0) (by decide); have h1 := sw_ne q1 (z := 1) (by decide); have h2 := sw_ne q2 (z := 2) (by decide); have h3 := sw_ne q3 (z := 3) (by decide); have h4 := sw_ne q4 (z := 4) (by decide); have h5 := sw_ne q5 (z := 5) (by decide); have h6 := sw_ne q6 (z := 6) (by decide); have h7 := sw_ne q7 (z := 7) (by decide); have h8 := sw_ne q8 (z := 8) (by decide); have h9 := sw_ne q9 (z := 9) (by decide); have h10 := sw_ne q10 (z := 10) (by decide); have h11 := sw_ne q11 (z := 11) (by decide); have h12 := sw_ne q12 (z := 12) (by decide); have h13 := sw_ne q13 (z := 13) (by decide); have h14 := sw_ne q14 (z := 14) (by decide); have h15 := sw_ne q15 (z := 15) (by decide); have h16 := sw_ne q16 (z := 16) (by decide); have h17 := sw_ne q17 (z := 17) (by decide); have h18 := sw_ne q18 (z := 18) (by decide); have h19 := sw_ne q19 (z := 19) (by decide); have h20 := sw_ne q20 (z := 20) (by decide); have h21 := sw_ne q21 (z := 21) (by decide); have h22 := sw_ne q22 (z := 22) (by decide); have h23 := sw_ne q23 (z := 23) (by decide); have h24 := sw_ne q24 (z := 24) (by decide); have h25 := sw_ne q25 (z := 25) (by decide); have h26 := sw_ne q26 (z := 26) (by decide); have h27 := sw_ne q27 (z := 27) (by decide); have h28 := sw_ne q28 (z := 28) (by decide); have h29 := sw_ne q29 (z := 29) (by decide); have h30 := sw_ne q30 (z := 30) (by decide); have h31 := sw_ne q31 (z := 31) (by decide); have h32 := sw_ne q32 (z := 32) (by decide); have h33 := sw_ne q33 (z := 33) (by decide); have h34 := sw_ne q34 (z := 34) (by decide); have h35 := sw_ne q35 (z := 35) (by decide); have h36 := sw_ne q36 (z := 36) (by decide); have h37 := sw_ne q37 (z := 37) (by decide); have h38 := sw_ne q38 (z := 38) (by decide); have h39 := sw_ne q39 (z := 39) (by decide); have h40 := sw_ne q40 (z := 40) (by decide); have h41 := sw_ne q41 (z := 41) (by decide); have h42 := sw_ne q42 (z := 42) (by decide); have h43 := sw_ne q43 (z := 43) (by decide); have h44 := sw_ne q44 (z := 44) (by decide); have h45 := sw_ne q45 (z := 45) (by decide); have h46 := sw_ne q46 (z := 46) (by decide); have h47 := sw_ne q47 (z := 47) (by decide); have h48 := sw_ne q48 (z := 48) (by decide); omega) (by decide) ?_
    exact hK x m k kz t z sz cc ss hI (by omega) (by omega)
