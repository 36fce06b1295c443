def mayF (v : CV) (s : Int32) : Nat → Nat → Int32
  | _, 0 => 1
  | k, n + 1 => if spellsF s (nI k) < 0 then 0 else if spellsF s (nI k) ≤ 0 then mayF v s (k + 1) n else if hasPlF v (nI k) = 0 then 0 else mayF v s (k + 1) n
def gsh (v : CV) (s : Int32) : Nat → CV × Int32
  | 0 => (v, 0)
  | k + 1 => if spellsF s (nI k) ≤ 0 then gsh v s k else (oursV (putOnV (gsh v s k).1 ((gsh v s k).1.2 4 (nI k).toNatClampNeg)) (spellsF s (nI k) * 40), (gsh v s k).2 + gainsF (putOnV (gsh v s k).1 ((gsh v s k).1.2 4 (nI k).toNatClampNeg)) (spellsF s (nI k) * 40))
theorem gsh_ok {v : CV} {s : Int32} (h : okP v) : ∀ k, okP (gsh v s k).1
  | 0 => h
  | k + 1 => by
    rw [gsh]
    split
    · exact gsh_ok h k
    · exact ((gsh_ok h k).on _).oursV _
theorem gsh_t {v : CV} {s : Int32} {k : Nat} (c : spellsF s (nI k) ≤ 0) : gsh v s (k + 1) = gsh v s k := if_pos c
theorem gsh_f {v : CV} {s : Int32} {k : Nat} (c : ¬ spellsF s (nI k) ≤ 0) : gsh v s (k + 1) = (oursV (putOnV (gsh v s k).1 ((gsh v s k).1.2 4 (nI k).toNatClampNeg)) (spellsF s (nI k) * 40), (gsh v s k).2 + gainsF (putOnV (gsh v s k).1 ((gsh v s k).1.2 4 (nI k).toNatClampNeg)) (spellsF s (nI k) * 40)) := if_neg c
theorem sp_le : ∀ S, S < 729 → ∀ k, k < 4 → spellsF (nI S) (nI k) ≤ 8 := by decide +kernel
theorem sp_n {S k : Nat} (hS : S < 729) (hk : k < 4) (c : ¬ spellsF (nI S) (nI k) ≤ 0) : ∃ t, t ≤ 600 ∧ spellsF (nI S) (nI k) * 40 = nI t := by
  have h8 := sp_le S hS k hk
  have h0 : ¬ spellsF (nI S) (nI k) < 0 := fun q => c (by
    rw [Int32.lt_iff_toInt_lt] at q
    rw [Int32.le_iff_toInt_le]
    omega)
  obtain ⟨j, hj, e⟩ := nI_of2 (M := 8) (n := 8) (by decide) h0 h8
  refine ⟨j * 40, by omega, ?_⟩
  rw [e]
  rcases (show j = 0 ∨ j = 1 ∨ j = 2 ∨ j = 3 ∨ j = 4 ∨ j = 5 ∨ j = 6 ∨ j = 7 ∨ j = 8 by omega) with rfl | rfl | rfl | rfl | rfl | rfl | rfl | rfl | rfl <;> decide
def mnP (v : CV) : Nat → Int32 × Int32 := pk (fun k => ¬ mayF v (nI k) 0 4 = 0) nI (fun k => (gsh v (nI k) 4).2)
def mnG (v : CV) (l : Int32) : Int32 := if l = -1 then (mnP v 729).2 else spellsF (mnP v 729).1 l
set_option maxRecDepth 100000 in
theorem l_X4_mayShare {K : Kx} (w : Wd) (a sz : Nat) (x : XV) (u : CV) (p : Int32 × Int32) (s R : Int32) : ∀ nn k, k + nn = 4 → mayF (x.1 0) s k nn = R → N K mX4_mayShare 3 0 0 (Qi fun r w' sz' => r = (R) ∧ w' = putU K w a (x) (u) (p) ∧ sz' = sz) 2 [some (.ref a), some (.int s), some (.int (nI k)), none] [] (putU K w a x u p) sz 0 0 := by
  intro nn
  induction nn with
  | zero =>
    intro k hk hR
    obtain rfl : k = 4 := by omega
    refine N.iload2 dX4_mayShare_2 ?_
    refine N.iconst (v := 4) dX4_mayShare_3 (by decide) ?_
    refine N.icmp_ge (tgt := 40) dX4_mayShare_4 (by decide) (fun c4 => ?_) (fun c4 => absurd (by decide) c4)
    refine N.iconst (v := 1) dX4_mayShare_40 (by decide) ?_
    exact N.zret dX4_mayShare_41 rfl rfl (Nat.zero_le _) (Nat.zero_le _) ⟨_, rfl, ⟨hR, rfl, rfl⟩⟩
  | succ nn ih =>
    intro k hk hR
    refine N.iload2 dX4_mayShare_2 ?_
    refine N.iconst (v := 4) dX4_mayShare_3 (by decide) ?_
    refine N.icmp_ge (tgt := 40) dX4_mayShare_4 (by decide) (fun c4 => absurd c4 (nI_ge (a := k) (b := 4) (by omega) (by omega))) (fun c4 => ?_)
    refine N.iload1 dX4_mayShare_7 ?_
    refine N.iload2 dX4_mayShare_8 ?_
    refine N.si2 dX4_mayShare_9 vX4_spellsIn lkX4_295 (s_X4_spellsIn _ _ _ _) rfl (Nat.le_of_ble_eq_true rfl) (Nat.le_of_ble_eq_true rfl) (Nat.zero_le _) (Nat.zero_le _) ?_
    rintro _ _ _ ⟨rfl, rfl, rfl⟩
    refine N.istore3 dX4_mayShare_12 rfl ?_
    refine N.iload3 dX4_mayShare_13 ?_
    refine N.if_lt (tgt := 32) dX4_mayShare_14 (by decide) (fun c14 => ?_) (fun c14 => ?_)
    · refine N.iconst (v := 0) dX4_mayShare_32 (by decide) ?_
      exact N.zret dX4_mayShare_33 rfl rfl (Nat.zero_le _) (Nat.zero_le _) ⟨_, rfl, ⟨(by rw [← hR, mayF, if_pos c14]), rfl, rfl⟩⟩
    · refine N.iload3 dX4_mayShare_17 ?_
      refine N.if_le (tgt := 34) dX4_mayShare_18 (by decide) (fun c18 => ?_) (fun c18 => ?_)
      · refine N.iinc2 dX4_mayShare_34 rfl (nI_inc _) ?_
        refine N.goto (tgt := 2) dX4_mayShare_37 (by decide) ?_
        exact N.wk (by exact ⟨rfl, rfl, rfl, trivial⟩) (ih (k + 1) (by omega) (by rw [← hR, mayF, if_neg c14, if_pos c18]))
      · refine N.aload0 dX4_mayShare_21 ?_
        refine N.getf dX4_mayShare_22 flX4_10 yO rfl ?_
        refine N.iload2 dX4_mayShare_25 ?_
        refine N.vi1 dX4_mayShare_26 vX1_hasPlayers lkX4_208 (Sp.n0i fun W => s_X1_hasPlayers W _ _ _ _) yO0 rfl (Nat.le_of_ble_eq_true rfl) (Nat.le_of_ble_eq_true rfl) (Nat.zero_le _) (Nat.zero_le _) ?_
        rintro _ _ _ ⟨rfl, rfl, rfl⟩
        refine N.if_ne (tgt := 34) dX4_mayShare_29 (by decide) (fun c29 => ?_) (fun c29 => ?_)
        · refine N.iinc2 dX4_mayShare_34 rfl (nI_inc _) ?_
          refine N.goto (tgt := 2) dX4_mayShare_37 (by decide) ?_
          exact N.wk (by exact ⟨rfl, rfl, rfl, trivial⟩) (ih (k + 1) (by omega) (by rw [← hR, mayF, if_neg c14, if_neg c18, if_neg c29]))
        · refine N.iconst (v := 0) dX4_mayShare_32 (by decide) ?_
          exact N.zret dX4_mayShare_33 rfl rfl (Nat.zero_le _) (Nat.zero_le _) ⟨_, rfl, ⟨(by rw [← hR, mayF, if_neg c14, if_neg c18, if_pos c29]), rfl, rfl⟩⟩
set_option maxRecDepth 100000 in
theorem s_X4_mayShare {K : Kx} (w : Wd) (a sz : Nat) (x : XV) (u : CV) (p : Int32 × Int32) (s : Int32)  : Sp K mX4_mayShare 3 0 0 [.ref a, .int s] (putU K w a x u p) sz (Qi fun r w' sz' => r = (mayF (x.1 0) s 0 4) ∧ w' = putU K w a (x) (u) (p) ∧ sz' = sz) := by
  refine Sp.ofN [some (.ref a), some (.int s), none, none] rfl rfl rfl (Nat.le_of_ble_eq_true rfl) ?_
  refine N.iconst (v := 0) dX4_mayShare_0 (by decide) ?_
  refine N.istore2 dX4_mayShare_1 rfl ?_
  exact N.wk (by exact ⟨rfl, rfl, rfl, trivial⟩) (l_X4_mayShare w a _ x u p s _ 4 0 (by omega) rfl)
set_option maxRecDepth 100000 in
theorem l_X4_gainsOfShare {K : Kx} (w : Wd) (a sz : Nat) (x : XV) (p : Int32 × Int32) (S : Nat) (hS : S < 729) (h : okP (x.1 0)) : ∀ nn k, k + nn = 4 → N K mX4_gainsOfShare 6 0 0 (Qi fun r w' sz' => r = (gsh (x.1 0) (nI S) 4).2 ∧ sz' = sz ∧ ∃ u', w' = putU K w a x u' p) 15 [some (.ref a), some (.int (nI S)), some (.int (gsh (x.1 0) (nI S) k).2), some (.int (nI k)), none] [] (putU K w a x (gsh (x.1 0) (nI S) k).1 p) sz 0 0 := by
  intro nn
  induction nn with
  | zero =>
    intro k hk
    obtain rfl : k = 4 := by omega
    refine N.iload3 dX4_gainsOfShare_15 ?_
    refine N.iconst (v := 4) dX4_gainsOfShare_16 (by decide) ?_
    refine N.icmp_ge (tgt := 69) dX4_gainsOfShare_17 (by decide) (fun c17 => ?_) (fun c17 => absurd (by decide) c17)
    refine N.iload2 dX4_gainsOfShare_69 ?_
    exact N.iret dX4_gainsOfShare_70 rfl (Nat.zero_le _) (Nat.zero_le _) ⟨_, rfl, ⟨rfl, rfl, _, rfl⟩⟩
  | succ nn ih =>
    intro k hk
    refine N.iload3 dX4_gainsOfShare_15 ?_
    refine N.iconst (v := 4) dX4_gainsOfShare_16 (by decide) ?_
    refine N.icmp_ge (tgt := 69) dX4_gainsOfShare_17 (by decide) (fun c17 => absurd c17 (nI_ge (a := k) (b := 4) (by omega) (by omega))) (fun c17 => ?_)
    refine N.iload1 dX4_gainsOfShare_20 ?_
    refine N.iload3 dX4_gainsOfShare_21 ?_
    refine N.si2 dX4_gainsOfShare_22 vX4_spellsIn lkX4_295 (s_X4_spellsIn _ _ _ _) rfl (Nat.le_of_ble_eq_true rfl) (Nat.le_of_ble_eq_true rfl) (Nat.zero_le _) (Nat.zero_le _) ?_
    rintro _ _ _ ⟨rfl, rfl, rfl⟩
    refine N.istore4 dX4_gainsOfShare_25 rfl ?_
    refine N.iload4 dX4_gainsOfShare_27 ?_
    refine N.if_le (tgt := 63) dX4_gainsOfShare_29 (by decide) (fun c29 => ?_) (fun c29 => ?_)
    · refine N.iinc3 dX4_gainsOfShare_63 rfl (nI_inc _) ?_
      refine N.goto (tgt := 15) dX4_gainsOfShare_66 (by decide) ?_
      have eg := gsh_t c29 (v := x.1 0)
      exact N.eqW (by rw [eg]) (N.wk (by rw [eg]; exact ⟨rfl, rfl, rfl, rfl, trivial⟩) (ih (k + 1) (by omega)))
    · obtain ⟨t, ht, et⟩ := sp_n hS (by omega) c29
      refine N.aload0 dX4_gainsOfShare_32 ?_
      refine N.getf dX4_gainsOfShare_33 flX4_16 yO rfl ?_
      refine N.aload0 dX4_gainsOfShare_36 ?_
      refine N.getf dX4_gainsOfShare_37 flX4_16 yO rfl ?_
      refine N.getf dX4_gainsOfShare_40 flX4_142 yO1 rfl ?_
      refine N.iload3 dX4_gainsOfShare_43 ?_
      refine N.iald dX4_gainsOfShare_44 yA1_4 (in4 (by omega)) ?_
      refine N.vv1 dX4_gainsOfShare_45 vX1_putOn lkX4_256 (Sp.n1v fun W => s_X1_putOn W _ _ _ _) yO1 rfl (Nat.le_of_ble_eq_true rfl) (Nat.le_of_ble_eq_true rfl) (Nat.zero_le _) (Nat.zero_le _) ?_
      rintro _ _ ⟨rfl, rfl⟩
      refine N.iload2 dX4_gainsOfShare_48 ?_
      refine N.aload0 dX4_gainsOfShare_49 ?_
      refine N.getf dX4_gainsOfShare_50 flX4_16 yO rfl ?_
      refine N.iload4 dX4_gainsOfShare_53 ?_
      refine N.bipush (v := 40) dX4_gainsOfShare_55 (by decide) ?_
      refine N.imul dX4_gainsOfShare_57 ?_
      refine N.vi1 dX4_gainsOfShare_58 vX1_gainsIn lkX4_253 (Sp.n1i fun W => s_X1_gainsIn W _ _ _ _ t ht et ((gsh_ok h k).on _)) yO1 rfl (Nat.le_of_ble_eq_true rfl) (Nat.le_of_ble_eq_true rfl) (Nat.zero_le _) (Nat.zero_le _) ?_
      rintro _ _ _ ⟨rfl, rfl, rfl⟩
      refine N.iadd dX4_gainsOfShare_61 ?_
      refine N.istore2 dX4_gainsOfShare_62 rfl ?_
      refine N.iinc3 dX4_gainsOfShare_63 rfl (nI_inc _) ?_
      refine N.goto (tgt := 15) dX4_gainsOfShare_66 (by decide) ?_
      have eg := gsh_f c29 (v := x.1 0)
      exact N.eqW (by rw [eg]) (N.wk (by rw [eg]; exact ⟨rfl, rfl, rfl, rfl, trivial⟩) (ih (k + 1) (by omega)))
set_option maxRecDepth 100000 in
theorem s_X4_gainsOfShare {K : Kx} (w : Wd) (a sz : Nat) (x : XV) (u : CV) (p : Int32 × Int32) (s : Int32) (h : okP (x.1 0)) (S : Nat) (hS : S < 729) (es : s = nI S) : Sp K mX4_gainsOfShare 6 0 0 [.ref a, .int s] (putU K w a x u p) sz (Qi fun r w' sz' => r = (gsh (x.1 0) s 4).2 ∧ sz' = sz ∧ ∃ u', w' = putU K w a x u' p) := by
  refine Sp.ofN [some (.ref a), some (.int s), none, none, none] rfl rfl rfl (Nat.le_of_ble_eq_true rfl) ?_
  subst es
  refine N.aload0 dX4_gainsOfShare_0 ?_
  refine N.getf dX4_gainsOfShare_1 flX4_16 yO rfl ?_
  refine N.aload0 dX4_gainsOfShare_4 ?_
  refine N.getf dX4_gainsOfShare_5 flX4_10 yO rfl ?_
  refine N.vv1 dX4_gainsOfShare_8 vX1_takeFrom lkX4_161 (Sp.tk) yO1 rfl (Nat.le_of_ble_eq_true rfl) (Nat.le_of_ble_eq_true rfl) (Nat.zero_le _) (Nat.zero_le _) ?_
  rintro _ _ ⟨rfl, rfl⟩
  refine N.iconst (v := 0) dX4_gainsOfShare_11 (by decide) ?_
  refine N.istore2 dX4_gainsOfShare_12 rfl ?_
  refine N.iconst (v := 0) dX4_gainsOfShare_13 (by decide) ?_
  refine N.istore3 dX4_gainsOfShare_14 rfl ?_
  exact N.wk (by exact ⟨rfl, rfl, rfl, rfl, trivial⟩) (l_X4_gainsOfShare w a _ x p S hS h 4 0 (by omega))
set_option maxRecDepth 100000 in
theorem l_X4_minutes {K : Kx} (w : Wd) (a sz : Nat) (x : XV) (l : Int32) (h : okP (x.1 0)) (P : Int32 → Wd → Nat → Prop) (hP : ∀ u' p', P (mnG (x.1 0) l) (putU K w a x u' p') sz) : ∀ (nn k : Nat) (u : CV), k + nn = 729 → N K mX4_minutes 9 0 0 (Qi P) 46 [some (.ref a), some (.int l), some (.int (nI k))] [] (putU K w a x u (mnP (x.1 0) k)) sz 0 0 := by
  intro nn
  induction nn with
  | zero =>
    intro k u hk
    obtain rfl : k = 729 := by omega
    refine N.iload2 dX4_minutes_46 ?_
    refine N.sipush (v := 729) dX4_minutes_47 (by decide) ?_
    refine N.icmp_ge (tgt := 80) dX4_minutes_50 (by decide) (fun c50 => ?_) (fun c50 => absurd (by decide) c50)
    refine N.iload1 dX4_minutes_80 ?_
    refine N.iconst (v := -1) dX4_minutes_81 (by decide) ?_
    refine N.icmp_ne (tgt := 95) dX4_minutes_82 (by decide) (fun c82 => ?_) (fun c82 => ?_)
    · refine N.aload0 dX4_minutes_95 ?_
      refine N.getf dX4_minutes_96 flX4_45 yO rfl ?_
      refine N.getf dX4_minutes_99 flX4_243 yP rfl ?_
      refine N.iload1 dX4_minutes_102 ?_
      refine N.si2 dX4_minutes_103 vX4_spellsIn lkX4_295 (s_X4_spellsIn _ _ _ _) rfl (Nat.le_of_ble_eq_true rfl) (Nat.le_of_ble_eq_true rfl) (Nat.zero_le _) (Nat.zero_le _) ?_
      rintro _ _ _ ⟨rfl, rfl, rfl⟩
      exact N.iret dX4_minutes_106 rfl (Nat.zero_le _) (Nat.zero_le _) ⟨_, rfl, (by have hQ := fun u' p' => hP u' p'; rw [mnG, if_neg c82] at hQ; exact hQ _ _)⟩
    · refine N.aload0 dX4_minutes_85 ?_
      refine N.getf dX4_minutes_86 flX4_45 yO rfl ?_
      refine N.getf dX4_minutes_89 flX4_286 yP rfl ?_
      refine N.goto (tgt := 106) dX4_minutes_92 (by decide) ?_
      exact N.iret dX4_minutes_106 rfl (Nat.zero_le _) (Nat.zero_le _) ⟨_, rfl, (by have hQ := fun u' p' => hP u' p'; rw [mnG, if_pos c82] at hQ; exact hQ _ _)⟩
  | succ nn ih =>
    intro k u hk
    refine N.iload2 dX4_minutes_46 ?_
    refine N.sipush (v := 729) dX4_minutes_47 (by decide) ?_
    refine N.icmp_ge (tgt := 80) dX4_minutes_50 (by decide) (fun c50 => absurd c50 (nI_ge (a := k) (b := 729) (by omega) (by omega))) (fun c50 => ?_)
    refine N.aload0 dX4_minutes_53 ?_
    refine N.iload2 dX4_minutes_54 ?_
    refine N.vi1 dX4_minutes_55 vX4_mayShare lkX4_289 (s_X4_mayShare _ _ _ _ _ _ _) yO rfl (Nat.le_of_ble_eq_true rfl) (Nat.le_of_ble_eq_true rfl) (Nat.zero_le _) (Nat.zero_le _) ?_
    rintro _ _ _ ⟨rfl, rfl, rfl⟩
    refine N.if_eq (tgt := 74) dX4_minutes_58 (by decide) (fun c58 => ?_) (fun c58 => ?_)
    · refine N.iinc2 dX4_minutes_74 rfl (nI_inc _) ?_
      refine N.goto (tgt := 46) dX4_minutes_77 (by decide) ?_
      exact N.eqW (congrArg (putU K w a x _) (pk_f (not_not_intro c58))) (N.wk (by exact ⟨rfl, rfl, rfl, trivial⟩) (ih (k + 1) _ (by omega)))
    · refine N.aload0 dX4_minutes_61 ?_
      refine N.getf dX4_minutes_62 flX4_45 yO rfl ?_
      refine N.iload2 dX4_minutes_65 ?_
      refine N.aload0 dX4_minutes_66 ?_
      refine N.iload2 dX4_minutes_67 ?_
      refine N.vi1 dX4_minutes_68 vX4_gainsOfShare lkX4_292 (s_X4_gainsOfShare _ _ _ _ _ _ _ h k (by omega) rfl) yO rfl (Nat.le_of_ble_eq_true rfl) (Nat.le_of_ble_eq_true rfl) (Nat.zero_le _) (Nat.zero_le _) ?_
      rintro _ _ _ ⟨rfl, rfl, u2, rfl⟩
      refine N.vv2 dX4_minutes_71 vX0_offer lkX4_240 (Sp.pv fun W => s_X0_offer W _ _ _ _ _) yP rfl (Nat.le_of_ble_eq_true rfl) (Nat.le_of_ble_eq_true rfl) (Nat.zero_le _) (Nat.zero_le _) ?_
      rintro _ _ ⟨rfl, rfl⟩
      refine N.iinc2 dX4_minutes_74 rfl (nI_inc _) ?_
      refine N.goto (tgt := 46) dX4_minutes_77 (by decide) ?_
      exact N.eqW (congrArg (putU K w a x _) (pk_t c58)) (N.wk (by exact ⟨rfl, rfl, rfl, trivial⟩) (ih (k + 1) _ (by omega)))
def xmin (x : XV) (l : Int32) : Int32 × XV := if l = -1 then (if firstLF (x.1 0) = -1 then rg x (-5) else (mnG (x.1 0) l, x)) else if isInF l 0 3 = 0 then rg x (-2) else if firstLF (x.1 0) = -1 then rg x (-5) else (mnG (x.1 0) l, x)
set_option maxRecDepth 100000 in
theorem s_X4_minutes {K : Kx} (w : Wd) (a sz : Nat) (x : XV) (l : Int32) (hX : okX x)  : Sp K mX4_minutes 9 0 0 [.ref a, .int l] (putX K w a x) sz (Qi fun r w' sz' => r = (xmin x l).1 ∧ sz' = sz ∧ ∃ x', w' = putX K w a x' ∧ rel x' = rel (xmin x l).2) := by
  refine Sp.ofN [some (.ref a), some (.int l), none] rfl rfl rfl (Nat.le_of_ble_eq_true rfl) ?_
  have h : okP (x.1 0) := hX.1
  refine N.eqW (congrArg (putX K w a) (xup_self x)) ?_
  generalize x.1 1 = u0
  generalize x.2.2.2.2.1 = p0
  refine N.iload1 dX4_minutes_0 ?_
  refine N.iconst (v := -1) dX4_minutes_1 (by decide) ?_
  refine N.icmp_eq (tgt := 19) dX4_minutes_2 (by decide) (fun c2 => ?_) (fun c2 => ?_)
  · refine N.aload0 dX4_minutes_19 ?_
    refine N.getf dX4_minutes_20 flX4_10 yO rfl ?_
    refine N.vi0 dX4_minutes_23 vX1_firstLine lkX4_217 (Sp.n0i fun W => s_X1_firstLine W _ _ _) yO0 rfl (Nat.le_of_ble_eq_true rfl) (Nat.le_of_ble_eq_true rfl) (Nat.zero_le _) (Nat.zero_le _) ?_
    rintro _ _ _ ⟨rfl, rfl, rfl⟩
    refine N.iconst (v := -1) dX4_minutes_26 (by decide) ?_
    refine N.icmp_ne (tgt := 37) dX4_minutes_27 (by decide) (fun c27 => ?_) (fun c27 => ?_)
    · refine N.aload0 dX4_minutes_37 ?_
      refine N.getf dX4_minutes_38 flX4_45 yO rfl ?_
      refine N.vv0 dX4_minutes_41 vX0_begin lkX4_237 (Sp.pv fun W => s_X0_begin W _ _ _) yP rfl (Nat.le_of_ble_eq_true rfl) (Nat.le_of_ble_eq_true rfl) (Nat.zero_le _) (Nat.zero_le _) ?_
      rintro _ _ ⟨rfl, rfl⟩
      refine N.iconst (v := 0) dX4_minutes_44 (by decide) ?_
      refine N.istore2 dX4_minutes_45 rfl ?_
      exact N.wk (by exact ⟨rfl, rfl, rfl, trivial⟩) (l_X4_minutes w a _ x l h _ (fun _ _ => (pub_ok (by rw [xmin, if_pos c2, if_neg c27]))) 729 0 _ (by omega))
    · refine N.aload0 dX4_minutes_30 ?_
      refine N.bipush (v := -5) dX4_minutes_31 (by decide) ?_
      refine N.vi1 dX4_minutes_33 vX4_refuseGains lkX4_250 (s_X4_refuseGains _ _ _ _ _ _ _) yO rfl (Nat.le_of_ble_eq_true rfl) (Nat.le_of_ble_eq_true rfl) (Nat.zero_le _) (Nat.zero_le _) ?_
      rintro _ _ _ ⟨rfl, rfl, rfl⟩
      exact N.iret dX4_minutes_36 rfl (Nat.zero_le _) (Nat.zero_le _) ⟨_, rfl, (by rw [xmin, if_pos c2, if_pos c27]; exact rg_ok)⟩
  · refine N.iload1 dX4_minutes_5 ?_
    refine N.si1 dX4_minutes_6 vX4_isLine lkX4_131 (s_X4_isLine _ _ _) rfl (Nat.le_of_ble_eq_true rfl) (Nat.le_of_ble_eq_true rfl) (Nat.zero_le _) (Nat.zero_le _) ?_
    rintro _ _ _ ⟨rfl, rfl, rfl⟩
    refine N.if_ne (tgt := 19) dX4_minutes_9 (by decide) (fun c9 => ?_) (fun c9 => ?_)
    · refine N.aload0 dX4_minutes_19 ?_
      refine N.getf dX4_minutes_20 flX4_10 yO rfl ?_
      refine N.vi0 dX4_minutes_23 vX1_firstLine lkX4_217 (Sp.n0i fun W => s_X1_firstLine W _ _ _) yO0 rfl (Nat.le_of_ble_eq_true rfl) (Nat.le_of_ble_eq_true rfl) (Nat.zero_le _) (Nat.zero_le _) ?_
      rintro _ _ _ ⟨rfl, rfl, rfl⟩
      refine N.iconst (v := -1) dX4_minutes_26 (by decide) ?_
      refine N.icmp_ne (tgt := 37) dX4_minutes_27 (by decide) (fun c27 => ?_) (fun c27 => ?_)
      · refine N.aload0 dX4_minutes_37 ?_
        refine N.getf dX4_minutes_38 flX4_45 yO rfl ?_
        refine N.vv0 dX4_minutes_41 vX0_begin lkX4_237 (Sp.pv fun W => s_X0_begin W _ _ _) yP rfl (Nat.le_of_ble_eq_true rfl) (Nat.le_of_ble_eq_true rfl) (Nat.zero_le _) (Nat.zero_le _) ?_
        rintro _ _ ⟨rfl, rfl⟩
        refine N.iconst (v := 0) dX4_minutes_44 (by decide) ?_
        refine N.istore2 dX4_minutes_45 rfl ?_
        exact N.wk (by exact ⟨rfl, rfl, rfl, trivial⟩) (l_X4_minutes w a _ x l h _ (fun _ _ => (pub_ok (by rw [xmin, if_neg c2, if_neg c9, if_neg c27]))) 729 0 _ (by omega))
      · refine N.aload0 dX4_minutes_30 ?_
        refine N.bipush (v := -5) dX4_minutes_31 (by decide) ?_
        refine N.vi1 dX4_minutes_33 vX4_refuseGains lkX4_250 (s_X4_refuseGains _ _ _ _ _ _ _) yO rfl (Nat.le_of_ble_eq_true rfl) (Nat.le_of_ble_eq_true rfl) (Nat.zero_le _) (Nat.zero_le _) ?_
        rintro _ _ _ ⟨rfl, rfl, rfl⟩
        exact N.iret dX4_minutes_36 rfl (Nat.zero_le _) (Nat.zero_le _) ⟨_, rfl, (by rw [xmin, if_neg c2, if_neg c9, if_pos c27]; exact rg_ok)⟩
    · refine N.aload0 dX4_minutes_12 ?_
      refine N.bipush (v := -2) dX4_minutes_13 (by decide) ?_
      refine N.vi1 dX4_minutes_15 vX4_refuseGains lkX4_250 (s_X4_refuseGains _ _ _ _ _ _ _) yO rfl (Nat.le_of_ble_eq_true rfl) (Nat.le_of_ble_eq_true rfl) (Nat.zero_le _) (Nat.zero_le _) ?_
      rintro _ _ _ ⟨rfl, rfl, rfl⟩
      exact N.iret dX4_minutes_18 rfl (Nat.zero_le _) (Nat.zero_le _) ⟨_, rfl, (by rw [xmin, if_neg c2, if_pos c9]; exact rg_ok)⟩
def lmP (v : CV) : Nat → Int32 × Int32 := pk (fun k => bitF (v.1 1) (nI k) = 1) nI (fun k => powAll (takeOffV v (nI k)))
def lmF (v : CV) : Int32 := (lmP v (np v)).1
theorem lm_eq {v : CV} {P : Nat} (e : np v = P) : (lmP v P).1 = lmF v := by rw [lmF, e]
set_option maxRecDepth 100000 in
theorem l_X4_leastMissed {K : Kx} (w : Wd) (a sz : Nat) (x : XV) (h : okP (x.1 0)) (P0 : Nat) (hP0 : P0 ≤ 10) (e0 : (x.1 0).1 0 = nI P0) (P : Int32 → Wd → Nat → Prop) (hP : ∀ u' p', P ((lmP (x.1 0) P0).1) (putU K w a x u' p') sz) : ∀ (nn k : Nat) (u : CV), k + nn = P0 → N K mX4_leastMissed 4 0 0 (Qi P) 9 [some (.ref a), some (.int (nI k))] [] (putU K w a x u (lmP (x.1 0) k)) sz 0 0 := by
  intro nn
  induction nn with
  | zero =>
    intro k u hk
    obtain rfl : k = P0 := by omega
    refine N.iload1 dX4_leastMissed_9 ?_
    refine N.aload0 dX4_leastMissed_10 ?_
    refine N.getf dX4_leastMissed_11 flX4_10 yO rfl ?_
    refine N.getf dX4_leastMissed_14 flX4_229 yO0 rfl ?_
    refine N.icmp_ge (tgt := 75) dX4_leastMissed_17 (by decide) (fun c17 => ?_) (fun c17 => absurd (pl_ge e0 (by omega) (by omega)) c17)
    refine N.aload0 dX4_leastMissed_75 ?_
    refine N.getf dX4_leastMissed_76 flX4_45 yO rfl ?_
    refine N.getf dX4_leastMissed_79 flX4_243 yP rfl ?_
    exact N.iret dX4_leastMissed_82 rfl (Nat.zero_le _) (Nat.zero_le _) ⟨_, rfl, (hP _ _)⟩
  | succ nn ih =>
    intro k u hk
    refine N.iload1 dX4_leastMissed_9 ?_
    refine N.aload0 dX4_leastMissed_10 ?_
    refine N.getf dX4_leastMissed_11 flX4_10 yO rfl ?_
    refine N.getf dX4_leastMissed_14 flX4_229 yO0 rfl ?_
    refine N.icmp_ge (tgt := 75) dX4_leastMissed_17 (by decide) (fun c17 => absurd c17 (pl_nge e0 (by omega) (by omega))) (fun c17 => ?_)
    refine N.aload0 dX4_leastMissed_20 ?_
    refine N.getf dX4_leastMissed_21 flX4_10 yO rfl ?_
    refine N.getf dX4_leastMissed_24 flX4_175 yO0 rfl ?_
    refine N.iload1 dX4_leastMissed_27 ?_
    refine N.si2 dX4_leastMissed_28 vX4_bit lkX4_178 (s_X4_bit _ _ _ _) rfl (Nat.le_of_ble_eq_true rfl) (Nat.le_of_ble_eq_true rfl) (Nat.zero_le _) (Nat.zero_le _) ?_
    rintro _ _ _ ⟨rfl, rfl, rfl⟩
    refine N.iconst (v := 1) dX4_leastMissed_31 (by decide) ?_
    refine N.icmp_ne (tgt := 69) dX4_leastMissed_32 (by decide) (fun c32 => ?_) (fun c32 => ?_)
    · refine N.iinc1 dX4_leastMissed_69 rfl (nI_inc _) ?_
      refine N.goto (tgt := 9) dX4_leastMissed_72 (by decide) ?_
      exact N.eqW (congrArg (putU K w a x _) (pk_f c32)) (N.wk (by exact ⟨rfl, rfl, trivial⟩) (ih (k + 1) _ (by omega)))
    · refine N.aload0 dX4_leastMissed_35 ?_
      refine N.getf dX4_leastMissed_36 flX4_16 yO rfl ?_
      refine N.aload0 dX4_leastMissed_39 ?_
      refine N.getf dX4_leastMissed_40 flX4_10 yO rfl ?_
      refine N.vv1 dX4_leastMissed_43 vX1_takeFrom lkX4_161 (Sp.tk) yO1 rfl (Nat.le_of_ble_eq_true rfl) (Nat.le_of_ble_eq_true rfl) (Nat.zero_le _) (Nat.zero_le _) ?_
      rintro _ _ ⟨rfl, rfl⟩
      refine N.aload0 dX4_leastMissed_46 ?_
      refine N.getf dX4_leastMissed_47 flX4_16 yO rfl ?_
      refine N.iload1 dX4_leastMissed_50 ?_
      refine N.vv1 dX4_leastMissed_51 vX1_takeOff lkX4_301 (Sp.n1v fun W => s_X1_takeOff W _ _ _ _) yO1 rfl (Nat.le_of_ble_eq_true rfl) (Nat.le_of_ble_eq_true rfl) (Nat.zero_le _) (Nat.zero_le _) ?_
      rintro _ _ ⟨rfl, rfl⟩
      refine N.aload0 dX4_leastMissed_54 ?_
      refine N.getf dX4_leastMissed_55 flX4_45 yO rfl ?_
      refine N.iload1 dX4_leastMissed_58 ?_
      refine N.aload0 dX4_leastMissed_59 ?_
      refine N.getf dX4_leastMissed_60 flX4_16 yO rfl ?_
      refine N.vi0 dX4_leastMissed_63 vX1_powerOfAll lkX4_199 (Sp.n1i fun W => s_X1_powerOfAll W _ _ _ (h.off _)) yO1 rfl (Nat.le_of_ble_eq_true rfl) (Nat.le_of_ble_eq_true rfl) (Nat.zero_le _) (Nat.zero_le _) ?_
      rintro _ _ _ ⟨rfl, rfl, rfl⟩
      refine N.vv2 dX4_leastMissed_66 vX0_offer lkX4_240 (Sp.pv fun W => s_X0_offer W _ _ _ _ _) yP rfl (Nat.le_of_ble_eq_true rfl) (Nat.le_of_ble_eq_true rfl) (Nat.zero_le _) (Nat.zero_le _) ?_
      rintro _ _ ⟨rfl, rfl⟩
      refine N.iinc1 dX4_leastMissed_69 rfl (nI_inc _) ?_
      refine N.goto (tgt := 9) dX4_leastMissed_72 (by decide) ?_
      exact N.eqW (congrArg (putU K w a x _) (pk_t c32)) (N.wk (by exact ⟨rfl, rfl, trivial⟩) (ih (k + 1) _ (by omega)))
set_option maxRecDepth 100000 in
theorem s_X4_leastMissed {K : Kx} (w : Wd) (a sz : Nat) (x : XV) (u : CV) (p : Int32 × Int32) (h : okP (x.1 0)) : Sp K mX4_leastMissed 4 0 0 [.ref a] (putU K w a x u p) sz (Qi fun r w' sz' => r = lmF (x.1 0) ∧ sz' = sz ∧ ∃ u' p', w' = putU K w a x u' p') := by
  refine Sp.ofN [some (.ref a), none] rfl rfl rfl (Nat.le_of_ble_eq_true rfl) ?_
  refine N.aload0 dX4_leastMissed_0 ?_
  refine N.getf dX4_leastMissed_1 flX4_45 yO rfl ?_
  refine N.vv0 dX4_leastMissed_4 vX0_begin lkX4_237 (Sp.pv fun W => s_X0_begin W _ _ _) yP rfl (Nat.le_of_ble_eq_true rfl) (Nat.le_of_ble_eq_true rfl) (Nat.zero_le _) (Nat.zero_le _) ?_
  rintro _ _ ⟨rfl, rfl⟩
  refine N.iconst (v := 0) dX4_leastMissed_7 (by decide) ?_
  refine N.istore1 dX4_leastMissed_8 rfl ?_
  obtain ⟨P0, hP0, e0, e1⟩ := np_ex h
  exact N.wk (by exact ⟨rfl, rfl, trivial⟩) (l_X4_leastMissed w a _ x h P0 hP0 e0 _ (fun _ _ => ⟨lm_eq e1, rfl, _, _, rfl⟩) P0 0 _ (by omega))
def xpen (x : XV) (n : Int32) : Int32 × XV := if n = -1 then (if (x.1 0).1 1 = 0 then rg x (-5) else (lmF (x.1 0), x)) else if isInF n 0 600 = 0 then rg x (-2) else if (x.1 0).1 1 = 0 then rg x (-5) else (gainsF (takeOffV (x.1 0) (lmF (x.1 0))) n, x)
set_option maxRecDepth 100000 in
theorem s_X4_penalty {K : Kx} (w : Wd) (a sz : Nat) (x : XV) (n : Int32) (hX : okX x)  : Sp K mX4_penalty 9 0 0 [.ref a, .int n] (putX K w a x) sz (Qi fun r w' sz' => r = (xpen x n).1 ∧ sz' = sz ∧ ∃ x', w' = putX K w a x' ∧ rel x' = rel (xpen x n).2) := by
  refine Sp.ofN [some (.ref a), some (.int n), none] rfl rfl rfl (Nat.le_of_ble_eq_true rfl) ?_
  have h : okP (x.1 0) := hX.1
  refine N.eqW (congrArg (putX K w a) (xup_self x)) ?_
  generalize x.1 1 = u0
  generalize x.2.2.2.2.1 = p0
  refine N.iload1 dX4_penalty_0 ?_
  refine N.iconst (v := -1) dX4_penalty_1 (by decide) ?_
  refine N.icmp_eq (tgt := 23) dX4_penalty_2 (by decide) (fun c2 => ?_) (fun c2 => ?_)
  · refine N.aload0 dX4_penalty_23 ?_
    refine N.getf dX4_penalty_24 flX4_10 yO rfl ?_
    refine N.getf dX4_penalty_27 flX4_175 yO0 rfl ?_
    refine N.if_ne (tgt := 40) dX4_penalty_30 (by decide) (fun c30 => ?_) (fun c30 => ?_)
    · refine N.aload0 dX4_penalty_40 ?_
      refine N.vi0 dX4_penalty_41 vX4_leastMissed lkX4_298 (s_X4_leastMissed _ _ _ _ _ _ h) yO rfl (Nat.le_of_ble_eq_true rfl) (Nat.le_of_ble_eq_true rfl) (Nat.zero_le _) (Nat.zero_le _) ?_
      rintro _ _ _ ⟨rfl, rfl, u2, p2, rfl⟩
      refine N.istore2 dX4_penalty_44 rfl ?_
      refine N.iload1 dX4_penalty_45 ?_
      refine N.iconst (v := -1) dX4_penalty_46 (by decide) ?_
      refine N.icmp_ne (tgt := 52) dX4_penalty_47 (by decide) (fun c47 => absurd c2 c47) (fun c47 => ?_)
      refine N.iload2 dX4_penalty_50 ?_
      exact N.iret dX4_penalty_51 rfl (Nat.zero_le _) (Nat.zero_le _) ⟨_, rfl, (by rw [xpen, if_pos c2, if_neg c30]; exact ⟨rfl, rfl, _, rfl, rel_xup⟩)⟩
    · refine N.aload0 dX4_penalty_33 ?_
      refine N.bipush (v := -5) dX4_penalty_34 (by decide) ?_
      refine N.vi1 dX4_penalty_36 vX4_refuseGains lkX4_250 (s_X4_refuseGains _ _ _ _ _ _ _) yO rfl (Nat.le_of_ble_eq_true rfl) (Nat.le_of_ble_eq_true rfl) (Nat.zero_le _) (Nat.zero_le _) ?_
      rintro _ _ _ ⟨rfl, rfl, rfl⟩
      exact N.iret dX4_penalty_39 rfl (Nat.zero_le _) (Nat.zero_le _) ⟨_, rfl, (by rw [xpen, if_pos c2, if_pos c30]; exact rg_ok)⟩
  · refine N.iload1 dX4_penalty_5 ?_
    refine N.iconst (v := 0) dX4_penalty_6 (by decide) ?_
    refine N.sipush (v := 600) dX4_penalty_7 (by decide) ?_
    refine N.si3 dX4_penalty_10 vX4_isIn lkX4_58 (s_X4_isIn _ _ _ _ _) rfl (Nat.le_of_ble_eq_true rfl) (Nat.le_of_ble_eq_true rfl) (Nat.zero_le _) (Nat.zero_le _) ?_
    rintro _ _ _ ⟨rfl, rfl, rfl⟩
    refine N.if_ne (tgt := 23) dX4_penalty_13 (by decide) (fun c13 => ?_) (fun c13 => ?_)
    · refine N.aload0 dX4_penalty_23 ?_
      refine N.getf dX4_penalty_24 flX4_10 yO rfl ?_
      refine N.getf dX4_penalty_27 flX4_175 yO0 rfl ?_
      refine N.if_ne (tgt := 40) dX4_penalty_30 (by decide) (fun c30 => ?_) (fun c30 => ?_)
      · refine N.aload0 dX4_penalty_40 ?_
        refine N.vi0 dX4_penalty_41 vX4_leastMissed lkX4_298 (s_X4_leastMissed _ _ _ _ _ _ h) yO rfl (Nat.le_of_ble_eq_true rfl) (Nat.le_of_ble_eq_true rfl) (Nat.zero_le _) (Nat.zero_le _) ?_
        rintro _ _ _ ⟨rfl, rfl, u2, p2, rfl⟩
        refine N.istore2 dX4_penalty_44 rfl ?_
        refine N.iload1 dX4_penalty_45 ?_
        refine N.iconst (v := -1) dX4_penalty_46 (by decide) ?_
        refine N.icmp_ne (tgt := 52) dX4_penalty_47 (by decide) (fun c47 => ?_) (fun c47 => absurd c47 c2)
        obtain ⟨m, hm, hn⟩ := in_n (N' := 600) (by decide) c13
        have ho := h
        refine N.aload0 dX4_penalty_52 ?_
        refine N.getf dX4_penalty_53 flX4_16 yO rfl ?_
        refine N.aload0 dX4_penalty_56 ?_
        refine N.getf dX4_penalty_57 flX4_10 yO rfl ?_
        refine N.vv1 dX4_penalty_60 vX1_takeFrom lkX4_161 (Sp.tk) yO1 rfl (Nat.le_of_ble_eq_true rfl) (Nat.le_of_ble_eq_true rfl) (Nat.zero_le _) (Nat.zero_le _) ?_
        rintro _ _ ⟨rfl, rfl⟩
        refine N.aload0 dX4_penalty_63 ?_
        refine N.getf dX4_penalty_64 flX4_16 yO rfl ?_
        refine N.iload2 dX4_penalty_67 ?_
        refine N.vv1 dX4_penalty_68 vX1_takeOff lkX4_301 (Sp.n1v fun W => s_X1_takeOff W _ _ _ _) yO1 rfl (Nat.le_of_ble_eq_true rfl) (Nat.le_of_ble_eq_true rfl) (Nat.zero_le _) (Nat.zero_le _) ?_
        rintro _ _ ⟨rfl, rfl⟩
        refine N.aload0 dX4_penalty_71 ?_
        refine N.getf dX4_penalty_72 flX4_16 yO rfl ?_
        refine N.iload1 dX4_penalty_75 ?_
        refine N.vi1 dX4_penalty_76 vX1_gainsIn lkX4_253 (Sp.n1i fun W => s_X1_gainsIn W _ _ _ _ m hm hn (h.off _)) yO1 rfl (Nat.le_of_ble_eq_true rfl) (Nat.le_of_ble_eq_true rfl) (Nat.zero_le _) (Nat.zero_le _) ?_
        rintro _ _ _ ⟨rfl, rfl, rfl⟩
        exact N.iret dX4_penalty_79 rfl (Nat.zero_le _) (Nat.zero_le _) ⟨_, rfl, (by rw [xpen, if_neg c2, if_neg c13, if_neg c30]; exact ⟨rfl, rfl, _, rfl, rel_xup⟩)⟩
      · refine N.aload0 dX4_penalty_33 ?_
        refine N.bipush (v := -5) dX4_penalty_34 (by decide) ?_
        refine N.vi1 dX4_penalty_36 vX4_refuseGains lkX4_250 (s_X4_refuseGains _ _ _ _ _ _ _) yO rfl (Nat.le_of_ble_eq_true rfl) (Nat.le_of_ble_eq_true rfl) (Nat.zero_le _) (Nat.zero_le _) ?_
        rintro _ _ _ ⟨rfl, rfl, rfl⟩
        exact N.iret dX4_penalty_39 rfl (Nat.zero_le _) (Nat.zero_le _) ⟨_, rfl, (by rw [xpen, if_neg c2, if_neg c13, if_pos c30]; exact rg_ok)⟩
    · refine N.aload0 dX4_penalty_16 ?_
      refine N.bipush (v := -2) dX4_penalty_17 (by decide) ?_
      refine N.vi1 dX4_penalty_19 vX4_refuseGains lkX4_250 (s_X4_refuseGains _ _ _ _ _ _ _) yO rfl (Nat.le_of_ble_eq_true rfl) (Nat.le_of_ble_eq_true rfl) (Nat.zero_le _) (Nat.zero_le _) ?_
      rintro _ _ _ ⟨rfl, rfl, rfl⟩
      exact N.iret dX4_penalty_22 rfl (Nat.zero_le _) (Nat.zero_le _) ⟨_, rfl, (by rw [xpen, if_neg c2, if_pos c13]; exact rg_ok)⟩
def fwF (v : CV) (f : Nat → Int64) : Nat → Nat → Int32
  | _, 0 => -1
  | k, n + 1 => if lg_cmp (f (nI k).toNatClampNeg) 0 < 0 then nI k else if 0 ≤ lg_cmp (f (nI k).toNatClampNeg) 4 then nI k else if hasPlF v (f (nI k).toNatClampNeg).toInt32 = 0 then nI k else fwF v f (k + 1) n
theorem nI_nm1 {k : Nat} (hk : k < 2 ^ 31) : ¬ nI k = -1 := by
  intro q
  have := congrArg Int32.toInt q
  rw [nI_toInt hk, show (-1 : Int32).toInt = -1 from rfl] at this
  omega
theorem fw_in {v : CV} {f : Nat → Int64} : ∀ n k, k + n ≤ 40 → fwF v f k n = -1 → ∀ j, k ≤ j → j < k + n → vp_in (f (nI j).toNatClampNeg).toInt32 4
  | 0, _, _, _, j, h1, h2 => absurd h2 (by omega)
  | n + 1, k, hk, h, j, h1, h2 => by
    rw [fwF] at h
    by_cases c1 : lg_cmp (f (nI k).toNatClampNeg) 0 < 0
    · rw [if_pos c1] at h; exact absurd h (nI_nm1 (by omega))
    · rw [if_neg c1] at h
      by_cases c2 : 0 ≤ lg_cmp (f (nI k).toNatClampNeg) 4
      · rw [if_pos c2] at h; exact absurd h (nI_nm1 (by omega))
      · rw [if_neg c2] at h
        by_cases c3 : hasPlF v (f (nI k).toNatClampNeg).toInt32 = 0
        · rw [if_pos c3] at h; exact absurd h (nI_nm1 (by omega))
        · rw [if_neg c3] at h
          by_cases e : j = k
          · subst e; exact hl_in c3
          · exact fw_in n (k + 1) (by omega) h j (by omega) (by omega)
theorem in40 {k : Nat} (h : k < 40) : vp_in (nI k) 40 := vp_in_nI h (by omega)
set_option maxRecDepth 100000 in
theorem l_X4_firstWrong {K : Kx} (w : Wd) (a sz : Nat) (x : XV) (u : CV) (p : Int32 × Int32) (i : Nat) (hs : i < 8) (n R : Int32) (m : Nat) (hm : m ≤ 40) (hn : n = nI m) : ∀ nn k, k + nn = m → fwF (x.1 0) (x.2.2.1 i).1 k nn = R → N K mX4_firstWrong 3 0 0 (Qi fun r w' sz' => r = (R) ∧ w' = putU K w a (x) (u) (p) ∧ sz' = sz) 2 [some (.ref a), some (.ref (a + (30 + 2 * i))), some (.int n), some (.int (nI k)), none, none] [] (putU K w a x u p) sz 0 0 := by
  intro nn
  induction nn with
  | zero =>
    intro k hk hR
    obtain rfl : k = m := by omega
    refine N.iload3 dX4_firstWrong_2 ?_
    refine N.iload2 dX4_firstWrong_3 ?_
    refine N.icmp_ge (tgt := 52) dX4_firstWrong_4 (by decide) (fun c4 => ?_) (fun c4 => absurd (pl_ge hn (by omega) (by omega)) c4)
    refine N.iconst (v := -1) dX4_firstWrong_52 (by decide) ?_
    exact N.iret dX4_firstWrong_53 rfl (Nat.zero_le _) (Nat.zero_le _) ⟨_, rfl, ⟨hR, rfl, rfl⟩⟩
  | succ nn ih =>
    intro k hk hR
    refine N.iload3 dX4_firstWrong_2 ?_
    refine N.iload2 dX4_firstWrong_3 ?_
    refine N.icmp_ge (tgt := 52) dX4_firstWrong_4 (by decide) (fun c4 => absurd c4 (by rw [hn]; exact nI_ge (by omega) (by omega))) (fun c4 => ?_)
    refine N.aload1 dX4_firstWrong_7 ?_
    refine N.getf dX4_firstWrong_8 flX4_96 (yS hs) rfl ?_
    refine N.iload3 dX4_firstWrong_11 ?_
    refine N.lald dX4_firstWrong_12 (ySA hs) (in40 (by omega)) ?_
    refine N.lstore4 dX4_firstWrong_13 rfl ?_
    refine N.lload4 dX4_firstWrong_15 ?_
    refine N.lconst (v := 0) dX4_firstWrong_17 (by decide) ?_
    refine N.lcmp dX4_firstWrong_18 ?_
    refine N.if_lt (tgt := 44) dX4_firstWrong_19 (by decide) (fun c19 => ?_) (fun c19 => ?_)
    · refine N.iload3 dX4_firstWrong_44 ?_
      exact N.iret dX4_firstWrong_45 rfl (Nat.zero_le _) (Nat.zero_le _) ⟨_, rfl, ⟨(by rw [← hR, fwF, if_pos c19]), rfl, rfl⟩⟩
    · refine N.lload4 dX4_firstWrong_22 ?_
      refine N.ldc2 dX4_firstWrong_24 ctX4_349 ?_
      refine N.lcmp dX4_firstWrong_27 ?_
      refine N.if_ge (tgt := 44) dX4_firstWrong_28 (by decide) (fun c28 => ?_) (fun c28 => ?_)
      · refine N.iload3 dX4_firstWrong_44 ?_
        exact N.iret dX4_firstWrong_45 rfl (Nat.zero_le _) (Nat.zero_le _) ⟨_, rfl, ⟨(by rw [← hR, fwF, if_neg c19, if_pos c28]), rfl, rfl⟩⟩
      · refine N.aload0 dX4_firstWrong_31 ?_
        refine N.getf dX4_firstWrong_32 flX4_10 yO rfl ?_
        refine N.lload4 dX4_firstWrong_35 ?_
        refine N.l2i dX4_firstWrong_37 ?_
        refine N.vi1 dX4_firstWrong_38 vX1_hasPlayers lkX4_208 (Sp.n0i fun W => s_X1_hasPlayers W _ _ _ _) yO0 rfl (Nat.le_of_ble_eq_true rfl) (Nat.le_of_ble_eq_true rfl) (Nat.zero_le _) (Nat.zero_le _) ?_
        rintro _ _ _ ⟨rfl, rfl, rfl⟩
        refine N.if_ne (tgt := 46) dX4_firstWrong_41 (by decide) (fun c41 => ?_) (fun c41 => ?_)
        · refine N.iinc3 dX4_firstWrong_46 rfl (nI_inc _) ?_
          refine N.goto (tgt := 2) dX4_firstWrong_49 (by decide) ?_
          exact N.wk (by exact ⟨rfl, rfl, rfl, rfl, trivial⟩) (ih (k + 1) (by omega) (by rw [← hR, fwF, if_neg c19, if_neg c28, if_neg c41]))
        · refine N.iload3 dX4_firstWrong_44 ?_
          exact N.iret dX4_firstWrong_45 rfl (Nat.zero_le _) (Nat.zero_le _) ⟨_, rfl, ⟨(by rw [← hR, fwF, if_neg c19, if_neg c28, if_pos c41]), rfl, rfl⟩⟩
set_option maxRecDepth 100000 in
theorem s_X4_firstWrong {K : Kx} (w : Wd) (a sz : Nat) (x : XV) (u : CV) (p : Int32 × Int32) (i : Nat) (hs : i < 8) (n : Int32) (m : Nat) (hm : m ≤ 40) (hn : n = nI m) : Sp K mX4_firstWrong 3 0 0 [.ref a, .ref (a + (30 + 2 * i)), .int n] (putU K w a x u p) sz (Qi fun r w' sz' => r = (fwF (x.1 0) (x.2.2.1 i).1 0 m) ∧ w' = putU K w a (x) (u) (p) ∧ sz' = sz) := by
  refine Sp.ofN [some (.ref a), some (.ref (a + (30 + 2 * i))), some (.int n), none, none, none] rfl rfl rfl (Nat.le_of_ble_eq_true rfl) ?_
  refine N.iconst (v := 0) dX4_firstWrong_0 (by decide) ?_
  refine N.istore3 dX4_firstWrong_1 rfl ?_
  exact N.wk (by exact ⟨rfl, rfl, rfl, rfl, trivial⟩) (l_X4_firstWrong w a _ x u p i hs n _ m hm hn m 0 (by omega) rfl)
def judF (x : XV) (s n : Int32) : Int32 := fwF (x.1 0) (x.2.2.1 s.toNatClampNeg).1 0 n.toNatClampNeg
theorem jud_n {x : XV} {s n : Int32} {m : Nat} (hm : m ≤ 40) (e : n = nI m) : fwF (x.1 0) (x.2.2.1 s.toNatClampNeg).1 0 m = judF x s n := by rw [judF, e, nI_clamp (by omega)]
def xjudge (x : XV) (s n : Int32) : Int32 × XV := if isInF s 0 7 = 0 then rf x (-2) else if isInF n 0 40 = 0 then rf x (-2) else if isRowF (x.2.2.1 s.toNatClampNeg) = 0 then rf x (whyF (x.2.2.1 s.toNatClampNeg)) else if hasPF (x.2.2.1 s.toNatClampNeg) 0 n = 0 then rf x (-2) else (judF x s n, x)
set_option maxRecDepth 100000 in
theorem s_X4_judge {K : Kx} (w : Wd) (a sz : Nat) (x : XV) (s : Int32) (n : Int32) (hX : okX x)  : Sp K mX4_judge 9 0 0 [.ref a, .int s, .int n] (putX K w a x) sz (Qi fun r w' sz' => r = (xjudge x s n).1 ∧ sz' = sz ∧ ∃ x', w' = putX K w a x' ∧ rel x' = rel (xjudge x s n).2) := by
  refine Sp.ofN [some (.ref a), some (.int s), some (.int n), none] rfl rfl rfl (Nat.le_of_ble_eq_true rfl) ?_
  have h : okP (x.1 0) := hX.1
  refine N.eqW (congrArg (putX K w a) (xup_self x)) ?_
  generalize x.1 1 = u0
  generalize x.2.2.2.2.1 = p0
  refine N.iload1 dX4_judge_0 ?_
  refine N.si1 dX4_judge_1 vX4_isShelf lkX4_54 (s_X4_isShelf _ _ _) rfl (Nat.le_of_ble_eq_true rfl) (Nat.le_of_ble_eq_true rfl) (Nat.zero_le _) (Nat.zero_le _) ?_
  rintro _ _ _ ⟨rfl, rfl, rfl⟩
  refine N.if_eq (tgt := 17) dX4_judge_4 (by decide) (fun c4 => ?_) (fun c4 => ?_)
  · refine N.aload0 dX4_judge_17 ?_
    refine N.bipush (v := -2) dX4_judge_18 (by decide) ?_
    refine N.vi1 dX4_judge_20 vX4_refuse lkX4_62 (s_X4_refuse _ _ _ _ _ _ _) yO rfl (Nat.le_of_ble_eq_true rfl) (Nat.le_of_ble_eq_true rfl) (Nat.zero_le _) (Nat.zero_le _) ?_
    rintro _ _ _ ⟨rfl, rfl, rfl⟩
    exact N.iret dX4_judge_23 rfl (Nat.zero_le _) (Nat.zero_le _) ⟨_, rfl, (by rw [xjudge, if_pos c4]; exact rf_ok)⟩
  · refine N.iload2 dX4_judge_7 ?_
    refine N.iconst (v := 0) dX4_judge_8 (by decide) ?_
    refine N.bipush (v := 40) dX4_judge_9 (by decide) ?_
    refine N.si3 dX4_judge_11 vX4_isIn lkX4_58 (s_X4_isIn _ _ _ _ _) rfl (Nat.le_of_ble_eq_true rfl) (Nat.le_of_ble_eq_true rfl) (Nat.zero_le _) (Nat.zero_le _) ?_
    rintro _ _ _ ⟨rfl, rfl, rfl⟩
    refine N.if_ne (tgt := 24) dX4_judge_14 (by decide) (fun c14 => ?_) (fun c14 => ?_)
    · have hs := sh8 c4
      obtain ⟨m, hm, hn⟩ := in_n (N' := 40) (by decide) c14
      refine N.aload0 dX4_judge_24 ?_
      refine N.getf dX4_judge_25 flX4_34 yO rfl ?_
      refine N.iload1 dX4_judge_28 ?_
      refine N.aald dX4_judge_29 yH (sh8v c4) (xShv hs) ?_
      refine N.astore3 dX4_judge_30 rfl ?_
      refine N.aload3 dX4_judge_31 ?_
      refine N.vi0 dX4_judge_32 vX2_isRow lkX4_70 (Sp.shi hs fun W => s_X2_isRow W _ _ _) (yS hs) rfl (Nat.le_of_ble_eq_true rfl) (Nat.le_of_ble_eq_true rfl) (Nat.zero_le _) (Nat.zero_le _) ?_
      rintro _ _ _ ⟨rfl, rfl, rfl⟩
      refine N.if_ne (tgt := 47) dX4_judge_35 (by decide) (fun c35 => ?_) (fun c35 => ?_)
      · refine N.aload3 dX4_judge_47 ?_
        refine N.iconst (v := 0) dX4_judge_48 (by decide) ?_
        refine N.iload2 dX4_judge_49 ?_
        refine N.vi2 dX4_judge_50 vX2_hasPlaces lkX4_92 (Sp.shi hs fun W => s_X2_hasPlaces W _ _ _ _ _) (yS hs) rfl (Nat.le_of_ble_eq_true rfl) (Nat.le_of_ble_eq_true rfl) (Nat.zero_le _) (Nat.zero_le _) ?_
        rintro _ _ _ ⟨rfl, rfl, rfl⟩
        refine N.if_ne (tgt := 63) dX4_judge_53 (by decide) (fun c53 => ?_) (fun c53 => ?_)
        · refine N.aload0 dX4_judge_63 ?_
          refine N.aload3 dX4_judge_64 ?_
          refine N.iload2 dX4_judge_65 ?_
          refine N.vi2 dX4_judge_66 vX4_firstWrong lkX4_304 (s_X4_firstWrong _ _ _ _ _ _ _ hs _ m hm hn) yO rfl (Nat.le_of_ble_eq_true rfl) (Nat.le_of_ble_eq_true rfl) (Nat.zero_le _) (Nat.zero_le _) ?_
          rintro r1 _ _ ⟨er, rfl, rfl⟩
          obtain rfl : r1 = judF x s n := er.trans (jud_n hm hn)
          exact N.iret dX4_judge_69 rfl (Nat.zero_le _) (Nat.zero_le _) ⟨_, rfl, (by rw [xjudge, if_neg c4, if_neg c14, if_neg c35, if_neg c53]; exact ⟨rfl, rfl, _, rfl, rel_xup⟩)⟩
        · refine N.aload0 dX4_judge_56 ?_
          refine N.bipush (v := -2) dX4_judge_57 (by decide) ?_
          refine N.vi1 dX4_judge_59 vX4_refuse lkX4_62 (s_X4_refuse _ _ _ _ _ _ _) yO rfl (Nat.le_of_ble_eq_true rfl) (Nat.le_of_ble_eq_true rfl) (Nat.zero_le _) (Nat.zero_le _) ?_
          rintro _ _ _ ⟨rfl, rfl, rfl⟩
          exact N.iret dX4_judge_62 rfl (Nat.zero_le _) (Nat.zero_le _) ⟨_, rfl, (by rw [xjudge, if_neg c4, if_neg c14, if_neg c35, if_pos c53]; exact rf_ok)⟩
      · refine N.aload0 dX4_judge_38 ?_
        refine N.aload3 dX4_judge_39 ?_
        refine N.vi0 dX4_judge_40 vX2_whyNoRow lkX4_74 (Sp.shi hs fun W => s_X2_whyNoRow W _ _ _) (yS hs) rfl (Nat.le_of_ble_eq_true rfl) (Nat.le_of_ble_eq_true rfl) (Nat.zero_le _) (Nat.zero_le _) ?_
        rintro _ _ _ ⟨rfl, rfl, rfl⟩
        refine N.vi1 dX4_judge_43 vX4_refuse lkX4_62 (s_X4_refuse _ _ _ _ _ _ _) yO rfl (Nat.le_of_ble_eq_true rfl) (Nat.le_of_ble_eq_true rfl) (Nat.zero_le _) (Nat.zero_le _) ?_
        rintro _ _ _ ⟨rfl, rfl, rfl⟩
        exact N.iret dX4_judge_46 rfl (Nat.zero_le _) (Nat.zero_le _) ⟨_, rfl, (by rw [xjudge, if_neg c4, if_neg c14, if_pos c35]; exact rf_ok)⟩
    · refine N.aload0 dX4_judge_17 ?_
      refine N.bipush (v := -2) dX4_judge_18 (by decide) ?_
      refine N.vi1 dX4_judge_20 vX4_refuse lkX4_62 (s_X4_refuse _ _ _ _ _ _ _) yO rfl (Nat.le_of_ble_eq_true rfl) (Nat.le_of_ble_eq_true rfl) (Nat.zero_le _) (Nat.zero_le _) ?_
      rintro _ _ _ ⟨rfl, rfl, rfl⟩
      exact N.iret dX4_judge_23 rfl (Nat.zero_le _) (Nat.zero_le _) ⟨_, rfl, (by rw [xjudge, if_neg c4, if_pos c14]; exact rf_ok)⟩
def onBF (x : XV) (i : Nat) (k q : Int32) : Int32 := if bitF ((x.1 0).2 4 ((x.2.2.1 i).1 k.toNatClampNeg).toInt32.toNatClampNeg) q = 1 then 1 else 0
def lgTo (x : XV) (i : Nat) (q : Int32) : Nat → Int32 × Int32
  | 0 => (0, 0)
  | k + 1 => if onBF x i (nI k) q = 0 then (maxF (lgTo x i q k).1 0, 0) else (maxF (lgTo x i q k).1 ((lgTo x i q k).2 + 20), (lgTo x i q k).2 + 20)
def coTo (x : XV) (i : Nat) (q : Int32) : Nat → CV
  | 0 => ((x.1 0).1, upA (x.1 0).2 3 (upd ((x.1 0).2 3) q.toNatClampNeg 0))
  | k + 1 => passV 20 (putOnV (coTo x i q k) ((coTo x i q k).2 4 ((x.2.2.1 i).1 (nI k).toNatClampNeg).toInt32.toNatClampNeg))
def coF (x : XV) (i : Nat) (q : Int32) (m : Nat) : Int32 := (coTo x i q m).2 1 q.toNatClampNeg - legsF (coTo x i q m) q
theorem coTo_ok {x : XV} {i : Nat} {q : Int32} (h : okP (x.1 0)) : ∀ k, okP (coTo x i q k)
  | 0 => h
  | k + 1 => ((coTo_ok h k).on _).pass 20
set_option maxRecDepth 100000 in
theorem s_X4_isOnBy {K : Kx} (w : Wd) (a sz : Nat) (x : XV) (u : CV) (p : Int32 × Int32) (i : Nat) (hs : i < 8) (k q : Int32) (hk : vp_in k 40) (hv : vp_in ((x.2.2.1 i).1 k.toNatClampNeg).toInt32 4) : Sp K mX4_isOnBy 1 0 0 [.ref a, .ref (a + (30 + 2 * i)), .int k, .int q] (putU K w a x u p) sz (Qi fun r w' sz' => r = (onBF x i k q) ∧ w' = putU K w a (x) (u) (p) ∧ sz' = sz) := by
  refine Sp.ofN [some (.ref a), some (.ref (a + (30 + 2 * i))), some (.int k), some (.int q)] rfl rfl rfl (Nat.le_of_ble_eq_true rfl) ?_
  refine N.aload0 dX4_isOnBy_0 ?_
  refine N.getf dX4_isOnBy_1 flX4_10 yO rfl ?_
  refine N.getf dX4_isOnBy_4 flX4_142 yO0 rfl ?_
  refine N.aload1 dX4_isOnBy_7 ?_
  refine N.getf dX4_isOnBy_8 flX4_96 (yS hs) rfl ?_
  refine N.iload2 dX4_isOnBy_11 ?_
  refine N.lald dX4_isOnBy_12 (ySA hs) hk ?_
  refine N.l2i dX4_isOnBy_13 ?_
  refine N.iald dX4_isOnBy_14 yA0_4 hv ?_
  refine N.iload3 dX4_isOnBy_15 ?_
  refine N.si2 dX4_isOnBy_16 vX4_bit lkX4_178 (s_X4_bit _ _ _ _) rfl (Nat.le_of_ble_eq_true rfl) (Nat.le_of_ble_eq_true rfl) (Nat.zero_le _) (Nat.zero_le _) ?_
  rintro _ _ _ ⟨rfl, rfl, rfl⟩
  refine N.iconst (v := 1) dX4_isOnBy_19 (by decide) ?_
  refine N.icmp_ne (tgt := 27) dX4_isOnBy_20 (by decide) (fun c20 => ?_) (fun c20 => ?_)
  · refine N.iconst (v := 0) dX4_isOnBy_27 (by decide) ?_
    exact N.zret dX4_isOnBy_28 rfl rfl (Nat.zero_le _) (Nat.zero_le _) ⟨_, rfl, ⟨(by rw [onBF, if_neg c20]), rfl, rfl⟩⟩
  · refine N.iconst (v := 1) dX4_isOnBy_23 (by decide) ?_
    refine N.goto (tgt := 28) dX4_isOnBy_24 (by decide) ?_
    exact N.zret dX4_isOnBy_28 rfl rfl (Nat.zero_le _) (Nat.zero_le _) ⟨_, rfl, ⟨(by rw [onBF, if_pos c20]), rfl, rfl⟩⟩
set_option maxRecDepth 100000 in
theorem l_X4_longestOn {K : Kx} (w : Wd) (a sz : Nat) (x : XV) (u : CV) (p : Int32 × Int32) (i : Nat) (hs : i < 8) (n q : Int32) (m : Nat) (hm : m ≤ 40) (hn : n = nI m) (hv : ∀ j, j < m → vp_in ((x.2.2.1 i).1 (nI j).toNatClampNeg).toInt32 4) : ∀ nn k, k + nn = m → N K mX4_longestOn 2 0 0 (Qi fun r w' sz' => r = ((lgTo x i q m).1) ∧ w' = putU K w a (x) (u) (p) ∧ sz' = sz) 9 [some (.ref a), some (.ref (a + (30 + 2 * i))), some (.int n), some (.int q), some (.int (lgTo x i q k).1), some (.int (lgTo x i q k).2), some (.int (nI k))] [] (putU K w a x u p) sz 0 0 := by
  intro nn
  induction nn with
  | zero =>
    intro k hk
    obtain rfl : k = m := by omega
    refine N.iload6 dX4_longestOn_9 ?_
    refine N.iload2 dX4_longestOn_11 ?_
    refine N.icmp_ge (tgt := 52) dX4_longestOn_12 (by decide) (fun c12 => ?_) (fun c12 => absurd (pl_ge hn (by omega) (by omega)) c12)
    refine N.iload4 dX4_longestOn_52 ?_
    exact N.iret dX4_longestOn_54 rfl (Nat.zero_le _) (Nat.zero_le _) ⟨_, rfl, ⟨rfl, rfl, rfl⟩⟩
  | succ nn ih =>
    intro k hk
    refine N.iload6 dX4_longestOn_9 ?_
    refine N.iload2 dX4_longestOn_11 ?_
    refine N.icmp_ge (tgt := 52) dX4_longestOn_12 (by decide) (fun c12 => absurd c12 (by rw [hn]; exact nI_ge (by omega) (by omega))) (fun c12 => ?_)
    refine N.aload0 dX4_longestOn_15 ?_
    refine N.aload1 dX4_longestOn_16 ?_
    refine N.iload6 dX4_longestOn_17 ?_
    refine N.iload3 dX4_longestOn_19 ?_
    refine N.vi3 dX4_longestOn_20 vX4_isOnBy lkX4_351 (s_X4_isOnBy _ _ _ _ _ _ _ hs _ _ (in40 (by omega)) (hv k (by omega))) yO rfl (Nat.le_of_ble_eq_true rfl) (Nat.le_of_ble_eq_true rfl) (Nat.zero_le _) (Nat.zero_le _) ?_
    rintro _ _ _ ⟨rfl, rfl, rfl⟩
    refine N.if_eq (tgt := 34) dX4_longestOn_23 (by decide) (fun c23 => ?_) (fun c23 => ?_)
    · refine N.iconst (v := 0) dX4_longestOn_34 (by decide) ?_
      refine N.istore5 dX4_longestOn_35 rfl ?_
      refine N.iload4 dX4_longestOn_37 ?_
      refine N.iload5 dX4_longestOn_39 ?_
      refine N.mmax dX4_longestOn_41 mkX4_327 (Nat.le_of_ble_eq_true rfl) (Nat.le_of_ble_eq_true rfl) (Nat.zero_le _) (Nat.zero_le _) ?_
      refine N.istore4 dX4_longestOn_44 rfl ?_
      refine N.iinc6 dX4_longestOn_46 rfl (nI_inc _) ?_
      refine N.goto (tgt := 9) dX4_longestOn_49 (by decide) ?_
      exact N.wk (by rw [lgTo, if_pos c23]; exact ⟨rfl, rfl, rfl, rfl, rfl, rfl, rfl, trivial⟩) (ih (k + 1) (by omega))
    · refine N.iload5 dX4_longestOn_26 ?_
      refine N.bipush (v := 20) dX4_longestOn_28 (by decide) ?_
      refine N.iadd dX4_longestOn_30 ?_
      refine N.goto (tgt := 35) dX4_longestOn_31 (by decide) ?_
      refine N.istore5 dX4_longestOn_35 rfl ?_
      refine N.iload4 dX4_longestOn_37 ?_
      refine N.iload5 dX4_longestOn_39 ?_
      refine N.mmax dX4_longestOn_41 mkX4_327 (Nat.le_of_ble_eq_true rfl) (Nat.le_of_ble_eq_true rfl) (Nat.zero_le _) (Nat.zero_le _) ?_
      refine N.istore4 dX4_longestOn_44 rfl ?_
      refine N.iinc6 dX4_longestOn_46 rfl (nI_inc _) ?_
      refine N.goto (tgt := 9) dX4_longestOn_49 (by decide) ?_
      exact N.wk (by rw [lgTo, if_neg c23]; exact ⟨rfl, rfl, rfl, rfl, rfl, rfl, rfl, trivial⟩) (ih (k + 1) (by omega))
set_option maxRecDepth 100000 in
theorem s_X4_longestOn {K : Kx} (w : Wd) (a sz : Nat) (x : XV) (u : CV) (p : Int32 × Int32) (i : Nat) (hs : i < 8) (n q : Int32) (m : Nat) (hm : m ≤ 40) (hn : n = nI m) (hv : ∀ j, j < m → vp_in ((x.2.2.1 i).1 (nI j).toNatClampNeg).toInt32 4) : Sp K mX4_longestOn 2 0 0 [.ref a, .ref (a + (30 + 2 * i)), .int n, .int q] (putU K w a x u p) sz (Qi fun r w' sz' => r = ((lgTo x i q m).1) ∧ w' = putU K w a (x) (u) (p) ∧ sz' = sz) := by
  refine Sp.ofN [some (.ref a), some (.ref (a + (30 + 2 * i))), some (.int n), some (.int q), none, none, none] rfl rfl rfl (Nat.le_of_ble_eq_true rfl) ?_
  refine N.iconst (v := 0) dX4_longestOn_0 (by decide) ?_
  refine N.istore4 dX4_longestOn_1 rfl ?_
  refine N.iconst (v := 0) dX4_longestOn_3 (by decide) ?_
  refine N.istore5 dX4_longestOn_4 rfl ?_
  refine N.iconst (v := 0) dX4_longestOn_6 (by decide) ?_
  refine N.istore6 dX4_longestOn_7 rfl ?_
  exact N.wk (by exact ⟨rfl, rfl, rfl, rfl, rfl, rfl, rfl, trivial⟩) (l_X4_longestOn w a _ x u p i hs n q m hm hn hv m 0 (by omega))
set_option maxRecDepth 100000 in
theorem l_X4_costOf {K : Kx} (w : Wd) (a sz : Nat) (x : XV) (p : Int32 × Int32) (i : Nat) (hs : i < 8) (n q : Int32) (h : okP (x.1 0)) (hp : vp_in q 10) (m : Nat) (hm : m ≤ 40) (hn : n = nI m) (hv : ∀ j, j < m → vp_in ((x.2.2.1 i).1 (nI j).toNatClampNeg).toInt32 4) : ∀ nn k, k + nn = m → N K mX4_costOf 4 0 0 (Qi fun r w' sz' => r = coF x i q m ∧ sz' = sz ∧ ∃ u' p', w' = putU K w a x u' p') 24 [some (.ref a), some (.ref (a + (30 + 2 * i))), some (.int n), some (.int q), some (.int (nI k))] [] (putU K w a x (coTo x i q k) p) sz 0 0 := by
  intro nn
  induction nn with
  | zero =>
    intro k hk
    obtain rfl : k = m := by omega
    refine N.iload4 dX4_costOf_24 ?_
    refine N.iload2 dX4_costOf_26 ?_
    refine N.icmp_ge (tgt := 68) dX4_costOf_27 (by decide) (fun c27 => ?_) (fun c27 => absurd (pl_ge hn (by omega) (by omega)) c27)
    refine N.aload0 dX4_costOf_68 ?_
    refine N.getf dX4_costOf_69 flX4_16 yO rfl ?_
    refine N.getf dX4_costOf_72 flX4_125 yO1 rfl ?_
    refine N.iload3 dX4_costOf_75 ?_
    refine N.iald dX4_costOf_76 yA1_1 hp ?_
    refine N.aload0 dX4_costOf_77 ?_
    refine N.getf dX4_costOf_78 flX4_16 yO rfl ?_
    refine N.iload3 dX4_costOf_81 ?_
    refine N.vi1 dX4_costOf_82 vX1_legsOf lkX4_184 (Sp.n1i fun W => s_X1_legsOf W _ _ _ _ hp) yO1 rfl (Nat.le_of_ble_eq_true rfl) (Nat.le_of_ble_eq_true rfl) (Nat.zero_le _) (Nat.zero_le _) ?_
    rintro _ _ _ ⟨rfl, rfl, rfl⟩
    refine N.isub dX4_costOf_85 ?_
    exact N.iret dX4_costOf_86 rfl (Nat.zero_le _) (Nat.zero_le _) ⟨_, rfl, ⟨rfl, rfl, _, _, rfl⟩⟩
  | succ nn ih =>
    intro k hk
    refine N.iload4 dX4_costOf_24 ?_
    refine N.iload2 dX4_costOf_26 ?_
    refine N.icmp_ge (tgt := 68) dX4_costOf_27 (by decide) (fun c27 => absurd c27 (by rw [hn]; exact nI_ge (by omega) (by omega))) (fun c27 => ?_)
    refine N.aload0 dX4_costOf_30 ?_
    refine N.getf dX4_costOf_31 flX4_16 yO rfl ?_
    refine N.aload0 dX4_costOf_34 ?_
    refine N.getf dX4_costOf_35 flX4_16 yO rfl ?_
    refine N.getf dX4_costOf_38 flX4_142 yO1 rfl ?_
    refine N.aload1 dX4_costOf_41 ?_
    refine N.getf dX4_costOf_42 flX4_96 (yS hs) rfl ?_
    refine N.iload4 dX4_costOf_45 ?_
    refine N.lald dX4_costOf_47 (ySA hs) (in40 (by omega)) ?_
    refine N.l2i dX4_costOf_48 ?_
    refine N.iald dX4_costOf_49 yA1_4 (hv k (by omega)) ?_
    refine N.vv1 dX4_costOf_50 vX1_putOn lkX4_256 (Sp.n1v fun W => s_X1_putOn W _ _ _ _) yO1 rfl (Nat.le_of_ble_eq_true rfl) (Nat.le_of_ble_eq_true rfl) (Nat.zero_le _) (Nat.zero_le _) ?_
    rintro _ _ ⟨rfl, rfl⟩
    refine N.aload0 dX4_costOf_53 ?_
    refine N.getf dX4_costOf_54 flX4_16 yO rfl ?_
    refine N.bipush (v := 20) dX4_costOf_57 (by decide) ?_
    refine N.vv1 dX4_costOf_59 vX1_passSeconds lkX4_246 (Sp.n1v fun W => s_X1_passSeconds W _ _ _ _ ((coTo_ok h k).on _)) yO1 rfl (Nat.le_of_ble_eq_true rfl) (Nat.le_of_ble_eq_true rfl) (Nat.zero_le _) (Nat.zero_le _) ?_
    rintro _ _ ⟨rfl, rfl⟩
    refine N.iinc4 dX4_costOf_62 rfl (nI_inc _) ?_
    refine N.goto (tgt := 24) dX4_costOf_65 (by decide) ?_
    exact ih (k + 1) (by omega)
set_option maxRecDepth 100000 in
theorem s_X4_costOf {K : Kx} (w : Wd) (a sz : Nat) (x : XV) (u : CV) (p : Int32 × Int32) (i : Nat) (hs : i < 8) (n q : Int32) (h : okP (x.1 0)) (hp : vp_in q 10) (m : Nat) (hm : m ≤ 40) (hn : n = nI m) (hv : ∀ j, j < m → vp_in ((x.2.2.1 i).1 (nI j).toNatClampNeg).toInt32 4) : Sp K mX4_costOf 4 0 0 [.ref a, .ref (a + (30 + 2 * i)), .int n, .int q] (putU K w a x u p) sz (Qi fun r w' sz' => r = coF x i q m ∧ sz' = sz ∧ ∃ u' p', w' = putU K w a x u' p') := by
  refine Sp.ofN [some (.ref a), some (.ref (a + (30 + 2 * i))), some (.int n), some (.int q), none] rfl rfl rfl (Nat.le_of_ble_eq_true rfl) ?_
  refine N.aload0 dX4_costOf_0 ?_
  refine N.getf dX4_costOf_1 flX4_16 yO rfl ?_
  refine N.aload0 dX4_costOf_4 ?_
  refine N.getf dX4_costOf_5 flX4_10 yO rfl ?_
  refine N.vv1 dX4_costOf_8 vX1_takeFrom lkX4_161 (Sp.tk) yO1 rfl (Nat.le_of_ble_eq_true rfl) (Nat.le_of_ble_eq_true rfl) (Nat.zero_le _) (Nat.zero_le _) ?_
  rintro _ _ ⟨rfl, rfl⟩
  refine N.aload0 dX4_costOf_11 ?_
  refine N.getf dX4_costOf_12 flX4_16 yO rfl ?_
  refine N.getf dX4_costOf_15 flX4_128 yO1 rfl ?_
  refine N.iload3 dX4_costOf_18 ?_
  refine N.iconst (v := 0) dX4_costOf_19 (by decide) ?_
  refine N.iast dX4_costOf_20 yA1_3 hp yS1_3 ?_
  refine N.iconst (v := 0) dX4_costOf_21 (by decide) ?_
  refine N.istore4 dX4_costOf_22 rfl ?_
  exact N.wk (by exact ⟨rfl, rfl, rfl, rfl, rfl, trivial⟩) (l_X4_costOf w a _ x p i hs n q h hp m hm hn hv m 0 (by omega))
def lgF (x : XV) (s n q : Int32) : Int32 := (lgTo x s.toNatClampNeg q n.toNatClampNeg).1
def cosF (x : XV) (s n q : Int32) : Int32 := coF x s.toNatClampNeg q n.toNatClampNeg
theorem lgF_n {x : XV} {s n q : Int32} {m : Nat} (hm : m ≤ 40) (e : n = nI m) : (lgTo x s.toNatClampNeg q m).1 = lgF x s n q := by rw [lgF, e, nI_clamp (by omega)]
theorem cosF_n {x : XV} {s n q : Int32} {m : Nat} (hm : m ≤ 40) (e : n = nI m) : coF x s.toNatClampNeg q m = cosF x s n q := by rw [cosF, e, nI_clamp (by omega)]
theorem jud_in {x : XV} {s n : Int32} {m : Nat} (hm : m ≤ 40) (e : n = nI m) (c : judF x s n = -1) : ∀ j, j < m → vp_in ((x.2.2.1 s.toNatClampNeg).1 (nI j).toNatClampNeg).toInt32 4 := fun j hj => fw_in m 0 (by omega) ((jud_n hm e).trans c) j (Nat.zero_le _) (by omega)
def xbooked (x : XV) (s n q t : Int32) : Int32 × XV := if isInF s 0 7 = 0 then rf x (-2) else if isInF n 0 40 = 0 then rf x (-2) else if isPlF (x.1 0) q = 0 then rf x (-2) else if isInF t 0 1 = 0 then rf x (-2) else if isRowF (x.2.2.1 s.toNatClampNeg) = 0 then rf x (whyF (x.2.2.1 s.toNatClampNeg)) else if hasPF (x.2.2.1 s.toNatClampNeg) 0 n = 0 then rf x (-2) else if judF x s n = -1 then (if t = 0 then (lgF x s n q, x) else (cosF x s n q, x)) else rf x (-5)
set_option maxRecDepth 100000 in
theorem s_X4_booked {K : Kx} (w : Wd) (a sz : Nat) (x : XV) (s : Int32) (n : Int32) (q : Int32) (t : Int32) (hX : okX x)  : Sp K mX4_booked 9 0 0 [.ref a, .int s, .int n, .int q, .int t] (putX K w a x) sz (Qi fun r w' sz' => r = (xbooked x s n q t).1 ∧ sz' = sz ∧ ∃ x', w' = putX K w a x' ∧ rel x' = rel (xbooked x s n q t).2) := by
  refine Sp.ofN [some (.ref a), some (.int s), some (.int n), some (.int q), some (.int t), none, none] rfl rfl rfl (Nat.le_of_ble_eq_true rfl) ?_
  have h : okP (x.1 0) := hX.1
  refine N.eqW (congrArg (putX K w a) (xup_self x)) ?_
  generalize x.1 1 = u0
  generalize x.2.2.2.2.1 = p0
  refine N.iload1 dX4_booked_0 ?_
  refine N.si1 dX4_booked_1 vX4_isShelf lkX4_54 (s_X4_isShelf _ _ _) rfl (Nat.le_of_ble_eq_true rfl) (Nat.le_of_ble_eq_true rfl) (Nat.zero_le _) (Nat.zero_le _) ?_
  rintro _ _ _ ⟨rfl, rfl, rfl⟩
  refine N.if_eq (tgt := 42) dX4_booked_4 (by decide) (fun c4 => ?_) (fun c4 => ?_)
  · refine N.iconst (v := 0) dX4_booked_42 (by decide) ?_
    refine N.istore5 dX4_booked_43 rfl ?_
    refine N.iload5 dX4_booked_45 ?_
    refine N.if_ne (tgt := 57) dX4_booked_47 (by decide) (fun c47 => absurd (by decide) c47) (fun c47 => ?_)
    refine N.aload0 dX4_booked_50 ?_
    refine N.bipush (v := -2) dX4_booked_51 (by decide) ?_
    refine N.vi1 dX4_booked_53 vX4_refuse lkX4_62 (s_X4_refuse _ _ _ _ _ _ _) yO rfl (Nat.le_of_ble_eq_true rfl) (Nat.le_of_ble_eq_true rfl) (Nat.zero_le _) (Nat.zero_le _) ?_
    rintro _ _ _ ⟨rfl, rfl, rfl⟩
    exact N.iret dX4_booked_56 rfl (Nat.zero_le _) (Nat.zero_le _) ⟨_, rfl, (by rw [xbooked, if_pos c4]; exact rf_ok)⟩
  · refine N.iload2 dX4_booked_7 ?_
    refine N.iconst (v := 0) dX4_booked_8 (by decide) ?_
    refine N.bipush (v := 40) dX4_booked_9 (by decide) ?_
    refine N.si3 dX4_booked_11 vX4_isIn lkX4_58 (s_X4_isIn _ _ _ _ _) rfl (Nat.le_of_ble_eq_true rfl) (Nat.le_of_ble_eq_true rfl) (Nat.zero_le _) (Nat.zero_le _) ?_
    rintro _ _ _ ⟨rfl, rfl, rfl⟩
    refine N.if_eq (tgt := 42) dX4_booked_14 (by decide) (fun c14 => ?_) (fun c14 => ?_)
    · refine N.iconst (v := 0) dX4_booked_42 (by decide) ?_
      refine N.istore5 dX4_booked_43 rfl ?_
      refine N.iload5 dX4_booked_45 ?_
      refine N.if_ne (tgt := 57) dX4_booked_47 (by decide) (fun c47 => absurd (by decide) c47) (fun c47 => ?_)
      refine N.aload0 dX4_booked_50 ?_
      refine N.bipush (v := -2) dX4_booked_51 (by decide) ?_
      refine N.vi1 dX4_booked_53 vX4_refuse lkX4_62 (s_X4_refuse _ _ _ _ _ _ _) yO rfl (Nat.le_of_ble_eq_true rfl) (Nat.le_of_ble_eq_true rfl) (Nat.zero_le _) (Nat.zero_le _) ?_
      rintro _ _ _ ⟨rfl, rfl, rfl⟩
      exact N.iret dX4_booked_56 rfl (Nat.zero_le _) (Nat.zero_le _) ⟨_, rfl, (by rw [xbooked, if_neg c4, if_pos c14]; exact rf_ok)⟩
    · refine N.aload0 dX4_booked_17 ?_
      refine N.getf dX4_booked_18 flX4_10 yO rfl ?_
      refine N.iload3 dX4_booked_21 ?_
      refine N.vi1 dX4_booked_22 vX1_isPlayer lkX4_106 (Sp.n0i fun W => s_X1_isPlayer W _ _ _ _) yO0 rfl (Nat.le_of_ble_eq_true rfl) (Nat.le_of_ble_eq_true rfl) (Nat.zero_le _) (Nat.zero_le _) ?_
      rintro _ _ _ ⟨rfl, rfl, rfl⟩
      refine N.if_eq (tgt := 42) dX4_booked_25 (by decide) (fun c25 => ?_) (fun c25 => ?_)
      · refine N.iconst (v := 0) dX4_booked_42 (by decide) ?_
        refine N.istore5 dX4_booked_43 rfl ?_
        refine N.iload5 dX4_booked_45 ?_
        refine N.if_ne (tgt := 57) dX4_booked_47 (by decide) (fun c47 => absurd (by decide) c47) (fun c47 => ?_)
        refine N.aload0 dX4_booked_50 ?_
        refine N.bipush (v := -2) dX4_booked_51 (by decide) ?_
        refine N.vi1 dX4_booked_53 vX4_refuse lkX4_62 (s_X4_refuse _ _ _ _ _ _ _) yO rfl (Nat.le_of_ble_eq_true rfl) (Nat.le_of_ble_eq_true rfl) (Nat.zero_le _) (Nat.zero_le _) ?_
        rintro _ _ _ ⟨rfl, rfl, rfl⟩
        exact N.iret dX4_booked_56 rfl (Nat.zero_le _) (Nat.zero_le _) ⟨_, rfl, (by rw [xbooked, if_neg c4, if_neg c14, if_pos c25]; exact rf_ok)⟩
      · refine N.iload4 dX4_booked_28 ?_
        refine N.iconst (v := 0) dX4_booked_30 (by decide) ?_
        refine N.iconst (v := 1) dX4_booked_31 (by decide) ?_
        refine N.si3 dX4_booked_32 vX4_isIn lkX4_58 (s_X4_isIn _ _ _ _ _) rfl (Nat.le_of_ble_eq_true rfl) (Nat.le_of_ble_eq_true rfl) (Nat.zero_le _) (Nat.zero_le _) ?_
        rintro _ _ _ ⟨rfl, rfl, rfl⟩
        refine N.if_eq (tgt := 42) dX4_booked_35 (by decide) (fun c35 => ?_) (fun c35 => ?_)
        · refine N.iconst (v := 0) dX4_booked_42 (by decide) ?_
          refine N.istore5 dX4_booked_43 rfl ?_
          refine N.iload5 dX4_booked_45 ?_
          refine N.if_ne (tgt := 57) dX4_booked_47 (by decide) (fun c47 => absurd (by decide) c47) (fun c47 => ?_)
          refine N.aload0 dX4_booked_50 ?_
          refine N.bipush (v := -2) dX4_booked_51 (by decide) ?_
          refine N.vi1 dX4_booked_53 vX4_refuse lkX4_62 (s_X4_refuse _ _ _ _ _ _ _) yO rfl (Nat.le_of_ble_eq_true rfl) (Nat.le_of_ble_eq_true rfl) (Nat.zero_le _) (Nat.zero_le _) ?_
          rintro _ _ _ ⟨rfl, rfl, rfl⟩
          exact N.iret dX4_booked_56 rfl (Nat.zero_le _) (Nat.zero_le _) ⟨_, rfl, (by rw [xbooked, if_neg c4, if_neg c14, if_neg c25, if_pos c35]; exact rf_ok)⟩
        · refine N.iconst (v := 1) dX4_booked_38 (by decide) ?_
          refine N.goto (tgt := 43) dX4_booked_39 (by decide) ?_
          refine N.istore5 dX4_booked_43 rfl ?_
          refine N.iload5 dX4_booked_45 ?_
          refine N.if_ne (tgt := 57) dX4_booked_47 (by decide) (fun c47 => ?_) (fun c47 => absurd c47 (by decide))
          obtain ⟨m, hm, hn⟩ := in_n (N' := 40) (by decide) c14
          have hs := sh8 c4
          have hp := pl_in h c25
          refine N.aload0 dX4_booked_57 ?_
          refine N.getf dX4_booked_58 flX4_34 yO rfl ?_
          refine N.iload1 dX4_booked_61 ?_
          refine N.aald dX4_booked_62 yH (sh8v c4) (xShv hs) ?_
          refine N.astore6 dX4_booked_63 rfl ?_
          refine N.aload6 dX4_booked_65 ?_
          refine N.vi0 dX4_booked_67 vX2_isRow lkX4_70 (Sp.shi hs fun W => s_X2_isRow W _ _ _) (yS hs) rfl (Nat.le_of_ble_eq_true rfl) (Nat.le_of_ble_eq_true rfl) (Nat.zero_le _) (Nat.zero_le _) ?_
          rintro _ _ _ ⟨rfl, rfl, rfl⟩
          refine N.if_ne (tgt := 83) dX4_booked_70 (by decide) (fun c70 => ?_) (fun c70 => ?_)
          · refine N.aload6 dX4_booked_83 ?_
            refine N.iconst (v := 0) dX4_booked_85 (by decide) ?_
            refine N.iload2 dX4_booked_86 ?_
            refine N.vi2 dX4_booked_87 vX2_hasPlaces lkX4_92 (Sp.shi hs fun W => s_X2_hasPlaces W _ _ _ _ _) (yS hs) rfl (Nat.le_of_ble_eq_true rfl) (Nat.le_of_ble_eq_true rfl) (Nat.zero_le _) (Nat.zero_le _) ?_
            rintro _ _ _ ⟨rfl, rfl, rfl⟩
            refine N.if_ne (tgt := 100) dX4_booked_90 (by decide) (fun c90 => ?_) (fun c90 => ?_)
            · refine N.aload0 dX4_booked_100 ?_
              refine N.aload6 dX4_booked_101 ?_
              refine N.iload2 dX4_booked_103 ?_
              refine N.vi2 dX4_booked_104 vX4_firstWrong lkX4_304 (s_X4_firstWrong _ _ _ _ _ _ _ hs _ m hm hn) yO rfl (Nat.le_of_ble_eq_true rfl) (Nat.le_of_ble_eq_true rfl) (Nat.zero_le _) (Nat.zero_le _) ?_
              rintro r1 _ _ ⟨er, rfl, rfl⟩
              obtain rfl : r1 = judF x s n := er.trans (jud_n hm hn)
              refine N.iconst (v := -1) dX4_booked_107 (by decide) ?_
              refine N.icmp_eq (tgt := 118) dX4_booked_108 (by decide) (fun c108 => ?_) (fun c108 => ?_)
              · refine N.iload4 dX4_booked_118 ?_
                refine N.if_ne (tgt := 134) dX4_booked_120 (by decide) (fun c120 => ?_) (fun c120 => ?_)
                · refine N.aload0 dX4_booked_134 ?_
                  refine N.aload6 dX4_booked_135 ?_
                  refine N.iload2 dX4_booked_137 ?_
                  refine N.iload3 dX4_booked_138 ?_
                  refine N.vi3 dX4_booked_139 vX4_costOf lkX4_312 (s_X4_costOf _ _ _ _ _ _ _ hs _ _ h hp m hm hn (jud_in hm hn c108)) yO rfl (Nat.le_of_ble_eq_true rfl) (Nat.le_of_ble_eq_true rfl) (Nat.zero_le _) (Nat.zero_le _) ?_
                  rintro r1 _ _ ⟨er, rfl, u2, p2, rfl⟩
                  obtain rfl : r1 = cosF x s n q := er.trans (cosF_n hm hn)
                  exact N.iret dX4_booked_142 rfl (Nat.zero_le _) (Nat.zero_le _) ⟨_, rfl, (by rw [xbooked, if_neg c4, if_neg c14, if_neg c25, if_neg c35, if_neg c70, if_neg c90, if_pos c108, if_neg c120]; exact ⟨rfl, rfl, _, rfl, rel_xup⟩)⟩
                · refine N.aload0 dX4_booked_123 ?_
                  refine N.aload6 dX4_booked_124 ?_
                  refine N.iload2 dX4_booked_126 ?_
                  refine N.iload3 dX4_booked_127 ?_
                  refine N.vi3 dX4_booked_128 vX4_longestOn lkX4_308 (s_X4_longestOn _ _ _ _ _ _ _ hs _ _ m hm hn (jud_in hm hn c108)) yO rfl (Nat.le_of_ble_eq_true rfl) (Nat.le_of_ble_eq_true rfl) (Nat.zero_le _) (Nat.zero_le _) ?_
                  rintro r1 _ _ ⟨er, rfl, rfl⟩
                  obtain rfl : r1 = lgF x s n q := er.trans (lgF_n hm hn)
                  refine N.goto (tgt := 142) dX4_booked_131 (by decide) ?_
                  exact N.iret dX4_booked_142 rfl (Nat.zero_le _) (Nat.zero_le _) ⟨_, rfl, (by rw [xbooked, if_neg c4, if_neg c14, if_neg c25, if_neg c35, if_neg c70, if_neg c90, if_pos c108, if_pos c120]; exact ⟨rfl, rfl, _, rfl, rel_xup⟩)⟩
              · refine N.aload0 dX4_booked_111 ?_
                refine N.bipush (v := -5) dX4_booked_112 (by decide) ?_
                refine N.vi1 dX4_booked_114 vX4_refuse lkX4_62 (s_X4_refuse _ _ _ _ _ _ _) yO rfl (Nat.le_of_ble_eq_true rfl) (Nat.le_of_ble_eq_true rfl) (Nat.zero_le _) (Nat.zero_le _) ?_
                rintro _ _ _ ⟨rfl, rfl, rfl⟩
                exact N.iret dX4_booked_117 rfl (Nat.zero_le _) (Nat.zero_le _) ⟨_, rfl, (by rw [xbooked, if_neg c4, if_neg c14, if_neg c25, if_neg c35, if_neg c70, if_neg c90, if_neg c108]; exact rf_ok)⟩
            · refine N.aload0 dX4_booked_93 ?_
              refine N.bipush (v := -2) dX4_booked_94 (by decide) ?_
              refine N.vi1 dX4_booked_96 vX4_refuse lkX4_62 (s_X4_refuse _ _ _ _ _ _ _) yO rfl (Nat.le_of_ble_eq_true rfl) (Nat.le_of_ble_eq_true rfl) (Nat.zero_le _) (Nat.zero_le _) ?_
              rintro _ _ _ ⟨rfl, rfl, rfl⟩
              exact N.iret dX4_booked_99 rfl (Nat.zero_le _) (Nat.zero_le _) ⟨_, rfl, (by rw [xbooked, if_neg c4, if_neg c14, if_neg c25, if_neg c35, if_neg c70, if_pos c90]; exact rf_ok)⟩
          · refine N.aload0 dX4_booked_73 ?_
            refine N.aload6 dX4_booked_74 ?_
            refine N.vi0 dX4_booked_76 vX2_whyNoRow lkX4_74 (Sp.shi hs fun W => s_X2_whyNoRow W _ _ _) (yS hs) rfl (Nat.le_of_ble_eq_true rfl) (Nat.le_of_ble_eq_true rfl) (Nat.zero_le _) (Nat.zero_le _) ?_
            rintro _ _ _ ⟨rfl, rfl, rfl⟩
            refine N.vi1 dX4_booked_79 vX4_refuse lkX4_62 (s_X4_refuse _ _ _ _ _ _ _) yO rfl (Nat.le_of_ble_eq_true rfl) (Nat.le_of_ble_eq_true rfl) (Nat.zero_le _) (Nat.zero_le _) ?_
            rintro _ _ _ ⟨rfl, rfl, rfl⟩
            exact N.iret dX4_booked_82 rfl (Nat.zero_le _) (Nat.zero_le _) ⟨_, rfl, (by rw [xbooked, if_neg c4, if_neg c14, if_neg c25, if_neg c35, if_pos c70]; exact rf_ok)⟩
