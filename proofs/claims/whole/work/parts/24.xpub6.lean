theorem setR_id {x : XV} : x = setR x 0 (x.1 0) := by
  unfold setR
  refine Prod.ext (funext fun j => ?_) rfl
  by_cases h : j = 0
  · subst h; rfl
  · exact (if_neg h).symm
theorem setR0 {x : XV} {A B : CV} : setR (setR x 0 A) 0 B = setR x 0 B := by
  unfold setR
  refine Prod.ext (funext fun j => ?_) rfl
  show (if j = 0 then B else (if j = 0 then A else x.1 j)) = if j = 0 then B else x.1 j
  by_cases h : j = 0
  · simp [h]
  · simp [h]
theorem tireTo_l {n : Int32} {v : CV} : ∀ k, (tireTo n v k).2 4 = v.2 4
  | 0 => rfl
  | k + 1 => by
    rw [tireTo]
    split
    · exact tireTo_l k
    · exact tireTo_l k
theorem restTo_l {n : Int32} {v : CV} : ∀ k, (restTo n v k).2 4 = v.2 4
  | 0 => rfl
  | k + 1 => by
    rw [restTo]
    split
    · exact restTo_l k
    · exact restTo_l k
theorem come_2 {n : Int32} {v : CV} : (comeV n v).2 = v.2 := by unfold comeV; split <;> rfl
theorem sec_2 {v : CV} : (secV v).2 = v.2 := by unfold secV; split <;> rfl
theorem score_2 {v : CV} {x y z : Int32} : (scoreV v x y z).2 = v.2 := by
  unfold scoreV
  split
  · split <;> rfl
  · rfl
theorem draw_2 {v : CV} : (drawV v).2 = v.2 := rfl
theorem rest_l {n : Int32} {v : CV} : (restV n v).2 4 = v.2 4 := restTo_l _
theorem tire_l {n : Int32} {v : CV} : (tireV n v).2 4 = v.2 4 := tireTo_l _
theorem play1_l {v : CV} : (playV1 v).2 4 = v.2 4 := by
  unfold playV1
  dsimp only
  rw [score_2, draw_2, come_2, sec_2, rest_l, tire_l]
theorem playTo_l {v : CV} : ∀ k, (playTo v k).2 4 = v.2 4
  | 0 => rfl
  | k + 1 => play1_l.trans (playTo_l k)
theorem first_eq {v u : CV} (e : v.2 4 = u.2 4) : firstLF v = firstLF u := by unfold firstLF; rw [e]
theorem frTo_in {v : CV} : ∀ k, k ≤ 4 → ((frTo v k).1 = -1 ∧ ∀ j, j < k → v.2 4 j = 0) ∨ vp_in (frTo v k).1 4
  | 0, _ => Or.inl ⟨rfl, fun j hj => absurd hj (by omega)⟩
  | k + 1, hk => by
    have ih := frTo_in (v := v) k (by omega)
    have hk4 : vp_in (nI k) 4 := in4 (by omega)
    rw [frTo, nI_clamp (by omega)]
    by_cases c : v.2 4 k = 0
    · rw [if_pos c]
      rcases ih with ⟨e, h⟩ | h
      · refine Or.inl ⟨e, fun j hj => ?_⟩
        by_cases ej : j = k
        · rw [ej]; exact c
        · exact h j (by omega)
      · exact Or.inr h
    · rw [if_neg c]
      split
      · exact Or.inr hk4
      · split
        · rcases ih with ⟨e, h⟩ | h
          · exact absurd e (by assumption)
          · exact Or.inr h
        · exact Or.inr hk4
theorem fresh_in {v : CV} (hf : ¬ firstLF v = -1) : vp_in (freshF v) 4 := by
  rcases frTo_in (v := v) 4 (by omega) with ⟨e, h⟩ | h
  · refine absurd ?_ hf
    unfold firstLF
    rw [if_pos (h 0 (by omega)), if_pos (h 1 (by omega)), if_pos (h 2 (by omega)), if_pos (h 3 (by omega))]
  · exact h
def gmA (v : CV) : CV := setS (drawV v) 4 (drawF v 3)
def gmB (v : CV) : CV := chgV (gmA v) (freshF (gmA v))
def gmTo (v : CV) : Nat → CV
  | 0 => v
  | k + 1 => playTo (gmB (gmTo v k)) 20
theorem gmB_2 {v : CV} : (gmB v).2 = v.2 := rfl
theorem gmTo_l {v : CV} : ∀ k, (gmTo v k).2 4 = v.2 4
  | 0 => rfl
  | k + 1 => by rw [gmTo, playTo_l, gmB_2, gmTo_l k]
theorem gmA_ok {v : CV} (h : okP v) : okP (gmA v) := okP.set (v := drawV v) (okP.set h (by decide) _) (by decide) _
theorem gmTo_ok {v : CV} (h : okP v) : ∀ k, okP (gmTo v k)
  | 0 => h
  | k + 1 => okP.play (okP.chg (gmA_ok (gmTo_ok h k)) _) 20
theorem gm_f {v : CV} {k : Nat} (hf : ¬ firstLF v = -1) : vp_in (freshF (gmA (gmTo v k))) 4 := fresh_in (fun q => hf ((first_eq (gmTo_l k)).symm.trans q))
def gmF (v : CV) (n : Int32) : Int32 := (gmTo v n.toNatClampNeg).1 10 - (gmTo v n.toNatClampNeg).1 11 - (v.1 10 - v.1 11)
set_option maxRecDepth 100000 in
theorem l_X4_game {K : Kx} (w : Wd) (a sz : Nat) (x : XV) (u : CV) (p : Int32 × Int32) (n : Int32) (h : okP (x.1 0)) (hf : ¬ firstLF (x.1 0) = -1) (m : Nat) (hm : m ≤ 20) (hn : n = nI m) (P : Int32 → Wd → Nat → Prop) (hP : P (gmF (x.1 0) n) (putU K w a (setR x 0 (gmTo (x.1 0) m)) u p) sz) : ∀ nn k, k + nn = m → N K mX4_game 9 0 0 (Qi P) 53 [some (.ref a), some (.int n), some (.int ((x.1 0).1 10 - (x.1 0).1 11)), some (.int (nI k))] [] (putU K w a (setR x 0 (gmTo (x.1 0) k)) u p) sz 0 0 := by
  intro nn
  induction nn with
  | zero =>
    intro k hk
    obtain rfl : k = m := by omega
    have hcl : n.toNatClampNeg = k := by rw [hn, nI_clamp (by omega)]
    rw [gmF, hcl] at hP
    refine N.iload3 dX4_game_53 ?_
    refine N.iload1 dX4_game_54 ?_
    refine N.icmp_ge (tgt := 104) dX4_game_55 (by decide) (fun c55 => ?_) (fun c55 => absurd (pl_ge hn (by omega) (by omega)) c55)
    refine N.aload0 dX4_game_104 ?_
    refine N.getf dX4_game_105 flX4_10 yO rfl ?_
    refine N.getf dX4_game_108 flX4_318 yO0 rfl ?_
    refine N.aload0 dX4_game_111 ?_
    refine N.getf dX4_game_112 flX4_10 yO rfl ?_
    refine N.getf dX4_game_115 flX4_321 yO0 rfl ?_
    refine N.isub dX4_game_118 ?_
    refine N.iload2 dX4_game_119 ?_
    refine N.isub dX4_game_120 ?_
    exact N.iret dX4_game_121 rfl (Nat.zero_le _) (Nat.zero_le _) ⟨_, rfl, hP⟩
  | succ nn ih =>
    intro k hk
    have hk0 := gmTo_ok h k
    refine N.iload3 dX4_game_53 ?_
    refine N.iload1 dX4_game_54 ?_
    refine N.icmp_ge (tgt := 104) dX4_game_55 (by decide) (fun c55 => absurd c55 (by rw [hn]; exact nI_ge (by omega) (by omega))) (fun c55 => ?_)
    refine N.aload0 dX4_game_58 ?_
    refine N.getf dX4_game_59 flX4_10 yO rfl ?_
    refine N.aload0 dX4_game_62 ?_
    refine N.getf dX4_game_63 flX4_10 yO rfl ?_
    refine N.iconst (v := 3) dX4_game_66 (by decide) ?_
    refine N.vi1 dX4_game_67 vX1_drawBelow lkX4_324 (Sp.n0c (v := drawV (gmTo (x.1 0) k)) fun W => s_X1_drawBelow W _ _ _ _ (by decide) (by decide)) yO0 rfl (Nat.le_of_ble_eq_true rfl) (Nat.le_of_ble_eq_true rfl) (Nat.zero_le _) (Nat.zero_le _) ?_
    rintro _ _ _ ⟨rfl, rfl, rfl⟩
    refine N.eqW (w' := putU K w a (setR x 0 (drawV (gmTo (x.1 0) k))) u p) (congrArg (fun z => putU K w a z u p) setR0) ?_
    refine N.putf dX4_game_70 flX4_145 yO0 (Nat.le_of_ble_eq_true rfl) (fun _ h => by cases h; rfl) rfl rfl yP0_4 ?_
    refine N.eqW (w' := putU K w a (setR x 0 (gmA (gmTo (x.1 0) k))) u p) (congrArg (fun z => putU K w a z u p) setR0) ?_
    refine N.aload0 dX4_game_73 ?_
    refine N.getf dX4_game_74 flX4_10 yO rfl ?_
    refine N.aload0 dX4_game_77 ?_
    refine N.getf dX4_game_78 flX4_10 yO rfl ?_
    refine N.vi0 dX4_game_81 vX1_freshestLine lkX4_220 (Sp.n0i (r := freshF (gmA (gmTo (x.1 0) k))) fun W => s_X1_freshestLine W _ _ _ (gmA_ok hk0)) yO0 rfl (Nat.le_of_ble_eq_true rfl) (Nat.le_of_ble_eq_true rfl) (Nat.zero_le _) (Nat.zero_le _) ?_
    rintro _ _ _ ⟨rfl, rfl, rfl⟩
    refine N.vi1 dX4_game_84 vX1_beginChange lkX4_265 (Sp.n0c (v := gmB (gmTo (x.1 0) k)) fun W => s_X1_beginChange W _ _ _ _ (gm_f hf) (gmA_ok hk0)) yO0 rfl (Nat.le_of_ble_eq_true rfl) (Nat.le_of_ble_eq_true rfl) (Nat.zero_le _) (Nat.zero_le _) ?_
    rintro _ _ _ ⟨rfl, rfl, rfl⟩
    refine N.eqW (w' := putU K w a (setR x 0 (gmB (gmTo (x.1 0) k))) u p) (congrArg (fun z => putU K w a z u p) setR0) ?_
    refine N.pop dX4_game_87 rfl ?_
    refine N.aload0 dX4_game_88 ?_
    refine N.getf dX4_game_89 flX4_10 yO rfl ?_
    refine N.bipush (v := 20) dX4_game_92 (by decide) ?_
    refine N.vi1 dX4_game_94 vX1_playSeconds lkX4_315 (Sp.n0c (v := gmTo (x.1 0) (k + 1)) fun W => s_X1_playSeconds W _ _ _ _ 20 (by decide) rfl (okP.chg (gmA_ok hk0) _)) yO0 rfl (Nat.le_of_ble_eq_true rfl) (Nat.le_of_ble_eq_true rfl) (Nat.zero_le _) (Nat.zero_le _) ?_
    rintro _ _ _ ⟨rfl, rfl, rfl⟩
    refine N.eqW (w' := putU K w a (setR x 0 (gmTo (x.1 0) (k + 1))) u p) (congrArg (fun z => putU K w a z u p) setR0) ?_
    refine N.pop dX4_game_97 rfl ?_
    refine N.iinc3 dX4_game_98 rfl (nI_inc _) ?_
    refine N.goto (tgt := 53) dX4_game_101 (by decide) ?_
    exact ih (k + 1) (by omega)
theorem pub_ok2 {K : Kx} {w : Wd} {a sz : Nat} {y : XV} {g : Int32 × XV} {r : Int32} {u : CV} {p : Int32 × Int32} (e : g = (r, y)) : r = g.1 ∧ sz = sz ∧ ∃ x', putU K w a y u p = putX K w a x' ∧ rel x' = rel g.2 := by
  subst e
  exact ⟨rfl, rfl, _, rfl, rel_xup⟩
def xgame (x : XV) (n : Int32) : Int32 × XV := if isInF n 1 20 = 0 then rg x (-2) else if firstLF (x.1 0) = -1 then rg x (-5) else (gmF (x.1 0) n, setR x 0 (gmTo (x.1 0) n.toNatClampNeg))
set_option maxRecDepth 100000 in
theorem s_X4_game {K : Kx} (w : Wd) (a sz : Nat) (x : XV) (n : Int32) (hX : okX x)  : Sp K mX4_game 9 0 0 [.ref a, .int n] (putX K w a x) sz (Qi fun r w' sz' => r = (xgame x n).1 ∧ sz' = sz ∧ ∃ x', w' = putX K w a x' ∧ rel x' = rel (xgame x n).2) := by
  refine Sp.ofN [some (.ref a), some (.int n), none, none] rfl rfl rfl (Nat.le_of_ble_eq_true rfl) ?_
  have h : okP (x.1 0) := hX.1
  refine N.eqW (congrArg (putX K w a) (xup_self x)) ?_
  generalize x.1 1 = u0
  generalize x.2.2.2.2.1 = p0
  refine N.iload1 dX4_game_0 ?_
  refine N.iconst (v := 1) dX4_game_1 (by decide) ?_
  refine N.bipush (v := 20) dX4_game_2 (by decide) ?_
  refine N.si3 dX4_game_4 vX4_isIn lkX4_58 (s_X4_isIn _ _ _ _ _) rfl (Nat.le_of_ble_eq_true rfl) (Nat.le_of_ble_eq_true rfl) (Nat.zero_le _) (Nat.zero_le _) ?_
  rintro _ _ _ ⟨rfl, rfl, rfl⟩
  refine N.if_ne (tgt := 17) dX4_game_7 (by decide) (fun c7 => ?_) (fun c7 => ?_)
  · refine N.aload0 dX4_game_17 ?_
    refine N.getf dX4_game_18 flX4_10 yO rfl ?_
    refine N.vi0 dX4_game_21 vX1_firstLine lkX4_217 (Sp.n0i fun W => s_X1_firstLine W _ _ _) yO0 rfl (Nat.le_of_ble_eq_true rfl) (Nat.le_of_ble_eq_true rfl) (Nat.zero_le _) (Nat.zero_le _) ?_
    rintro _ _ _ ⟨rfl, rfl, rfl⟩
    refine N.iconst (v := -1) dX4_game_24 (by decide) ?_
    refine N.icmp_ne (tgt := 35) dX4_game_25 (by decide) (fun c25 => ?_) (fun c25 => ?_)
    · obtain ⟨m, hm, hm1, hn⟩ := in_n1 (N' := 20) (by decide) c7
      refine N.aload0 dX4_game_35 ?_
      refine N.getf dX4_game_36 flX4_10 yO rfl ?_
      refine N.getf dX4_game_39 flX4_318 yO0 rfl ?_
      refine N.aload0 dX4_game_42 ?_
      refine N.getf dX4_game_43 flX4_10 yO rfl ?_
      refine N.getf dX4_game_46 flX4_321 yO0 rfl ?_
      refine N.isub dX4_game_49 ?_
      refine N.istore2 dX4_game_50 rfl ?_
      refine N.iconst (v := 0) dX4_game_51 (by decide) ?_
      refine N.istore3 dX4_game_52 rfl ?_
      exact N.eqW (w' := putU K w a (setR x 0 (x.1 0)) _ _) (congrArg (fun z => putU K w a z _ _) setR_id) (N.wk (by exact ⟨rfl, rfl, rfl, rfl, trivial⟩) (l_X4_game w a _ x _ _ n h c25 m hm hn _ (pub_ok2 (by rw [xgame, if_neg c7, if_neg c25, show n.toNatClampNeg = m by rw [hn, nI_clamp (by omega)]])) m 0 (by omega)))
    · refine N.aload0 dX4_game_28 ?_
      refine N.bipush (v := -5) dX4_game_29 (by decide) ?_
      refine N.vi1 dX4_game_31 vX4_refuseGains lkX4_250 (s_X4_refuseGains _ _ _ _ _ _ _) yO rfl (Nat.le_of_ble_eq_true rfl) (Nat.le_of_ble_eq_true rfl) (Nat.zero_le _) (Nat.zero_le _) ?_
      rintro _ _ _ ⟨rfl, rfl, rfl⟩
      exact N.iret dX4_game_34 rfl (Nat.zero_le _) (Nat.zero_le _) ⟨_, rfl, (by rw [xgame, if_neg c7, if_pos c25]; exact rg_ok)⟩
  · refine N.aload0 dX4_game_10 ?_
    refine N.bipush (v := -2) dX4_game_11 (by decide) ?_
    refine N.vi1 dX4_game_13 vX4_refuseGains lkX4_250 (s_X4_refuseGains _ _ _ _ _ _ _) yO rfl (Nat.le_of_ble_eq_true rfl) (Nat.le_of_ble_eq_true rfl) (Nat.zero_le _) (Nat.zero_le _) ?_
    rintro _ _ _ ⟨rfl, rfl, rfl⟩
    exact N.iret dX4_game_16 rfl (Nat.zero_le _) (Nat.zero_le _) ⟨_, rfl, (by rw [xgame, if_pos c7]; exact rg_ok)⟩
def psV (n : Int32) (v : CV) (k : Nat) : CV := (v.1, upA v.2 3 (upd (v.2 3) (nI k).toNatClampNeg (maxF 0 (v.2 3 (nI k).toNatClampNeg - n))))
def psTo (n : Int32) (v : CV) : Nat → CV × Int32
  | 0 => (v, 0)
  | k + 1 => (psV n (psTo n v k).1 k, if (psV n (psTo n v k).1 k).2 3 (nI k).toNatClampNeg ≤ 0 then (psTo n v k).2 else (psTo n v k).2 + 1)
theorem psTo_1 {n : Int32} {v : CV} : ∀ k, (psTo n v k).1.1 = v.1
  | 0 => rfl
  | k + 1 => psTo_1 k
set_option maxRecDepth 100000 in
theorem l_X4_pause {K : Kx} (w : Wd) (a sz : Nat) (x : XV) (u : CV) (p : Int32 × Int32) (n : Int32) (P0 : Nat) (hP0 : P0 ≤ 10) (e0 : (x.1 0).1 0 = nI P0) (P : Int32 → Wd → Nat → Prop) (hP : P (psTo n (x.1 0) P0).2 (putU K w a (setR x 0 (psTo n (x.1 0) P0).1) u p) sz) : ∀ nn k, k + nn = P0 → N K mX4_pause 9 0 0 (Qi P) 21 [some (.ref a), some (.int n), some (.int (psTo n (x.1 0) k).2), some (.int (nI k))] [] (putU K w a (setR x 0 (psTo n (x.1 0) k).1) u p) sz 0 0 := by
  intro nn
  induction nn with
  | zero =>
    intro k hk
    obtain rfl : k = P0 := by omega
    have e1 : (psTo n (x.1 0) k).1.1 0 = nI k := by rw [psTo_1]; exact e0
    refine N.iload3 dX4_pause_21 ?_
    refine N.aload0 dX4_pause_22 ?_
    refine N.getf dX4_pause_23 flX4_10 yO rfl ?_
    refine N.getf dX4_pause_26 flX4_229 yO0 rfl ?_
    refine N.icmp_ge (tgt := 77) dX4_pause_29 (by decide) (fun c29 => ?_) (fun c29 => absurd (pl_ge e1 (by omega) (by omega)) c29)
    refine N.iload2 dX4_pause_77 ?_
    exact N.iret dX4_pause_78 rfl (Nat.zero_le _) (Nat.zero_le _) ⟨_, rfl, hP⟩
  | succ nn ih =>
    intro k hk
    have e1 : (psTo n (x.1 0) k).1.1 0 = nI P0 := by rw [psTo_1]; exact e0
    refine N.iload3 dX4_pause_21 ?_
    refine N.aload0 dX4_pause_22 ?_
    refine N.getf dX4_pause_23 flX4_10 yO rfl ?_
    refine N.getf dX4_pause_26 flX4_229 yO0 rfl ?_
    refine N.icmp_ge (tgt := 77) dX4_pause_29 (by decide) (fun c29 => absurd c29 (pl_nge e1 (by omega) (by omega))) (fun c29 => ?_)
    refine N.aload0 dX4_pause_32 ?_
    refine N.getf dX4_pause_33 flX4_10 yO rfl ?_
    refine N.getf dX4_pause_36 flX4_128 yO0 rfl ?_
    refine N.iload3 dX4_pause_39 ?_
    refine N.iconst (v := 0) dX4_pause_40 (by decide) ?_
    refine N.aload0 dX4_pause_41 ?_
    refine N.getf dX4_pause_42 flX4_10 yO rfl ?_
    refine N.getf dX4_pause_45 flX4_128 yO0 rfl ?_
    refine N.iload3 dX4_pause_48 ?_
    refine N.iald dX4_pause_49 yA0_3 (in10 (by omega)) ?_
    refine N.iload1 dX4_pause_50 ?_
    refine N.isub dX4_pause_51 ?_
    refine N.mmax dX4_pause_52 mkX4_327 (Nat.le_of_ble_eq_true rfl) (Nat.le_of_ble_eq_true rfl) (Nat.zero_le _) (Nat.zero_le _) ?_
    refine N.iast dX4_pause_55 yA0_3 (in10 (by omega)) yS0_3 ?_
    refine N.eqW (w' := putU K w a (setR x 0 (psV n (psTo n (x.1 0) k).1 k)) u p) (congrArg (fun z => putU K w a z u p) setR0) ?_
    refine N.aload0 dX4_pause_56 ?_
    refine N.getf dX4_pause_57 flX4_10 yO rfl ?_
    refine N.getf dX4_pause_60 flX4_128 yO0 rfl ?_
    refine N.iload3 dX4_pause_63 ?_
    refine N.iald dX4_pause_64 yA0_3 (in10 (by omega)) ?_
    refine N.if_le (tgt := 71) dX4_pause_65 (by decide) (fun c65 => ?_) (fun c65 => ?_)
    · refine N.iinc3 dX4_pause_71 rfl (nI_inc _) ?_
      refine N.goto (tgt := 21) dX4_pause_74 (by decide) ?_
      exact N.wk (by rw [psTo, if_pos (show (psV n (psTo n (x.1 0) k).1 k).2 3 (nI k).toNatClampNeg ≤ 0 from c65)]; exact ⟨rfl, rfl, rfl, rfl, trivial⟩) (ih (k + 1) (by omega))
    · refine N.iinc2 dX4_pause_68 rfl rfl ?_
      refine N.iinc3 dX4_pause_71 rfl (nI_inc _) ?_
      refine N.goto (tgt := 21) dX4_pause_74 (by decide) ?_
      exact N.wk (by rw [psTo, if_neg (show ¬ (psV n (psTo n (x.1 0) k).1 k).2 3 (nI k).toNatClampNeg ≤ 0 from c65)]; exact ⟨rfl, rfl, rfl, rfl, trivial⟩) (ih (k + 1) (by omega))
theorem psn {n : Int32} {v : CV} {P : Nat} (e : np v = P) : psTo n v (np v) = psTo n v P := by rw [e]
def xpause (x : XV) (n : Int32) : Int32 × XV := if isInF n 1 100 = 0 then rf x (-2) else ((psTo n (x.1 0) (np (x.1 0))).2, setR x 0 (psTo n (x.1 0) (np (x.1 0))).1)
set_option maxRecDepth 100000 in
theorem s_X4_pause {K : Kx} (w : Wd) (a sz : Nat) (x : XV) (n : Int32) (hX : okX x)  : Sp K mX4_pause 9 0 0 [.ref a, .int n] (putX K w a x) sz (Qi fun r w' sz' => r = (xpause x n).1 ∧ sz' = sz ∧ ∃ x', w' = putX K w a x' ∧ rel x' = rel (xpause x n).2) := by
  refine Sp.ofN [some (.ref a), some (.int n), none, none] rfl rfl rfl (Nat.le_of_ble_eq_true rfl) ?_
  have h : okP (x.1 0) := hX.1
  refine N.eqW (congrArg (putX K w a) (xup_self x)) ?_
  generalize x.1 1 = u0
  generalize x.2.2.2.2.1 = p0
  refine N.iload1 dX4_pause_0 ?_
  refine N.iconst (v := 1) dX4_pause_1 (by decide) ?_
  refine N.bipush (v := 100) dX4_pause_2 (by decide) ?_
  refine N.si3 dX4_pause_4 vX4_isIn lkX4_58 (s_X4_isIn _ _ _ _ _) rfl (Nat.le_of_ble_eq_true rfl) (Nat.le_of_ble_eq_true rfl) (Nat.zero_le _) (Nat.zero_le _) ?_
  rintro _ _ _ ⟨rfl, rfl, rfl⟩
  refine N.if_ne (tgt := 17) dX4_pause_7 (by decide) (fun c7 => ?_) (fun c7 => ?_)
  · obtain ⟨P0, hP0, e0, e1⟩ := np_ex h
    refine N.iconst (v := 0) dX4_pause_17 (by decide) ?_
    refine N.istore2 dX4_pause_18 rfl ?_
    refine N.iconst (v := 0) dX4_pause_19 (by decide) ?_
    refine N.istore3 dX4_pause_20 rfl ?_
    exact N.eqW (w' := putU K w a (setR x 0 (x.1 0)) _ _) (congrArg (fun z => putU K w a z _ _) setR_id) (N.wk (by exact ⟨rfl, rfl, rfl, rfl, trivial⟩) (l_X4_pause w a _ x _ _ n P0 hP0 e0 _ (pub_ok2 (by rw [xpause, if_neg c7, psn e1])) P0 0 (by omega)))
  · refine N.aload0 dX4_pause_10 ?_
    refine N.bipush (v := -2) dX4_pause_11 (by decide) ?_
    refine N.vi1 dX4_pause_13 vX4_refuse lkX4_62 (s_X4_refuse _ _ _ _ _ _ _) yO rfl (Nat.le_of_ble_eq_true rfl) (Nat.le_of_ble_eq_true rfl) (Nat.zero_le _) (Nat.zero_le _) ?_
    rintro _ _ _ ⟨rfl, rfl, rfl⟩
    exact N.iret dX4_pause_16 rfl (Nat.zero_le _) (Nat.zero_le _) ⟨_, rfl, (by rw [xpause, if_pos c7]; exact rf_ok)⟩
def bkTo (y : XV) : Nat → XV
  | 0 => y
  | k + 1 => if isPlrF ((bkTo y k).2.2.1 k) = 0 then bkTo y k else if isPlF ((bkTo y k).1 0) (((bkTo y k).2.2.1 k).2.1 - 10) = 0 then setSh (bkTo y k) k (((bkTo y k).2.2.1 k).1, -1, ((bkTo y k).2.2.1 k).2.2) else bkTo y k
set_option maxRecDepth 100000 in
theorem l_X4_back {K : Kx} (w : Wd) (a sz : Nat) (x : XV) (u : CV) (p : Int32 × Int32) (P : Int32 → Wd → Nat → Prop) (hP : P 1 (putU K w a (bkTo x 8) u p) sz) : ∀ nn k, k + nn = 8 → N K mX4_back 9 0 0 (Qi P) 27 [some (.ref a), some (.int (nI k))] [] (putU K w a (bkTo x k) u p) sz 0 0 := by
  intro nn
  induction nn with
  | zero =>
    intro k hk
    obtain rfl : k = 8 := by omega
    refine N.iload1 dX4_back_27 ?_
    refine N.bipush (v := 8) dX4_back_28 (by decide) ?_
    refine N.icmp_ge (tgt := 83) dX4_back_30 (by decide) (fun c30 => ?_) (fun c30 => absurd (by decide) c30)
    refine N.iconst (v := 1) dX4_back_83 (by decide) ?_
    exact N.iret dX4_back_84 rfl (Nat.zero_le _) (Nat.zero_le _) ⟨_, rfl, hP⟩
  | succ nn ih =>
    intro k hk
    refine N.iload1 dX4_back_27 ?_
    refine N.bipush (v := 8) dX4_back_28 (by decide) ?_
    refine N.icmp_ge (tgt := 83) dX4_back_30 (by decide) (fun c30 => absurd c30 (nI_ge (a := k) (b := 8) (by omega) (by omega))) (fun c30 => ?_)
    refine N.aload0 dX4_back_33 ?_
    refine N.getf dX4_back_34 flX4_34 yO rfl ?_
    refine N.iload1 dX4_back_37 ?_
    refine N.aald dX4_back_38 yH (nI8 (by omega)) (xShn (by omega)) ?_
    refine N.vi0 dX4_back_39 vX2_isPlayer lkX4_89 (Sp.shi (i := k) (by omega) fun W => s_X2_isPlayer W _ _ _) (yS (i := k) (by omega)) rfl (Nat.le_of_ble_eq_true rfl) (Nat.le_of_ble_eq_true rfl) (Nat.zero_le _) (Nat.zero_le _) ?_
    rintro _ _ _ ⟨rfl, rfl, rfl⟩
    refine N.if_eq (tgt := 77) dX4_back_42 (by decide) (fun c42 => ?_) (fun c42 => ?_)
    · refine N.iinc1 dX4_back_77 rfl (nI_inc _) ?_
      refine N.goto (tgt := 27) dX4_back_80 (by decide) ?_
      exact N.eqW (w' := putU K w a (bkTo x (k + 1)) u p) (by rw [bkTo, if_pos c42]) (ih (k + 1) (by omega))
    · refine N.aload0 dX4_back_45 ?_
      refine N.getf dX4_back_46 flX4_10 yO rfl ?_
      refine N.aload0 dX4_back_49 ?_
      refine N.getf dX4_back_50 flX4_34 yO rfl ?_
      refine N.iload1 dX4_back_53 ?_
      refine N.aald dX4_back_54 yH (nI8 (by omega)) (xShn (by omega)) ?_
      refine N.getf dX4_back_55 flX4_86 (yS (i := k) (by omega)) rfl ?_
      refine N.bipush (v := 10) dX4_back_58 (by decide) ?_
      refine N.isub dX4_back_60 ?_
      refine N.vi1 dX4_back_61 vX1_isPlayer lkX4_106 (Sp.n0i fun W => s_X1_isPlayer W _ _ _ _) yO0 rfl (Nat.le_of_ble_eq_true rfl) (Nat.le_of_ble_eq_true rfl) (Nat.zero_le _) (Nat.zero_le _) ?_
      rintro _ _ _ ⟨rfl, rfl, rfl⟩
      refine N.if_ne (tgt := 77) dX4_back_64 (by decide) (fun c64 => ?_) (fun c64 => ?_)
      · refine N.iinc1 dX4_back_77 rfl (nI_inc _) ?_
        refine N.goto (tgt := 27) dX4_back_80 (by decide) ?_
        exact N.eqW (w' := putU K w a (bkTo x (k + 1)) u p) (by rw [bkTo, if_neg c42, if_neg c64]) (ih (k + 1) (by omega))
      · refine N.aload0 dX4_back_67 ?_
        refine N.getf dX4_back_68 flX4_34 yO rfl ?_
        refine N.iload1 dX4_back_71 ?_
        refine N.aald dX4_back_72 yH (nI8 (by omega)) (xShn (by omega)) ?_
        refine N.iconst (v := -1) dX4_back_73 (by decide) ?_
        refine N.putf dX4_back_74 flX4_86 (yS (i := k) (by omega)) (Nat.le_of_ble_eq_true rfl) (fun _ h => by cases h; rfl) rfl rfl (yShP (by omega)) ?_
        refine N.iinc1 dX4_back_77 rfl (nI_inc _) ?_
        refine N.goto (tgt := 27) dX4_back_80 (by decide) ?_
        exact N.eqW (w' := putU K w a (bkTo x (k + 1)) u p) (by rw [bkTo, if_neg c42, if_pos c64]) (ih (k + 1) (by omega))
def xback (x : XV) : Int32 × XV := if x.2.2.2.2.2 = 0 then rf x (-5) else (1, bkTo (setR x 0 (x.1 2)) 8)
set_option maxRecDepth 100000 in
theorem s_X4_back {K : Kx} (w : Wd) (a sz : Nat) (x : XV) (hX : okX x)  : Sp K mX4_back 9 0 0 [.ref a] (putX K w a x) sz (Qi fun r w' sz' => r = (xback x).1 ∧ sz' = sz ∧ ∃ x', w' = putX K w a x' ∧ rel x' = rel (xback x).2) := by
  refine Sp.ofN [some (.ref a), none] rfl rfl rfl (Nat.le_of_ble_eq_true rfl) ?_
  have h : okP (x.1 0) := hX.1
  refine N.eqW (congrArg (putX K w a) (xup_self x)) ?_
  generalize x.1 1 = u0
  generalize x.2.2.2.2.1 = p0
  refine N.aload0 dX4_back_0 ?_
  refine N.getf dX4_back_1 flX4_49 yO rfl ?_
  refine N.if_ne (tgt := 14) dX4_back_4 (by decide) (fun c4 => ?_) (fun c4 => ?_)
  · refine N.aload0 dX4_back_14 ?_
    refine N.getf dX4_back_15 flX4_10 yO rfl ?_
    refine N.aload0 dX4_back_18 ?_
    refine N.getf dX4_back_19 flX4_19 yO rfl ?_
    refine N.vv1 dX4_back_22 vX1_takeFrom lkX4_161 (Sp.tk02) yO0 rfl (Nat.le_of_ble_eq_true rfl) (Nat.le_of_ble_eq_true rfl) (Nat.zero_le _) (Nat.zero_le _) ?_
    rintro _ _ ⟨rfl, rfl⟩
    refine N.iconst (v := 0) dX4_back_25 (by decide) ?_
    refine N.istore1 dX4_back_26 rfl ?_
    exact N.wk (by exact ⟨rfl, rfl, trivial⟩) (l_X4_back w a _ (setR x 0 (x.1 2)) _ _ _ (pub_ok2 (by rw [xback, if_neg c4])) 8 0 (by omega))
  · refine N.aload0 dX4_back_7 ?_
    refine N.bipush (v := -5) dX4_back_8 (by decide) ?_
    refine N.vi1 dX4_back_10 vX4_refuse lkX4_62 (s_X4_refuse _ _ _ _ _ _ _) yO rfl (Nat.le_of_ble_eq_true rfl) (Nat.le_of_ble_eq_true rfl) (Nat.zero_le _) (Nat.zero_le _) ?_
    rintro _ _ _ ⟨rfl, rfl, rfl⟩
    exact N.iret dX4_back_13 rfl (Nat.zero_le _) (Nat.zero_le _) ⟨_, rfl, (by rw [xback, if_pos c4]; exact rf_ok)⟩
theorem hasP_ok {v : SV} (hz : szOk v) {i n : Int32} (c : ¬ hasPF v i n = 0) : ¬ i < 0 ∧ ¬ n < 0 ∧ i.toNatClampNeg + n.toNatClampNeg ≤ 40 := by
  obtain ⟨Z, hZ, e⟩ := hz
  unfold hasPF at c
  by_cases c1 : isInF n 0 v.2.2 = 0
  · rw [if_pos c1] at c; exact absurd rfl c
  rw [if_neg c1] at c
  by_cases c2 : isInF i 0 (v.2.2 - n) = 0
  · rw [if_pos c2] at c; exact absurd rfl c
  rw [e] at c1 c2
  obtain ⟨h1, h2⟩ := isIn_ne c1
  obtain ⟨N', hN, rfl⟩ := nI_of2 (n := Z) (nI_toInt (by omega)) h1 (Int32.not_lt.mp h2)
  rw [nI_sub hN] at c2
  obtain ⟨h3, h4⟩ := isIn_ne c2
  obtain ⟨I', hI, rfl⟩ := nI_of2 (n := Z - N') (nI_toInt (by omega)) h3 (Int32.not_lt.mp h4)
  refine ⟨h3, h1, ?_⟩
  rw [nI_clamp (by omega), nI_clamp (by omega)]
  omega
theorem ySK {K : Kx} {w : Wd} {a : Nat} {x : XV} {u : CV} {p : Int32 × Int32} {i : Nat} (hi : i < 8) {f : Nat → Int64} : upW (putU K w a x u p) (a + (30 + 2 * i) + 1) (.inl (kC K 1, 40, .inr (.inl f))) = putU K w a (setSh x i (f, (x.2.2.1 i).2)) u p := (congrArg (fun z => upW z (a + (30 + 2 * i) + 1) _) (ySe hi)).trans (shK.trans (ySs hi))
def xcopy (x : XV) (s q i j n : Int32) : Int32 × XV := if isInF s 0 7 = 0 then rf x (-2) else if isInF q 0 7 = 0 then rf x (-2) else if isRowF (x.2.2.1 s.toNatClampNeg) = 0 then (if isPlrF (x.2.2.1 s.toNatClampNeg) = 0 then (if isPlrF (x.2.2.1 q.toNatClampNeg) = 0 then rf x (-4) else rf x (-3)) else rf x (-3)) else if isRowF (x.2.2.1 q.toNatClampNeg) = 0 then (if isPlrF (x.2.2.1 s.toNatClampNeg) = 0 then (if isPlrF (x.2.2.1 q.toNatClampNeg) = 0 then rf x (-4) else rf x (-3)) else rf x (-3)) else if (x.2.2.1 s.toNatClampNeg).2.1 = (x.2.2.1 q.toNatClampNeg).2.1 then (if isPlrF (x.2.2.1 s.toNatClampNeg) = 0 then (if isPlrF (x.2.2.1 q.toNatClampNeg) = 0 then (if hasPF (x.2.2.1 s.toNatClampNeg) i n = 0 then rf x (-2) else if hasPF (x.2.2.1 q.toNatClampNeg) j n = 0 then rf x (-2) else (n, setSh x q.toNatClampNeg (va_cpy (x.2.2.1 s.toNatClampNeg).1 (x.2.2.1 q.toNatClampNeg).1 i.toNatClampNeg j.toNatClampNeg n.toNatClampNeg, (x.2.2.1 q.toNatClampNeg).2))) else rf x (-3)) else rf x (-3)) else (if isPlrF (x.2.2.1 s.toNatClampNeg) = 0 then (if isPlrF (x.2.2.1 q.toNatClampNeg) = 0 then rf x (-3) else rf x (-3)) else rf x (-3))
set_option maxRecDepth 100000 in
theorem s_X4_copy {K : Kx} (w : Wd) (a sz : Nat) (x : XV) (s : Int32) (q : Int32) (i : Int32) (j : Int32) (n : Int32) (hX : okX x)  : Sp K mX4_copy 9 0 0 [.ref a, .int s, .int q, .int i, .int j, .int n] (putX K w a x) sz (Qi fun r w' sz' => r = (xcopy x s q i j n).1 ∧ sz' = sz ∧ ∃ x', w' = putX K w a x' ∧ rel x' = rel (xcopy x s q i j n).2) := by
  refine Sp.ofN [some (.ref a), some (.int s), some (.int q), some (.int i), some (.int j), some (.int n), none, none, none] rfl rfl rfl (Nat.le_of_ble_eq_true rfl) ?_
  have h : okP (x.1 0) := hX.1
  refine N.eqW (congrArg (putX K w a) (xup_self x)) ?_
  generalize x.1 1 = u0
  generalize x.2.2.2.2.1 = p0
  refine N.iload1 dX4_copy_0 ?_
  refine N.si1 dX4_copy_1 vX4_isShelf lkX4_54 (s_X4_isShelf _ _ _) rfl (Nat.le_of_ble_eq_true rfl) (Nat.le_of_ble_eq_true rfl) (Nat.zero_le _) (Nat.zero_le _) ?_
  rintro _ _ _ ⟨rfl, rfl, rfl⟩
  refine N.if_eq (tgt := 14) dX4_copy_4 (by decide) (fun c4 => ?_) (fun c4 => ?_)
  · refine N.aload0 dX4_copy_14 ?_
    refine N.bipush (v := -2) dX4_copy_15 (by decide) ?_
    refine N.vi1 dX4_copy_17 vX4_refuse lkX4_62 (s_X4_refuse _ _ _ _ _ _ _) yO rfl (Nat.le_of_ble_eq_true rfl) (Nat.le_of_ble_eq_true rfl) (Nat.zero_le _) (Nat.zero_le _) ?_
    rintro _ _ _ ⟨rfl, rfl, rfl⟩
    exact N.iret dX4_copy_20 rfl (Nat.zero_le _) (Nat.zero_le _) ⟨_, rfl, (by rw [xcopy, if_pos c4]; exact rf_ok)⟩
  · refine N.iload2 dX4_copy_7 ?_
    refine N.si1 dX4_copy_8 vX4_isShelf lkX4_54 (s_X4_isShelf _ _ _) rfl (Nat.le_of_ble_eq_true rfl) (Nat.le_of_ble_eq_true rfl) (Nat.zero_le _) (Nat.zero_le _) ?_
    rintro _ _ _ ⟨rfl, rfl, rfl⟩
    refine N.if_ne (tgt := 21) dX4_copy_11 (by decide) (fun c11 => ?_) (fun c11 => ?_)
    · have hs := sh8 c4
      have hq := sh8 c11
      refine N.aload0 dX4_copy_21 ?_
      refine N.getf dX4_copy_22 flX4_34 yO rfl ?_
      refine N.iload1 dX4_copy_25 ?_
      refine N.aald dX4_copy_26 yH (sh8v c4) (xShv hs) ?_
      refine N.astore6 dX4_copy_27 rfl ?_
      refine N.aload0 dX4_copy_29 ?_
      refine N.getf dX4_copy_30 flX4_34 yO rfl ?_
      refine N.iload2 dX4_copy_33 ?_
      refine N.aald dX4_copy_34 yH (sh8v c11) (xShv hq) ?_
      refine N.astore7 dX4_copy_35 rfl ?_
      refine N.aload6 dX4_copy_37 ?_
      refine N.vi0 dX4_copy_39 vX2_isRow lkX4_70 (Sp.shi hs fun W => s_X2_isRow W _ _ _) (yS hs) rfl (Nat.le_of_ble_eq_true rfl) (Nat.le_of_ble_eq_true rfl) (Nat.zero_le _) (Nat.zero_le _) ?_
      rintro _ _ _ ⟨rfl, rfl, rfl⟩
      refine N.if_eq (tgt := 70) dX4_copy_42 (by decide) (fun c42 => ?_) (fun c42 => ?_)
      · refine N.iconst (v := 0) dX4_copy_70 (by decide) ?_
        refine N.istore8 dX4_copy_71 rfl ?_
        refine N.aload6 dX4_copy_73 ?_
        refine N.vi0 dX4_copy_75 vX2_isPlayer lkX4_89 (Sp.shi hs fun W => s_X2_isPlayer W _ _ _) (yS hs) rfl (Nat.le_of_ble_eq_true rfl) (Nat.le_of_ble_eq_true rfl) (Nat.zero_le _) (Nat.zero_le _) ?_
        rintro _ _ _ ⟨rfl, rfl, rfl⟩
        refine N.if_ne (tgt := 94) dX4_copy_78 (by decide) (fun c78 => ?_) (fun c78 => ?_)
        · refine N.aload0 dX4_copy_94 ?_
          refine N.bipush (v := -3) dX4_copy_95 (by decide) ?_
          refine N.vi1 dX4_copy_97 vX4_refuse lkX4_62 (s_X4_refuse _ _ _ _ _ _ _) yO rfl (Nat.le_of_ble_eq_true rfl) (Nat.le_of_ble_eq_true rfl) (Nat.zero_le _) (Nat.zero_le _) ?_
          rintro _ _ _ ⟨rfl, rfl, rfl⟩
          exact N.iret dX4_copy_100 rfl (Nat.zero_le _) (Nat.zero_le _) ⟨_, rfl, (by rw [xcopy, if_neg c4, if_neg c11, if_pos c42, if_neg c78]; exact rf_ok)⟩
        · refine N.aload7 dX4_copy_81 ?_
          refine N.vi0 dX4_copy_83 vX2_isPlayer lkX4_89 (Sp.shi hq fun W => s_X2_isPlayer W _ _ _) (yS hq) rfl (Nat.le_of_ble_eq_true rfl) (Nat.le_of_ble_eq_true rfl) (Nat.zero_le _) (Nat.zero_le _) ?_
          rintro _ _ _ ⟨rfl, rfl, rfl⟩
          refine N.if_ne (tgt := 94) dX4_copy_86 (by decide) (fun c86 => ?_) (fun c86 => ?_)
          · refine N.aload0 dX4_copy_94 ?_
            refine N.bipush (v := -3) dX4_copy_95 (by decide) ?_
            refine N.vi1 dX4_copy_97 vX4_refuse lkX4_62 (s_X4_refuse _ _ _ _ _ _ _) yO rfl (Nat.le_of_ble_eq_true rfl) (Nat.le_of_ble_eq_true rfl) (Nat.zero_le _) (Nat.zero_le _) ?_
            rintro _ _ _ ⟨rfl, rfl, rfl⟩
            exact N.iret dX4_copy_100 rfl (Nat.zero_le _) (Nat.zero_le _) ⟨_, rfl, (by rw [xcopy, if_neg c4, if_neg c11, if_pos c42, if_pos c78, if_neg c86]; exact rf_ok)⟩
          · refine N.iload8 dX4_copy_89 ?_
            refine N.if_eq (tgt := 101) dX4_copy_91 (by decide) (fun c91 => ?_) (fun c91 => absurd (by decide) c91)
            refine N.aload6 dX4_copy_101 ?_
            refine N.vi0 dX4_copy_103 vX2_isRow lkX4_70 (Sp.shi hs fun W => s_X2_isRow W _ _ _) (yS hs) rfl (Nat.le_of_ble_eq_true rfl) (Nat.le_of_ble_eq_true rfl) (Nat.zero_le _) (Nat.zero_le _) ?_
            rintro _ _ _ ⟨rfl, rfl, rfl⟩
            refine N.if_eq (tgt := 117) dX4_copy_106 (by decide) (fun c106 => ?_) (fun c106 => absurd c42 c106)
            refine N.aload0 dX4_copy_117 ?_
            refine N.bipush (v := -4) dX4_copy_118 (by decide) ?_
            refine N.vi1 dX4_copy_120 vX4_refuse lkX4_62 (s_X4_refuse _ _ _ _ _ _ _) yO rfl (Nat.le_of_ble_eq_true rfl) (Nat.le_of_ble_eq_true rfl) (Nat.zero_le _) (Nat.zero_le _) ?_
            rintro _ _ _ ⟨rfl, rfl, rfl⟩
            exact N.iret dX4_copy_123 rfl (Nat.zero_le _) (Nat.zero_le _) ⟨_, rfl, (by rw [xcopy, if_neg c4, if_neg c11, if_pos c42, if_pos c78, if_pos c86]; exact rf_ok)⟩
      · refine N.aload7 dX4_copy_45 ?_
        refine N.vi0 dX4_copy_47 vX2_isRow lkX4_70 (Sp.shi hq fun W => s_X2_isRow W _ _ _) (yS hq) rfl (Nat.le_of_ble_eq_true rfl) (Nat.le_of_ble_eq_true rfl) (Nat.zero_le _) (Nat.zero_le _) ?_
        rintro _ _ _ ⟨rfl, rfl, rfl⟩
        refine N.if_eq (tgt := 70) dX4_copy_50 (by decide) (fun c50 => ?_) (fun c50 => ?_)
        · refine N.iconst (v := 0) dX4_copy_70 (by decide) ?_
          refine N.istore8 dX4_copy_71 rfl ?_
          refine N.aload6 dX4_copy_73 ?_
          refine N.vi0 dX4_copy_75 vX2_isPlayer lkX4_89 (Sp.shi hs fun W => s_X2_isPlayer W _ _ _) (yS hs) rfl (Nat.le_of_ble_eq_true rfl) (Nat.le_of_ble_eq_true rfl) (Nat.zero_le _) (Nat.zero_le _) ?_
          rintro _ _ _ ⟨rfl, rfl, rfl⟩
          refine N.if_ne (tgt := 94) dX4_copy_78 (by decide) (fun c78 => ?_) (fun c78 => ?_)
          · refine N.aload0 dX4_copy_94 ?_
            refine N.bipush (v := -3) dX4_copy_95 (by decide) ?_
            refine N.vi1 dX4_copy_97 vX4_refuse lkX4_62 (s_X4_refuse _ _ _ _ _ _ _) yO rfl (Nat.le_of_ble_eq_true rfl) (Nat.le_of_ble_eq_true rfl) (Nat.zero_le _) (Nat.zero_le _) ?_
            rintro _ _ _ ⟨rfl, rfl, rfl⟩
            exact N.iret dX4_copy_100 rfl (Nat.zero_le _) (Nat.zero_le _) ⟨_, rfl, (by rw [xcopy, if_neg c4, if_neg c11, if_neg c42, if_pos c50, if_neg c78]; exact rf_ok)⟩
          · refine N.aload7 dX4_copy_81 ?_
            refine N.vi0 dX4_copy_83 vX2_isPlayer lkX4_89 (Sp.shi hq fun W => s_X2_isPlayer W _ _ _) (yS hq) rfl (Nat.le_of_ble_eq_true rfl) (Nat.le_of_ble_eq_true rfl) (Nat.zero_le _) (Nat.zero_le _) ?_
            rintro _ _ _ ⟨rfl, rfl, rfl⟩
            refine N.if_ne (tgt := 94) dX4_copy_86 (by decide) (fun c86 => ?_) (fun c86 => ?_)
            · refine N.aload0 dX4_copy_94 ?_
              refine N.bipush (v := -3) dX4_copy_95 (by decide) ?_
              refine N.vi1 dX4_copy_97 vX4_refuse lkX4_62 (s_X4_refuse _ _ _ _ _ _ _) yO rfl (Nat.le_of_ble_eq_true rfl) (Nat.le_of_ble_eq_true rfl) (Nat.zero_le _) (Nat.zero_le _) ?_
              rintro _ _ _ ⟨rfl, rfl, rfl⟩
              exact N.iret dX4_copy_100 rfl (Nat.zero_le _) (Nat.zero_le _) ⟨_, rfl, (by rw [xcopy, if_neg c4, if_neg c11, if_neg c42, if_pos c50, if_pos c78, if_neg c86]; exact rf_ok)⟩
            · refine N.iload8 dX4_copy_89 ?_
              refine N.if_eq (tgt := 101) dX4_copy_91 (by decide) (fun c91 => ?_) (fun c91 => absurd (by decide) c91)
              refine N.aload6 dX4_copy_101 ?_
              refine N.vi0 dX4_copy_103 vX2_isRow lkX4_70 (Sp.shi hs fun W => s_X2_isRow W _ _ _) (yS hs) rfl (Nat.le_of_ble_eq_true rfl) (Nat.le_of_ble_eq_true rfl) (Nat.zero_le _) (Nat.zero_le _) ?_
              rintro _ _ _ ⟨rfl, rfl, rfl⟩
              refine N.if_eq (tgt := 117) dX4_copy_106 (by decide) (fun c106 => absurd c106 c42) (fun c106 => ?_)
              refine N.aload7 dX4_copy_109 ?_
              refine N.vi0 dX4_copy_111 vX2_isRow lkX4_70 (Sp.shi hq fun W => s_X2_isRow W _ _ _) (yS hq) rfl (Nat.le_of_ble_eq_true rfl) (Nat.le_of_ble_eq_true rfl) (Nat.zero_le _) (Nat.zero_le _) ?_
              rintro _ _ _ ⟨rfl, rfl, rfl⟩
              refine N.if_ne (tgt := 124) dX4_copy_114 (by decide) (fun c114 => absurd c50 c114) (fun c114 => ?_)
              refine N.aload0 dX4_copy_117 ?_
              refine N.bipush (v := -4) dX4_copy_118 (by decide) ?_
              refine N.vi1 dX4_copy_120 vX4_refuse lkX4_62 (s_X4_refuse _ _ _ _ _ _ _) yO rfl (Nat.le_of_ble_eq_true rfl) (Nat.le_of_ble_eq_true rfl) (Nat.zero_le _) (Nat.zero_le _) ?_
              rintro _ _ _ ⟨rfl, rfl, rfl⟩
              exact N.iret dX4_copy_123 rfl (Nat.zero_le _) (Nat.zero_le _) ⟨_, rfl, (by rw [xcopy, if_neg c4, if_neg c11, if_neg c42, if_pos c50, if_pos c78, if_pos c86]; exact rf_ok)⟩
        · refine N.aload6 dX4_copy_53 ?_
          refine N.getf dX4_copy_55 flX4_86 (yS hs) rfl ?_
          refine N.aload7 dX4_copy_58 ?_
          refine N.getf dX4_copy_60 flX4_86 (yS hq) rfl ?_
          refine N.icmp_eq (tgt := 70) dX4_copy_63 (by decide) (fun c63 => ?_) (fun c63 => ?_)
          · refine N.iconst (v := 0) dX4_copy_70 (by decide) ?_
            refine N.istore8 dX4_copy_71 rfl ?_
            refine N.aload6 dX4_copy_73 ?_
            refine N.vi0 dX4_copy_75 vX2_isPlayer lkX4_89 (Sp.shi hs fun W => s_X2_isPlayer W _ _ _) (yS hs) rfl (Nat.le_of_ble_eq_true rfl) (Nat.le_of_ble_eq_true rfl) (Nat.zero_le _) (Nat.zero_le _) ?_
            rintro _ _ _ ⟨rfl, rfl, rfl⟩
            refine N.if_ne (tgt := 94) dX4_copy_78 (by decide) (fun c78 => ?_) (fun c78 => ?_)
            · refine N.aload0 dX4_copy_94 ?_
              refine N.bipush (v := -3) dX4_copy_95 (by decide) ?_
              refine N.vi1 dX4_copy_97 vX4_refuse lkX4_62 (s_X4_refuse _ _ _ _ _ _ _) yO rfl (Nat.le_of_ble_eq_true rfl) (Nat.le_of_ble_eq_true rfl) (Nat.zero_le _) (Nat.zero_le _) ?_
              rintro _ _ _ ⟨rfl, rfl, rfl⟩
              exact N.iret dX4_copy_100 rfl (Nat.zero_le _) (Nat.zero_le _) ⟨_, rfl, (by rw [xcopy, if_neg c4, if_neg c11, if_neg c42, if_neg c50, if_pos c63, if_neg c78]; exact rf_ok)⟩
            · refine N.aload7 dX4_copy_81 ?_
              refine N.vi0 dX4_copy_83 vX2_isPlayer lkX4_89 (Sp.shi hq fun W => s_X2_isPlayer W _ _ _) (yS hq) rfl (Nat.le_of_ble_eq_true rfl) (Nat.le_of_ble_eq_true rfl) (Nat.zero_le _) (Nat.zero_le _) ?_
              rintro _ _ _ ⟨rfl, rfl, rfl⟩
              refine N.if_ne (tgt := 94) dX4_copy_86 (by decide) (fun c86 => ?_) (fun c86 => ?_)
              · refine N.aload0 dX4_copy_94 ?_
                refine N.bipush (v := -3) dX4_copy_95 (by decide) ?_
                refine N.vi1 dX4_copy_97 vX4_refuse lkX4_62 (s_X4_refuse _ _ _ _ _ _ _) yO rfl (Nat.le_of_ble_eq_true rfl) (Nat.le_of_ble_eq_true rfl) (Nat.zero_le _) (Nat.zero_le _) ?_
                rintro _ _ _ ⟨rfl, rfl, rfl⟩
                exact N.iret dX4_copy_100 rfl (Nat.zero_le _) (Nat.zero_le _) ⟨_, rfl, (by rw [xcopy, if_neg c4, if_neg c11, if_neg c42, if_neg c50, if_pos c63, if_pos c78, if_neg c86]; exact rf_ok)⟩
              · refine N.iload8 dX4_copy_89 ?_
                refine N.if_eq (tgt := 101) dX4_copy_91 (by decide) (fun c91 => ?_) (fun c91 => absurd (by decide) c91)
                refine N.aload6 dX4_copy_101 ?_
                refine N.vi0 dX4_copy_103 vX2_isRow lkX4_70 (Sp.shi hs fun W => s_X2_isRow W _ _ _) (yS hs) rfl (Nat.le_of_ble_eq_true rfl) (Nat.le_of_ble_eq_true rfl) (Nat.zero_le _) (Nat.zero_le _) ?_
                rintro _ _ _ ⟨rfl, rfl, rfl⟩
                refine N.if_eq (tgt := 117) dX4_copy_106 (by decide) (fun c106 => absurd c106 c42) (fun c106 => ?_)
                refine N.aload7 dX4_copy_109 ?_
                refine N.vi0 dX4_copy_111 vX2_isRow lkX4_70 (Sp.shi hq fun W => s_X2_isRow W _ _ _) (yS hq) rfl (Nat.le_of_ble_eq_true rfl) (Nat.le_of_ble_eq_true rfl) (Nat.zero_le _) (Nat.zero_le _) ?_
                rintro _ _ _ ⟨rfl, rfl, rfl⟩
                refine N.if_ne (tgt := 124) dX4_copy_114 (by decide) (fun c114 => ?_) (fun c114 => absurd c114 c50)
                refine N.aload6 dX4_copy_124 ?_
                refine N.iload3 dX4_copy_126 ?_
                refine N.iload5 dX4_copy_127 ?_
                refine N.vi2 dX4_copy_129 vX2_hasPlaces lkX4_92 (Sp.shi hs fun W => s_X2_hasPlaces W _ _ _ _ _) (yS hs) rfl (Nat.le_of_ble_eq_true rfl) (Nat.le_of_ble_eq_true rfl) (Nat.zero_le _) (Nat.zero_le _) ?_
                rintro _ _ _ ⟨rfl, rfl, rfl⟩
                refine N.if_eq (tgt := 147) dX4_copy_132 (by decide) (fun c132 => ?_) (fun c132 => ?_)
                · refine N.aload0 dX4_copy_147 ?_
                  refine N.bipush (v := -2) dX4_copy_148 (by decide) ?_
                  refine N.vi1 dX4_copy_150 vX4_refuse lkX4_62 (s_X4_refuse _ _ _ _ _ _ _) yO rfl (Nat.le_of_ble_eq_true rfl) (Nat.le_of_ble_eq_true rfl) (Nat.zero_le _) (Nat.zero_le _) ?_
                  rintro _ _ _ ⟨rfl, rfl, rfl⟩
                  exact N.iret dX4_copy_153 rfl (Nat.zero_le _) (Nat.zero_le _) ⟨_, rfl, (by rw [xcopy, if_neg c4, if_neg c11, if_neg c42, if_neg c50, if_pos c63, if_pos c78, if_pos c86, if_pos c132]; exact rf_ok)⟩
                · refine N.aload7 dX4_copy_135 ?_
                  refine N.iload4 dX4_copy_137 ?_
                  refine N.iload5 dX4_copy_139 ?_
                  refine N.vi2 dX4_copy_141 vX2_hasPlaces lkX4_92 (Sp.shi hq fun W => s_X2_hasPlaces W _ _ _ _ _) (yS hq) rfl (Nat.le_of_ble_eq_true rfl) (Nat.le_of_ble_eq_true rfl) (Nat.zero_le _) (Nat.zero_le _) ?_
                  rintro _ _ _ ⟨rfl, rfl, rfl⟩
                  refine N.if_ne (tgt := 154) dX4_copy_144 (by decide) (fun c144 => ?_) (fun c144 => ?_)
                  · refine N.aload6 dX4_copy_154 ?_
                    refine N.getf dX4_copy_156 flX4_96 (yS hs) rfl ?_
                    refine N.iload3 dX4_copy_159 ?_
                    refine N.aload7 dX4_copy_160 ?_
                    refine N.getf dX4_copy_162 flX4_96 (yS hq) rfl ?_
                    refine N.iload4 dX4_copy_165 ?_
                    refine N.iload5 dX4_copy_167 ?_
                    obtain ⟨g1, g2, g3⟩ := hasP_ok (hX.2.2.1 _ hs) c132
                    obtain ⟨g4, g5, g6⟩ := hasP_ok (hX.2.2.1 _ hq) c144
                    refine N.acpL dX4_copy_169 acX4_100 acN acS acY (ySA hs) (ySA hq) g1 g4 g2 g3 g6 (by decide) (Nat.le_of_ble_eq_true rfl) (by decide) (ySK hq) ?_
                    refine N.iload5 dX4_copy_172 ?_
                    exact N.iret dX4_copy_174 rfl (Nat.zero_le _) (Nat.zero_le _) ⟨_, rfl, (by rw [xcopy, if_neg c4, if_neg c11, if_neg c42, if_neg c50, if_pos c63, if_pos c78, if_pos c86, if_neg c132, if_neg c144]; exact ⟨rfl, rfl, _, rfl, rel_xup⟩)⟩
                  · refine N.aload0 dX4_copy_147 ?_
                    refine N.bipush (v := -2) dX4_copy_148 (by decide) ?_
                    refine N.vi1 dX4_copy_150 vX4_refuse lkX4_62 (s_X4_refuse _ _ _ _ _ _ _) yO rfl (Nat.le_of_ble_eq_true rfl) (Nat.le_of_ble_eq_true rfl) (Nat.zero_le _) (Nat.zero_le _) ?_
                    rintro _ _ _ ⟨rfl, rfl, rfl⟩
                    exact N.iret dX4_copy_153 rfl (Nat.zero_le _) (Nat.zero_le _) ⟨_, rfl, (by rw [xcopy, if_neg c4, if_neg c11, if_neg c42, if_neg c50, if_pos c63, if_pos c78, if_pos c86, if_neg c132, if_pos c144]; exact rf_ok)⟩
          · refine N.iconst (v := 1) dX4_copy_66 (by decide) ?_
            refine N.goto (tgt := 71) dX4_copy_67 (by decide) ?_
            refine N.istore8 dX4_copy_71 rfl ?_
            refine N.aload6 dX4_copy_73 ?_
            refine N.vi0 dX4_copy_75 vX2_isPlayer lkX4_89 (Sp.shi hs fun W => s_X2_isPlayer W _ _ _) (yS hs) rfl (Nat.le_of_ble_eq_true rfl) (Nat.le_of_ble_eq_true rfl) (Nat.zero_le _) (Nat.zero_le _) ?_
            rintro _ _ _ ⟨rfl, rfl, rfl⟩
            refine N.if_ne (tgt := 94) dX4_copy_78 (by decide) (fun c78 => ?_) (fun c78 => ?_)
            · refine N.aload0 dX4_copy_94 ?_
              refine N.bipush (v := -3) dX4_copy_95 (by decide) ?_
              refine N.vi1 dX4_copy_97 vX4_refuse lkX4_62 (s_X4_refuse _ _ _ _ _ _ _) yO rfl (Nat.le_of_ble_eq_true rfl) (Nat.le_of_ble_eq_true rfl) (Nat.zero_le _) (Nat.zero_le _) ?_
              rintro _ _ _ ⟨rfl, rfl, rfl⟩
              exact N.iret dX4_copy_100 rfl (Nat.zero_le _) (Nat.zero_le _) ⟨_, rfl, (by rw [xcopy, if_neg c4, if_neg c11, if_neg c42, if_neg c50, if_neg c63, if_neg c78]; exact rf_ok)⟩
            · refine N.aload7 dX4_copy_81 ?_
              refine N.vi0 dX4_copy_83 vX2_isPlayer lkX4_89 (Sp.shi hq fun W => s_X2_isPlayer W _ _ _) (yS hq) rfl (Nat.le_of_ble_eq_true rfl) (Nat.le_of_ble_eq_true rfl) (Nat.zero_le _) (Nat.zero_le _) ?_
              rintro _ _ _ ⟨rfl, rfl, rfl⟩
              refine N.if_ne (tgt := 94) dX4_copy_86 (by decide) (fun c86 => ?_) (fun c86 => ?_)
              · refine N.aload0 dX4_copy_94 ?_
                refine N.bipush (v := -3) dX4_copy_95 (by decide) ?_
                refine N.vi1 dX4_copy_97 vX4_refuse lkX4_62 (s_X4_refuse _ _ _ _ _ _ _) yO rfl (Nat.le_of_ble_eq_true rfl) (Nat.le_of_ble_eq_true rfl) (Nat.zero_le _) (Nat.zero_le _) ?_
                rintro _ _ _ ⟨rfl, rfl, rfl⟩
                exact N.iret dX4_copy_100 rfl (Nat.zero_le _) (Nat.zero_le _) ⟨_, rfl, (by rw [xcopy, if_neg c4, if_neg c11, if_neg c42, if_neg c50, if_neg c63, if_pos c78, if_neg c86]; exact rf_ok)⟩
              · refine N.iload8 dX4_copy_89 ?_
                refine N.if_eq (tgt := 101) dX4_copy_91 (by decide) (fun c91 => absurd c91 (by decide)) (fun c91 => ?_)
                refine N.aload0 dX4_copy_94 ?_
                refine N.bipush (v := -3) dX4_copy_95 (by decide) ?_
                refine N.vi1 dX4_copy_97 vX4_refuse lkX4_62 (s_X4_refuse _ _ _ _ _ _ _) yO rfl (Nat.le_of_ble_eq_true rfl) (Nat.le_of_ble_eq_true rfl) (Nat.zero_le _) (Nat.zero_le _) ?_
                rintro _ _ _ ⟨rfl, rfl, rfl⟩
                exact N.iret dX4_copy_100 rfl (Nat.zero_le _) (Nat.zero_le _) ⟨_, rfl, (by rw [xcopy, if_neg c4, if_neg c11, if_neg c42, if_neg c50, if_neg c63, if_pos c78, if_pos c86]; exact rf_ok)⟩
    · refine N.aload0 dX4_copy_14 ?_
      refine N.bipush (v := -2) dX4_copy_15 (by decide) ?_
      refine N.vi1 dX4_copy_17 vX4_refuse lkX4_62 (s_X4_refuse _ _ _ _ _ _ _) yO rfl (Nat.le_of_ble_eq_true rfl) (Nat.le_of_ble_eq_true rfl) (Nat.zero_le _) (Nat.zero_le _) ?_
      rintro _ _ _ ⟨rfl, rfl, rfl⟩
      exact N.iret dX4_copy_20 rfl (Nat.zero_le _) (Nat.zero_le _) ⟨_, rfl, (by rw [xcopy, if_neg c4, if_pos c11]; exact rf_ok)⟩
