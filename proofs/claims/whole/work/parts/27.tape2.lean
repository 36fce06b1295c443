/-! the reader at work on now -/
abbrev putY (K : Kx) (w : Wd) (a : Nat) (x : XV) (t : TV) (v u : CV) (p : Int32 × Int32) : Wd := putU K w a (setR (setT x t) 0 v) u p
abbrev tZ (t : TV) (s : T3) : TV := cT t (nI s.1) (nI s.2.1) s.2.2
section YY
variable {K : Kx} {w : Wd} {a : Nat} {x : XV} {t t' : TV} {v v' u : CV} {p : Int32 × Int32} {M : Md} {d sz : Nat} {as : List Value} {s e k y r : Int32}
theorem sT_sR : setT (setR (setT x t) 0 v) t' = setR (setT x t') 0 v := rfl
theorem Sp.zti (h : ∀ W, Sp K M d 0 0 as (putT K W (a + 25) t) sz (Qi fun r' w' sz' => r' = r ∧ w' = putT K W (a + 25) t' ∧ sz' = sz)) : Sp K M d 0 0 as (putY K w a x t v u p) sz (Qi fun r' w' sz' => r' = r ∧ w' = putY K w a x t' v u p ∧ sz' = sz) :=
  (Sp.eqW yTe (h _)).mono fun _ _ _ ⟨y, e, e1, e2, e3⟩ => ⟨y, e, e1, e2.trans yTs, e3⟩
theorem Sp.ztv (h : ∀ W, Sp K M d 0 0 as (putT K W (a + 25) t) sz (Qv fun w' sz' => w' = putT K W (a + 25) t' ∧ sz' = sz)) : Sp K M d 0 0 as (putY K w a x t v u p) sz (Qv fun w' sz' => w' = putY K w a x t' v u p ∧ sz' = sz) :=
  (Sp.eqW yTe (h _)).mono fun _ _ _ ⟨e, e2, e3⟩ => ⟨e, e2.trans yTs, e3⟩
theorem yRsR : putR K (putY K w a x t v u p) (a + 1) v' = putY K w a x t v' u p := yRs0.trans (congrArg (fun z => putU K w a z u p) setR0)
theorem Sp.zri (h : ∀ W, Sp K M d 0 0 as (putR K W (a + 1) v) sz (Qi fun r' w' sz' => r' = r ∧ w' = putR K W (a + 1) v' ∧ sz' = sz)) : Sp K M d 0 0 as (putY K w a x t v u p) sz (Qi fun r' w' sz' => r' = r ∧ w' = putY K w a x t v' u p ∧ sz' = sz) :=
  (Sp.eqW yR0 (h _)).mono fun _ _ _ ⟨y, e, e1, e2, e3⟩ => ⟨y, e, e1, e2.trans yRsR, e3⟩
theorem Sp.zrv (h : ∀ W, Sp K M d 0 0 as (putR K W (a + 1) v) sz (Qv fun w' sz' => w' = putR K W (a + 1) v' ∧ sz' = sz)) : Sp K M d 0 0 as (putY K w a x t v u p) sz (Qv fun w' sz' => w' = putY K w a x t v' u p ∧ sz' = sz) :=
  (Sp.eqW yR0 (h _)).mono fun _ _ _ ⟨e, e2, e3⟩ => ⟨e, e2.trans yRsR, e3⟩
theorem zTo : putY K w a x (cT t s e k) v u p (a + 25) = some (.inr (3, zF (a + 25) t s e k)) := yT
theorem zRo : putY K w a x t v u p (a + 1) = some (.inr (1, rF (a + 1) v)) := yO0
theorem zRA4 : putY K w a x t v u p (a + 1 + 5) = some (.inl (kC K 0, 4, .inl (v.2 4))) := yA0_4
theorem zRS4 {q : Nat} {y : Int32} : upW (putY K w a x t v u p) (a + 1 + 5) (.inl (kC K 0, 4, .inl (upd (v.2 4) q y))) = putY K w a x t (v.1, upA v.2 4 (upd (v.2 4) q y)) u p := yS0_4.trans (congrArg (fun z => putU K w a z u p) setR0)
theorem zRP_4 : upW (putY K w a x t v u p) (a + 1) (.inr (1, (rF (a + 1) v).set 9 (.int y))) = putY K w a x t (upd v.1 4 y, v.2) u p := yP0_4.trans (congrArg (fun z => putU K w a z u p) setR0)
theorem zRP_5 : upW (putY K w a x t v u p) (a + 1) (.inr (1, (rF (a + 1) v).set 10 (.int y))) = putY K w a x t (upd v.1 5 y, v.2) u p := yP0_5.trans (congrArg (fun z => putU K w a z u p) setR0)
theorem zRP_6 : upW (putY K w a x t v u p) (a + 1) (.inr (1, (rF (a + 1) v).set 11 (.int y))) = putY K w a x t (upd v.1 6 y, v.2) u p := yP0_6.trans (congrArg (fun z => putU K w a z u p) setR0)
theorem zTP2 : upW (putY K w a x (cT t s e k) v u p) (a + 25) (.inr (3, (zF (a + 25) t s e k).set 3 (.int y))) = putY K w a x (cT t s y k) v u p := (congrArg (fun z => upW z (a + 25) _) yTe).trans (zP2.trans yTs)
end YY
theorem nar01 {r : Int32} (h : r = 0 ∨ r = 1) : narrow .boolean (.int r) = .int r := by
  rcases h with rfl | rfl <;> rfl
abbrev R3 : Type := Int32 × T3 × CV
def rPl3 (f : Nat → Int32) (S : Nat) (k q : Int32) (s : T3) (v : CV) : R3 := if numF f s 0 9 = -1 then (0, s, v) else (1, stepF f S s.2.1, addV v k q (numF f s 0 9))
def rPl2 (f : Nat → Int32) (S : Nat) (k : Int32) (s : T3) (v : CV) : R3 := if numF f s 1 99 = -1 then (0, s, v) else rPl3 f S k (numF f s 1 99) (stepF f S s.2.1) v
def rPl1 (f : Nat → Int32) (S : Nat) (s : T3) (v : CV) : R3 := if numF f s 0 5 = -1 then (0, s, v) else rPl2 f S (numF f s 0 5) (stepF f S s.2.1) v
def rPl (f : Nat → Int32) (S : Nat) (s : T3) (v : CV) : R3 := if hasRoomF v = 0 then (0, s, v) else rPl1 f S (stepF f S s.2.1) v
def rLoop (f : Nat → Int32) (S : Nat) (v : CV) : Nat → T3 → Int32 → Int32 × T3 × Int32
  | 0, s, z => (1, s, z)
  | n + 1, s, z => if s.2.2 = 2 then (if numF f s 0 (v.1 0 - 1) = -1 then (0, s, z) else if bitF z (numF f s 0 (v.1 0 - 1)) = 1 then (0, s, z) else rLoop f S v n (stepF f S s.2.1) (z ||| ((1 : Int32) <<< (numF f s 0 (v.1 0 - 1) &&& 31)))) else (1, s, z)
def rLn2 (l : Int32) (v : CV) (q : Int32 × T3 × Int32) : R3 := if q.1 = 0 then (0, q.2.1, v) else if q.2.2 = 0 then (0, q.2.1, v) else (1, q.2.1, (v.1, upA v.2 4 (upd (v.2 4) l.toNatClampNeg q.2.2)))
def rLn1 (f : Nat → Int32) (S : Nat) (s : T3) (v : CV) : R3 := if numF f s 0 3 = -1 then (0, s, v) else rLn2 (numF f s 0 3) v (rLoop f S v 5 (stepF f S s.2.1) 0)
def rLn (f : Nat → Int32) (S : Nat) (s : T3) (v : CV) : R3 := rLn1 f S (stepF f S s.2.1) v
def rO3 (f : Nat → Int32) (S : Nat) (W n : Int32) (s : T3) (v : CV) : R3 := if W = 0 then (if hasPlF v n = 0 then (0, s, v) else (1, stepF f S s.2.1, putOnV v (v.2 4 n.toNatClampNeg))) else if W = 1 then (1, stepF f S s.2.1, (upd v.1 4 n, v.2)) else if W = 2 then (1, stepF f S s.2.1, (upd v.1 5 n, v.2)) else if W = 3 then (1, stepF f S s.2.1, (upd v.1 6 n, v.2)) else (1, stepF f S s.2.1, playTo v n.toNatClampNeg)
def rO2 (f : Nat → Int32) (S : Nat) (W : Int32) (s : T3) (v : CV) : R3 := if numF f s (leastsV W.toNatClampNeg) (mostsV W.toNatClampNeg) = -1 then (0, s, v) else rO3 f S W (numF f s (leastsV W.toNatClampNeg) (mostsV W.toNatClampNeg)) s v
def rOne (f : Nat → Int32) (S : Nat) (s : T3) (v : CV) : R3 := if wd1F f s = -1 then (0, s, v) else rO2 f S (wd1F f s) (stepF f S s.2.1) v
def rSt (f : Nat → Int32) (S : Nat) (s : T3) (v : CV) : R3 := if isWF f s 0 = 0 then (if isWF f s 1 = 0 then rOne f S s v else rLn f S s v) else rPl f S s v
abbrev Ok3 (S : Nat) (q : R3) : Prop := (q.1 = 0 ∨ q.1 = 1) ∧ I3 S q.2.1 ∧ okP q.2.2
theorem okP.add {v : CV} (h : okP v) (c : ¬ hasRoomF v = 0) (k s e : Int32) : okP (addV v k s e) := by
  obtain ⟨P, hP, e1⟩ := h
  have h10 : ¬ 10 ≤ v.1 0 := fun q => c (if_pos q)
  rw [e1] at h10
  have : P < 10 := Nat.not_le.mp fun q => h10 (nI_le (a := 10) q (by omega))
  refine ⟨P + 1, by omega, ?_⟩
  show v.1 0 + 1 = _
  rw [e1, nI_1]
theorem rPl_ok {f : Nat → Int32} {S : Nat} {s : T3} {v : CV} (hs : I3 S s) (hv : okP v) : Ok3 S (rPl f S s v) := by
  unfold rPl
  have h1 := step_ok (f := f) hs.2
  have h2 := step_ok (f := f) h1.2
  have h3 := step_ok (f := f) h2.2
  have h4 := step_ok (f := f) h3.2
  split
  · exact ⟨Or.inl rfl, hs, hv⟩
  · unfold rPl1
    split
    · exact ⟨Or.inl rfl, h1, hv⟩
    · unfold rPl2
      split
      · exact ⟨Or.inl rfl, h2, hv⟩
      · unfold rPl3
        split
        · exact ⟨Or.inl rfl, h3, hv⟩
        · exact ⟨Or.inr rfl, h4, hv.add (by assumption) _ _ _⟩
theorem rLoop_ok {f : Nat → Int32} {S : Nat} {v : CV} : ∀ n s z, I3 S s → I3 S (rLoop f S v n s z).2.1
  | 0, s, z, h => h
  | n + 1, s, z, h => by
    rw [rLoop]
    split
    · split
      · exact h
      · split
        · exact h
        · exact rLoop_ok n _ _ (step_ok h.2)
    · exact h
theorem rLn_ok {f : Nat → Int32} {S : Nat} {s : T3} {v : CV} (hs : I3 S s) (hv : okP v) : Ok3 S (rLn f S s v) := by
  unfold rLn rLn1
  have h1 := step_ok (f := f) hs.2
  split
  · exact ⟨Or.inl rfl, h1, hv⟩
  · unfold rLn2
    have h2 := rLoop_ok (f := f) (v := v) 5 _ 0 (step_ok (f := f) h1.2)
    split
    · exact ⟨Or.inl rfl, h2, hv⟩
    · split
      · exact ⟨Or.inl rfl, h2, hv⟩
      · exact ⟨Or.inr rfl, h2, hv⟩
theorem rOne_ok {f : Nat → Int32} {S : Nat} {s : T3} {v : CV} (hs : I3 S s) (hv : okP v) : Ok3 S (rOne f S s v) := by
  unfold rOne
  have h1 := step_ok (f := f) hs.2
  have h2 := step_ok (f := f) h1.2
  split
  · exact ⟨Or.inl rfl, hs, hv⟩
  · unfold rO2
    split
    · exact ⟨Or.inl rfl, h1, hv⟩
    · unfold rO3
      split
      · split
        · exact ⟨Or.inl rfl, h1, hv⟩
        · exact ⟨Or.inr rfl, h2, hv.on _⟩
      · split
        · exact ⟨Or.inr rfl, h2, hv.set (by decide) _⟩
        · split
          · exact ⟨Or.inr rfl, h2, hv.set (by decide) _⟩
          · split
            · exact ⟨Or.inr rfl, h2, hv.set (by decide) _⟩
            · exact ⟨Or.inr rfl, h2, hv.play _⟩
theorem rSt_ok {f : Nat → Int32} {S : Nat} {s : T3} {v : CV} (hs : I3 S s) (hv : okP v) : Ok3 S (rSt f S s v) := by
  unfold rSt
  split
  · split
    · exact rOne_ok hs hv
    · exact rLn_ok hs hv
  · exact rPl_ok hs hv
theorem wd1_5 (f : Nat → Int32) (s : T3) : wd1F f s = -1 ∨ wd1F f s = 0 ∨ wd1F f s = 1 ∨ wd1F f s = 2 ∨ wd1F f s = 3 ∨ wd1F f s = 4 := by
  unfold wd1F
  split
  · split
    · split
      · split
        · split <;> simp
        · simp
      · simp
    · simp
  · simp
theorem wd1_in {f : Nat → Int32} {s : T3} (h : ¬ wd1F f s = -1) : vp_in (wd1F f s) 5 := by
  rcases wd1_5 f s with q | q | q | q | q | q
  · exact absurd q h
  · rw [q]; exact vp_in_nI (n := 0) (by decide) (by decide)
  · rw [q]; exact vp_in_nI (n := 1) (by decide) (by decide)
  · rw [q]; exact vp_in_nI (n := 2) (by decide) (by decide)
  · rw [q]; exact vp_in_nI (n := 3) (by decide) (by decide)
  · rw [q]; exact vp_in_nI (n := 4) (by decide) (by decide)
theorem wd1_4 {f : Nat → Int32} {s : T3} (h : ¬ wd1F f s = -1) (h0 : ¬ wd1F f s = 0) (h1 : ¬ wd1F f s = 1) (h2 : ¬ wd1F f s = 2) (h3 : ¬ wd1F f s = 3) : wd1F f s = 4 := by
  rcases wd1_5 f s with q | q | q | q | q | q
  · exact absurd q h
  · exact absurd q h0
  · exact absurd q h1
  · exact absurd q h2
  · exact absurd q h3
  · exact q
theorem num_in {f : Nat → Int32} {s : T3} {lo hi : Int32} (h : ¬ numF f s lo hi = -1) : ¬ isInF (numF f s lo hi) lo hi = 0 := by
  unfold numF at *
  split
  · rename_i h1
    rw [if_pos h1] at h
    split
    · rename_i h2
      rw [if_pos h2] at h
      split
      · rename_i h3
        rw [if_pos h3] at h; exact absurd rfl h
      · assumption
    · rename_i h2
      rw [if_neg h2] at h; exact absurd rfl h
  · rename_i h1
    rw [if_neg h1] at h; exact absurd rfl h
theorem num_4 {f : Nat → Int32} {s : T3} {W : Int32} (hW : W = 4) (h : ¬ numF f s (leastsV W.toNatClampNeg) (mostsV W.toNatClampNeg) = -1) : ∃ m, m ≤ 99 ∧ numF f s (leastsV W.toNatClampNeg) (mostsV W.toNatClampNeg) = nI m := by
  have := num_in h
  subst hW
  obtain ⟨m, h1, h2, h3⟩ := in_n1 (N' := 99) (by decide) (show ¬ isInF _ 1 99 = 0 from this)
  exact ⟨m, h1, h3⟩
set_option maxRecDepth 100000 in
theorem s_X3_readPlayer {K : Kx} (w : Wd) (a sz : Nat) (x : XV) (t : TV) (v u : CV) (p : Int32 × Int32) (S : Nat) (hS : S ≤ 250) (hz : t.2 0 = nI S) (s : T3) (hs : I3 S s) (hv : okP v) : Sp K mX3_readPlayer 3 0 0 [.ref (a + 25), .ref (a + 1)] (putY K w a x (tZ t s) v u p) sz (Qi fun r w' sz' => r = (rPl t.1 S s v).1 ∧ w' = putY K w a x (tZ t (rPl t.1 S s v).2.1) (rPl t.1 S s v).2.2 u p ∧ sz' = sz) := by
  refine Sp.ofN [some (.ref (a + 25)), some (.ref (a + 1)), none, none, none] rfl rfl rfl (Nat.le_of_ble_eq_true rfl) ?_
  have hs1 := step_ok (f := t.1) hs.2
  have hs2 := step_ok (f := t.1) hs1.2
  have hs3 := step_ok (f := t.1) hs2.2
  refine N.aload1 dX3_readPlayer_0 ?_
  refine N.vi0 dX3_readPlayer_1 vX1_hasRoom lkX3_71 (Sp.zri fun W => s_X1_hasRoom W _ _ _) zRo rfl (Nat.le_of_ble_eq_true rfl) (Nat.le_of_ble_eq_true rfl) (Nat.zero_le _) (Nat.zero_le _) ?_
  rintro _ _ _ ⟨rfl, rfl, rfl⟩
  refine N.if_ne (tgt := 9) dX3_readPlayer_4 (by decide) (fun c4 => ?_) (fun c4 => ?_)
  · refine N.aload0 dX3_readPlayer_9 ?_
    refine N.iconst (v := 0) dX3_readPlayer_10 (by decide) ?_
    refine N.iconst (v := 5) dX3_readPlayer_11 (by decide) ?_
    refine N.vi2 dX3_readPlayer_12 vX3_nextNumberIn lkX3_77 (Sp.zti fun W => s_X3_nextNumberIn W _ _ _ S hS hz _ hs.2 _ _ _ _) zTo rfl (Nat.le_of_ble_eq_true rfl) (Nat.le_of_ble_eq_true rfl) (Nat.zero_le _) (Nat.zero_le _) ?_
    rintro _ _ _ ⟨rfl, rfl, rfl⟩
    refine N.istore2 dX3_readPlayer_15 rfl ?_
    refine N.iload2 dX3_readPlayer_16 ?_
    refine N.iconst (v := -1) dX3_readPlayer_17 (by decide) ?_
    refine N.icmp_ne (tgt := 23) dX3_readPlayer_18 (by decide) (fun c18 => ?_) (fun c18 => ?_)
    · refine N.aload0 dX3_readPlayer_23 ?_
      refine N.iconst (v := 1) dX3_readPlayer_24 (by decide) ?_
      refine N.bipush (v := 99) dX3_readPlayer_25 (by decide) ?_
      refine N.vi2 dX3_readPlayer_27 vX3_nextNumberIn lkX3_77 (Sp.zti fun W => s_X3_nextNumberIn W _ _ _ S hS hz _ hs1.2 _ _ _ _) zTo rfl (Nat.le_of_ble_eq_true rfl) (Nat.le_of_ble_eq_true rfl) (Nat.zero_le _) (Nat.zero_le _) ?_
      rintro _ _ _ ⟨rfl, rfl, rfl⟩
      refine N.istore3 dX3_readPlayer_30 rfl ?_
      refine N.iload3 dX3_readPlayer_31 ?_
      refine N.iconst (v := -1) dX3_readPlayer_32 (by decide) ?_
      refine N.icmp_ne (tgt := 38) dX3_readPlayer_33 (by decide) (fun c33 => ?_) (fun c33 => ?_)
      · refine N.aload0 dX3_readPlayer_38 ?_
        refine N.iconst (v := 0) dX3_readPlayer_39 (by decide) ?_
        refine N.bipush (v := 9) dX3_readPlayer_40 (by decide) ?_
        refine N.vi2 dX3_readPlayer_42 vX3_nextNumberIn lkX3_77 (Sp.zti fun W => s_X3_nextNumberIn W _ _ _ S hS hz _ hs2.2 _ _ _ _) zTo rfl (Nat.le_of_ble_eq_true rfl) (Nat.le_of_ble_eq_true rfl) (Nat.zero_le _) (Nat.zero_le _) ?_
        rintro _ _ _ ⟨rfl, rfl, rfl⟩
        refine N.istore4 dX3_readPlayer_45 rfl ?_
        refine N.iload4 dX3_readPlayer_47 ?_
        refine N.iconst (v := -1) dX3_readPlayer_49 (by decide) ?_
        refine N.icmp_ne (tgt := 55) dX3_readPlayer_50 (by decide) (fun c50 => ?_) (fun c50 => ?_)
        · refine N.aload1 dX3_readPlayer_55 ?_
          refine N.iload2 dX3_readPlayer_56 ?_
          refine N.iload3 dX3_readPlayer_57 ?_
          refine N.iload4 dX3_readPlayer_58 ?_
          refine N.vi3 dX3_readPlayer_60 vX1_addPlayer lkX3_80 (Sp.zri fun W => s_X1_addPlayer W _ _ _ _ _ _ hv) zRo rfl (Nat.le_of_ble_eq_true rfl) (Nat.le_of_ble_eq_true rfl) (Nat.zero_le _) (Nat.zero_le _) ?_
          rintro _ _ _ ⟨rfl, rfl, rfl⟩
          rw [if_neg c4, if_neg c4]
          refine N.pop dX3_readPlayer_63 rfl ?_
          refine N.aload0 dX3_readPlayer_64 ?_
          refine N.vv0 dX3_readPlayer_65 vX3_step lkX3_28 (Sp.ztv fun W => s_X3_step W _ _ _ S hS hz _ hs3.2 _ _) zTo rfl (Nat.le_of_ble_eq_true rfl) (Nat.le_of_ble_eq_true rfl) (Nat.zero_le _) (Nat.zero_le _) ?_
          rintro _ _ ⟨rfl, rfl⟩
          refine N.iconst (v := 1) dX3_readPlayer_68 (by decide) ?_
          exact N.zret dX3_readPlayer_69 rfl rfl (Nat.zero_le _) (Nat.zero_le _) ⟨_, rfl, (by rw [rPl, if_neg c4, rPl1, if_neg c18, rPl2, if_neg c33, rPl3, if_neg c50]; exact ⟨rfl, rfl, rfl⟩)⟩
        · refine N.iconst (v := 0) dX3_readPlayer_53 (by decide) ?_
          exact N.zret dX3_readPlayer_54 rfl rfl (Nat.zero_le _) (Nat.zero_le _) ⟨_, rfl, (by rw [rPl, if_neg c4, rPl1, if_neg c18, rPl2, if_neg c33, rPl3, if_pos c50]; exact ⟨rfl, rfl, rfl⟩)⟩
      · refine N.iconst (v := 0) dX3_readPlayer_36 (by decide) ?_
        exact N.zret dX3_readPlayer_37 rfl rfl (Nat.zero_le _) (Nat.zero_le _) ⟨_, rfl, (by rw [rPl, if_neg c4, rPl1, if_neg c18, rPl2, if_pos c33]; exact ⟨rfl, rfl, rfl⟩)⟩
    · refine N.iconst (v := 0) dX3_readPlayer_21 (by decide) ?_
      exact N.zret dX3_readPlayer_22 rfl rfl (Nat.zero_le _) (Nat.zero_le _) ⟨_, rfl, (by rw [rPl, if_neg c4, rPl1, if_pos c18]; exact ⟨rfl, rfl, rfl⟩)⟩
  · refine N.iconst (v := 0) dX3_readPlayer_7 (by decide) ?_
    exact N.zret dX3_readPlayer_8 rfl rfl (Nat.zero_le _) (Nat.zero_le _) ⟨_, rfl, (by rw [rPl, if_pos c4]; exact ⟨rfl, rfl, rfl⟩)⟩
set_option maxRecDepth 100000 in
theorem l_X3_readLine {K : Kx} (w : Wd) (a sz : Nat) (x : XV) (t : TV) (v u : CV) (p : Int32 × Int32) (S : Nat) (hS : S ≤ 250) (hz : t.2 0 = nI S) (hv : okP v) (l : Int32) (hl : vp_in l 4) (R : R3) : ∀ nn k (s : T3) (z : Int32), k + nn = 5 → I3 S s → rLn2 l v (rLoop t.1 S v nn s z) = R → N K mX3_readLine 3 0 0 (Qi fun r w' sz' => r = (R).1 ∧ w' = putY K w a x (tZ t (R).2.1) (R).2.2 u p ∧ sz' = sz) 23 [some (.ref (a + 25)), some (.ref (a + 1)), some (.int l), some (.int z), some (.int (nI k)), none] [] (putY K w a x (tZ t s) v u p) sz 0 0 := by
  intro nn
  induction nn with
  | zero =>
    intro k s z hk hs hR
    obtain rfl : k = 5 := by omega
    subst hR
    refine N.iload4 dX3_readLine_23 ?_
    refine N.iconst (v := 5) dX3_readLine_25 (by decide) ?_
    refine N.icmp_ge (tgt := 85) dX3_readLine_26 (by decide) (fun c26 => ?_) (fun c26 => absurd (by decide) c26)
    refine N.iload3 dX3_readLine_85 ?_
    refine N.if_ne (tgt := 91) dX3_readLine_86 (by decide) (fun c86 => ?_) (fun c86 => ?_)
    · refine N.aload1 dX3_readLine_91 ?_
      refine N.getf dX3_readLine_92 flX3_90 zRo rfl ?_
      refine N.iload2 dX3_readLine_95 ?_
      refine N.iload3 dX3_readLine_96 ?_
      refine N.iast dX3_readLine_97 zRA4 hl zRS4 ?_
      refine N.iconst (v := 1) dX3_readLine_98 (by decide) ?_
      exact N.zret dX3_readLine_99 rfl rfl (Nat.zero_le _) (Nat.zero_le _) ⟨_, rfl, (by rw [rLoop, rLn2, if_neg (show ¬ (1 : Int32) = 0 by decide), if_neg c86]; exact ⟨rfl, rfl, rfl⟩)⟩
    · refine N.iconst (v := 0) dX3_readLine_89 (by decide) ?_
      exact N.zret dX3_readLine_90 rfl rfl (Nat.zero_le _) (Nat.zero_le _) ⟨_, rfl, (by rw [rLoop, rLn2, if_neg (show ¬ (1 : Int32) = 0 by decide), if_pos c86]; exact ⟨rfl, rfl, rfl⟩)⟩
  | succ nn ih =>
    intro k s z hk hs hR
    refine N.iload4 dX3_readLine_23 ?_
    refine N.iconst (v := 5) dX3_readLine_25 (by decide) ?_
    refine N.icmp_ge (tgt := 85) dX3_readLine_26 (by decide) (fun c26 => absurd c26 (nI_ge (a := k) (b := 5) (by omega) (by omega))) (fun c26 => ?_)
    refine N.aload0 dX3_readLine_29 ?_
    refine N.getf dX3_readLine_30 flX3_25 zTo rfl ?_
    refine N.iconst (v := 2) dX3_readLine_33 (by decide) ?_
    refine N.icmp_ne (tgt := 85) dX3_readLine_34 (by decide) (fun c34 => ?_) (fun c34 => ?_)
    · refine N.iload3 dX3_readLine_85 ?_
      refine N.if_ne (tgt := 91) dX3_readLine_86 (by decide) (fun c86 => ?_) (fun c86 => ?_)
      · refine N.aload1 dX3_readLine_91 ?_
        refine N.getf dX3_readLine_92 flX3_90 zRo rfl ?_
        refine N.iload2 dX3_readLine_95 ?_
        refine N.iload3 dX3_readLine_96 ?_
        refine N.iast dX3_readLine_97 zRA4 hl zRS4 ?_
        refine N.iconst (v := 1) dX3_readLine_98 (by decide) ?_
        exact N.zret dX3_readLine_99 rfl rfl (Nat.zero_le _) (Nat.zero_le _) ⟨_, rfl, (by subst hR; rw [rLoop, if_neg c34]; exact (by rw [rLn2, if_neg (show ¬ (1 : Int32) = 0 by decide), if_neg c86]; exact ⟨rfl, rfl, rfl⟩))⟩
      · refine N.iconst (v := 0) dX3_readLine_89 (by decide) ?_
        exact N.zret dX3_readLine_90 rfl rfl (Nat.zero_le _) (Nat.zero_le _) ⟨_, rfl, (by subst hR; rw [rLoop, if_neg c34]; exact (by rw [rLn2, if_neg (show ¬ (1 : Int32) = 0 by decide), if_pos c86]; exact ⟨rfl, rfl, rfl⟩))⟩
    · refine N.aload0 dX3_readLine_37 ?_
      refine N.iconst (v := 0) dX3_readLine_38 (by decide) ?_
      refine N.aload1 dX3_readLine_39 ?_
      refine N.getf dX3_readLine_40 flX3_84 zRo rfl ?_
      refine N.iconst (v := 1) dX3_readLine_43 (by decide) ?_
      refine N.isub dX3_readLine_44 ?_
      refine N.vi2 dX3_readLine_45 vX3_numberIn lkX3_67 (Sp.zti fun W => s_X3_numberIn W _ _ _ S hS hz _ hs _ _) zTo rfl (Nat.le_of_ble_eq_true rfl) (Nat.le_of_ble_eq_true rfl) (Nat.zero_le _) (Nat.zero_le _) ?_
      rintro _ _ _ ⟨rfl, rfl, rfl⟩
      refine N.istore5 dX3_readLine_48 rfl ?_
      refine N.iload5 dX3_readLine_50 ?_
      refine N.iconst (v := -1) dX3_readLine_52 (by decide) ?_
      refine N.icmp_eq (tgt := 66) dX3_readLine_53 (by decide) (fun c53 => ?_) (fun c53 => ?_)
      · refine N.iconst (v := 0) dX3_readLine_66 (by decide) ?_
        exact N.zret dX3_readLine_67 rfl rfl (Nat.zero_le _) (Nat.zero_le _) ⟨_, rfl, (by rw [← hR, rLoop, if_pos c34, if_pos c53, rLn2, if_pos rfl]; exact ⟨rfl, rfl, rfl⟩)⟩
      · refine N.iload3 dX3_readLine_56 ?_
        refine N.iload5 dX3_readLine_57 ?_
        refine N.si2 dX3_readLine_59 vX4_bit lkX3_87 (s_X4_bit _ _ _ _) rfl (Nat.le_of_ble_eq_true rfl) (Nat.le_of_ble_eq_true rfl) (Nat.zero_le _) (Nat.zero_le _) ?_
        rintro _ _ _ ⟨rfl, rfl, rfl⟩
        refine N.iconst (v := 1) dX3_readLine_62 (by decide) ?_
        refine N.icmp_ne (tgt := 68) dX3_readLine_63 (by decide) (fun c63 => ?_) (fun c63 => ?_)
        · refine N.iload3 dX3_readLine_68 ?_
          refine N.iconst (v := 1) dX3_readLine_69 (by decide) ?_
          refine N.iload5 dX3_readLine_70 ?_
          refine N.ishl dX3_readLine_72 ?_
          refine N.ior dX3_readLine_73 ?_
          refine N.istore3 dX3_readLine_74 rfl ?_
          refine N.aload0 dX3_readLine_75 ?_
          refine N.vv0 dX3_readLine_76 vX3_step lkX3_28 (Sp.ztv fun W => s_X3_step W _ _ _ S hS hz _ hs.2 _ _) zTo rfl (Nat.le_of_ble_eq_true rfl) (Nat.le_of_ble_eq_true rfl) (Nat.zero_le _) (Nat.zero_le _) ?_
          rintro _ _ ⟨rfl, rfl⟩
          refine N.iinc4 dX3_readLine_79 rfl (nI_inc _) ?_
          refine N.goto (tgt := 23) dX3_readLine_82 (by decide) ?_
          exact N.wk (by exact ⟨rfl, rfl, rfl, rfl, rfl, trivial⟩) (ih (k + 1) _ _ (by omega) (step_ok hs.2) (by rw [← hR, rLoop, if_pos c34, if_neg c53, if_neg c63]))
        · refine N.iconst (v := 0) dX3_readLine_66 (by decide) ?_
          exact N.zret dX3_readLine_67 rfl rfl (Nat.zero_le _) (Nat.zero_le _) ⟨_, rfl, (by rw [← hR, rLoop, if_pos c34, if_neg c53, if_pos c63, rLn2, if_pos rfl]; exact ⟨rfl, rfl, rfl⟩)⟩
set_option maxRecDepth 100000 in
theorem s_X3_readLine {K : Kx} (w : Wd) (a sz : Nat) (x : XV) (t : TV) (v u : CV) (p : Int32 × Int32) (S : Nat) (hS : S ≤ 250) (hz : t.2 0 = nI S) (s : T3) (hs : I3 S s) (hv : okP v) : Sp K mX3_readLine 3 0 0 [.ref (a + 25), .ref (a + 1)] (putY K w a x (tZ t s) v u p) sz (Qi fun r w' sz' => r = (rLn t.1 S s v).1 ∧ w' = putY K w a x (tZ t (rLn t.1 S s v).2.1) (rLn t.1 S s v).2.2 u p ∧ sz' = sz) := by
  refine Sp.ofN [some (.ref (a + 25)), some (.ref (a + 1)), none, none, none, none] rfl rfl rfl (Nat.le_of_ble_eq_true rfl) ?_
  have hs1 := step_ok (f := t.1) hs.2
  refine N.aload0 dX3_readLine_0 ?_
  refine N.iconst (v := 0) dX3_readLine_1 (by decide) ?_
  refine N.iconst (v := 3) dX3_readLine_2 (by decide) ?_
  refine N.vi2 dX3_readLine_3 vX3_nextNumberIn lkX3_77 (Sp.zti fun W => s_X3_nextNumberIn W _ _ _ S hS hz _ hs.2 _ _ _ _) zTo rfl (Nat.le_of_ble_eq_true rfl) (Nat.le_of_ble_eq_true rfl) (Nat.zero_le _) (Nat.zero_le _) ?_
  rintro _ _ _ ⟨rfl, rfl, rfl⟩
  refine N.istore2 dX3_readLine_6 rfl ?_
  refine N.iload2 dX3_readLine_7 ?_
  refine N.iconst (v := -1) dX3_readLine_8 (by decide) ?_
  refine N.icmp_ne (tgt := 14) dX3_readLine_9 (by decide) (fun c9 => ?_) (fun c9 => ?_)
  · refine N.aload0 dX3_readLine_14 ?_
    refine N.vv0 dX3_readLine_15 vX3_step lkX3_28 (Sp.ztv fun W => s_X3_step W _ _ _ S hS hz _ hs1.2 _ _) zTo rfl (Nat.le_of_ble_eq_true rfl) (Nat.le_of_ble_eq_true rfl) (Nat.zero_le _) (Nat.zero_le _) ?_
    rintro _ _ ⟨rfl, rfl⟩
    refine N.iconst (v := 0) dX3_readLine_18 (by decide) ?_
    refine N.istore3 dX3_readLine_19 rfl ?_
    refine N.iconst (v := 0) dX3_readLine_20 (by decide) ?_
    refine N.istore4 dX3_readLine_21 rfl ?_
    exact N.wk (by exact ⟨rfl, rfl, rfl, rfl, rfl, trivial⟩) (l_X3_readLine w a _ x t v u p S hS hz hv _ (isIn_vp (n := 4) (by decide) (num_in c9)) _ 5 0 _ 0 (by omega) (step_ok hs1.2) (by rw [rLn, rLn1, if_neg c9]))
  · refine N.iconst (v := 0) dX3_readLine_12 (by decide) ?_
    exact N.zret dX3_readLine_13 rfl rfl (Nat.zero_le _) (Nat.zero_le _) ⟨_, rfl, (by rw [rLn, rLn1, if_pos c9]; exact ⟨rfl, rfl, rfl⟩)⟩
set_option maxRecDepth 100000 in
theorem s_X3_readOneNumber {K : Kx} (w : Wd) (a sz : Nat) (x : XV) (t : TV) (v u : CV) (p : Int32 × Int32) (S : Nat) (hS : S ≤ 250) (hz : t.2 0 = nI S) (s : T3) (hs : I3 S s) (hv : okP v) : Sp K mX3_readOneNumber 6 0 0 [.ref (a + 25), .ref (a + 1)] (putY K w a x (tZ t s) v u p) sz (Qi fun r w' sz' => r = (rOne t.1 S s v).1 ∧ w' = putY K w a x (tZ t (rOne t.1 S s v).2.1) (rOne t.1 S s v).2.2 u p ∧ sz' = sz) := by
  refine Sp.ofN [some (.ref (a + 25)), some (.ref (a + 1)), none, none] rfl rfl rfl (Nat.le_of_ble_eq_true rfl) ?_
  have hs1 := step_ok (f := t.1) hs.2
  refine N.aload0 dX3_readOneNumber_0 ?_
  refine N.vi0 dX3_readOneNumber_1 vX3_wordOfOneNumber lkX3_103 (Sp.zti fun W => s_X3_wordOfOneNumber W _ _ _ S hS hz _ hs) zTo rfl (Nat.le_of_ble_eq_true rfl) (Nat.le_of_ble_eq_true rfl) (Nat.zero_le _) (Nat.zero_le _) ?_
  rintro _ _ _ ⟨rfl, rfl, rfl⟩
  refine N.istore2 dX3_readOneNumber_4 rfl ?_
  refine N.iload2 dX3_readOneNumber_5 ?_
  refine N.iconst (v := -1) dX3_readOneNumber_6 (by decide) ?_
  refine N.icmp_ne (tgt := 12) dX3_readOneNumber_7 (by decide) (fun c7 => ?_) (fun c7 => ?_)
  · refine N.aload0 dX3_readOneNumber_12 ?_
    refine N.gets dX3_readOneNumber_13 tfLE (fun h => (kkL h).1) ?_
    refine N.iload2 dX3_readOneNumber_16 ?_
    refine N.ialdT dX3_readOneNumber_17 (fun h => (kkL h).2) (wd1_in c7) ?_
    refine N.gets dX3_readOneNumber_18 tfMO (fun h => (kkM h).1) ?_
    refine N.iload2 dX3_readOneNumber_21 ?_
    refine N.ialdT dX3_readOneNumber_22 (fun h => (kkM h).2) (wd1_in c7) ?_
    refine N.vi2 dX3_readOneNumber_23 vX3_nextNumberIn lkX3_77 (Sp.zti fun W => s_X3_nextNumberIn W _ _ _ S hS hz _ hs.2 _ _ _ _) zTo rfl (Nat.le_of_ble_eq_true rfl) (Nat.le_of_ble_eq_true rfl) (Nat.zero_le _) (Nat.zero_le _) ?_
    rintro _ _ _ ⟨rfl, rfl, rfl⟩
    refine N.istore3 dX3_readOneNumber_26 rfl ?_
    refine N.iload3 dX3_readOneNumber_27 ?_
    refine N.iconst (v := -1) dX3_readOneNumber_28 (by decide) ?_
    refine N.icmp_eq (tgt := 44) dX3_readOneNumber_29 (by decide) (fun c29 => ?_) (fun c29 => ?_)
    · refine N.iconst (v := 0) dX3_readOneNumber_44 (by decide) ?_
      exact N.zret dX3_readOneNumber_45 rfl rfl (Nat.zero_le _) (Nat.zero_le _) ⟨_, rfl, (by rw [rOne, if_neg c7, rO2, if_pos c29]; exact ⟨rfl, rfl, rfl⟩)⟩
    · refine N.iload2 dX3_readOneNumber_32 ?_
      refine N.if_ne (tgt := 46) dX3_readOneNumber_33 (by decide) (fun c33 => ?_) (fun c33 => ?_)
      · refine N.iload2 dX3_readOneNumber_46 ?_
        refine N.swc 0 (fun t47_0 => ?_) (fun t47_0 => ?_)
        · exact absurd t47_0 c33
        refine N.swc 1 (fun t47_1 => ?_) (fun t47_1 => ?_)
        · refine N.tsIn (off := 42) (tgt := 89) 1 t47_1 dX3_readOneNumber_47 (by decide) (by decide) (by decide) (by decide) ?_
          refine N.aload1 dX3_readOneNumber_89 ?_
          refine N.iload3 dX3_readOneNumber_90 ?_
          refine N.putf dX3_readOneNumber_91 flX3_120 zRo (Nat.le_of_ble_eq_true rfl) (fun _ h => by cases h; rfl) rfl rfl zRP_4 ?_
          refine N.goto (tgt := 119) dX3_readOneNumber_94 (by decide) ?_
          refine N.aload0 dX3_readOneNumber_119 ?_
          refine N.vv0 dX3_readOneNumber_120 vX3_step lkX3_28 (Sp.ztv fun W => s_X3_step W _ _ _ S hS hz _ hs1.2 _ _) zTo rfl (Nat.le_of_ble_eq_true rfl) (Nat.le_of_ble_eq_true rfl) (Nat.zero_le _) (Nat.zero_le _) ?_
          rintro _ _ ⟨rfl, rfl⟩
          refine N.iconst (v := 1) dX3_readOneNumber_123 (by decide) ?_
          exact N.zret dX3_readOneNumber_124 rfl rfl (Nat.zero_le _) (Nat.zero_le _) ⟨_, rfl, (by rw [rOne, if_neg c7, rO2, if_neg c29, rO3, if_neg c33, if_pos t47_1]; exact ⟨rfl, rfl, rfl⟩)⟩
        refine N.swc 2 (fun t47_2 => ?_) (fun t47_2 => ?_)
        · refine N.tsIn (off := 50) (tgt := 97) 2 t47_2 dX3_readOneNumber_47 (by decide) (by decide) (by decide) (by decide) ?_
          refine N.aload1 dX3_readOneNumber_97 ?_
          refine N.iload3 dX3_readOneNumber_98 ?_
          refine N.putf dX3_readOneNumber_99 flX3_122 zRo (Nat.le_of_ble_eq_true rfl) (fun _ h => by cases h; rfl) rfl rfl zRP_5 ?_
          refine N.goto (tgt := 119) dX3_readOneNumber_102 (by decide) ?_
          refine N.aload0 dX3_readOneNumber_119 ?_
          refine N.vv0 dX3_readOneNumber_120 vX3_step lkX3_28 (Sp.ztv fun W => s_X3_step W _ _ _ S hS hz _ hs1.2 _ _) zTo rfl (Nat.le_of_ble_eq_true rfl) (Nat.le_of_ble_eq_true rfl) (Nat.zero_le _) (Nat.zero_le _) ?_
          rintro _ _ ⟨rfl, rfl⟩
          refine N.iconst (v := 1) dX3_readOneNumber_123 (by decide) ?_
          exact N.zret dX3_readOneNumber_124 rfl rfl (Nat.zero_le _) (Nat.zero_le _) ⟨_, rfl, (by rw [rOne, if_neg c7, rO2, if_neg c29, rO3, if_neg c33, if_neg t47_1, if_pos t47_2]; exact ⟨rfl, rfl, rfl⟩)⟩
        refine N.swc 3 (fun t47_3 => ?_) (fun t47_3 => ?_)
        · refine N.tsIn (off := 58) (tgt := 105) 3 t47_3 dX3_readOneNumber_47 (by decide) (by decide) (by decide) (by decide) ?_
          refine N.aload1 dX3_readOneNumber_105 ?_
          refine N.iload3 dX3_readOneNumber_106 ?_
          refine N.putf dX3_readOneNumber_107 flX3_124 zRo (Nat.le_of_ble_eq_true rfl) (fun _ h => by cases h; rfl) rfl rfl zRP_6 ?_
          refine N.goto (tgt := 119) dX3_readOneNumber_110 (by decide) ?_
          refine N.aload0 dX3_readOneNumber_119 ?_
          refine N.vv0 dX3_readOneNumber_120 vX3_step lkX3_28 (Sp.ztv fun W => s_X3_step W _ _ _ S hS hz _ hs1.2 _ _) zTo rfl (Nat.le_of_ble_eq_true rfl) (Nat.le_of_ble_eq_true rfl) (Nat.zero_le _) (Nat.zero_le _) ?_
          rintro _ _ ⟨rfl, rfl⟩
          refine N.iconst (v := 1) dX3_readOneNumber_123 (by decide) ?_
          exact N.zret dX3_readOneNumber_124 rfl rfl (Nat.zero_le _) (Nat.zero_le _) ⟨_, rfl, (by rw [rOne, if_neg c7, rO2, if_neg c29, rO3, if_neg c33, if_neg t47_1, if_neg t47_2, if_pos t47_3]; exact ⟨rfl, rfl, rfl⟩)⟩
        refine N.tsOut (tgt := 113) dX3_readOneNumber_47 (by have h0 := sw_ne t47_0 (z := 0) (by decide); have h1 := sw_ne t47_1 (z := 1) (by decide); have h2 := sw_ne t47_2 (z := 2) (by decide); have h3 := sw_ne t47_3 (z := 3) (by decide); omega) (by decide) ?_
        obtain ⟨m, hm, hn⟩ := num_4 (wd1_4 c7 t47_0 t47_1 t47_2 t47_3) c29
        refine N.aload1 dX3_readOneNumber_113 ?_
        refine N.iload3 dX3_readOneNumber_114 ?_
        refine N.vi1 dX3_readOneNumber_115 vX1_playSeconds lkX3_126 (Sp.zri fun W => s_X1_playSeconds W _ _ _ _ m (by omega) hn hv) zRo rfl (Nat.le_of_ble_eq_true rfl) (Nat.le_of_ble_eq_true rfl) (Nat.zero_le _) (Nat.zero_le _) ?_
        rintro _ _ _ ⟨rfl, rfl, rfl⟩
        refine N.pop dX3_readOneNumber_118 rfl ?_
        refine N.aload0 dX3_readOneNumber_119 ?_
        refine N.vv0 dX3_readOneNumber_120 vX3_step lkX3_28 (Sp.ztv fun W => s_X3_step W _ _ _ S hS hz _ hs1.2 _ _) zTo rfl (Nat.le_of_ble_eq_true rfl) (Nat.le_of_ble_eq_true rfl) (Nat.zero_le _) (Nat.zero_le _) ?_
        rintro _ _ ⟨rfl, rfl⟩
        refine N.iconst (v := 1) dX3_readOneNumber_123 (by decide) ?_
        exact N.zret dX3_readOneNumber_124 rfl rfl (Nat.zero_le _) (Nat.zero_le _) ⟨_, rfl, (by rw [rOne, if_neg c7, rO2, if_neg c29, rO3, if_neg c33, if_neg t47_1, if_neg t47_2, if_neg t47_3]; exact ⟨rfl, rfl, rfl⟩)⟩
      · refine N.aload1 dX3_readOneNumber_36 ?_
        refine N.iload3 dX3_readOneNumber_37 ?_
        refine N.vi1 dX3_readOneNumber_38 vX1_hasPlayers lkX3_112 (Sp.zri fun W => s_X1_hasPlayers W _ _ _ _) zRo rfl (Nat.le_of_ble_eq_true rfl) (Nat.le_of_ble_eq_true rfl) (Nat.zero_le _) (Nat.zero_le _) ?_
        rintro _ _ _ ⟨rfl, rfl, rfl⟩
        refine N.if_ne (tgt := 46) dX3_readOneNumber_41 (by decide) (fun c41 => ?_) (fun c41 => ?_)
        · refine N.iload2 dX3_readOneNumber_46 ?_
          refine N.swc 0 (fun t47_0 => ?_) (fun t47_0 => ?_)
          · refine N.tsIn (off := 29) (tgt := 76) 0 t47_0 dX3_readOneNumber_47 (by decide) (by decide) (by decide) (by decide) ?_
            refine N.aload1 dX3_readOneNumber_76 ?_
            refine N.aload1 dX3_readOneNumber_77 ?_
            refine N.getf dX3_readOneNumber_78 flX3_90 zRo rfl ?_
            refine N.iload3 dX3_readOneNumber_81 ?_
            refine N.iald dX3_readOneNumber_82 zRA4 (hl_in c41) ?_
            refine N.vv1 dX3_readOneNumber_83 vX1_putOn lkX3_116 (Sp.zrv fun W => s_X1_putOn W _ _ _ _) zRo rfl (Nat.le_of_ble_eq_true rfl) (Nat.le_of_ble_eq_true rfl) (Nat.zero_le _) (Nat.zero_le _) ?_
            rintro _ _ ⟨rfl, rfl⟩
            refine N.goto (tgt := 119) dX3_readOneNumber_86 (by decide) ?_
            refine N.aload0 dX3_readOneNumber_119 ?_
            refine N.vv0 dX3_readOneNumber_120 vX3_step lkX3_28 (Sp.ztv fun W => s_X3_step W _ _ _ S hS hz _ hs1.2 _ _) zTo rfl (Nat.le_of_ble_eq_true rfl) (Nat.le_of_ble_eq_true rfl) (Nat.zero_le _) (Nat.zero_le _) ?_
            rintro _ _ ⟨rfl, rfl⟩
            refine N.iconst (v := 1) dX3_readOneNumber_123 (by decide) ?_
            exact N.zret dX3_readOneNumber_124 rfl rfl (Nat.zero_le _) (Nat.zero_le _) ⟨_, rfl, (by rw [rOne, if_neg c7, rO2, if_neg c29, rO3, if_pos c33, if_neg c41]; exact ⟨rfl, rfl, rfl⟩)⟩
          exact absurd c33 t47_0
        · refine N.iconst (v := 0) dX3_readOneNumber_44 (by decide) ?_
          exact N.zret dX3_readOneNumber_45 rfl rfl (Nat.zero_le _) (Nat.zero_le _) ⟨_, rfl, (by rw [rOne, if_neg c7, rO2, if_neg c29, rO3, if_pos c33, if_pos c41]; exact ⟨rfl, rfl, rfl⟩)⟩
  · refine N.iconst (v := 0) dX3_readOneNumber_10 (by decide) ?_
    exact N.zret dX3_readOneNumber_11 rfl rfl (Nat.zero_le _) (Nat.zero_le _) ⟨_, rfl, (by rw [rOne, if_pos c7]; exact ⟨rfl, rfl, rfl⟩)⟩
abbrev Rf : Type := Int32 × TV × CV
def rOnt (t : TV) (S : Nat) : Nat → Nat → Int32 × Nat × Int32 → CV → Rf
  | 0, _, z, v => (-1, cT t z.1 (nI z.2.1) z.2.2, v)
  | n + 1, k, z, v => if (rSt t.1 S (stepF t.1 S z.2.1) v).1 = 0 then (-1, tZ t (rSt t.1 S (stepF t.1 S z.2.1) v).2.1, (rSt t.1 S (stepF t.1 S z.2.1) v).2.2) else if (rSt t.1 S (stepF t.1 S z.2.1) v).2.1.2.2 = 0 then (nI (k + 1), tZ t (rSt t.1 S (stepF t.1 S z.2.1) v).2.1, (rSt t.1 S (stepF t.1 S z.2.1) v).2.2) else if (rSt t.1 S (stepF t.1 S z.2.1) v).2.1.2.2 = 3 then rOnt t S n (k + 1) (nI (rSt t.1 S (stepF t.1 S z.2.1) v).2.1.1, (rSt t.1 S (stepF t.1 S z.2.1) v).2.1.2.1, (rSt t.1 S (stepF t.1 S z.2.1) v).2.1.2.2) (rSt t.1 S (stepF t.1 S z.2.1) v).2.2 else (-1, tZ t (rSt t.1 S (stepF t.1 S z.2.1) v).2.1, (rSt t.1 S (stepF t.1 S z.2.1) v).2.2)
set_option maxRecDepth 100000 in
theorem l_X3_readOnto {K : Kx} (w : Wd) (a sz : Nat) (x : XV) (t : TV) (u : CV) (p : Int32 × Int32) (S : Nat) (hS : S ≤ 250) (hz : t.2 0 = nI S) (R : Rf) : ∀ nn k (z : Int32 × Nat × Int32) (v : CV), k + nn = 250 → z.2.1 ≤ S → okP v → rOnt t S nn k z v = R → N K mX3_readOnto 8 0 0 (Qi fun r w' sz' => r = (R).1 ∧ w' = putY K w a x (R).2.1 (R).2.2 u p ∧ sz' = sz) 7 [some (.ref (a + 25)), some (.ref (a + 1)), some (.int (nI (k + 1))), none] [] (putY K w a x (cT t z.1 (nI z.2.1) z.2.2) v u p) sz 0 0 := by
  intro nn
  induction nn with
  | zero =>
    intro k z v hk hE hv hR
    obtain rfl : k = 250 := by omega
    subst hR
    refine N.iload2 dX3_readOnto_7 ?_
    refine N.sipush (v := 250) dX3_readOnto_8 (by decide) ?_
    refine N.icmp_gt (tgt := 96) dX3_readOnto_11 (by decide) (fun c11 => ?_) (fun c11 => absurd (by decide) c11)
    refine N.iconst (v := -1) dX3_readOnto_96 (by decide) ?_
    exact N.iret dX3_readOnto_97 rfl (Nat.zero_le _) (Nat.zero_le _) ⟨_, rfl, ⟨rfl, rfl, rfl⟩⟩
  | succ nn ih =>
    intro k z v hk hE hv hR
    have hs := step_ok (f := t.1) hE
    have hq := rSt_ok (f := t.1) hs hv
    rw [rOnt] at hR
    have tail : ∀ q : R3, rSt t.1 S (stepF t.1 S z.2.1) v = q → N K mX3_readOnto 8 0 0 (Qi fun r w' sz' => r = (R).1 ∧ w' = putY K w a x (R).2.1 (R).2.2 u p ∧ sz' = sz) 60 [some (.ref (a + 25)), some (.ref (a + 1)), some (.int (nI (k + 1))), some (.int q.1)] [] (putY K w a x (tZ t q.2.1) q.2.2 u p) sz 0 0 := by
      intro q e
      rw [e] at hq hR
      refine N.iload3 dX3_readOnto_60 ?_
      refine N.if_eq (tgt := 79) dX3_readOnto_61 (by decide) (fun c61 => ?_) (fun c61 => ?_)
      · refine N.iconst (v := -1) dX3_readOnto_79 (by decide) ?_
        exact N.iret dX3_readOnto_80 rfl (Nat.zero_le _) (Nat.zero_le _) ⟨_, rfl, (by rw [if_pos c61] at hR; subst hR; exact ⟨rfl, rfl, rfl⟩)⟩
      · refine N.aload0 dX3_readOnto_64 ?_
        refine N.getf dX3_readOnto_65 flX3_25 zTo rfl ?_
        refine N.if_eq (tgt := 81) dX3_readOnto_68 (by decide) (fun c68 => ?_) (fun c68 => ?_)
        · refine N.aload0 dX3_readOnto_81 ?_
          refine N.getf dX3_readOnto_82 flX3_25 zTo rfl ?_
          refine N.if_ne (tgt := 90) dX3_readOnto_85 (by decide) (fun c85 => absurd c68 c85) (fun c85 => ?_)
          refine N.iload2 dX3_readOnto_88 ?_
          exact N.iret dX3_readOnto_89 rfl (Nat.zero_le _) (Nat.zero_le _) ⟨_, rfl, (by rw [if_neg c61, if_pos c68] at hR; subst hR; exact ⟨rfl, rfl, rfl⟩)⟩
        · refine N.aload0 dX3_readOnto_71 ?_
          refine N.getf dX3_readOnto_72 flX3_25 zTo rfl ?_
          refine N.iconst (v := 3) dX3_readOnto_75 (by decide) ?_
          refine N.icmp_eq (tgt := 81) dX3_readOnto_76 (by decide) (fun c76 => ?_) (fun c76 => ?_)
          · refine N.aload0 dX3_readOnto_81 ?_
            refine N.getf dX3_readOnto_82 flX3_25 zTo rfl ?_
            refine N.if_ne (tgt := 90) dX3_readOnto_85 (by decide) (fun c85 => ?_) (fun c85 => absurd c85 c68)
            refine N.iinc2 dX3_readOnto_90 rfl (nI_inc _) ?_
            refine N.goto (tgt := 7) dX3_readOnto_93 (by decide) ?_
            exact N.wk (by exact ⟨rfl, rfl, rfl, trivial⟩) (ih (k + 1) (nI _, _, _) _ (by omega) hq.2.1.2 hq.2.2 (by rw [if_neg c61, if_neg c68, if_pos c76] at hR; exact hR))
          · refine N.iconst (v := -1) dX3_readOnto_79 (by decide) ?_
            exact N.iret dX3_readOnto_80 rfl (Nat.zero_le _) (Nat.zero_le _) ⟨_, rfl, (by rw [if_neg c61, if_neg c68, if_neg c76] at hR; subst hR; exact ⟨rfl, rfl, rfl⟩)⟩
    refine N.iload2 dX3_readOnto_7 ?_
    refine N.sipush (v := 250) dX3_readOnto_8 (by decide) ?_
    refine N.icmp_gt (tgt := 96) dX3_readOnto_11 (by decide) (fun c11 => absurd c11 (nI_nlt (a := 250) (b := k + 1) (by omega) (by omega))) (fun c11 => ?_)
    refine N.aload0 dX3_readOnto_14 ?_
    refine N.vv0 dX3_readOnto_15 vX3_step lkX3_28 (Sp.ztv fun W => s_X3_step W _ _ _ S hS hz _ hE _ _) zTo rfl (Nat.le_of_ble_eq_true rfl) (Nat.le_of_ble_eq_true rfl) (Nat.zero_le _) (Nat.zero_le _) ?_
    rintro _ _ ⟨rfl, rfl⟩
    refine N.aload0 dX3_readOnto_18 ?_
    refine N.ldcS (j := 0) (tx := "player") dX3_readOnto_19 rfl ?_
    refine N.vi1 dX3_readOnto_21 vX3_isWord lkX3_33 (Sp.zti fun W => s_X3_isWord W _ _ _ S hS hz _ hs 0 (by decide)) zTo rfl (Nat.le_of_ble_eq_true rfl) (Nat.le_of_ble_eq_true rfl) (Nat.zero_le _) (Nat.zero_le _) ?_
    rintro _ _ _ ⟨rfl, rfl, rfl⟩
    refine N.if_eq (tgt := 36) dX3_readOnto_24 (by decide) (fun c24 => ?_) (fun c24 => ?_)
    · refine N.aload0 dX3_readOnto_36 ?_
      refine N.ldcS (j := 1) (tx := "line") dX3_readOnto_37 rfl ?_
      refine N.vi1 dX3_readOnto_39 vX3_isWord lkX3_33 (Sp.zti fun W => s_X3_isWord W _ _ _ S hS hz _ hs 1 (by decide)) zTo rfl (Nat.le_of_ble_eq_true rfl) (Nat.le_of_ble_eq_true rfl) (Nat.zero_le _) (Nat.zero_le _) ?_
      rintro _ _ _ ⟨rfl, rfl, rfl⟩
      refine N.if_eq (tgt := 54) dX3_readOnto_42 (by decide) (fun c42 => ?_) (fun c42 => ?_)
      · refine N.aload0 dX3_readOnto_54 ?_
        refine N.aload1 dX3_readOnto_55 ?_
        refine N.vi1 dX3_readOnto_56 vX3_readOneNumber lkX3_46 (s_X3_readOneNumber _ _ _ _ _ _ _ _ S hS hz _ hs hv) zTo rfl (Nat.le_of_ble_eq_true rfl) (Nat.le_of_ble_eq_true rfl) (Nat.zero_le _) (Nat.zero_le _) ?_
        rintro _ _ _ ⟨rfl, rfl, rfl⟩
        refine N.istore3 dX3_readOnto_59 rfl ?_
        exact tail _ (by rw [rSt, if_pos c24, if_pos c42])
      · refine N.aload0 dX3_readOnto_45 ?_
        refine N.aload1 dX3_readOnto_46 ?_
        refine N.vi1 dX3_readOnto_47 vX3_readLine lkX3_43 (s_X3_readLine _ _ _ _ _ _ _ _ S hS hz _ hs hv) zTo rfl (Nat.le_of_ble_eq_true rfl) (Nat.le_of_ble_eq_true rfl) (Nat.zero_le _) (Nat.zero_le _) ?_
        rintro _ _ _ ⟨rfl, rfl, rfl⟩
        refine N.istore3 dX3_readOnto_50 rfl ?_
        refine N.goto (tgt := 60) dX3_readOnto_51 (by decide) ?_
        exact tail _ (by rw [rSt, if_pos c24, if_neg c42])
    · refine N.aload0 dX3_readOnto_27 ?_
      refine N.aload1 dX3_readOnto_28 ?_
      refine N.vi1 dX3_readOnto_29 vX3_readPlayer lkX3_37 (s_X3_readPlayer _ _ _ _ _ _ _ _ S hS hz _ hs hv) zTo rfl (Nat.le_of_ble_eq_true rfl) (Nat.le_of_ble_eq_true rfl) (Nat.zero_le _) (Nat.zero_le _) ?_
      rintro _ _ _ ⟨rfl, rfl, rfl⟩
      refine N.istore3 dX3_readOnto_32 rfl ?_
      refine N.goto (tgt := 60) dX3_readOnto_33 (by decide) ?_
      exact tail _ (by rw [rSt, if_neg c24])
set_option maxRecDepth 100000 in
theorem s_X3_readOnto {K : Kx} (w : Wd) (a sz : Nat) (x : XV) (t : TV) (u : CV) (p : Int32 × Int32) (S : Nat) (hS : S ≤ 250) (hz : t.2 0 = nI S) (v : CV) (hv : okP v) (s0 e0 k0 : Int32) : Sp K mX3_readOnto 8 0 0 [.ref (a + 25), .ref (a + 1)] (putY K w a x (cT t s0 e0 k0) v u p) sz (Qi fun r w' sz' => r = (rOnt t S 250 0 (s0, 0, k0) v).1 ∧ w' = putY K w a x (rOnt t S 250 0 (s0, 0, k0) v).2.1 (rOnt t S 250 0 (s0, 0, k0) v).2.2 u p ∧ sz' = sz) := by
  refine Sp.ofN [some (.ref (a + 25)), some (.ref (a + 1)), none, none] rfl rfl rfl (Nat.le_of_ble_eq_true rfl) ?_
  refine N.aload0 dX3_readOnto_0 ?_
  refine N.iconst (v := 0) dX3_readOnto_1 (by decide) ?_
  refine N.putf dX3_readOnto_2 flX3_22 zTo (Nat.le_of_ble_eq_true rfl) (fun _ h => by cases h; rfl) rfl rfl zTP2 ?_
  refine N.iconst (v := 1) dX3_readOnto_5 (by decide) ?_
  refine N.istore2 dX3_readOnto_6 rfl ?_
  exact N.wk (by exact ⟨rfl, rfl, rfl, trivial⟩) (l_X3_readOnto w a _ x t u p S hS hz _ 250 0 (s0, 0, k0) v (by omega) (Nat.zero_le _) hv rfl)
def xfeed (x : XV) (l : Int32) : Int32 × XV := if isInF l 0 255 = 0 then rf x (-2) else if x.2.1.2 0 < 250 then (x.2.1.2 0 + 1, setT x (appV x.2.1 l)) else rf x (-6)
set_option maxRecDepth 100000 in
theorem s_X4_feed {K : Kx} (w : Wd) (a sz : Nat) (x : XV) (l : Int32) (hX : okX x)  : Sp K mX4_feed 9 0 0 [.ref a, .int l] (putX K w a x) sz (Qi fun r w' sz' => r = (xfeed x l).1 ∧ sz' = sz ∧ ∃ x', w' = putX K w a x' ∧ rel x' = rel (xfeed x l).2) := by
  refine Sp.ofN [some (.ref a), some (.int l)] rfl rfl rfl (Nat.le_of_ble_eq_true rfl) ?_
  have h : okP (x.1 0) := hX.1
  refine N.eqW (congrArg (putX K w a) (xup_self x)) ?_
  generalize x.1 1 = u0
  generalize x.2.2.2.2.1 = p0
  refine N.iload1 dX4_feed_0 ?_
  refine N.iconst (v := 0) dX4_feed_1 (by decide) ?_
  refine N.sipush (v := 255) dX4_feed_2 (by decide) ?_
  refine N.si3 dX4_feed_5 vX4_isIn lkX4_58 (s_X4_isIn _ _ _ _ _) rfl (Nat.le_of_ble_eq_true rfl) (Nat.le_of_ble_eq_true rfl) (Nat.zero_le _) (Nat.zero_le _) ?_
  rintro _ _ _ ⟨rfl, rfl, rfl⟩
  refine N.if_ne (tgt := 18) dX4_feed_8 (by decide) (fun c8 => ?_) (fun c8 => ?_)
  · refine N.aload0 dX4_feed_18 ?_
    refine N.getf dX4_feed_19 flX4_28 yO rfl ?_
    refine N.getf dX4_feed_22 flX4_157 yT rfl ?_
    refine N.sipush (v := 250) dX4_feed_25 (by decide) ?_
    refine N.icmp_lt (tgt := 38) dX4_feed_28 (by decide) (fun c28 => ?_) (fun c28 => ?_)
    · obtain ⟨N0, hN0, e0⟩ := hX.2.2.2
      have hlt : N0 < 250 := Nat.not_le.mp fun q => absurd c28 (by rw [e0]; exact nI_nlt (b := 250) q (by omega))
      refine N.aload0 dX4_feed_38 ?_
      refine N.getf dX4_feed_39 flX4_28 yO rfl ?_
      refine N.iload1 dX4_feed_42 ?_
      refine N.vi1 dX4_feed_43 vX3_append lkX4_158 (Sp.ti fun W => s_X3_append W _ _ _ _ (by rw [e0]; exact nI_ge (b := 250) hlt (by omega)) (by rw [e0]; exact in250 hlt)) yT rfl (Nat.le_of_ble_eq_true rfl) (Nat.le_of_ble_eq_true rfl) (Nat.zero_le _) (Nat.zero_le _) ?_
      rintro _ _ _ ⟨rfl, rfl, rfl⟩
      exact N.iret dX4_feed_46 rfl (Nat.zero_le _) (Nat.zero_le _) ⟨_, rfl, (by rw [xfeed, if_neg c8, if_pos c28]; exact ⟨rfl, rfl, _, rfl, rel_xup⟩)⟩
    · refine N.aload0 dX4_feed_31 ?_
      refine N.bipush (v := -6) dX4_feed_32 (by decide) ?_
      refine N.vi1 dX4_feed_34 vX4_refuse lkX4_62 (s_X4_refuse _ _ _ _ _ _ _) yO rfl (Nat.le_of_ble_eq_true rfl) (Nat.le_of_ble_eq_true rfl) (Nat.zero_le _) (Nat.zero_le _) ?_
      rintro _ _ _ ⟨rfl, rfl, rfl⟩
      exact N.iret dX4_feed_37 rfl (Nat.zero_le _) (Nat.zero_le _) ⟨_, rfl, (by rw [xfeed, if_neg c8, if_neg c28]; exact rf_ok)⟩
  · refine N.aload0 dX4_feed_11 ?_
    refine N.bipush (v := -2) dX4_feed_12 (by decide) ?_
    refine N.vi1 dX4_feed_14 vX4_refuse lkX4_62 (s_X4_refuse _ _ _ _ _ _ _) yO rfl (Nat.le_of_ble_eq_true rfl) (Nat.le_of_ble_eq_true rfl) (Nat.zero_le _) (Nat.zero_le _) ?_
    rintro _ _ _ ⟨rfl, rfl, rfl⟩
    exact N.iret dX4_feed_17 rfl (Nat.zero_le _) (Nat.zero_le _) ⟨_, rfl, (by rw [xfeed, if_pos c8]; exact rf_ok)⟩
def tap0 (t : TV) : TV := (t.1, upd t.2 0 0)
def rnkR (x : XV) : Rf := rOnt x.2.1 (x.2.1.2 0).toNatClampNeg 250 0 (x.2.1.2 1, 0, x.2.1.2 3) (x.1 0)
def xrink (x : XV) : Int32 × XV := if (rnkR x).1 = -1 then (-20 - (rnkR x).2.1.2 1, refX (setT x (tap0 (rnkR x).2.1)) (-2)) else ((rnkR x).1, setR (setT x (tap0 (rnkR x).2.1)) 0 (rnkR x).2.2)
theorem rnk_i {x : XV} : setR x 3 (x.1 0) = setR (setT (setR x 3 (x.1 0)) (cT x.2.1 (x.2.1.2 1) (x.2.1.2 2) (x.2.1.2 3))) 0 (x.1 0) := by
  rw [← cT_self]
  refine Prod.ext (funext fun j => ?_) rfl
  show (if j = 3 then x.1 0 else x.1 j) = if j = 0 then x.1 0 else if j = 3 then x.1 0 else x.1 j
  by_cases h : j = 0
  · subst h; rfl
  · rw [if_neg h]
theorem rnk_b {x : XV} {A V u : CV} {T T' : TV} {p : Int32 × Int32} : rel (xup (setT (setR (setT (setR x 3 A) T) 0 V) T') u p) = rel (setR (setT x T') 0 V) := rfl
theorem rnk_d {x : XV} {A V : CV} {T T' : TV} : setR (setT (setR (setT (setR x 3 A) T) 0 V) T') 0 ((setT (setR (setT (setR x 3 A) T) 0 V) T').1 3) = setR (setR (setT x T') 3 A) 0 A := by
  refine Prod.ext (funext fun j => ?_) rfl
  show (if j = 0 then A else if j = 0 then V else if j = 3 then A else x.1 j) = if j = 0 then A else if j = 3 then A else x.1 j
  by_cases h : j = 0
  · rw [if_pos h, if_pos h]
  · rw [if_neg h, if_neg h, if_neg h]
theorem rnk_c {x : XV} {u : CV} {T' : TV} {y : Int32} {p : Int32 × Int32} : rel (xup (refX (setR (setR (setT x T') 3 (x.1 0)) 0 (x.1 0)) y) u p) = rel (refX (setT x T') y) := by
  unfold refX
  split <;> rfl
theorem rnk_ok1 {K : Kx} {w : Wd} {a sz : Nat} {x : XV} {u : CV} {p : Int32 × Int32} (c : ¬ (rnkR x).1 = -1) : (rnkR x).1 = (xrink x).1 ∧ sz = sz ∧ ∃ x', putU K w a (setT (setR (setT (setR x 3 (x.1 0)) (rnkR x).2.1) 0 (rnkR x).2.2) (tap0 (rnkR x).2.1)) u p = putX K w a x' ∧ rel x' = rel (xrink x).2 := by
  rw [xrink, if_neg c]
  exact ⟨rfl, rfl, _, rfl, rnk_b⟩
theorem rnk_ok2 {K : Kx} {w : Wd} {a sz : Nat} {x : XV} {u : CV} {p : Int32 × Int32} (c : (rnkR x).1 = -1) : -20 - (rnkR x).2.1.2 1 = (xrink x).1 ∧ sz = sz ∧ ∃ x', putU K w a (refX (setR (setR (setT x (tap0 (rnkR x).2.1)) 3 (x.1 0)) 0 (x.1 0)) (-2)) u p = putX K w a x' ∧ rel x' = rel (xrink x).2 := by
  rw [xrink, if_pos c]
  exact ⟨rfl, rfl, _, rfl, rnk_c⟩
theorem rnk_n {x : XV} {S : Nat} (hS : S ≤ 250) (e : x.2.1.2 0 = nI S) : rOnt x.2.1 S 250 0 (x.2.1.2 1, 0, x.2.1.2 3) (x.1 0) = rnkR x := by rw [rnkR, e, nI_clamp (by omega)]
theorem rdW {K : Kx} {w : Wd} {a sz S : Nat} {x : XV} {u : CV} {p : Int32 × Int32} (h : okP (x.1 0)) (hS : S ≤ 250) (e : x.2.1.2 0 = nI S) : Sp K mX3_readOnto 8 0 0 [.ref (a + 25), .ref (a + 1)] (putU K w a (setR x 3 (x.1 0)) u p) sz (Qi fun r w' sz' => r = (rnkR x).1 ∧ w' = putU K w a (setR (setT (setR x 3 (x.1 0)) (rnkR x).2.1) 0 (rnkR x).2.2) u p ∧ sz' = sz) := by
  have := s_X3_readOnto (K := K) w a sz (setR x 3 (x.1 0)) x.2.1 u p S hS e (x.1 0) h (x.2.1.2 1) (x.2.1.2 2) (x.2.1.2 3)
  rw [rnk_n hS e] at this
  exact Sp.eqW (congrArg (fun z => putU K w a z u p) rnk_i) this
theorem pub_rink {K : Kx} {w : Wd} {a : Nat} {x : XV} {V : CV} {T : TV} {u : CV} {p : Int32 × Int32} : upW (putU K w a (setR (setT (setR x 3 (x.1 0)) T) 0 V) u p) (a + 25) (.inr (3, (tF (a + 25) T).set 1 (.int 0))) = putU K w a (setT (setR (setT (setR x 3 (x.1 0)) T) 0 V) (tap0 T)) u p := yTP0
theorem yTr {K : Kx} {w : Wd} {a : Nat} {x : XV} {V : CV} {T : TV} {u : CV} {p : Int32 × Int32} : putU K w a (setR (setT x T) 0 V) u p (a + 25) = some (.inr (3, tF (a + 25) T)) := yT
set_option maxRecDepth 100000 in
theorem s_X4_rink {K : Kx} (w : Wd) (a sz : Nat) (x : XV) (hX : okX x)  : Sp K mX4_rink 9 0 0 [.ref a] (putX K w a x) sz (Qi fun r w' sz' => r = (xrink x).1 ∧ sz' = sz ∧ ∃ x', w' = putX K w a x' ∧ rel x' = rel (xrink x).2) := by
  refine Sp.ofN [some (.ref a), none, none] rfl rfl rfl (Nat.le_of_ble_eq_true rfl) ?_
  have h : okP (x.1 0) := hX.1
  refine N.eqW (congrArg (putX K w a) (xup_self x)) ?_
  generalize x.1 1 = u0
  generalize x.2.2.2.2.1 = p0
  refine N.aload0 dX4_rink_0 ?_
  refine N.getf dX4_rink_1 flX4_22 yO rfl ?_
  refine N.aload0 dX4_rink_4 ?_
  refine N.getf dX4_rink_5 flX4_10 yO rfl ?_
  refine N.vv1 dX4_rink_8 vX1_takeFrom lkX4_161 (Sp.tk30) yO3 rfl (Nat.le_of_ble_eq_true rfl) (Nat.le_of_ble_eq_true rfl) (Nat.zero_le _) (Nat.zero_le _) ?_
  rintro _ _ ⟨rfl, rfl⟩
  obtain ⟨S, hS, e0⟩ := hX.2.2.2
  refine N.aload0 dX4_rink_11 ?_
  refine N.getf dX4_rink_12 flX4_28 yO rfl ?_
  refine N.aload0 dX4_rink_15 ?_
  refine N.getf dX4_rink_16 flX4_10 yO rfl ?_
  refine N.vi1 dX4_rink_19 vX3_readOnto lkX4_165 (rdW h hS e0) yT rfl (Nat.le_of_ble_eq_true rfl) (Nat.le_of_ble_eq_true rfl) (Nat.zero_le _) (Nat.zero_le _) ?_
  rintro r1 _ _ ⟨er, rfl, rfl⟩
  subst er
  refine N.istore1 dX4_rink_22 rfl ?_
  refine N.aload0 dX4_rink_23 ?_
  refine N.getf dX4_rink_24 flX4_28 yO rfl ?_
  refine N.getf dX4_rink_27 flX4_169 yTr rfl ?_
  refine N.istore2 dX4_rink_30 rfl ?_
  refine N.aload0 dX4_rink_31 ?_
  refine N.getf dX4_rink_32 flX4_28 yO rfl ?_
  refine N.iconst (v := 0) dX4_rink_35 (by decide) ?_
  refine N.putf dX4_rink_36 flX4_157 yTr (Nat.le_of_ble_eq_true rfl) (fun _ h => by cases h; rfl) rfl rfl pub_rink ?_
  refine N.iload1 dX4_rink_39 ?_
  refine N.iconst (v := -1) dX4_rink_40 (by decide) ?_
  refine N.icmp_ne (tgt := 67) dX4_rink_41 (by decide) (fun c41 => ?_) (fun c41 => ?_)
  · refine N.iload1 dX4_rink_67 ?_
    exact N.iret dX4_rink_68 rfl (Nat.zero_le _) (Nat.zero_le _) ⟨_, rfl, (rnk_ok1 c41)⟩
  · refine N.aload0 dX4_rink_44 ?_
    refine N.getf dX4_rink_45 flX4_10 yO rfl ?_
    refine N.aload0 dX4_rink_48 ?_
    refine N.getf dX4_rink_49 flX4_22 yO rfl ?_
    refine N.vv1 dX4_rink_52 vX1_takeFrom lkX4_161 (Sp.tk03) yO0 rfl (Nat.le_of_ble_eq_true rfl) (Nat.le_of_ble_eq_true rfl) (Nat.zero_le _) (Nat.zero_le _) ?_
    rintro _ _ ⟨rfl, rfl⟩
    refine N.eqW (congrArg (fun z => putU K w a z _ _) rnk_d) ?_
    refine N.aload0 dX4_rink_55 ?_
    refine N.bipush (v := -2) dX4_rink_56 (by decide) ?_
    refine N.vi1 dX4_rink_58 vX4_refuse lkX4_62 (s_X4_refuse _ _ _ _ _ _ _) yO rfl (Nat.le_of_ble_eq_true rfl) (Nat.le_of_ble_eq_true rfl) (Nat.zero_le _) (Nat.zero_le _) ?_
    rintro _ _ _ ⟨rfl, rfl, rfl⟩
    refine N.pop dX4_rink_61 rfl ?_
    refine N.bipush (v := -20) dX4_rink_62 (by decide) ?_
    refine N.iload2 dX4_rink_64 ?_
    refine N.isub dX4_rink_65 ?_
    exact N.iret dX4_rink_66 rfl (Nat.zero_le _) (Nat.zero_le _) ⟨_, rfl, (rnk_ok2 c41)⟩
