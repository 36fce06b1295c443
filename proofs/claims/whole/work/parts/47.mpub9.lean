variable {G : Nat → Prop}
def bkL (f : Nat → Int64) (k : Nat) : Int32 := (f (nI k).toNatClampNeg).toInt32
def bkN (v : CV) (l p y : Int32) : Int32 := if bitF (v.2 4 l.toNatClampNeg) p = 0 then 0 else y + 20
def bmTo (v u : CV) (f : Nat → Int64) (p c : Int32) : Nat → CV × Int32 × Int32
  | 0 => (u, 0, 0)
  | k + 1 => (goV (putOnV (bmTo v u f p c k).1 ((bmTo v u f p c k).1.2 4 (bkL f k).toNatClampNeg)) c, bkN v (bkL f k) p (bmTo v u f p c k).2.1, if bkN v (bkL f k) p (bmTo v u f p c k).2.1 ≤ (bmTo v u f p c k).2.2 then (bmTo v u f p c k).2.2 else bkN v (bkL f k) p (bmTo v u f p c k).2.1)
theorem bmTo_ok {v u : CV} {f : Nat → Int64} {p c : Int32} (h : okP u) : ∀ k, okP (bmTo v u f p c k).1
  | 0 => h
  | k + 1 => goM_ok ((bmTo_ok h k).on _) _
theorem wi_ok {v : CV} {f : Nat → Int64} : ∀ n k, k + n ≤ 40 → wiF v f n k = -1 → ∀ i, k ≤ i → i < k + n → vp_in (bkL f i) 4
  | 0, k, _, _, i, h1, h2 => absurd h1 (by omega)
  | n + 1, k, hk, h, i, h1, h2 => by
    rw [wiF] at h
    by_cases c1 : inL (f (nI k).toNatClampNeg) 0 3 = 0
    · rw [if_pos c1] at h; exact absurd h (nI_nm1 (by omega))
    · rw [if_neg c1] at h
      by_cases c2 : v.2 4 (f (nI k).toNatClampNeg).toInt32.toNatClampNeg = 0
      · rw [if_pos c2] at h; exact absurd h (nI_nm1 (by omega))
      · rw [if_neg c2] at h
        by_cases e : i = k
        · subst e; exact inL_vp c1
        · exact wi_ok n (k + 1) (by omega) h i (by omega) (by omega)
set_option maxRecDepth 100000 in
theorem l_X5_booked {K : Kx} (w : Wd) (b sz : Nat) (v : CV) (E : ME) (mc ms : Nat) (s n p x y : Int32) (c9 : ¬ isInF s 0 7 = 0) (hs : s.toNatClampNeg < 8) (m : Nat) (hm : m ≤ 40) (hn : n = nI m) (hw : wiF v (E.2.2.1 s.toNatClampNeg) m 0 = -1) (hp : vp_in p 10) (q : Nat) (hd : apG G q b) (u : CV) (ho : okP u) (cc ss : Nat) (hcc : cc ≤ mc) (hss : ss ≤ ms) (P : Int32 → Wd → Nat → Prop) (hP : ∀ z, P (if x = 0 then (bmTo v u (E.2.2.1 s.toNatClampNeg) p 20 m).2.2 else v.2 1 p.toNatClampNeg - legsF (bmTo v u (E.2.2.1 s.toNatClampNeg) p 20 m).1 p) (putM K (putM K w q z) b (v, E)) sz) : ∀ nn k (E2 : ME) (R : Option Value), k + nn = m → N K mX5_booked 9 mc ms (Qi P) 111 [some (.ref b), some (.int s), some (.int n), some (.int p), some (.int x), some (.int y), some (.int (bmTo v u (E.2.2.1 s.toNatClampNeg) p 20 k).2.2), some (.int (bmTo v u (E.2.2.1 s.toNatClampNeg) p 20 k).2.1), some (.ref q), some (.int (nI k)), R] [] (putM K (putM K w q ((bmTo v u (E.2.2.1 s.toNatClampNeg) p 20 k).1, E2)) b (v, E)) sz cc ss := by
  intro nn
  induction nn with
  | zero =>
    intro k E2 R hk
    obtain rfl : k = m := by omega
    generalize bmTo v u (E.2.2.1 s.toNatClampNeg) p 20 k = g0 at hP ⊢
    refine N.iload9 dX5_booked_111 ?_
    refine N.iload2 dX5_booked_113 ?_
    refine N.icmp_ge (tgt := 191) dX5_booked_114 (by decide) (fun c114 => ?_) (fun c114 => absurd (pl_ge hn (by omega) (by omega)) c114)
    refine N.iload4 dX5_booked_191 ?_
    refine N.if_ne (tgt := 201) dX5_booked_193 (by decide) (fun c193 => ?_) (fun c193 => ?_)
    · refine N.aload0 dX5_booked_201 ?_
      refine N.getf dX5_booked_202 flX5_40 mO rfl ?_
      refine N.iload3 dX5_booked_205 ?_
      refine N.iald dX5_booked_206 mA1 hp ?_
      refine N.aload8 dX5_booked_207 ?_
      refine N.iload3 dX5_booked_209 ?_
      refine N.vi1 dX5_booked_210 vX5_legs lkX5_110 (Sp.mi hd fun W => s_X5_legs W _ _ _ _ _ hp) (tO hd) rfl (Nat.le_of_ble_eq_true rfl) (Nat.le_of_ble_eq_true rfl) (by omega) (by omega) ?_
      rintro _ _ _ ⟨rfl, rfl, rfl⟩
      refine N.isub dX5_booked_213 ?_
      exact N.iret dX5_booked_214 rfl (by omega) (by omega) ⟨_, rfl, (by rw [if_neg c193] at hP; exact hP _)⟩
    · refine N.iload6 dX5_booked_196 ?_
      refine N.goto (tgt := 214) dX5_booked_198 (by decide) ?_
      exact N.iret dX5_booked_214 rfl (by omega) (by omega) ⟨_, rfl, (by rw [if_pos c193] at hP; exact hP _)⟩
  | succ nn ih =>
    intro k E2 R hk
    have hl := wi_ok m 0 (by omega) hw k (by omega) (by omega)
    have hbk := bmTo_ok (v := v) (f := (E.2.2.1 s.toNatClampNeg)) (p := p) (c := 20) ho k
    refine N.iload9 dX5_booked_111 ?_
    refine N.iload2 dX5_booked_113 ?_
    refine N.icmp_ge (tgt := 191) dX5_booked_114 (by decide) (fun c114 => absurd c114 (nI_i40 hn (by omega) (by omega))) (fun c114 => ?_)
    refine N.aload0 dX5_booked_117 ?_
    refine N.getf dX5_booked_118 flX5_21 mO rfl ?_
    refine N.iload1 dX5_booked_121 ?_
    refine N.aaldA dX5_booked_122 mW (sh8v c9) (mRv hs) ?_
    refine N.iload9 dX5_booked_123 ?_
    refine N.lald dX5_booked_125 (mR hs) (in40 (by omega)) ?_
    refine N.l2i dX5_booked_126 ?_
    refine N.istore10 dX5_booked_127 rfl ?_
    refine N.aload8 dX5_booked_129 ?_
    refine N.iload10 dX5_booked_131 ?_
    refine N.vv1 dX5_booked_133 vX5_whistles lkX5_218 (Sp.mv hd fun W => s_X5_whistles W _ _ _ _ _ hl) (tO hd) rfl (Nat.le_of_ble_eq_true rfl) (Nat.le_of_ble_eq_true rfl) (by omega) (by omega) ?_
    rintro _ _ ⟨rfl, rfl⟩
    refine N.aload8 dX5_booked_136 ?_
    refine N.bipush (v := 20) dX5_booked_138 (by decide) ?_
    refine N.vi1 dX5_booked_140 vX5_goes lkX5_316 (Sp.mi hd fun W => s_X5_goes W _ _ _ _ _ (hbk.on _) 20 (by decide) rfl) (tO hd) rfl (Nat.le_of_ble_eq_true rfl) (Nat.le_of_ble_eq_true rfl) (by omega) (by omega) ?_
    rintro _ _ _ ⟨rfl, rfl, rfl⟩
    refine N.pop dX5_booked_143 rfl ?_
    have hV : (bmTo v u (E.2.2.1 s.toNatClampNeg) p 20 (k + 1)).1 = goV (putOnV (bmTo v u (E.2.2.1 s.toNatClampNeg) p 20 k).1 ((bmTo v u (E.2.2.1 s.toNatClampNeg) p 20 k).1.2 4 (bkL (E.2.2.1 s.toNatClampNeg) k).toNatClampNeg)) 20 := by rw [bmTo]
    unfold bkL at hV
    generalize goV (putOnV (bmTo v u (E.2.2.1 s.toNatClampNeg) p 20 k).1 ((bmTo v u (E.2.2.1 s.toNatClampNeg) p 20 k).1.2 4 ((E.2.2.1 s.toNatClampNeg) (nI k).toNatClampNeg).toInt32.toNatClampNeg)) 20 = gv at hV ⊢
    refine N.aload0 dX5_booked_144 ?_
    refine N.getf dX5_booked_145 flX5_49 mO rfl ?_
    refine N.iload10 dX5_booked_148 ?_
    refine N.iald dX5_booked_150 mA4 hl ?_
    refine N.iload3 dX5_booked_151 ?_
    refine N.si2 dX5_booked_152 vX5_has lkX5_119 (s_X5_has _ _ _ _) rfl (Nat.le_of_ble_eq_true rfl) (Nat.le_of_ble_eq_true rfl) (by omega) (by omega) ?_
    rintro _ _ _ ⟨rfl, rfl, rfl⟩
    refine N.if_eq (tgt := 166) dX5_booked_155 (by decide) (fun c155 => ?_) (fun c155 => ?_)
    · refine N.iconst (v := 0) dX5_booked_166 (by decide) ?_
      refine N.eqS (show _ = [Value.int (bkN v (bkL (E.2.2.1 s.toNatClampNeg) k) p (bmTo v u (E.2.2.1 s.toNatClampNeg) p 20 k).2.1)] by rw [bkN, if_pos (show  bitF (v.2 4 (bkL (E.2.2.1 s.toNatClampNeg) k).toNatClampNeg) p = 0 from c155)]) ?_
      refine N.istore7 dX5_booked_167 rfl ?_
      have hS : (bmTo v u (E.2.2.1 s.toNatClampNeg) p 20 (k + 1)).2.1 = bkN v (bkL (E.2.2.1 s.toNatClampNeg) k) p (bmTo v u (E.2.2.1 s.toNatClampNeg) p 20 k).2.1 := by rw [bmTo]
      refine N.iload7 dX5_booked_169 ?_
      refine N.iload6 dX5_booked_171 ?_
      refine N.icmp_le (tgt := 181) dX5_booked_173 (by decide) (fun c173 => ?_) (fun c173 => ?_)
      · refine N.iload6 dX5_booked_181 ?_
        refine N.istore6 dX5_booked_183 rfl ?_
        refine N.iinc9 dX5_booked_185 rfl (nI_inc _) ?_
        refine N.goto (tgt := 111) dX5_booked_188 (by decide) ?_
        have hM : (bmTo v u (E.2.2.1 s.toNatClampNeg) p 20 (k + 1)).2.2 = (bmTo v u (E.2.2.1 s.toNatClampNeg) p 20 k).2.2 := by rw [bmTo]; exact if_pos c173
        subst hV
        exact N.wk (by rw [hS, hM]; exact ⟨rfl, rfl, rfl, rfl, rfl, rfl, rfl, rfl, rfl, rfl, rfl, trivial⟩) (ih (k + 1) _ (some _) (by omega))
      · refine N.iload7 dX5_booked_176 ?_
        refine N.goto (tgt := 183) dX5_booked_178 (by decide) ?_
        refine N.istore6 dX5_booked_183 rfl ?_
        refine N.iinc9 dX5_booked_185 rfl (nI_inc _) ?_
        refine N.goto (tgt := 111) dX5_booked_188 (by decide) ?_
        have hM : (bmTo v u (E.2.2.1 s.toNatClampNeg) p 20 (k + 1)).2.2 = bkN v (bkL (E.2.2.1 s.toNatClampNeg) k) p (bmTo v u (E.2.2.1 s.toNatClampNeg) p 20 k).2.1 := by rw [bmTo]; exact if_neg c173
        subst hV
        exact N.wk (by rw [hS, hM]; exact ⟨rfl, rfl, rfl, rfl, rfl, rfl, rfl, rfl, rfl, rfl, rfl, trivial⟩) (ih (k + 1) _ (some _) (by omega))
    · refine N.iload7 dX5_booked_158 ?_
      refine N.bipush (v := 20) dX5_booked_160 (by decide) ?_
      refine N.iadd dX5_booked_162 ?_
      refine N.goto (tgt := 167) dX5_booked_163 (by decide) ?_
      refine N.eqS (show _ = [Value.int (bkN v (bkL (E.2.2.1 s.toNatClampNeg) k) p (bmTo v u (E.2.2.1 s.toNatClampNeg) p 20 k).2.1)] by rw [bkN, if_neg (show ¬ bitF (v.2 4 (bkL (E.2.2.1 s.toNatClampNeg) k).toNatClampNeg) p = 0 from c155)]) ?_
      refine N.istore7 dX5_booked_167 rfl ?_
      have hS : (bmTo v u (E.2.2.1 s.toNatClampNeg) p 20 (k + 1)).2.1 = bkN v (bkL (E.2.2.1 s.toNatClampNeg) k) p (bmTo v u (E.2.2.1 s.toNatClampNeg) p 20 k).2.1 := by rw [bmTo]
      refine N.iload7 dX5_booked_169 ?_
      refine N.iload6 dX5_booked_171 ?_
      refine N.icmp_le (tgt := 181) dX5_booked_173 (by decide) (fun c173 => ?_) (fun c173 => ?_)
      · refine N.iload6 dX5_booked_181 ?_
        refine N.istore6 dX5_booked_183 rfl ?_
        refine N.iinc9 dX5_booked_185 rfl (nI_inc _) ?_
        refine N.goto (tgt := 111) dX5_booked_188 (by decide) ?_
        have hM : (bmTo v u (E.2.2.1 s.toNatClampNeg) p 20 (k + 1)).2.2 = (bmTo v u (E.2.2.1 s.toNatClampNeg) p 20 k).2.2 := by rw [bmTo]; exact if_pos c173
        subst hV
        exact N.wk (by rw [hS, hM]; exact ⟨rfl, rfl, rfl, rfl, rfl, rfl, rfl, rfl, rfl, rfl, rfl, trivial⟩) (ih (k + 1) _ (some _) (by omega))
      · refine N.iload7 dX5_booked_176 ?_
        refine N.goto (tgt := 183) dX5_booked_178 (by decide) ?_
        refine N.istore6 dX5_booked_183 rfl ?_
        refine N.iinc9 dX5_booked_185 rfl (nI_inc _) ?_
        refine N.goto (tgt := 111) dX5_booked_188 (by decide) ?_
        have hM : (bmTo v u (E.2.2.1 s.toNatClampNeg) p 20 (k + 1)).2.2 = bkN v (bkL (E.2.2.1 s.toNatClampNeg) k) p (bmTo v u (E.2.2.1 s.toNatClampNeg) p 20 k).2.1 := by rw [bmTo]; exact if_neg c173
        subst hV
        exact N.wk (by rw [hS, hM]; exact ⟨rfl, rfl, rfl, rfl, rfl, rfl, rfl, rfl, rfl, rfl, rfl, trivial⟩) (ih (k + 1) _ (some _) (by omega))
def tr0 (v : CV) (p : Int32) : CV := (v.1, upA v.2 3 (upd (v.2 3) p.toNatClampNeg 0))
def mbk2 (m : Mst) (s n p x : Int32) : Int32 × Mst := if x = 0 then ((bmTo m.1 (tr0 m.1 p) (m.2.2.2.1 s.toNatClampNeg) p 20 n.toNatClampNeg).2.2, m) else (m.1.2 1 p.toNatClampNeg - legsF (bmTo m.1 (tr0 m.1 p) (m.2.2.2.1 s.toNatClampNeg) p 20 n.toNatClampNeg).1 p, m)
def mbooked (m : Mst) (s n p x : Int32) : Int32 × Mst := if isInF s 0 7 = 0 then rm m (-2) else if isInF n 0 40 = 0 then rm m (-2) else if isPlF m.1 p = 0 then rm m (-2) else if isInF x 0 1 = 0 then rm m (-2) else if nbF m.2.2.1 s n = 0 then (if wiF m.1 (m.2.2.2.1 s.toNatClampNeg) n.toNatClampNeg 0 = -1 then mbk2 m s n p x else rm m (-5)) else (nbF m.2.2.1 s n, m.1, nbM m.2 s n)
theorem mbk2_e {m : Mst} {s n p x : Int32} {k : Nat} (h : n.toNatClampNeg = k) : mbk2 m s n p x = (if x = 0 then (bmTo m.1 (tr0 m.1 p) (m.2.2.2.1 s.toNatClampNeg) p 20 k).2.2 else m.1.2 1 p.toNatClampNeg - legsF (bmTo m.1 (tr0 m.1 p) (m.2.2.2.1 s.toNatClampNeg) p 20 k).1 p, m.1, m.2) := by
  rw [mbk2, h]
  split <;> rfl
set_option maxRecDepth 100000 in
theorem s_X5_booked {K : Kx} (w : Wd) (b sz : Nat) (v : CV) (e : M5) (t : Option Nat) (z : MX) (s : Int32) (n : Int32) (p : Int32) (x : Int32) (ht : tOk G b sz t) (hM : okM (v, e)) : Sp K mX5_booked 9 (kc t) (ks t) [.ref b, .int s, .int n, .int p, .int x] (putM K (tw K w t z) b (v, wt e t)) sz (Qi fun r w' sz' => r = (mbooked (v, e) s n p x).1 ∧ ∃ t' z', w' = putM K (tw K w t' z') b ((mbooked (v, e) s n p x).2.1, wt (mbooked (v, e) s n p x).2.2 t') ∧ tOk G b sz' t' ∧ sz ≤ sz') := by
  refine Sp.ofN [some (.ref b), some (.int s), some (.int n), some (.int p), some (.int x), none, none, none, none, none, none] rfl rfl rfl (Nat.le_of_ble_eq_true rfl) ?_
  have h : okP v := hM.1
  refine N.iload1 dX5_booked_0 ?_
  refine N.i2l dX5_booked_1 ?_
  refine N.lconst (v := 0) dX5_booked_2 (by decide) ?_
  refine N.ldc2 dX5_booked_3 ctX5_83 ?_
  refine N.si3 dX5_booked_6 vX5_in lkX5_77 (s_X5_in _ _ _ _ _) rfl (Nat.le_of_ble_eq_true rfl) (Nat.le_of_ble_eq_true rfl) (by omega) (by omega) ?_
  rintro r1 _ _ ⟨er, rfl, rfl⟩
  obtain rfl := er.trans (inL_i (a := (0)) (b := (7)) rfl rfl)
  refine N.if_eq (tgt := 43) dX5_booked_9 (by decide) (fun c9 => ?_) (fun c9 => ?_)
  · refine N.aload0 dX5_booked_43 ?_
    refine N.bipush (v := -2) dX5_booked_44 (by decide) ?_
    refine N.vi1 dX5_booked_46 vX5_refuse lkX5_89 (s_X5_refuse _ _ _ _ _ _ rfIn2) mO rfl (Nat.le_of_ble_eq_true rfl) (Nat.le_of_ble_eq_true rfl) (by omega) (by omega) ?_
    rintro _ _ _ ⟨rfl, rfl, rfl⟩
    exact N.iret dX5_booked_49 rfl (by omega) (by omega) ⟨_, rfl, (by rw [mbooked, if_pos c9]; exact rmf_ok ht)⟩
  · refine N.iload2 dX5_booked_12 ?_
    refine N.i2l dX5_booked_13 ?_
    refine N.lconst (v := 0) dX5_booked_14 (by decide) ?_
    refine N.ldc2 dX5_booked_15 ctX5_87 ?_
    refine N.si3 dX5_booked_18 vX5_in lkX5_77 (s_X5_in _ _ _ _ _) rfl (Nat.le_of_ble_eq_true rfl) (Nat.le_of_ble_eq_true rfl) (by omega) (by omega) ?_
    rintro r1 _ _ ⟨er, rfl, rfl⟩
    obtain rfl := er.trans (inL_i (a := (0)) (b := (40)) rfl rfl)
    refine N.if_eq (tgt := 43) dX5_booked_21 (by decide) (fun c21 => ?_) (fun c21 => ?_)
    · refine N.aload0 dX5_booked_43 ?_
      refine N.bipush (v := -2) dX5_booked_44 (by decide) ?_
      refine N.vi1 dX5_booked_46 vX5_refuse lkX5_89 (s_X5_refuse _ _ _ _ _ _ rfIn2) mO rfl (Nat.le_of_ble_eq_true rfl) (Nat.le_of_ble_eq_true rfl) (by omega) (by omega) ?_
      rintro _ _ _ ⟨rfl, rfl, rfl⟩
      exact N.iret dX5_booked_49 rfl (by omega) (by omega) ⟨_, rfl, (by rw [mbooked, if_neg c9, if_pos c21]; exact rmf_ok ht)⟩
    · refine N.aload0 dX5_booked_24 ?_
      refine N.iload3 dX5_booked_25 ?_
      refine N.vi1 dX5_booked_26 vX5_isPlayer lkX5_100 (s_X5_isPlayer _ _ _ _ _ _) mO rfl (Nat.le_of_ble_eq_true rfl) (Nat.le_of_ble_eq_true rfl) (by omega) (by omega) ?_
      rintro _ _ _ ⟨rfl, rfl, rfl⟩
      refine N.if_eq (tgt := 43) dX5_booked_29 (by decide) (fun c29 => ?_) (fun c29 => ?_)
      · refine N.aload0 dX5_booked_43 ?_
        refine N.bipush (v := -2) dX5_booked_44 (by decide) ?_
        refine N.vi1 dX5_booked_46 vX5_refuse lkX5_89 (s_X5_refuse _ _ _ _ _ _ rfIn2) mO rfl (Nat.le_of_ble_eq_true rfl) (Nat.le_of_ble_eq_true rfl) (by omega) (by omega) ?_
        rintro _ _ _ ⟨rfl, rfl, rfl⟩
        exact N.iret dX5_booked_49 rfl (by omega) (by omega) ⟨_, rfl, (by rw [mbooked, if_neg c9, if_neg c21, if_pos c29]; exact rmf_ok ht)⟩
      · refine N.iload4 dX5_booked_32 ?_
        refine N.i2l dX5_booked_34 ?_
        refine N.lconst (v := 0) dX5_booked_35 (by decide) ?_
        refine N.lconst (v := 1) dX5_booked_36 (by decide) ?_
        refine N.si3 dX5_booked_37 vX5_in lkX5_77 (s_X5_in _ _ _ _ _) rfl (Nat.le_of_ble_eq_true rfl) (Nat.le_of_ble_eq_true rfl) (by omega) (by omega) ?_
        rintro r1 _ _ ⟨er, rfl, rfl⟩
        obtain rfl := er.trans (inL_i (a := (0)) (b := (1)) rfl rfl)
        refine N.if_ne (tgt := 50) dX5_booked_40 (by decide) (fun c40 => ?_) (fun c40 => ?_)
        · refine N.aload0 dX5_booked_50 ?_
          refine N.iload1 dX5_booked_51 ?_
          refine N.iload2 dX5_booked_52 ?_
          refine N.vi2 dX5_booked_53 vX5_noBook lkX5_367 (s_X5_noBook _ _ _ _ _ _ _) mO rfl (Nat.le_of_ble_eq_true rfl) (Nat.le_of_ble_eq_true rfl) (by omega) (by omega) ?_
          rintro _ _ _ ⟨rfl, rfl, rfl⟩
          refine N.istore5 dX5_booked_56 rfl ?_
          refine N.iload5 dX5_booked_58 ?_
          refine N.if_eq (tgt := 66) dX5_booked_60 (by decide) (fun c60 => ?_) (fun c60 => ?_)
          · obtain ⟨hs0, hn0, hr0, hle, en⟩ := nb_0 c60
            refine N.eqW (congrArg (fun z_ => putM K (tw K w t z) b (v, z_)) en) ?_
            have hs := sh8 hs0
            obtain ⟨m, hm, hn⟩ := in_n (N' := 40) (by decide) hn0
            have hcl : n.toNatClampNeg = m := by rw [hn, nI_clamp (by omega)]
            refine N.aload0 dX5_booked_66 ?_
            refine N.aload0 dX5_booked_67 ?_
            refine N.getf dX5_booked_68 flX5_21 mO rfl ?_
            refine N.iload1 dX5_booked_71 ?_
            refine N.aaldA dX5_booked_72 mW (sh8v c9) (mRv hs) ?_
            refine N.iload2 dX5_booked_73 ?_
            refine N.vi2 dX5_booked_74 vX5_wrongIn lkX5_370 (s_X5_wrongIn _ _ _ _ _ _ hs _ m hm hn) mO rfl (Nat.le_of_ble_eq_true rfl) (Nat.le_of_ble_eq_true rfl) (by omega) (by omega) ?_
            rintro _ _ _ ⟨rfl, rfl, rfl⟩
            refine N.iconst (v := -1) dX5_booked_77 (by decide) ?_
            refine N.icmp_eq (tgt := 88) dX5_booked_78 (by decide) (fun c78 => ?_) (fun c78 => ?_)
            · refine N.iconst (v := 0) dX5_booked_88 (by decide) ?_
              refine N.istore6 dX5_booked_89 rfl ?_
              refine N.iconst (v := 0) dX5_booked_91 (by decide) ?_
              refine N.istore7 dX5_booked_92 rfl ?_
              refine N.aload0 dX5_booked_94 ?_
              refine N.va0A dX5_booked_95 vX5_fresh lkX5_248 (s_X5_fresh w b _ v e t z ht) mO rfl (Nat.le_of_ble_eq_true rfl) (Nat.le_of_ble_eq_true rfl) (by omega) (by omega) ?_
              rintro q _ sz2 ⟨z2, rfl, hd, hz⟩
              refine N.astore8 dX5_booked_98 rfl ?_
              refine N.aload8 dX5_booked_100 ?_
              refine N.getf dX5_booked_102 flX5_46 (tO hd) rfl ?_
              refine N.iload3 dX5_booked_105 ?_
              refine N.iconst (v := 0) dX5_booked_106 (by decide) ?_
              refine N.iast dX5_booked_107 (tA3 hd) (pl_in h c29) (tK3 hd) ?_
              refine N.iconst (v := 0) dX5_booked_108 (by decide) ?_
              refine N.istore9 dX5_booked_109 rfl ?_
              exact N.wk (by exact ⟨rfl, rfl, rfl, rfl, rfl, rfl, rfl, rfl, rfl, rfl, trivial⟩) (l_X5_booked w b _ v (wt e (some q)) _ _ s n p x _ c9 hs m hm hn c78 (pl_in h c29) q hd (tr0 v p) h _ _ (by omega) (by omega) _ (fun z_ => mq_ok ht hd hz (by rw [mbooked, if_neg c9, if_neg c21, if_neg c29, if_neg c40, if_pos (show nbF e.2.1 s n = 0 from c60), hcl, if_pos c78, mbk2_e hcl])) m 0 _ none (by omega))
            · refine N.aload0 dX5_booked_81 ?_
              refine N.bipush (v := -5) dX5_booked_82 (by decide) ?_
              refine N.vi1 dX5_booked_84 vX5_refuse lkX5_89 (s_X5_refuse _ _ _ _ _ _ rfIn5) mO rfl (Nat.le_of_ble_eq_true rfl) (Nat.le_of_ble_eq_true rfl) (by omega) (by omega) ?_
              rintro _ _ _ ⟨rfl, rfl, rfl⟩
              exact N.iret dX5_booked_87 rfl (by omega) (by omega) ⟨_, rfl, (by rw [mbooked, if_neg c9, if_neg c21, if_neg c29, if_neg c40, if_pos (show nbF e.2.1 s n = 0 from c60), hcl, if_neg c78]; exact rmf_ok ht)⟩
          · refine N.iload5 dX5_booked_63 ?_
            exact N.iret dX5_booked_65 rfl (by omega) (by omega) ⟨_, rfl, (by rw [mbooked, if_neg c9, if_neg c21, if_neg c29, if_neg c40, if_neg (show ¬ nbF e.2.1 s n = 0 from c60)]; exact ⟨rfl, t, z, by rw [nbE_wt], ht, Nat.le_refl _⟩)⟩
        · refine N.aload0 dX5_booked_43 ?_
          refine N.bipush (v := -2) dX5_booked_44 (by decide) ?_
          refine N.vi1 dX5_booked_46 vX5_refuse lkX5_89 (s_X5_refuse _ _ _ _ _ _ rfIn2) mO rfl (Nat.le_of_ble_eq_true rfl) (Nat.le_of_ble_eq_true rfl) (by omega) (by omega) ?_
          rintro _ _ _ ⟨rfl, rfl, rfl⟩
          exact N.iret dX5_booked_49 rfl (by omega) (by omega) ⟨_, rfl, (by rw [mbooked, if_neg c9, if_neg c21, if_neg c29, if_pos c40]; exact rmf_ok ht)⟩
def spTo (l : Int32) (c : Int32) (s : CV × Int32) : Nat → CV × Int32
  | 0 => s
  | k + 1 => (goV (putOnV (spTo l c s k).1 ((spTo l c s k).1.2 4 l.toNatClampNeg)) c, (spTo l c s k).2 + goG (putOnV (spTo l c s k).1 ((spTo l c s k).1.2 4 l.toNatClampNeg)) c)
def spO (v : CV) (c : Int32) (A : Nat → Int32) : Nat → CV × Int32
  | 0 => (v, 0)
  | k + 1 => spTo (nI k) c (spO v c A k) (A (nI k).toNatClampNeg).toNatClampNeg
theorem spTo_ok {l c : Int32} {s : CV × Int32} (h : okP s.1) : ∀ k, okP (spTo l c s k).1
  | 0 => h
  | k + 1 => goM_ok ((spTo_ok h k).on _) _
theorem spO_ok {v : CV} {c : Int32} {A : Nat → Int32} (h : okP v) : ∀ k, okP (spO v c A k).1
  | 0 => h
  | k + 1 => spTo_ok (spO_ok h k) _
theorem cl_31 (x : Int32) : x.toNatClampNeg < 2 ^ 31 := by
  by_cases h : x < 0
  · have : x.toNatClampNeg = 0 := by
      rw [Int32.lt_iff_toInt_lt] at h
      have a2 : (0 : Int32).toInt = 0 := rfl
      unfold Int32.toNatClampNeg
      omega
    rw [this]; decide
  · obtain ⟨m, hm, rfl⟩ := nI_of h
    rw [nI_clamp hm]; exact hm
theorem cl_ge {x : Int32} {k : Nat} (h : x.toNatClampNeg ≤ k) (hk : k < 2 ^ 31) : x ≤ nI k := by
  by_cases h0 : x < 0
  · refine Int32.le_of_lt (Int32.lt_of_lt_of_le h0 (nI_le (a := 0) (Nat.zero_le _) hk))
  · obtain ⟨m, hm, rfl⟩ := nI_of h0
    rw [nI_clamp hm] at h
    exact nI_le h hk
theorem cl_nge {x : Int32} {k : Nat} (h : k < x.toNatClampNeg) : ¬ x ≤ nI k := by
  have h0 : ¬ x < 0 := fun q => by
    rw [Int32.lt_iff_toInt_lt] at q
    have a2 : (0 : Int32).toInt = 0 := rfl
    unfold Int32.toNatClampNeg at h
    omega
  obtain ⟨m, hm, rfl⟩ := nI_of h0
  rw [nI_clamp hm] at h
  exact nI_ge h hm
set_option maxRecDepth 100000 in
theorem l2_X5_spellGains {K : Kx} (w : Wd) (b sz : Nat) (v : CV) (E : ME) (mc ms : Nat) (q : Nat) (hd : apG G q b) (cc ss : Nat) (hcc : cc ≤ mc) (hss : ss ≤ ms) (l : Int32) (hl : vp_in l 4) (s : CV × Int32) (ho : okP s.1) (m : Nat) (hm : (E.2.1 7 l.toNatClampNeg).toNatClampNeg = m) (Q : Qx) (hK : ∀ E2 : ME, N K mX5_spellGains 5 mc ms Q 48 [some (.ref b), some (.ref q), some (.int (spTo l 40 s m).2), some (.int l), none] [] (putM K (putM K w q ((spTo l 40 s m).1, E2)) b (v, E)) sz cc ss) : ∀ nn k (E2 : ME), k + nn = m → N K mX5_spellGains 5 mc ms Q 17 [some (.ref b), some (.ref q), some (.int (spTo l 40 s k).2), some (.int l), some (.int (nI k))] [] (putM K (putM K w q ((spTo l 40 s k).1, E2)) b (v, E)) sz cc ss := by
  have h31 := cl_31 (E.2.1 7 l.toNatClampNeg)
  intro nn
  induction nn with
  | zero =>
    intro k E2 hk
    obtain rfl : k = m := by omega
    refine N.iload4 dX5_spellGains_17 ?_
    refine N.aload0 dX5_spellGains_19 ?_
    refine N.getf dX5_spellGains_20 flX5_68 mO rfl ?_
    refine N.iload3 dX5_spellGains_23 ?_
    refine N.iald dX5_spellGains_24 mH7 hl ?_
    refine N.icmp_ge (tgt := 48) dX5_spellGains_25 (by decide) (fun c25 => ?_) (fun c25 => absurd (cl_ge (by omega) (by omega)) c25)
    exact N.wk (by exact ⟨rfl, rfl, rfl, rfl, trivial⟩) (hK _)
  | succ nn ih =>
    intro k E2 hk
    have hok := spTo_ok (l := l) (c := 40) ho k
    refine N.iload4 dX5_spellGains_17 ?_
    refine N.aload0 dX5_spellGains_19 ?_
    refine N.getf dX5_spellGains_20 flX5_68 mO rfl ?_
    refine N.iload3 dX5_spellGains_23 ?_
    refine N.iald dX5_spellGains_24 mH7 hl ?_
    refine N.icmp_ge (tgt := 48) dX5_spellGains_25 (by decide) (fun c25 => absurd c25 (cl_nge (by omega))) (fun c25 => ?_)
    refine N.aload1 dX5_spellGains_28 ?_
    refine N.iload3 dX5_spellGains_29 ?_
    refine N.vv1 dX5_spellGains_30 vX5_whistles lkX5_218 (Sp.mv hd fun W => s_X5_whistles W _ _ _ _ _ hl) (tO hd) rfl (Nat.le_of_ble_eq_true rfl) (Nat.le_of_ble_eq_true rfl) (by omega) (by omega) ?_
    rintro _ _ ⟨rfl, rfl⟩
    refine N.iload2 dX5_spellGains_33 ?_
    refine N.aload1 dX5_spellGains_34 ?_
    refine N.bipush (v := 40) dX5_spellGains_35 (by decide) ?_
    refine N.vi1 dX5_spellGains_37 vX5_goes lkX5_316 (Sp.mi hd fun W => s_X5_goes W _ _ _ _ _ (hok.on _) 40 (by decide) rfl) (tO hd) rfl (Nat.le_of_ble_eq_true rfl) (Nat.le_of_ble_eq_true rfl) (by omega) (by omega) ?_
    rintro _ _ _ ⟨rfl, rfl, rfl⟩
    have hV : (spTo l 40 s (k + 1)) = (goV (putOnV (spTo l 40 s k).1 ((spTo l 40 s k).1.2 4 l.toNatClampNeg)) 40, (spTo l 40 s k).2 + goG (putOnV (spTo l 40 s k).1 ((spTo l 40 s k).1.2 4 l.toNatClampNeg)) 40) := by rw [spTo]
    generalize goV (putOnV (spTo l 40 s k).1 ((spTo l 40 s k).1.2 4 l.toNatClampNeg)) 40 = gv at hV ⊢
    generalize goG (putOnV (spTo l 40 s k).1 ((spTo l 40 s k).1.2 4 l.toNatClampNeg)) 40 = gg at hV ⊢
    generalize goO (putOnV (spTo l 40 s k).1 ((spTo l 40 s k).1.2 4 l.toNatClampNeg)) 40 = go
    generalize goA (putOnV (spTo l 40 s k).1 ((spTo l 40 s k).1.2 4 l.toNatClampNeg)) 40 = ga
    refine N.iadd dX5_spellGains_40 ?_
    refine N.istore2 dX5_spellGains_41 rfl ?_
    refine N.iinc4 dX5_spellGains_42 rfl (nI_inc _) ?_
    refine N.goto (tgt := 17) dX5_spellGains_45 (by decide) ?_
    have h9 := ih (k + 1) (gE E2 go ga) (by omega)
    rw [hV] at h9
    exact h9
set_option maxRecDepth 100000 in
theorem l_X5_spellGains {K : Kx} (w : Wd) (b sz : Nat) (v : CV) (E : ME) (mc ms : Nat) (q : Nat) (hd : apG G q b) (cc ss : Nat) (hcc : cc ≤ mc) (hss : ss ≤ ms) (h : okP v) (P : Int32 → Wd → Nat → Prop) (hP : ∀ y, P (spO v 40 (E.2.1 7) 4).2 (putM K (putM K w q y) b (v, E)) sz) : ∀ nn k (E2 : ME), k + nn = 4 → N K mX5_spellGains 5 mc ms (Qi P) 9 [some (.ref b), some (.ref q), some (.int (spO v 40 (E.2.1 7) k).2), some (.int (nI k)), none] [] (putM K (putM K w q ((spO v 40 (E.2.1 7) k).1, E2)) b (v, E)) sz cc ss := by
  intro nn
  induction nn with
  | zero =>
    intro k E2 hk
    obtain rfl : k = 4 := by omega
    refine N.iload3 dX5_spellGains_9 ?_
    refine N.iconst (v := 4) dX5_spellGains_10 (by decide) ?_
    refine N.icmp_ge (tgt := 54) dX5_spellGains_11 (by decide) (fun c11 => ?_) (fun c11 => absurd (by decide) c11)
    refine N.iload2 dX5_spellGains_54 ?_
    exact N.iret dX5_spellGains_55 rfl (by omega) (by omega) ⟨_, rfl, (hP _)⟩
  | succ nn ih =>
    intro k E2 hk
    refine N.iload3 dX5_spellGains_9 ?_
    refine N.iconst (v := 4) dX5_spellGains_10 (by decide) ?_
    refine N.icmp_ge (tgt := 54) dX5_spellGains_11 (by decide) (fun c11 => absurd c11 (nI_ge (a := k) (b := 4) (by omega) (by omega))) (fun c11 => ?_)
    refine N.iconst (v := 0) dX5_spellGains_14 (by decide) ?_
    refine N.istore4 dX5_spellGains_15 rfl ?_
    refine N.wk (by exact ⟨rfl, rfl, rfl, rfl, rfl, trivial⟩) (l2_X5_spellGains w b _ v E _ _ q hd _ _ (by omega) (by omega) (nI k) (in4 (by omega)) (spO v 40 (E.2.1 7) k) (spO_ok h k) _ rfl _ (fun E3 => ?_) _ 0 _ (Nat.zero_add _))
    refine N.iinc3 dX5_spellGains_48 rfl (nI_inc _) ?_
    refine N.goto (tgt := 9) dX5_spellGains_51 (by decide) ?_
    have hV : (spO v 40 (E.2.1 7) (k + 1)) = spTo (nI k) 40 (spO v 40 (E.2.1 7) k) (E.2.1 7 (nI k).toNatClampNeg).toNatClampNeg := by rw [spO]
    rw [← hV]
    exact ih (k + 1) _ (by omega)
set_option maxRecDepth 100000 in
theorem s_X5_spellGains {K : Kx} (w : Wd) (b sz : Nat) (v : CV) (e : M5) (t : Option Nat) (z : MX) (ht : tOk G b sz t) (h : okP v)  : Sp K mX5_spellGains 5 (kc t) (ks t) [.ref b] (putM K (tw K w t z) b (v, wt e t)) sz (Qi fun r w' sz' => r = (spO v 40 (e.2.1 7) 4).2 ∧ ∃ q y, w' = putM K (putM K w q y) b (v, wt e (some q)) ∧ apG G q b ∧ sz ≤ sz') := by
  refine Sp.ofN [some (.ref b), none, none, none, none] rfl rfl rfl (Nat.le_of_ble_eq_true rfl) ?_
  refine N.aload0 dX5_spellGains_0 ?_
  refine N.va0A dX5_spellGains_1 vX5_fresh lkX5_248 (s_X5_fresh w b _ v e t z ht) mO rfl (Nat.le_of_ble_eq_true rfl) (Nat.le_of_ble_eq_true rfl) (by omega) (by omega) ?_
  rintro q _ sz2 ⟨z2, rfl, hd, hz⟩
  refine N.astore1 dX5_spellGains_4 rfl ?_
  refine N.iconst (v := 0) dX5_spellGains_5 (by decide) ?_
  refine N.istore2 dX5_spellGains_6 rfl ?_
  refine N.iconst (v := 0) dX5_spellGains_7 (by decide) ?_
  refine N.istore3 dX5_spellGains_8 rfl ?_
  exact N.wk (by exact ⟨rfl, rfl, rfl, rfl, trivial⟩) (l_X5_spellGains w b _ v (wt e (some q)) _ _ q hd _ _ (by omega) (by omega) h _ (fun y => ⟨rfl, q, y, rfl, hd, hz⟩) 4 0 _ (by omega))
