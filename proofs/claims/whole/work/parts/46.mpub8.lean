variable {G : Nat → Prop}
theorem tmTo_i {v : CV} {i : Nat} (hi : i ≠ 3) : ∀ k, (tmTo v k).2 i = v.2 i
  | 0 => rfl
  | k + 1 => by
    rw [tmTo]
    show (if i = 3 then _ else (tmTo v k).2 i) = v.2 i
    rw [if_neg hi]; exact tmTo_i hi k
theorem tmTo_3 {v : CV} : ∀ k, k ≤ 10 → ∀ j, (tmTo v k).2 3 j = if j < k then tirM v j else v.2 3 j
  | 0, _, j => by rw [if_neg (Nat.not_lt_zero _)]; rfl
  | k + 1, hk, j => by
    have ih := tmTo_3 (v := v) k (by omega)
    have e1 : tirM (tmTo v k) k = tirM v k := by
      have ek := ih k
      rw [if_neg (Nat.lt_irrefl _)] at ek
      unfold tirM
      rw [tmTo_1, tmTo_i (i := 0) (by decide), nI_clamp (by omega), ek]
    rw [tmTo]
    show (upd ((tmTo v k).2 3) (nI k).toNatClampNeg (tirM (tmTo v k) k)) j = _
    rw [nI_clamp (by omega), e1]
    unfold upd
    by_cases h : j = k
    · rw [if_pos h, if_pos (by omega), h]
    · rw [if_neg h, ih j]
      by_cases h2 : j < k
      · rw [if_pos h2, if_pos (by omega)]
      · rw [if_neg h2, if_neg (by omega)]
def frM (l y : Int32) : Nat → Nat → CV → Int32
  | 0, k, _ => nI k
  | n + 1, k, u => if tdM u l ≤ y then nI k else frM l y n (k + 1) (tmV u)
theorem td0 {u : CV} {l : Nat} : ∀ k, k ≤ 10 → (∀ j, j < k → u.2 3 j = 0) → tdTo u l k = 0
  | 0, _, _ => rfl
  | k + 1, hk, h => by
    rw [tdTo, td0 k (by omega) (fun j hj => h j (by omega)), nI_clamp (by omega), h k (by omega)]
    split <;> rfl
theorem bit_0 (p : Int32) : bitF 0 p = 0 := by
  unfold bitF
  rw [Int32.zero_shiftRight]
  rfl
theorem rst_n {k : Int32} {n m : Nat} (h : n ≤ m + 1) (hm : m < 1000) : ∃ r, r ≤ m ∧ rstM k (nI n) = nI r := by
  unfold rstM
  split
  · split
    · exact ⟨0, by omega, rfl⟩
    · rename_i q
      have h2 : 2 ≤ n := Nat.not_lt.mp fun z => q (by
        rcases (show n = 0 ∨ n = 1 by omega) with rfl | rfl <;> decide)
      exact ⟨n - 2, by omega, nI_sub (b := 2) h2⟩
  · split
    · exact ⟨0, by omega, rfl⟩
    · rename_i q
      have h2 : 1 ≤ n := Nat.not_lt.mp fun z => q (by
        obtain rfl : n = 0 := by omega
        decide)
      exact ⟨n - 1, by omega, nI_sub (b := 1) h2⟩
theorem tm_b {u : CV} {m : Nat} (h : okP u) (h1 : u.1 1 = 0) (hm : m < 1000) (ht : ∀ j, j < np u → ∃ n, n ≤ m + 1 ∧ u.2 3 j = nI n) : ∀ j, j < np u → ∃ n, n ≤ m ∧ (tmV u).2 3 j = nI n := by
  intro j hj
  obtain ⟨P, hP, e, e1⟩ := np_ex h
  obtain ⟨n, hn, en⟩ := ht j hj
  rw [tmV, tmTo_3 _ (by omega), if_pos hj, tirM, h1, if_pos (bit_0 _), nI_clamp (by omega), en]
  obtain ⟨r, hr, er⟩ := rst_n (k := u.2 0 j) hn hm
  exact ⟨r, hr, er⟩
set_option maxRecDepth 100000 in
theorem l_X5_fresh_ {K : Kx} (w : Wd) (b sz : Nat) (v : CV) (E : ME) (mc ms : Nat) (l y : Int32) (hl : vp_in l 4) (hy : (0 : Int32) ≤ y) (q : Nat) (hd : apG G q b) (E2 : ME) (cc ss : Nat) (hcc : cc ≤ mc) (hss : ss ≤ ms) (P : Int32 → Wd → Nat → Prop) (R : Int32) (hP : ∀ y, P R (putM K (putM K w q y) b (v, E)) sz) : ∀ nn k (u : CV), nn < 1000 → okP u → u.1 1 = 0 → (∀ j, j < np u → ∃ n, n ≤ nn ∧ u.2 3 j = nI n) → frM l y nn k u = R → N K mX5_fresh_ 9 mc ms (Qi P) 56 [some (.ref b), some (.int l), some (.int y), some (.ref q), some (.int (nI k))] [] (putM K (putM K w q (u, E2)) b (v, E)) sz cc ss := by
  intro nn
  induction nn with
  | zero =>
    intro k u hnn ho h1 ht hR
    have e0 : tdM u l ≤ y := by
      obtain ⟨P, hP, e, e1⟩ := np_ex ho
      rw [tdM, td0 _ (by omega) (fun j hj => by
        obtain ⟨n, hn, en⟩ := ht j hj
        obtain rfl : n = 0 := by omega
        exact en)]
      exact hy
    refine N.aload3 dX5_fresh__56 ?_
    refine N.iload1 dX5_fresh__57 ?_
    refine N.vi1 dX5_fresh__58 vX5_tiredOf lkX5_308 (Sp.mi hd fun W => s_X5_tiredOf W _ _ _ _ _ ho hl) (tO hd) rfl (Nat.le_of_ble_eq_true rfl) (Nat.le_of_ble_eq_true rfl) (by omega) (by omega) ?_
    rintro _ _ _ ⟨rfl, rfl, rfl⟩
    refine N.iload2 dX5_fresh__61 ?_
    refine N.icmp_le (tgt := 75) dX5_fresh__62 (by decide) (fun c62 => ?_) (fun c62 => absurd e0 c62)
    refine N.iload4 dX5_fresh__75 ?_
    exact N.iret dX5_fresh__77 rfl (by omega) (by omega) ⟨_, rfl, (by rw [← hR, frM] at hP; exact hP _)⟩
  | succ nn ih =>
    intro k u hnn ho h1 ht hR
    refine N.aload3 dX5_fresh__56 ?_
    refine N.iload1 dX5_fresh__57 ?_
    refine N.vi1 dX5_fresh__58 vX5_tiredOf lkX5_308 (Sp.mi hd fun W => s_X5_tiredOf W _ _ _ _ _ ho hl) (tO hd) rfl (Nat.le_of_ble_eq_true rfl) (Nat.le_of_ble_eq_true rfl) (by omega) (by omega) ?_
    rintro _ _ _ ⟨rfl, rfl, rfl⟩
    refine N.iload2 dX5_fresh__61 ?_
    refine N.icmp_le (tgt := 75) dX5_fresh__62 (by decide) (fun c62 => ?_) (fun c62 => ?_)
    · refine N.iload4 dX5_fresh__75 ?_
      exact N.iret dX5_fresh__77 rfl (by omega) (by omega) ⟨_, rfl, (by rw [← hR, frM, if_pos c62] at hP; exact hP _)⟩
    · refine N.aload3 dX5_fresh__65 ?_
      refine N.vv0 dX5_fresh__66 vX5_tire lkX5_274 (Sp.mv hd fun W => s_X5_tire W _ _ _ _ ho) (tO hd) rfl (Nat.le_of_ble_eq_true rfl) (Nat.le_of_ble_eq_true rfl) (by omega) (by omega) ?_
      rintro _ _ ⟨rfl, rfl⟩
      refine N.iinc4 dX5_fresh__69 rfl (nI_inc _) ?_
      refine N.goto (tgt := 56) dX5_fresh__72 (by decide) ?_
      exact ih (k + 1) _ (by omega) ho.tm (by rw [tmV, tmTo_1]; exact h1) (by rw [show np (tmV u) = np u by rw [np, np, tmV, tmTo_1]]; exact tm_b ho h1 (by omega) ht) (by rw [← hR, frM, if_neg c62])
def mfresh (m : Mst) (l y : Int32) : Int32 × Mst := if isInF l 0 3 = 0 then rm m (-2) else if isInF y 0 600 = 0 then rm m (-2) else if m.1.2 4 l.toNatClampNeg = 0 then rm m (-5) else (frM l y 100 0 (putOnV m.1 0), m)
set_option maxRecDepth 100000 in
theorem s_X5_fresh_ {K : Kx} (w : Wd) (b sz : Nat) (v : CV) (e : M5) (t : Option Nat) (z : MX) (l y : Int32) (ht : tOk G b sz t) (hM : okM (v, e)) (hT : ∀ j, j < np v → ∃ n, n ≤ 100 ∧ v.2 3 j = nI n) : Sp K mX5_fresh_ 9 (kc t) (ks t) [.ref b, .int l, .int y] (putM K (tw K w t z) b (v, wt e t)) sz (Qi fun r w' sz' => r = (mfresh (v, e) l y).1 ∧ ∃ t' z', w' = putM K (tw K w t' z') b ((mfresh (v, e) l y).2.1, wt (mfresh (v, e) l y).2.2 t') ∧ tOk G b sz' t' ∧ sz ≤ sz') := by
  refine Sp.ofN [some (.ref b), some (.int l), some (.int y), none, none] rfl rfl rfl (Nat.le_of_ble_eq_true rfl) ?_
  have h : okP v := hM.1
  refine N.iload1 dX5_fresh__0 ?_
  refine N.i2l dX5_fresh__1 ?_
  refine N.si1 dX5_fresh__2 vX5_isLine lkX5_138 (s_X5_isLine _ _ _) rfl (Nat.le_of_ble_eq_true rfl) (Nat.le_of_ble_eq_true rfl) (by omega) (by omega) ?_
  rintro r1 _ _ ⟨er, rfl, rfl⟩
  obtain rfl := er.trans (inL_i (a := 0) (b := 3) rfl rfl)
  refine N.if_eq (tgt := 20) dX5_fresh__5 (by decide) (fun c5 => ?_) (fun c5 => ?_)
  · refine N.aload0 dX5_fresh__20 ?_
    refine N.bipush (v := -2) dX5_fresh__21 (by decide) ?_
    refine N.vi1 dX5_fresh__23 vX5_refuse lkX5_89 (s_X5_refuse _ _ _ _ _ _ rfIn2) mO rfl (Nat.le_of_ble_eq_true rfl) (Nat.le_of_ble_eq_true rfl) (by omega) (by omega) ?_
    rintro _ _ _ ⟨rfl, rfl, rfl⟩
    exact N.iret dX5_fresh__26 rfl (by omega) (by omega) ⟨_, rfl, (by rw [mfresh, if_pos c5]; exact rmf_ok ht)⟩
  · refine N.iload2 dX5_fresh__8 ?_
    refine N.i2l dX5_fresh__9 ?_
    refine N.lconst (v := 0) dX5_fresh__10 (by decide) ?_
    refine N.ldc2 dX5_fresh__11 ctX5_314 ?_
    refine N.si3 dX5_fresh__14 vX5_in lkX5_77 (s_X5_in _ _ _ _ _) rfl (Nat.le_of_ble_eq_true rfl) (Nat.le_of_ble_eq_true rfl) (by omega) (by omega) ?_
    rintro r1 _ _ ⟨er, rfl, rfl⟩
    obtain rfl := er.trans (inL_i (a := (0)) (b := (600)) rfl rfl)
    refine N.if_ne (tgt := 27) dX5_fresh__17 (by decide) (fun c17 => ?_) (fun c17 => ?_)
    · refine N.aload0 dX5_fresh__27 ?_
      refine N.getf dX5_fresh__28 flX5_49 mO rfl ?_
      refine N.iload1 dX5_fresh__31 ?_
      refine N.iald dX5_fresh__32 mA4 (ln_in c5) ?_
      refine N.if_ne (tgt := 43) dX5_fresh__33 (by decide) (fun c33 => ?_) (fun c33 => ?_)
      · refine N.aload0 dX5_fresh__43 ?_
        refine N.va0A dX5_fresh__44 vX5_fresh lkX5_248 (s_X5_fresh w b _ v e t z ht) mO rfl (Nat.le_of_ble_eq_true rfl) (Nat.le_of_ble_eq_true rfl) (by omega) (by omega) ?_
        rintro q _ sz2 ⟨z2, rfl, hd, hz⟩
        refine N.astore3 dX5_fresh__47 rfl ?_
        refine N.aload3 dX5_fresh__48 ?_
        refine N.iconst (v := 0) dX5_fresh__49 (by decide) ?_
        refine N.vv1 dX5_fresh__50 vX5_stand lkX5_305 (Sp.mv hd fun W => s_X5_stand W _ _ _ _ _) (tO hd) rfl (Nat.le_of_ble_eq_true rfl) (Nat.le_of_ble_eq_true rfl) (by omega) (by omega) ?_
        rintro _ _ ⟨rfl, rfl⟩
        refine N.iconst (v := 0) dX5_fresh__53 (by decide) ?_
        refine N.istore4 dX5_fresh__54 rfl ?_
        exact N.wk (by exact ⟨rfl, rfl, rfl, rfl, rfl, trivial⟩) (l_X5_fresh_ w b _ v (wt e (some q)) _ _ l y (ln_in c5) (Int32.not_lt.mp (isIn_ne c17).1) q hd _ _ _ (by omega) (by omega) _ _ (fun y => mq_ok ht hd hz (by rw [mfresh, if_neg c5, if_neg c17, if_neg c33])) 100 0 _ (by omega) (h.on _) rfl hT rfl)
      · refine N.aload0 dX5_fresh__36 ?_
        refine N.bipush (v := -5) dX5_fresh__37 (by decide) ?_
        refine N.vi1 dX5_fresh__39 vX5_refuse lkX5_89 (s_X5_refuse _ _ _ _ _ _ rfIn5) mO rfl (Nat.le_of_ble_eq_true rfl) (Nat.le_of_ble_eq_true rfl) (by omega) (by omega) ?_
        rintro _ _ _ ⟨rfl, rfl, rfl⟩
        exact N.iret dX5_fresh__42 rfl (by omega) (by omega) ⟨_, rfl, (by rw [mfresh, if_neg c5, if_neg c17, if_pos c33]; exact rmf_ok ht)⟩
    · refine N.aload0 dX5_fresh__20 ?_
      refine N.bipush (v := -2) dX5_fresh__21 (by decide) ?_
      refine N.vi1 dX5_fresh__23 vX5_refuse lkX5_89 (s_X5_refuse _ _ _ _ _ _ rfIn2) mO rfl (Nat.le_of_ble_eq_true rfl) (Nat.le_of_ble_eq_true rfl) (by omega) (by omega) ?_
      rintro _ _ _ ⟨rfl, rfl, rfl⟩
      exact N.iret dX5_fresh__26 rfl (by omega) (by omega) ⟨_, rfl, (by rw [mfresh, if_neg c5, if_pos c17]; exact rmf_ok ht)⟩
def arR (f : Nat → Int64) : Nat → Nat → Int32 → Int32
  | 0, _, a => a
  | n + 1, k, a => if a = 0 then a else arR f n (k + 1) (inL (f (nI k).toNatClampNeg) 1 999)
def lsTo (v : CV) (l : Int32) (f : Nat → Int64) : Nat → Int32
  | 0 => mtM v l (f 0).toInt32
  | k + 1 => if lsTo v l f k ≤ mtM v l (f (nI (k + 1)).toNatClampNeg).toInt32 then lsTo v l f k else mtM v l (f (nI (k + 1)).toNatClampNeg).toInt32
def mxTo (v : CV) (f : Nat → Int64) (c : Nat) : Nat → Int32 × Int32
  | 0 => (-1, 0)
  | k + 1 => if v.2 4 (nI k).toNatClampNeg = 0 then mxTo v f c k else if (mxTo v f c k).1 = -1 then (nI k, lsTo v (nI k) f c) else if lsTo v (nI k) f c ≤ (mxTo v f c k).2 then mxTo v f c k else (nI k, lsTo v (nI k) f c)
set_option maxRecDepth 100000 in
theorem l1_X5_match {K : Kx} (w : Wd) (b sz : Nat) (v : CV) (E : ME) (mc ms : Nat) (s n x y : Int32) (c9 : ¬ isInF s 0 7 = 0) (hs : s.toNatClampNeg < 8) (m : Nat) (hm : m + 1 ≤ 40) (hn : n = nI (m + 1)) (Q : Qx) (R : Int32) (hK : N K mX5_match 9 mc ms Q 117 [some (.ref b), some (.int s), some (.int n), some (.int x), some (.int y), some (.int R), none, none, none, none, none, none] [] (putM K w b (v, E)) sz 0 0) : ∀ nn k (a : Int32), k + nn = m + 1 → arR (E.2.2.1 s.toNatClampNeg) nn k a = R → N K mX5_match 9 mc ms Q 82 [some (.ref b), some (.int s), some (.int n), some (.int x), some (.int y), some (.int a), some (.int (nI k)), none, none, none, none, none] [] (putM K w b (v, E)) sz 0 0 := by
  intro nn
  induction nn with
  | zero =>
    intro k a hk hR
    obtain rfl : k = m + 1 := by omega
    rw [arR] at hR
    subst hR
    refine N.iload6 dX5_match_82 ?_
    refine N.iload2 dX5_match_84 ?_
    refine N.icmp_ge (tgt := 117) dX5_match_85 (by decide) (fun c85 => ?_) (fun c85 => absurd (pl_ge hn (by omega) (by omega)) c85)
    exact N.wk (by exact ⟨rfl, rfl, rfl, rfl, rfl, rfl, trivial⟩) hK
  | succ nn ih =>
    intro k a hk hR
    refine N.iload6 dX5_match_82 ?_
    refine N.iload2 dX5_match_84 ?_
    refine N.icmp_ge (tgt := 117) dX5_match_85 (by decide) (fun c85 => absurd c85 (nI_i40 hn (by omega) (by omega))) (fun c85 => ?_)
    refine N.iload5 dX5_match_88 ?_
    refine N.if_eq (tgt := 117) dX5_match_90 (by decide) (fun c90 => ?_) (fun c90 => ?_)
    · rw [arR, if_pos c90] at hR
      subst hR
      exact N.wk (by exact ⟨rfl, rfl, rfl, rfl, rfl, rfl, trivial⟩) hK
    · refine N.aload0 dX5_match_93 ?_
      refine N.getf dX5_match_94 flX5_21 mO rfl ?_
      refine N.iload1 dX5_match_97 ?_
      refine N.aaldA dX5_match_98 mW (sh8v c9) (mRv hs) ?_
      refine N.iload6 dX5_match_99 ?_
      refine N.lald dX5_match_101 (mR hs) (in40 (by omega)) ?_
      refine N.lconst (v := 1) dX5_match_102 (by decide) ?_
      refine N.ldc2 dX5_match_103 ctX5_144 ?_
      refine N.si3 dX5_match_106 vX5_in lkX5_77 (s_X5_in _ _ _ _ _) rfl (Nat.le_of_ble_eq_true rfl) (Nat.le_of_ble_eq_true rfl) (Nat.zero_le _) (Nat.zero_le _) ?_
      rintro _ _ _ ⟨rfl, rfl, rfl⟩
      refine N.istore5 dX5_match_109 rfl ?_
      refine N.iinc6 dX5_match_111 rfl (nI_inc _) ?_
      refine N.goto (tgt := 82) dX5_match_114 (by decide) ?_
      exact ih (k + 1) _ (by omega) (by rw [← hR, arR, if_neg c90])
set_option maxRecDepth 100000 in
theorem l2_X5_match {K : Kx} (w : Wd) (b sz0 : Nat) (v : CV) (e : M5) (mc ms : Nat) (s : Int32) (n : Int32) (x : Int32) (y : Int32) (a : Int32) (bb : Int32) (cc0 : Int32) (l : Int32) (h : okP v) (c9 : ¬ isInF s 0 7 = 0) (hs : s.toNatClampNeg < 8) (m : Nat) (hm : m + 1 ≤ 40) (hn : n = nI (m + 1)) (hl : vp_in l 4) (Q : Qx) (hK : ∀ t z sz cc ss, tOk G b sz t → sz0 ≤ sz → cc + kc t ≤ mc → ss + ks t ≤ ms → N K mX5_match 9 mc ms Q 223 [some (.ref b), some (.int s), some (.int n), some (.int x), some (.int y), some (.int a), some (.int bb), some (.int cc0), some (.int l), some (.int (lsTo v l (e.2.2.1 s.toNatClampNeg) m)), none, none] [] (putM K (tw K w t z) b (v, wt e t)) sz cc ss) : ∀ nn k (t : Option Nat) (z : MX) (sz cc ss : Nat), k + nn = m → tOk G b sz t → sz0 ≤ sz → cc + kc t ≤ mc → ss + ks t ≤ ms → N K mX5_match 9 mc ms Q 177 [some (.ref b), some (.int s), some (.int n), some (.int x), some (.int y), some (.int a), some (.int bb), some (.int cc0), some (.int l), some (.int (lsTo v l (e.2.2.1 s.toNatClampNeg) k)), some (.int (nI (k + 1))), none] [] (putM K (tw K w t z) b (v, wt e t)) sz cc ss := by
  intro nn
  induction nn with
  | zero =>
    intro k t z sz cc ss hk ht hz0 hcc hss
    obtain rfl : k = m := by omega
    refine N.iload10 dX5_match_177 ?_
    refine N.iload2 dX5_match_179 ?_
    refine N.icmp_ge (tgt := 223) dX5_match_180 (by decide) (fun c180 => ?_) (fun c180 => absurd (pl_ge hn (by omega) (by omega)) c180)
    exact N.wk (by exact ⟨rfl, rfl, rfl, rfl, rfl, rfl, rfl, rfl, rfl, rfl, trivial⟩) (hK _ _ _ _ _ ht hz0 hcc hss)
  | succ nn ih =>
    intro k t z sz cc ss hk ht hz0 hcc hss
    refine N.iload10 dX5_match_177 ?_
    refine N.iload2 dX5_match_179 ?_
    refine N.icmp_ge (tgt := 223) dX5_match_180 (by decide) (fun c180 => absurd c180 (nI_i40 hn (by omega) (by omega))) (fun c180 => ?_)
    refine N.aload0 dX5_match_183 ?_
    refine N.iload8 dX5_match_184 ?_
    refine N.aload0 dX5_match_186 ?_
    refine N.getf dX5_match_187 flX5_21 mO rfl ?_
    refine N.iload1 dX5_match_190 ?_
    refine N.aaldA dX5_match_191 mW (sh8v c9) (mRv hs) ?_
    refine N.iload10 dX5_match_192 ?_
    refine N.lald dX5_match_194 (mR hs) (in40 (by omega)) ?_
    refine N.l2i dX5_match_195 ?_
    refine N.vi2A dX5_match_196 vX5_meetsOf lkX5_339 (s_X5_meetsOf w b _ v e t z _ _ ht h hl) mO rfl (Nat.le_of_ble_eq_true rfl) (Nat.le_of_ble_eq_true rfl) (by omega) (by omega) ?_
    rintro _ _ sz2 ⟨rfl, q, z3, rfl, hd, hz⟩
    refine N.istore11 dX5_match_199 rfl ?_
    refine N.iload11 dX5_match_201 ?_
    refine N.iload9 dX5_match_203 ?_
    refine N.icmp_ge (tgt := 213) dX5_match_205 (by decide) (fun c205 => ?_) (fun c205 => ?_)
    · refine N.iload9 dX5_match_213 ?_
      refine N.istore9 dX5_match_215 rfl ?_
      refine N.iinc10 dX5_match_217 rfl (nI_inc _) ?_
      refine N.goto (tgt := 177) dX5_match_220 (by decide) ?_
      exact N.wk (by rw [lsTo, if_pos c205]; exact ⟨rfl, rfl, rfl, rfl, rfl, rfl, rfl, rfl, rfl, rfl, rfl, trivial⟩) (ih (k + 1) (some q) _ _ _ _ (by omega) (tOk_s ht hz hd) (Nat.le_trans hz0 hz) (by rw [kc_s]; omega) (by rw [ks_s]; omega))
    · refine N.iload11 dX5_match_208 ?_
      refine N.goto (tgt := 215) dX5_match_210 (by decide) ?_
      refine N.istore9 dX5_match_215 rfl ?_
      refine N.iinc10 dX5_match_217 rfl (nI_inc _) ?_
      refine N.goto (tgt := 177) dX5_match_220 (by decide) ?_
      exact N.wk (by rw [lsTo, if_neg c205]; exact ⟨rfl, rfl, rfl, rfl, rfl, rfl, rfl, rfl, rfl, rfl, rfl, trivial⟩) (ih (k + 1) (some q) _ _ _ _ (by omega) (tOk_s ht hz hd) (Nat.le_trans hz0 hz) (by rw [kc_s]; omega) (by rw [ks_s]; omega))
set_option maxRecDepth 100000 in
theorem l3_X5_match {K : Kx} (w : Wd) (b sz0 : Nat) (v : CV) (e : M5) (mc ms : Nat) (s : Int32) (n : Int32) (x : Int32) (y : Int32) (a : Int32) (h : okP v) (c9 : ¬ isInF s 0 7 = 0) (hs : s.toNatClampNeg < 8) (m : Nat) (hm : m + 1 ≤ 40) (hn : n = nI (m + 1)) (Q : Qx) (hK : ∀ t z sz cc ss, tOk G b sz t → sz0 ≤ sz → cc + kc t ≤ mc → ss + ks t ≤ ms → N K mX5_match 9 mc ms Q 250 [some (.ref b), some (.int s), some (.int n), some (.int x), some (.int y), some (.int a), some (.int (mxTo v (e.2.2.1 s.toNatClampNeg) m 4).1), some (.int (mxTo v (e.2.2.1 s.toNatClampNeg) m 4).2), none, none, none, none] [] (putM K (tw K w t z) b (v, wt e t)) sz cc ss) : ∀ nn k (t : Option Nat) (z : MX) (sz cc ss : Nat), k + nn = 4 → tOk G b sz t → sz0 ≤ sz → cc + kc t ≤ mc → ss + ks t ≤ ms → N K mX5_match 9 mc ms Q 141 [some (.ref b), some (.int s), some (.int n), some (.int x), some (.int y), some (.int a), some (.int (mxTo v (e.2.2.1 s.toNatClampNeg) m k).1), some (.int (mxTo v (e.2.2.1 s.toNatClampNeg) m k).2), some (.int (nI k)), none, none, none] [] (putM K (tw K w t z) b (v, wt e t)) sz cc ss := by
  intro nn
  induction nn with
  | zero =>
    intro k t z sz cc ss hk ht hz0 hcc hss
    obtain rfl : k = 4 := by omega
    refine N.iload8 dX5_match_141 ?_
    refine N.iconst (v := 4) dX5_match_143 (by decide) ?_
    refine N.icmp_ge (tgt := 250) dX5_match_144 (by decide) (fun c144 => ?_) (fun c144 => absurd (by decide) c144)
    exact N.wk (by exact ⟨rfl, rfl, rfl, rfl, rfl, rfl, rfl, rfl, trivial⟩) (hK _ _ _ _ _ ht hz0 hcc hss)
  | succ nn ih =>
    intro k t z sz cc ss hk ht hz0 hcc hss
    refine N.iload8 dX5_match_141 ?_
    refine N.iconst (v := 4) dX5_match_143 (by decide) ?_
    refine N.icmp_ge (tgt := 250) dX5_match_144 (by decide) (fun c144 => absurd c144 (nI_ge (a := k) (b := 4) (by omega) (by omega))) (fun c144 => ?_)
    refine N.aload0 dX5_match_147 ?_
    refine N.getf dX5_match_148 flX5_49 mO rfl ?_
    refine N.iload8 dX5_match_151 ?_
    refine N.iald dX5_match_153 mA4 (in4 (by omega)) ?_
    refine N.if_eq (tgt := 244) dX5_match_154 (by decide) (fun c154 => ?_) (fun c154 => ?_)
    · refine N.iinc8 dX5_match_244 rfl (nI_inc _) ?_
      refine N.goto (tgt := 141) dX5_match_247 (by decide) ?_
      exact N.wk (by rw [mxTo, if_pos c154]; exact ⟨rfl, rfl, rfl, rfl, rfl, rfl, rfl, rfl, rfl, trivial⟩) (ih (k + 1) t _ _ _ _ (by omega) ht hz0 (by omega) (by omega))
    · refine N.aload0 dX5_match_157 ?_
      refine N.iload8 dX5_match_158 ?_
      refine N.aload0 dX5_match_160 ?_
      refine N.getf dX5_match_161 flX5_21 mO rfl ?_
      refine N.iload1 dX5_match_164 ?_
      refine N.aaldA dX5_match_165 mW (sh8v c9) (mRv hs) ?_
      refine N.iconst (v := 0) dX5_match_166 (by decide) ?_
      refine N.lald dX5_match_167 (mR hs) (in40 (k := 0) (by decide)) ?_
      refine N.l2i dX5_match_168 ?_
      refine N.vi2A dX5_match_169 vX5_meetsOf lkX5_339 (s_X5_meetsOf w b _ v e t z _ _ ht h (in4 (by omega))) mO rfl (Nat.le_of_ble_eq_true rfl) (Nat.le_of_ble_eq_true rfl) (by omega) (by omega) ?_
      rintro _ _ sz2 ⟨rfl, q, z3, rfl, hd, hz⟩
      refine N.istore9 dX5_match_172 rfl ?_
      refine N.iconst (v := 1) dX5_match_174 (by decide) ?_
      refine N.istore10 dX5_match_175 rfl ?_
      refine N.wk (by exact ⟨rfl, rfl, rfl, rfl, rfl, rfl, rfl, rfl, rfl, rfl, rfl, trivial⟩) (l2_X5_match w b sz0 v e _ _ s n x y a (mxTo v (e.2.2.1 s.toNatClampNeg) m k).1 (mxTo v (e.2.2.1 s.toNatClampNeg) m k).2 (nI k) h c9 hs m hm hn (in4 (by omega)) _ ?_ m 0 (some q) _ _ _ _ (by omega) (tOk_s ht hz hd) (Nat.le_trans hz0 hz) (by rw [kc_s]; omega) (by rw [ks_s]; omega))
      clear hz0 hcc hss ht hz hd
      intro t z sz cc ss ht hz0 hcc hss
      generalize hg : lsTo v (nI k) (e.2.2.1 s.toNatClampNeg) m = g0
      refine N.iload6 dX5_match_223 ?_
      refine N.iconst (v := -1) dX5_match_225 (by decide) ?_
      refine N.icmp_eq (tgt := 236) dX5_match_226 (by decide) (fun c226 => ?_) (fun c226 => ?_)
      · refine N.iload8 dX5_match_236 ?_
        refine N.istore6 dX5_match_238 rfl ?_
        refine N.iload9 dX5_match_240 ?_
        refine N.istore7 dX5_match_242 rfl ?_
        refine N.iinc8 dX5_match_244 rfl (nI_inc _) ?_
        refine N.goto (tgt := 141) dX5_match_247 (by decide) ?_
        exact N.wk (by rw [mxTo, if_neg c154, hg, if_pos c226]; exact ⟨rfl, rfl, rfl, rfl, rfl, rfl, rfl, rfl, rfl, trivial⟩) (ih (k + 1) t _ _ _ _ (by omega) ht hz0 (by omega) (by omega))
      · refine N.iload9 dX5_match_229 ?_
        refine N.iload7 dX5_match_231 ?_
        refine N.icmp_le (tgt := 244) dX5_match_233 (by decide) (fun c233 => ?_) (fun c233 => ?_)
        · refine N.iinc8 dX5_match_244 rfl (nI_inc _) ?_
          refine N.goto (tgt := 141) dX5_match_247 (by decide) ?_
          exact N.wk (by rw [mxTo, if_neg c154, hg, if_neg c226, if_pos c233]; exact ⟨rfl, rfl, rfl, rfl, rfl, rfl, rfl, rfl, rfl, trivial⟩) (ih (k + 1) t _ _ _ _ (by omega) ht hz0 (by omega) (by omega))
        · refine N.iload8 dX5_match_236 ?_
          refine N.istore6 dX5_match_238 rfl ?_
          refine N.iload9 dX5_match_240 ?_
          refine N.istore7 dX5_match_242 rfl ?_
          refine N.iinc8 dX5_match_244 rfl (nI_inc _) ?_
          refine N.goto (tgt := 141) dX5_match_247 (by decide) ?_
          exact N.wk (by rw [mxTo, if_neg c154, hg, if_neg c226, if_neg c233]; exact ⟨rfl, rfl, rfl, rfl, rfl, rfl, rfl, rfl, rfl, trivial⟩) (ih (k + 1) t _ _ _ _ (by omega) ht hz0 (by omega) (by omega))
def mm3 (m : Mst) (f : Nat → Int64) (c : Nat) (x : Int32) : Int32 × Mst := if (mxTo m.1 f c 4).1 = -1 then rn m (-5) else if x = 0 then ((mxTo m.1 f c 4).1, m) else ((mxTo m.1 f c 4).2, m)
def mm2 (m : Mst) (s n x a : Int32) : Int32 × Mst := if arR (m.2.2.2.1 s.toNatClampNeg) n.toNatClampNeg 0 a = 0 then rn m (-2) else mm3 m (m.2.2.2.1 s.toNatClampNeg) (n.toNatClampNeg - 1) x
def mmatch (m : Mst) (s n x : Int32) : Int32 × Mst := if isInF s 0 7 = 0 then rn m (-2) else if isInF n 1 40 = 0 then rn m (-2) else if isInF x 0 1 = 0 then rn m (-2) else if nrF m.2.2.1 s = 0 then (if m.2.2.1 2 s.toNatClampNeg < n then mm2 m s n x 0 else mm2 m s n x 1) else (-1000000000 + nrF m.2.2.1 s, m.1, nrM m.2 s)
set_option maxRecDepth 100000 in
theorem s_X5_match {K : Kx} (w : Wd) (b sz : Nat) (v : CV) (e : M5) (t : Option Nat) (z : MX) (s : Int32) (n : Int32) (x : Int32) (ht : tOk G b sz t) (hM : okM (v, e)) : Sp K mX5_match 9 (kc t) (ks t) [.ref b, .int s, .int n, .int x] (putM K (tw K w t z) b (v, wt e t)) sz (Qi fun r w' sz' => r = (mmatch (v, e) s n x).1 ∧ ∃ t' z', w' = putM K (tw K w t' z') b ((mmatch (v, e) s n x).2.1, wt (mmatch (v, e) s n x).2.2 t') ∧ tOk G b sz' t' ∧ sz ≤ sz') := by
  refine Sp.ofN [some (.ref b), some (.int s), some (.int n), some (.int x), none, none, none, none, none, none, none, none] rfl rfl rfl (Nat.le_of_ble_eq_true rfl) ?_
  have h : okP v := hM.1
  refine N.iload1 dX5_match_0 ?_
  refine N.i2l dX5_match_1 ?_
  refine N.lconst (v := 0) dX5_match_2 (by decide) ?_
  refine N.ldc2 dX5_match_3 ctX5_83 ?_
  refine N.si3 dX5_match_6 vX5_in lkX5_77 (s_X5_in _ _ _ _ _) rfl (Nat.le_of_ble_eq_true rfl) (Nat.le_of_ble_eq_true rfl) (by omega) (by omega) ?_
  rintro r1 _ _ ⟨er, rfl, rfl⟩
  obtain rfl := er.trans (inL_i (a := (0)) (b := (7)) rfl rfl)
  refine N.if_eq (tgt := 34) dX5_match_9 (by decide) (fun c9 => ?_) (fun c9 => ?_)
  · refine N.aload0 dX5_match_34 ?_
    refine N.bipush (v := -2) dX5_match_35 (by decide) ?_
    refine N.vi1 dX5_match_37 vX5_refuse lkX5_89 (s_X5_refuse _ _ _ _ _ _ rfIn2) mO rfl (Nat.le_of_ble_eq_true rfl) (Nat.le_of_ble_eq_true rfl) (by omega) (by omega) ?_
    rintro _ _ _ ⟨rfl, rfl, rfl⟩
    refine N.si1 dX5_match_40 vX5_far lkX5_320 (s_X5_far _ _ _) rfl (Nat.le_of_ble_eq_true rfl) (Nat.le_of_ble_eq_true rfl) (by omega) (by omega) ?_
    rintro _ _ _ ⟨rfl, rfl, rfl⟩
    exact N.iret dX5_match_43 rfl (by omega) (by omega) ⟨_, rfl, (by rw [mmatch, if_pos c9]; exact rnf_ok ht)⟩
  · refine N.iload2 dX5_match_12 ?_
    refine N.i2l dX5_match_13 ?_
    refine N.lconst (v := 1) dX5_match_14 (by decide) ?_
    refine N.ldc2 dX5_match_15 ctX5_87 ?_
    refine N.si3 dX5_match_18 vX5_in lkX5_77 (s_X5_in _ _ _ _ _) rfl (Nat.le_of_ble_eq_true rfl) (Nat.le_of_ble_eq_true rfl) (by omega) (by omega) ?_
    rintro r1 _ _ ⟨er, rfl, rfl⟩
    obtain rfl := er.trans (inL_i (a := (1)) (b := (40)) rfl rfl)
    refine N.if_eq (tgt := 34) dX5_match_21 (by decide) (fun c21 => ?_) (fun c21 => ?_)
    · refine N.aload0 dX5_match_34 ?_
      refine N.bipush (v := -2) dX5_match_35 (by decide) ?_
      refine N.vi1 dX5_match_37 vX5_refuse lkX5_89 (s_X5_refuse _ _ _ _ _ _ rfIn2) mO rfl (Nat.le_of_ble_eq_true rfl) (Nat.le_of_ble_eq_true rfl) (by omega) (by omega) ?_
      rintro _ _ _ ⟨rfl, rfl, rfl⟩
      refine N.si1 dX5_match_40 vX5_far lkX5_320 (s_X5_far _ _ _) rfl (Nat.le_of_ble_eq_true rfl) (Nat.le_of_ble_eq_true rfl) (by omega) (by omega) ?_
      rintro _ _ _ ⟨rfl, rfl, rfl⟩
      exact N.iret dX5_match_43 rfl (by omega) (by omega) ⟨_, rfl, (by rw [mmatch, if_neg c9, if_pos c21]; exact rnf_ok ht)⟩
    · refine N.iload3 dX5_match_24 ?_
      refine N.i2l dX5_match_25 ?_
      refine N.lconst (v := 0) dX5_match_26 (by decide) ?_
      refine N.lconst (v := 1) dX5_match_27 (by decide) ?_
      refine N.si3 dX5_match_28 vX5_in lkX5_77 (s_X5_in _ _ _ _ _) rfl (Nat.le_of_ble_eq_true rfl) (Nat.le_of_ble_eq_true rfl) (by omega) (by omega) ?_
      rintro r1 _ _ ⟨er, rfl, rfl⟩
      obtain rfl := er.trans (inL_i (a := (0)) (b := (1)) rfl rfl)
      refine N.if_ne (tgt := 44) dX5_match_31 (by decide) (fun c31 => ?_) (fun c31 => ?_)
      · refine N.aload0 dX5_match_44 ?_
        refine N.iload1 dX5_match_45 ?_
        refine N.vi1 dX5_match_46 vX5_noRow lkX5_93 (s_X5_noRow _ _ _ _ _ _) mO rfl (Nat.le_of_ble_eq_true rfl) (Nat.le_of_ble_eq_true rfl) (by omega) (by omega) ?_
        rintro _ _ _ ⟨rfl, rfl, rfl⟩
        refine N.istore4 dX5_match_49 rfl ?_
        refine N.iload4 dX5_match_51 ?_
        refine N.if_eq (tgt := 62) dX5_match_53 (by decide) (fun c53 => ?_) (fun c53 => ?_)
        · obtain ⟨m, hm, hm1, hn⟩ := in_n1 (N' := 40) (by decide) c21
          obtain ⟨m, rfl⟩ : ∃ m0, m = m0 + 1 := ⟨m - 1, by omega⟩
          obtain ⟨hs0, en⟩ := nr_0 c53
          refine N.eqW (congrArg (fun z_ => putM K (tw K w t z) b (v, z_)) en) ?_
          have hs := sh8 hs0
          have hcl : n.toNatClampNeg = m + 1 := by rw [hn, nI_clamp (by omega)]
          refine N.aload0 dX5_match_62 ?_
          refine N.getf dX5_match_63 flX5_16 mO rfl ?_
          refine N.iload1 dX5_match_66 ?_
          refine N.iald dX5_match_67 mH2 (sh8v c9) ?_
          refine N.iload2 dX5_match_68 ?_
          refine N.icmp_lt (tgt := 76) dX5_match_69 (by decide) (fun c69 => ?_) (fun c69 => ?_)
          · refine N.iconst (v := 0) dX5_match_76 (by decide) ?_
            refine N.istore5 dX5_match_77 rfl ?_
            refine N.iconst (v := 0) dX5_match_79 (by decide) ?_
            refine N.istore6 dX5_match_80 rfl ?_
            refine N.wk (by exact ⟨rfl, rfl, rfl, rfl, rfl, rfl, rfl, trivial⟩) (l1_X5_match _ b _ v (wt e t) _ _ s n x _ c9 hs m hm hn _ (arR (e.2.2.1 s.toNatClampNeg) (m + 1) 0 0) ?_ (m + 1) 0 0 (by omega) rfl)
            have hG : mmatch (v, e) s n x = (if arR (e.2.2.1 s.toNatClampNeg) (m + 1) 0 0 = 0 then rn (v, e) (-2) else mm3 (v, e) (e.2.2.1 s.toNatClampNeg) m x) := by rw [mmatch, if_neg c9, if_neg c21, if_neg c31, if_pos (show nrF e.2.1 s = 0 from c53), if_pos c69, mm2, hcl]; rfl
            generalize har : arR (e.2.2.1 s.toNatClampNeg) (m + 1) 0 0 = ar at hG ⊢
            refine N.iload5 dX5_match_117 ?_
            refine N.if_ne (tgt := 132) dX5_match_119 (by decide) (fun c119 => ?_) (fun c119 => ?_)
            · refine N.iconst (v := -1) dX5_match_132 (by decide) ?_
              refine N.istore6 dX5_match_133 rfl ?_
              refine N.iconst (v := 0) dX5_match_135 (by decide) ?_
              refine N.istore7 dX5_match_136 rfl ?_
              refine N.iconst (v := 0) dX5_match_138 (by decide) ?_
              refine N.istore8 dX5_match_139 rfl ?_
              rw [if_neg c119] at hG
              refine N.wk (by exact ⟨rfl, rfl, rfl, rfl, rfl, rfl, rfl, rfl, rfl, trivial⟩) (l3_X5_match w b _ v e _ _ s n x _ ar h c9 hs m hm hn _ ?_ 4 0 t z _ _ _ (by omega) ht (Nat.le_refl _) (by omega) (by omega))
              intro t2 z2 sz2 cc2 ss2 ht2 hz2 hcc2 hss2
              generalize hg : mxTo v (e.2.2.1 s.toNatClampNeg) m 4 = g0
              refine N.iload6 dX5_match_250 ?_
              refine N.iconst (v := -1) dX5_match_252 (by decide) ?_
              refine N.icmp_ne (tgt := 266) dX5_match_253 (by decide) (fun c253 => ?_) (fun c253 => ?_)
              · refine N.iload3 dX5_match_266 ?_
                refine N.if_ne (tgt := 275) dX5_match_267 (by decide) (fun c267 => ?_) (fun c267 => ?_)
                · refine N.iload7 dX5_match_275 ?_
                  exact N.iret dX5_match_277 rfl (by omega) (by omega) ⟨_, rfl, (by rw [hG, mm3, hg, if_neg c253, if_neg c267]; exact ⟨rfl, t2, z2, rfl, ht2, hz2⟩)⟩
                · refine N.iload6 dX5_match_270 ?_
                  refine N.goto (tgt := 277) dX5_match_272 (by decide) ?_
                  exact N.iret dX5_match_277 rfl (by omega) (by omega) ⟨_, rfl, (by rw [hG, mm3, hg, if_neg c253, if_pos c267]; exact ⟨rfl, t2, z2, rfl, ht2, hz2⟩)⟩
              · refine N.aload0 dX5_match_256 ?_
                refine N.bipush (v := -5) dX5_match_257 (by decide) ?_
                refine N.vi1 dX5_match_259 vX5_refuse lkX5_89 (s_X5_refuse _ _ _ _ _ _ rfIn5) mO rfl (Nat.le_of_ble_eq_true rfl) (Nat.le_of_ble_eq_true rfl) (by omega) (by omega) ?_
                rintro _ _ _ ⟨rfl, rfl, rfl⟩
                refine N.si1 dX5_match_262 vX5_far lkX5_320 (s_X5_far _ _ _) rfl (Nat.le_of_ble_eq_true rfl) (Nat.le_of_ble_eq_true rfl) (by omega) (by omega) ?_
                rintro _ _ _ ⟨rfl, rfl, rfl⟩
                exact N.iret dX5_match_265 rfl (by omega) (by omega) ⟨_, rfl, (by rw [hG, mm3, hg, if_pos c253]; exact ⟨rfl, t2, z2, by rw [reE_wt]; rfl, ht2, hz2⟩)⟩
            · refine N.aload0 dX5_match_122 ?_
              refine N.bipush (v := -2) dX5_match_123 (by decide) ?_
              refine N.vi1 dX5_match_125 vX5_refuse lkX5_89 (s_X5_refuse _ _ _ _ _ _ rfIn2) mO rfl (Nat.le_of_ble_eq_true rfl) (Nat.le_of_ble_eq_true rfl) (by omega) (by omega) ?_
              rintro _ _ _ ⟨rfl, rfl, rfl⟩
              refine N.si1 dX5_match_128 vX5_far lkX5_320 (s_X5_far _ _ _) rfl (Nat.le_of_ble_eq_true rfl) (Nat.le_of_ble_eq_true rfl) (by omega) (by omega) ?_
              rintro _ _ _ ⟨rfl, rfl, rfl⟩
              exact N.iret dX5_match_131 rfl (by omega) (by omega) ⟨_, rfl, (by rw [hG, if_pos c119]; exact rnf_ok ht)⟩
          · refine N.iconst (v := 1) dX5_match_72 (by decide) ?_
            refine N.goto (tgt := 77) dX5_match_73 (by decide) ?_
            refine N.istore5 dX5_match_77 rfl ?_
            refine N.iconst (v := 0) dX5_match_79 (by decide) ?_
            refine N.istore6 dX5_match_80 rfl ?_
            refine N.wk (by exact ⟨rfl, rfl, rfl, rfl, rfl, rfl, rfl, trivial⟩) (l1_X5_match _ b _ v (wt e t) _ _ s n x _ c9 hs m hm hn _ (arR (e.2.2.1 s.toNatClampNeg) (m + 1) 0 1) ?_ (m + 1) 0 1 (by omega) rfl)
            have hG : mmatch (v, e) s n x = (if arR (e.2.2.1 s.toNatClampNeg) (m + 1) 0 1 = 0 then rn (v, e) (-2) else mm3 (v, e) (e.2.2.1 s.toNatClampNeg) m x) := by rw [mmatch, if_neg c9, if_neg c21, if_neg c31, if_pos (show nrF e.2.1 s = 0 from c53), if_neg c69, mm2, hcl]; rfl
            generalize har : arR (e.2.2.1 s.toNatClampNeg) (m + 1) 0 1 = ar at hG ⊢
            refine N.iload5 dX5_match_117 ?_
            refine N.if_ne (tgt := 132) dX5_match_119 (by decide) (fun c119 => ?_) (fun c119 => ?_)
            · refine N.iconst (v := -1) dX5_match_132 (by decide) ?_
              refine N.istore6 dX5_match_133 rfl ?_
              refine N.iconst (v := 0) dX5_match_135 (by decide) ?_
              refine N.istore7 dX5_match_136 rfl ?_
              refine N.iconst (v := 0) dX5_match_138 (by decide) ?_
              refine N.istore8 dX5_match_139 rfl ?_
              rw [if_neg c119] at hG
              refine N.wk (by exact ⟨rfl, rfl, rfl, rfl, rfl, rfl, rfl, rfl, rfl, trivial⟩) (l3_X5_match w b _ v e _ _ s n x _ ar h c9 hs m hm hn _ ?_ 4 0 t z _ _ _ (by omega) ht (Nat.le_refl _) (by omega) (by omega))
              intro t2 z2 sz2 cc2 ss2 ht2 hz2 hcc2 hss2
              generalize hg : mxTo v (e.2.2.1 s.toNatClampNeg) m 4 = g0
              refine N.iload6 dX5_match_250 ?_
              refine N.iconst (v := -1) dX5_match_252 (by decide) ?_
              refine N.icmp_ne (tgt := 266) dX5_match_253 (by decide) (fun c253 => ?_) (fun c253 => ?_)
              · refine N.iload3 dX5_match_266 ?_
                refine N.if_ne (tgt := 275) dX5_match_267 (by decide) (fun c267 => ?_) (fun c267 => ?_)
                · refine N.iload7 dX5_match_275 ?_
                  exact N.iret dX5_match_277 rfl (by omega) (by omega) ⟨_, rfl, (by rw [hG, mm3, hg, if_neg c253, if_neg c267]; exact ⟨rfl, t2, z2, rfl, ht2, hz2⟩)⟩
                · refine N.iload6 dX5_match_270 ?_
                  refine N.goto (tgt := 277) dX5_match_272 (by decide) ?_
                  exact N.iret dX5_match_277 rfl (by omega) (by omega) ⟨_, rfl, (by rw [hG, mm3, hg, if_neg c253, if_pos c267]; exact ⟨rfl, t2, z2, rfl, ht2, hz2⟩)⟩
              · refine N.aload0 dX5_match_256 ?_
                refine N.bipush (v := -5) dX5_match_257 (by decide) ?_
                refine N.vi1 dX5_match_259 vX5_refuse lkX5_89 (s_X5_refuse _ _ _ _ _ _ rfIn5) mO rfl (Nat.le_of_ble_eq_true rfl) (Nat.le_of_ble_eq_true rfl) (by omega) (by omega) ?_
                rintro _ _ _ ⟨rfl, rfl, rfl⟩
                refine N.si1 dX5_match_262 vX5_far lkX5_320 (s_X5_far _ _ _) rfl (Nat.le_of_ble_eq_true rfl) (Nat.le_of_ble_eq_true rfl) (by omega) (by omega) ?_
                rintro _ _ _ ⟨rfl, rfl, rfl⟩
                exact N.iret dX5_match_265 rfl (by omega) (by omega) ⟨_, rfl, (by rw [hG, mm3, hg, if_pos c253]; exact ⟨rfl, t2, z2, by rw [reE_wt]; rfl, ht2, hz2⟩)⟩
            · refine N.aload0 dX5_match_122 ?_
              refine N.bipush (v := -2) dX5_match_123 (by decide) ?_
              refine N.vi1 dX5_match_125 vX5_refuse lkX5_89 (s_X5_refuse _ _ _ _ _ _ rfIn2) mO rfl (Nat.le_of_ble_eq_true rfl) (Nat.le_of_ble_eq_true rfl) (by omega) (by omega) ?_
              rintro _ _ _ ⟨rfl, rfl, rfl⟩
              refine N.si1 dX5_match_128 vX5_far lkX5_320 (s_X5_far _ _ _) rfl (Nat.le_of_ble_eq_true rfl) (Nat.le_of_ble_eq_true rfl) (by omega) (by omega) ?_
              rintro _ _ _ ⟨rfl, rfl, rfl⟩
              exact N.iret dX5_match_131 rfl (by omega) (by omega) ⟨_, rfl, (by rw [hG, if_pos c119]; exact rnf_ok ht)⟩
        · refine N.iload4 dX5_match_56 ?_
          refine N.si1 dX5_match_58 vX5_far lkX5_320 (s_X5_far _ _ _) rfl (Nat.le_of_ble_eq_true rfl) (Nat.le_of_ble_eq_true rfl) (by omega) (by omega) ?_
          rintro _ _ _ ⟨rfl, rfl, rfl⟩
          exact N.iret dX5_match_61 rfl (by omega) (by omega) ⟨_, rfl, (by rw [mmatch, if_neg c9, if_neg c21, if_neg c31, if_neg (show ¬ nrF e.2.1 s = 0 from c53)]; exact ⟨rfl, t, z, by rw [nrE_wt], ht, Nat.le_refl _⟩)⟩
      · refine N.aload0 dX5_match_34 ?_
        refine N.bipush (v := -2) dX5_match_35 (by decide) ?_
        refine N.vi1 dX5_match_37 vX5_refuse lkX5_89 (s_X5_refuse _ _ _ _ _ _ rfIn2) mO rfl (Nat.le_of_ble_eq_true rfl) (Nat.le_of_ble_eq_true rfl) (by omega) (by omega) ?_
        rintro _ _ _ ⟨rfl, rfl, rfl⟩
        refine N.si1 dX5_match_40 vX5_far lkX5_320 (s_X5_far _ _ _) rfl (Nat.le_of_ble_eq_true rfl) (Nat.le_of_ble_eq_true rfl) (by omega) (by omega) ?_
        rintro _ _ _ ⟨rfl, rfl, rfl⟩
        exact N.iret dX5_match_43 rfl (by omega) (by omega) ⟨_, rfl, (by rw [mmatch, if_neg c9, if_neg c21, if_pos c31]; exact rnf_ok ht)⟩
