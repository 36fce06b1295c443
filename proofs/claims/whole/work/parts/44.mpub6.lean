variable {G : Nat → Prop}
theorem tOk_s {b sz sz2 q : Nat} {t : Option Nat} (ht : tOk G b sz t) (hz : sz ≤ sz2) (hd : apG G q b) : tOk G b sz2 (some q) := ⟨⟨Nat.le_trans ht.1.1 hz, fun n hn => ht.1.2 n (Nat.le_trans hz hn)⟩, fun q' e => by cases e; exact hd⟩
theorem kc_s {q : Nat} : kc (some q) = 0 := rfl
theorem ks_s {q : Nat} : ks (some q) = 0 := rfl
theorem md_ok {K : Kx} {w : Wd} {b sz sz' : Nat} {v : CV} {e : M5} {t : Option Nat} {z : MX} {g : Int32 × Mst} {r : Int32} (ht : tOk G b sz' t) (hz : sz ≤ sz') (eg : g = (r, v, e)) : r = g.1 ∧ ∃ t' z', putM K (tw K w t z) b (v, wt e t) = putM K (tw K w t' z') b (g.2.1, wt g.2.2 t') ∧ tOk G b sz' t' ∧ sz ≤ sz' := by
  subst eg
  exact ⟨rfl, t, z, rfl, ht, hz⟩
def cpM1 (f g : Nat → Int64) (i : Int32) : Nat → (Nat → Int64)
  | 0 => g
  | k + 1 => vp_updL (cpM1 f g i k) (nI k).toNatClampNeg (f (i + nI k).toNatClampNeg)
def cpM2 (f g : Nat → Int64) (j : Int32) : Nat → (Nat → Int64)
  | 0 => f
  | k + 1 => vp_updL (cpM2 f g j k) (j + nI k).toNatClampNeg (g (nI k).toNatClampNeg)
def mvE (E : ME) (g : Nat → Int64) : ME := (E.1, E.2.1, E.2.2.1, g, E.2.2.2.2)
theorem nI_le' {a c : Nat} (ha : a < 2 ^ 31) (h : nI a ≤ nI c) : a ≤ c := Nat.not_lt.mp fun q => nI_ge q ha h
theorem cp_nat {i n z : Int32} {Z : Nat} (hz : z = nI Z) (hZ : Z ≤ 40) (h0 : ¬ n < 0) (h1 : ¬ i < 0) (h2 : ¬ z < n) (h3 : ¬ z - n < i) : ∃ a m, i = nI a ∧ n = nI m ∧ a + m ≤ Z := by
  subst hz
  obtain ⟨m, hm, rfl⟩ := nI_of h0
  obtain ⟨a, ha, rfl⟩ := nI_of h1
  have e1 := nI_le' hm (Int32.not_lt.mp h2)
  rw [nI_sub e1] at h3
  have e2 := nI_le' ha (Int32.not_lt.mp h3)
  exact ⟨a, m, rfl, rfl, by omega⟩
theorem nI_add2 (a k : Nat) : nI a + nI k = nI (a + k) := by
  induction k with
  | zero => exact Int32.add_zero _
  | succ k ih => rw [← nI_inc k, ← Int32.add_assoc, ih, nI_inc]; rfl
theorem in40s {i : Int32} {a k : Nat} (hi : i = nI a) (h : a + k < 40) : vp_in (i + nI k) 40 := by
  subst hi
  rw [nI_add2]
  exact in40 h
theorem nI_i40 {m : Nat} {x : Int32} {k : Nat} (hn : x = nI m) (h : k < m) (hm : m ≤ 40) : ¬ x ≤ nI k := by rw [hn]; exact nI_ge h (by omega)
set_option maxRecDepth 100000 in
theorem l1_X5_copy {K : Kx} (w : Wd) (b sz : Nat) (v : CV) (E : ME) (mc ms : Nat) (p q i j n : Int32) (c9 : ¬ isInF p 0 7 = 0) (hs : p.toNatClampNeg < 8) (a m : Nat) (hi : i = nI a) (hn : n = nI m) (ha : a + m ≤ 40) (Q : Qx) (hK : N K mX5_copy 9 mc ms Q 222 [some (.ref b), some (.int p), some (.int q), some (.int i), some (.int j), some (.int n), none] [] (putM K w b (v, mvE E (cpM1 (E.2.2.1 p.toNatClampNeg) (E.2.2.2.1) i m))) sz 0 0) : ∀ nn k, k + nn = m → N K mX5_copy 9 mc ms Q 191 [some (.ref b), some (.int p), some (.int q), some (.int i), some (.int j), some (.int n), some (.int (nI k))] [] (putM K w b (v, mvE E (cpM1 (E.2.2.1 p.toNatClampNeg) (E.2.2.2.1) i k))) sz 0 0 := by
  intro nn
  induction nn with
  | zero =>
    intro k hk
    obtain rfl : k = m := by omega
    refine N.iload6 dX5_copy_191 ?_
    refine N.iload5 dX5_copy_193 ?_
    refine N.icmp_ge (tgt := 222) dX5_copy_195 (by decide) (fun c195 => ?_) (fun c195 => absurd (pl_ge hn (by omega) (by omega)) c195)
    exact N.wk (by exact ⟨rfl, rfl, rfl, rfl, rfl, rfl, trivial⟩) hK
  | succ nn ih =>
    intro k hk
    refine N.iload6 dX5_copy_191 ?_
    refine N.iload5 dX5_copy_193 ?_
    refine N.icmp_ge (tgt := 222) dX5_copy_195 (by decide) (fun c195 => absurd c195 (nI_i40 hn (by omega) (by omega))) (fun c195 => ?_)
    refine N.aload0 dX5_copy_198 ?_
    refine N.getf dX5_copy_199 flX5_24 mO rfl ?_
    refine N.iload6 dX5_copy_202 ?_
    refine N.aload0 dX5_copy_204 ?_
    refine N.getf dX5_copy_205 flX5_21 mO rfl ?_
    refine N.iload1 dX5_copy_208 ?_
    refine N.aaldA dX5_copy_209 mW (sh8v c9) (mRv hs) ?_
    refine N.iload3 dX5_copy_210 ?_
    refine N.iload6 dX5_copy_211 ?_
    refine N.iadd dX5_copy_213 ?_
    refine N.lald dX5_copy_214 (mR hs) (in40s hi (by omega)) ?_
    refine N.last dX5_copy_215 mMv (in40 (by omega)) mMK ?_
    refine N.iinc6 dX5_copy_216 rfl (nI_inc _) ?_
    refine N.goto (tgt := 191) dX5_copy_219 (by decide) ?_
    exact ih (k + 1) (by omega)
set_option maxRecDepth 100000 in
theorem l2_X5_copy {K : Kx} (w : Wd) (b sz : Nat) (v : CV) (E : ME) (mc ms : Nat) (p q i j n : Int32) (c21 : ¬ isInF q 0 7 = 0) (hs : q.toNatClampNeg < 8) (f : Nat → Int64) (a m : Nat) (hj : j = nI a) (hn : n = nI m) (ha : a + m ≤ 40) (P : Int32 → Wd → Nat → Prop) (hP : P n (putM K w b (v, rwE E q.toNatClampNeg (cpM2 f E.2.2.2.1 j m))) sz) : ∀ nn k, k + nn = m → N K mX5_copy 9 mc ms (Qi P) 225 [some (.ref b), some (.int p), some (.int q), some (.int i), some (.int j), some (.int n), some (.int (nI k))] [] (putM K w b (v, rwE E q.toNatClampNeg (cpM2 f E.2.2.2.1 j k))) sz 0 0 := by
  intro nn
  induction nn with
  | zero =>
    intro k hk
    obtain rfl : k = m := by omega
    refine N.iload6 dX5_copy_225 ?_
    refine N.iload5 dX5_copy_227 ?_
    refine N.icmp_ge (tgt := 257) dX5_copy_229 (by decide) (fun c229 => ?_) (fun c229 => absurd (pl_ge hn (by omega) (by omega)) c229)
    refine N.iload5 dX5_copy_257 ?_
    exact N.iret dX5_copy_259 rfl (Nat.zero_le _) (Nat.zero_le _) ⟨_, rfl, hP⟩
  | succ nn ih =>
    intro k hk
    refine N.iload6 dX5_copy_225 ?_
    refine N.iload5 dX5_copy_227 ?_
    refine N.icmp_ge (tgt := 257) dX5_copy_229 (by decide) (fun c229 => absurd c229 (nI_i40 hn (by omega) (by omega))) (fun c229 => ?_)
    refine N.aload0 dX5_copy_232 ?_
    refine N.getf dX5_copy_233 flX5_21 mO rfl ?_
    refine N.iload2 dX5_copy_236 ?_
    refine N.aaldA dX5_copy_237 mW (sh8v c21) (mRv hs) ?_
    refine N.iload4 dX5_copy_238 ?_
    refine N.iload6 dX5_copy_240 ?_
    refine N.iadd dX5_copy_242 ?_
    refine N.aload0 dX5_copy_243 ?_
    refine N.getf dX5_copy_244 flX5_24 mO rfl ?_
    refine N.iload6 dX5_copy_247 ?_
    refine N.lald dX5_copy_249 mMv (in40 (by omega)) ?_
    refine N.last dX5_copy_250 (mRz hs) (in40s hj (by omega)) (mRKz hs) ?_
    refine N.iinc6 dX5_copy_251 rfl (nI_inc _) ?_
    refine N.goto (tgt := 225) dX5_copy_254 (by decide) ?_
    exact ih (k + 1) (by omega)
def mcp3 (m : Mst) (p q i j n : Int32) : Mst := (m.1, m.2.1, m.2.2.1, upL m.2.2.2.1 q.toNatClampNeg (cpM2 (m.2.2.2.1 q.toNatClampNeg) (cpM1 (m.2.2.2.1 p.toNatClampNeg) m.2.2.2.2.1 i n.toNatClampNeg) j n.toNatClampNeg), cpM1 (m.2.2.2.1 p.toNatClampNeg) m.2.2.2.2.1 i n.toNatClampNeg, m.2.2.2.2.2)
def mcp2 (m : Mst) (p q i j n : Int32) : Int32 × Mst := if m.2.2.1 0 p.toNatClampNeg = 0 then rm m (-4) else if m.2.2.1 0 q.toNatClampNeg = 0 then rm m (-4) else if n < 0 then rm m (-2) else if i < 0 then rm m (-2) else if j < 0 then rm m (-2) else if m.2.2.1 2 p.toNatClampNeg < n then rm m (-2) else if m.2.2.1 2 q.toNatClampNeg < n then rm m (-2) else if m.2.2.1 2 p.toNatClampNeg - n < i then rm m (-2) else if j ≤ m.2.2.1 2 q.toNatClampNeg - n then (n, mcp3 m p q i j n) else rm m (-2)
def mcopy (m : Mst) (p q i j n : Int32) : Int32 × Mst := if isInF p 0 7 = 0 then rm m (-2) else if isInF q 0 7 = 0 then rm m (-2) else if m.2.2.1 0 p.toNatClampNeg = 2 then rm m (-3) else if m.2.2.1 0 q.toNatClampNeg = 2 then rm m (-3) else if m.2.2.1 0 p.toNatClampNeg = 1 then (if m.2.2.1 0 q.toNatClampNeg = 1 then (if m.2.2.1 1 p.toNatClampNeg = m.2.2.1 1 q.toNatClampNeg then mcp2 m p q i j n else rm m (-3)) else mcp2 m p q i j n) else mcp2 m p q i j n
set_option maxRecDepth 100000 in
theorem s_X5_copy {K : Kx} (w : Wd) (b sz : Nat) (v : CV) (e : M5) (t : Option Nat) (z : MX) (p : Int32) (q : Int32) (i : Int32) (j : Int32) (n : Int32) (ht : tOk G b sz t) (hM : okM (v, e)) : Sp K mX5_copy 9 (kc t) (ks t) [.ref b, .int p, .int q, .int i, .int j, .int n] (putM K (tw K w t z) b (v, wt e t)) sz (Qi fun r w' sz' => r = (mcopy (v, e) p q i j n).1 ∧ ∃ t' z', w' = putM K (tw K w t' z') b ((mcopy (v, e) p q i j n).2.1, wt (mcopy (v, e) p q i j n).2.2 t') ∧ tOk G b sz' t' ∧ sz ≤ sz') := by
  refine Sp.ofN [some (.ref b), some (.int p), some (.int q), some (.int i), some (.int j), some (.int n), none] rfl rfl rfl (Nat.le_of_ble_eq_true rfl) ?_
  have h : okP v := hM.1
  refine N.iload1 dX5_copy_0 ?_
  refine N.i2l dX5_copy_1 ?_
  refine N.lconst (v := 0) dX5_copy_2 (by decide) ?_
  refine N.ldc2 dX5_copy_3 ctX5_83 ?_
  refine N.si3 dX5_copy_6 vX5_in lkX5_77 (s_X5_in _ _ _ _ _) rfl (Nat.le_of_ble_eq_true rfl) (Nat.le_of_ble_eq_true rfl) (Nat.zero_le _) (Nat.zero_le _) ?_
  rintro r1 _ _ ⟨er, rfl, rfl⟩
  obtain rfl := er.trans (inL_i (a := (0)) (b := (7)) rfl rfl)
  refine N.if_eq (tgt := 24) dX5_copy_9 (by decide) (fun c9 => ?_) (fun c9 => ?_)
  · refine N.aload0 dX5_copy_24 ?_
    refine N.bipush (v := -2) dX5_copy_25 (by decide) ?_
    refine N.vi1 dX5_copy_27 vX5_refuse lkX5_89 (s_X5_refuse _ _ _ _ _ _ rfIn2) mO rfl (Nat.le_of_ble_eq_true rfl) (Nat.le_of_ble_eq_true rfl) (Nat.zero_le _) (Nat.zero_le _) ?_
    rintro _ _ _ ⟨rfl, rfl, rfl⟩
    exact N.iret dX5_copy_30 rfl (Nat.zero_le _) (Nat.zero_le _) ⟨_, rfl, (by rw [mcopy, if_pos c9]; exact rmf_ok ht)⟩
  · refine N.iload2 dX5_copy_12 ?_
    refine N.i2l dX5_copy_13 ?_
    refine N.lconst (v := 0) dX5_copy_14 (by decide) ?_
    refine N.ldc2 dX5_copy_15 ctX5_83 ?_
    refine N.si3 dX5_copy_18 vX5_in lkX5_77 (s_X5_in _ _ _ _ _) rfl (Nat.le_of_ble_eq_true rfl) (Nat.le_of_ble_eq_true rfl) (Nat.zero_le _) (Nat.zero_le _) ?_
    rintro r1 _ _ ⟨er, rfl, rfl⟩
    obtain rfl := er.trans (inL_i (a := (0)) (b := (7)) rfl rfl)
    refine N.if_ne (tgt := 31) dX5_copy_21 (by decide) (fun c21 => ?_) (fun c21 => ?_)
    · refine N.aload0 dX5_copy_31 ?_
      refine N.getf dX5_copy_32 flX5_7 mO rfl ?_
      refine N.iload1 dX5_copy_35 ?_
      refine N.iald dX5_copy_36 mH0 (sh8v c9) ?_
      refine N.iconst (v := 2) dX5_copy_37 (by decide) ?_
      refine N.icmp_eq (tgt := 86) dX5_copy_38 (by decide) (fun c38 => ?_) (fun c38 => ?_)
      · refine N.aload0 dX5_copy_86 ?_
        refine N.bipush (v := -3) dX5_copy_87 (by decide) ?_
        refine N.vi1 dX5_copy_89 vX5_refuse lkX5_89 (s_X5_refuse _ _ _ _ _ _ rfIn3) mO rfl (Nat.le_of_ble_eq_true rfl) (Nat.le_of_ble_eq_true rfl) (Nat.zero_le _) (Nat.zero_le _) ?_
        rintro _ _ _ ⟨rfl, rfl, rfl⟩
        exact N.iret dX5_copy_92 rfl (Nat.zero_le _) (Nat.zero_le _) ⟨_, rfl, (by rw [mcopy, if_neg c9, if_neg c21, if_pos c38]; exact rmf_ok ht)⟩
      · refine N.aload0 dX5_copy_41 ?_
        refine N.getf dX5_copy_42 flX5_7 mO rfl ?_
        refine N.iload2 dX5_copy_45 ?_
        refine N.iald dX5_copy_46 mH0 (sh8v c21) ?_
        refine N.iconst (v := 2) dX5_copy_47 (by decide) ?_
        refine N.icmp_eq (tgt := 86) dX5_copy_48 (by decide) (fun c48 => ?_) (fun c48 => ?_)
        · refine N.aload0 dX5_copy_86 ?_
          refine N.bipush (v := -3) dX5_copy_87 (by decide) ?_
          refine N.vi1 dX5_copy_89 vX5_refuse lkX5_89 (s_X5_refuse _ _ _ _ _ _ rfIn3) mO rfl (Nat.le_of_ble_eq_true rfl) (Nat.le_of_ble_eq_true rfl) (Nat.zero_le _) (Nat.zero_le _) ?_
          rintro _ _ _ ⟨rfl, rfl, rfl⟩
          exact N.iret dX5_copy_92 rfl (Nat.zero_le _) (Nat.zero_le _) ⟨_, rfl, (by rw [mcopy, if_neg c9, if_neg c21, if_neg c38, if_pos c48]; exact rmf_ok ht)⟩
        · refine N.aload0 dX5_copy_51 ?_
          refine N.getf dX5_copy_52 flX5_7 mO rfl ?_
          refine N.iload1 dX5_copy_55 ?_
          refine N.iald dX5_copy_56 mH0 (sh8v c9) ?_
          refine N.iconst (v := 1) dX5_copy_57 (by decide) ?_
          refine N.icmp_ne (tgt := 93) dX5_copy_58 (by decide) (fun c58 => ?_) (fun c58 => ?_)
          · refine N.aload0 dX5_copy_93 ?_
            refine N.getf dX5_copy_94 flX5_7 mO rfl ?_
            refine N.iload1 dX5_copy_97 ?_
            refine N.iald dX5_copy_98 mH0 (sh8v c9) ?_
            refine N.if_eq (tgt := 111) dX5_copy_99 (by decide) (fun c99 => ?_) (fun c99 => ?_)
            · refine N.aload0 dX5_copy_111 ?_
              refine N.bipush (v := -4) dX5_copy_112 (by decide) ?_
              refine N.vi1 dX5_copy_114 vX5_refuse lkX5_89 (s_X5_refuse _ _ _ _ _ _ rfIn4) mO rfl (Nat.le_of_ble_eq_true rfl) (Nat.le_of_ble_eq_true rfl) (Nat.zero_le _) (Nat.zero_le _) ?_
              rintro _ _ _ ⟨rfl, rfl, rfl⟩
              exact N.iret dX5_copy_117 rfl (Nat.zero_le _) (Nat.zero_le _) ⟨_, rfl, (by rw [mcopy, if_neg c9, if_neg c21, if_neg c38, if_neg c48, if_neg c58, mcp2, if_pos c99]; exact rmf_ok ht)⟩
            · refine N.aload0 dX5_copy_102 ?_
              refine N.getf dX5_copy_103 flX5_7 mO rfl ?_
              refine N.iload2 dX5_copy_106 ?_
              refine N.iald dX5_copy_107 mH0 (sh8v c21) ?_
              refine N.if_ne (tgt := 118) dX5_copy_108 (by decide) (fun c108 => ?_) (fun c108 => ?_)
              · refine N.iload5 dX5_copy_118 ?_
                refine N.if_lt (tgt := 181) dX5_copy_120 (by decide) (fun c120 => ?_) (fun c120 => ?_)
                · refine N.aload0 dX5_copy_181 ?_
                  refine N.bipush (v := -2) dX5_copy_182 (by decide) ?_
                  refine N.vi1 dX5_copy_184 vX5_refuse lkX5_89 (s_X5_refuse _ _ _ _ _ _ rfIn2) mO rfl (Nat.le_of_ble_eq_true rfl) (Nat.le_of_ble_eq_true rfl) (Nat.zero_le _) (Nat.zero_le _) ?_
                  rintro _ _ _ ⟨rfl, rfl, rfl⟩
                  exact N.iret dX5_copy_187 rfl (Nat.zero_le _) (Nat.zero_le _) ⟨_, rfl, (by rw [mcopy, if_neg c9, if_neg c21, if_neg c38, if_neg c48, if_neg c58, mcp2, if_neg c99, if_neg c108, if_pos c120]; exact rmf_ok ht)⟩
                · refine N.iload3 dX5_copy_123 ?_
                  refine N.if_lt (tgt := 181) dX5_copy_124 (by decide) (fun c124 => ?_) (fun c124 => ?_)
                  · refine N.aload0 dX5_copy_181 ?_
                    refine N.bipush (v := -2) dX5_copy_182 (by decide) ?_
                    refine N.vi1 dX5_copy_184 vX5_refuse lkX5_89 (s_X5_refuse _ _ _ _ _ _ rfIn2) mO rfl (Nat.le_of_ble_eq_true rfl) (Nat.le_of_ble_eq_true rfl) (Nat.zero_le _) (Nat.zero_le _) ?_
                    rintro _ _ _ ⟨rfl, rfl, rfl⟩
                    exact N.iret dX5_copy_187 rfl (Nat.zero_le _) (Nat.zero_le _) ⟨_, rfl, (by rw [mcopy, if_neg c9, if_neg c21, if_neg c38, if_neg c48, if_neg c58, mcp2, if_neg c99, if_neg c108, if_neg c120, if_pos c124]; exact rmf_ok ht)⟩
                  · refine N.iload4 dX5_copy_127 ?_
                    refine N.if_lt (tgt := 181) dX5_copy_129 (by decide) (fun c129 => ?_) (fun c129 => ?_)
                    · refine N.aload0 dX5_copy_181 ?_
                      refine N.bipush (v := -2) dX5_copy_182 (by decide) ?_
                      refine N.vi1 dX5_copy_184 vX5_refuse lkX5_89 (s_X5_refuse _ _ _ _ _ _ rfIn2) mO rfl (Nat.le_of_ble_eq_true rfl) (Nat.le_of_ble_eq_true rfl) (Nat.zero_le _) (Nat.zero_le _) ?_
                      rintro _ _ _ ⟨rfl, rfl, rfl⟩
                      exact N.iret dX5_copy_187 rfl (Nat.zero_le _) (Nat.zero_le _) ⟨_, rfl, (by rw [mcopy, if_neg c9, if_neg c21, if_neg c38, if_neg c48, if_neg c58, mcp2, if_neg c99, if_neg c108, if_neg c120, if_neg c124, if_pos c129]; exact rmf_ok ht)⟩
                    · refine N.iload5 dX5_copy_132 ?_
                      refine N.aload0 dX5_copy_134 ?_
                      refine N.getf dX5_copy_135 flX5_16 mO rfl ?_
                      refine N.iload1 dX5_copy_138 ?_
                      refine N.iald dX5_copy_139 mH2 (sh8v c9) ?_
                      refine N.icmp_gt (tgt := 181) dX5_copy_140 (by decide) (fun c140 => ?_) (fun c140 => ?_)
                      · refine N.aload0 dX5_copy_181 ?_
                        refine N.bipush (v := -2) dX5_copy_182 (by decide) ?_
                        refine N.vi1 dX5_copy_184 vX5_refuse lkX5_89 (s_X5_refuse _ _ _ _ _ _ rfIn2) mO rfl (Nat.le_of_ble_eq_true rfl) (Nat.le_of_ble_eq_true rfl) (Nat.zero_le _) (Nat.zero_le _) ?_
                        rintro _ _ _ ⟨rfl, rfl, rfl⟩
                        exact N.iret dX5_copy_187 rfl (Nat.zero_le _) (Nat.zero_le _) ⟨_, rfl, (by rw [mcopy, if_neg c9, if_neg c21, if_neg c38, if_neg c48, if_neg c58, mcp2, if_neg c99, if_neg c108, if_neg c120, if_neg c124, if_neg c129, if_pos c140]; exact rmf_ok ht)⟩
                      · refine N.iload5 dX5_copy_143 ?_
                        refine N.aload0 dX5_copy_145 ?_
                        refine N.getf dX5_copy_146 flX5_16 mO rfl ?_
                        refine N.iload2 dX5_copy_149 ?_
                        refine N.iald dX5_copy_150 mH2 (sh8v c21) ?_
                        refine N.icmp_gt (tgt := 181) dX5_copy_151 (by decide) (fun c151 => ?_) (fun c151 => ?_)
                        · refine N.aload0 dX5_copy_181 ?_
                          refine N.bipush (v := -2) dX5_copy_182 (by decide) ?_
                          refine N.vi1 dX5_copy_184 vX5_refuse lkX5_89 (s_X5_refuse _ _ _ _ _ _ rfIn2) mO rfl (Nat.le_of_ble_eq_true rfl) (Nat.le_of_ble_eq_true rfl) (Nat.zero_le _) (Nat.zero_le _) ?_
                          rintro _ _ _ ⟨rfl, rfl, rfl⟩
                          exact N.iret dX5_copy_187 rfl (Nat.zero_le _) (Nat.zero_le _) ⟨_, rfl, (by rw [mcopy, if_neg c9, if_neg c21, if_neg c38, if_neg c48, if_neg c58, mcp2, if_neg c99, if_neg c108, if_neg c120, if_neg c124, if_neg c129, if_neg c140, if_pos c151]; exact rmf_ok ht)⟩
                        · refine N.iload3 dX5_copy_154 ?_
                          refine N.aload0 dX5_copy_155 ?_
                          refine N.getf dX5_copy_156 flX5_16 mO rfl ?_
                          refine N.iload1 dX5_copy_159 ?_
                          refine N.iald dX5_copy_160 mH2 (sh8v c9) ?_
                          refine N.iload5 dX5_copy_161 ?_
                          refine N.isub dX5_copy_163 ?_
                          refine N.icmp_gt (tgt := 181) dX5_copy_164 (by decide) (fun c164 => ?_) (fun c164 => ?_)
                          · refine N.aload0 dX5_copy_181 ?_
                            refine N.bipush (v := -2) dX5_copy_182 (by decide) ?_
                            refine N.vi1 dX5_copy_184 vX5_refuse lkX5_89 (s_X5_refuse _ _ _ _ _ _ rfIn2) mO rfl (Nat.le_of_ble_eq_true rfl) (Nat.le_of_ble_eq_true rfl) (Nat.zero_le _) (Nat.zero_le _) ?_
                            rintro _ _ _ ⟨rfl, rfl, rfl⟩
                            exact N.iret dX5_copy_187 rfl (Nat.zero_le _) (Nat.zero_le _) ⟨_, rfl, (by rw [mcopy, if_neg c9, if_neg c21, if_neg c38, if_neg c48, if_neg c58, mcp2, if_neg c99, if_neg c108, if_neg c120, if_neg c124, if_neg c129, if_neg c140, if_neg c151, if_pos c164]; exact rmf_ok ht)⟩
                          · refine N.iload4 dX5_copy_167 ?_
                            refine N.aload0 dX5_copy_169 ?_
                            refine N.getf dX5_copy_170 flX5_16 mO rfl ?_
                            refine N.iload2 dX5_copy_173 ?_
                            refine N.iald dX5_copy_174 mH2 (sh8v c21) ?_
                            refine N.iload5 dX5_copy_175 ?_
                            refine N.isub dX5_copy_177 ?_
                            refine N.icmp_le (tgt := 188) dX5_copy_178 (by decide) (fun c178 => ?_) (fun c178 => ?_)
                            · refine N.iconst (v := 0) dX5_copy_188 (by decide) ?_
                              refine N.istore6 dX5_copy_189 rfl ?_
                              obtain ⟨Z1, hZ1, ez1⟩ := hM.2.1 _ (sh8 c9)
                              obtain ⟨Z2, hZ2, ez2⟩ := hM.2.1 _ (sh8 c21)
                              obtain ⟨a1, m1, ei, en, hle1⟩ := cp_nat ez1 hZ1 c120 c124 c140 c164
                              obtain ⟨a2, m2, ej, en2, hle2⟩ := cp_nat ez2 hZ2 c120 c129 c151 (Int32.not_lt.mpr c178)
                              have hcl : n.toNatClampNeg = m1 := by rw [en, nI_clamp (by omega)]
                              have hcl2 : n.toNatClampNeg = m2 := by rw [en2, nI_clamp (by omega)]
                              obtain rfl : m1 = m2 := hcl.symm.trans hcl2
                              refine N.wk (by exact ⟨rfl, rfl, rfl, rfl, rfl, rfl, rfl, trivial⟩) (l1_X5_copy _ b _ v (wt e t) _ _ p q i j n c9 (sh8 c9) a1 m1 ei en (by omega) _ ?_ m1 0 (by omega))
                              refine N.iconst (v := 0) dX5_copy_222 (by decide) ?_
                              refine N.istore6 dX5_copy_223 rfl ?_
                              refine N.eqW (w' := putM K (tw K w t z) b (v, rwE (mvE (wt e t) (cpM1 (e.2.2.1 p.toNatClampNeg) e.2.2.2.1 i m1)) q.toNatClampNeg (e.2.2.1 q.toNatClampNeg))) (congrArg (fun q_ => putM K (tw K w t z) b (v, e.1, e.2.1, q_, cpM1 (e.2.2.1 p.toNatClampNeg) e.2.2.2.1 i m1, e.2.2.2.2, t)) upL_id) ?_
                              exact N.wk (by exact ⟨rfl, rfl, rfl, rfl, rfl, rfl, rfl, trivial⟩) (l2_X5_copy _ b _ v (mvE (wt e t) (cpM1 (e.2.2.1 p.toNatClampNeg) e.2.2.2.1 i m1)) _ _ p q i j n c21 (sh8 c21) _ a2 m1 ej en (by omega) _ (mp_ok (e := (e.1, e.2.1, upL e.2.2.1 q.toNatClampNeg (cpM2 (e.2.2.1 q.toNatClampNeg) (cpM1 (e.2.2.1 p.toNatClampNeg) e.2.2.2.1 i m1) j m1), cpM1 (e.2.2.1 p.toNatClampNeg) e.2.2.2.1 i m1, e.2.2.2.2)) ht (by rw [mcopy, if_neg c9, if_neg c21, if_neg c38, if_neg c48, if_neg c58, mcp2, if_neg c99, if_neg c108, if_neg c120, if_neg c124, if_neg c129, if_neg c140, if_neg c151, if_neg c164, if_pos c178, mcp3, hcl])) m1 0 (by omega))
                            · refine N.aload0 dX5_copy_181 ?_
                              refine N.bipush (v := -2) dX5_copy_182 (by decide) ?_
                              refine N.vi1 dX5_copy_184 vX5_refuse lkX5_89 (s_X5_refuse _ _ _ _ _ _ rfIn2) mO rfl (Nat.le_of_ble_eq_true rfl) (Nat.le_of_ble_eq_true rfl) (Nat.zero_le _) (Nat.zero_le _) ?_
                              rintro _ _ _ ⟨rfl, rfl, rfl⟩
                              exact N.iret dX5_copy_187 rfl (Nat.zero_le _) (Nat.zero_le _) ⟨_, rfl, (by rw [mcopy, if_neg c9, if_neg c21, if_neg c38, if_neg c48, if_neg c58, mcp2, if_neg c99, if_neg c108, if_neg c120, if_neg c124, if_neg c129, if_neg c140, if_neg c151, if_neg c164, if_neg c178]; exact rmf_ok ht)⟩
              · refine N.aload0 dX5_copy_111 ?_
                refine N.bipush (v := -4) dX5_copy_112 (by decide) ?_
                refine N.vi1 dX5_copy_114 vX5_refuse lkX5_89 (s_X5_refuse _ _ _ _ _ _ rfIn4) mO rfl (Nat.le_of_ble_eq_true rfl) (Nat.le_of_ble_eq_true rfl) (Nat.zero_le _) (Nat.zero_le _) ?_
                rintro _ _ _ ⟨rfl, rfl, rfl⟩
                exact N.iret dX5_copy_117 rfl (Nat.zero_le _) (Nat.zero_le _) ⟨_, rfl, (by rw [mcopy, if_neg c9, if_neg c21, if_neg c38, if_neg c48, if_neg c58, mcp2, if_neg c99, if_pos c108]; exact rmf_ok ht)⟩
          · refine N.aload0 dX5_copy_61 ?_
            refine N.getf dX5_copy_62 flX5_7 mO rfl ?_
            refine N.iload2 dX5_copy_65 ?_
            refine N.iald dX5_copy_66 mH0 (sh8v c21) ?_
            refine N.iconst (v := 1) dX5_copy_67 (by decide) ?_
            refine N.icmp_ne (tgt := 93) dX5_copy_68 (by decide) (fun c68 => ?_) (fun c68 => ?_)
            · refine N.aload0 dX5_copy_93 ?_
              refine N.getf dX5_copy_94 flX5_7 mO rfl ?_
              refine N.iload1 dX5_copy_97 ?_
              refine N.iald dX5_copy_98 mH0 (sh8v c9) ?_
              refine N.if_eq (tgt := 111) dX5_copy_99 (by decide) (fun c99 => ?_) (fun c99 => ?_)
              · refine N.aload0 dX5_copy_111 ?_
                refine N.bipush (v := -4) dX5_copy_112 (by decide) ?_
                refine N.vi1 dX5_copy_114 vX5_refuse lkX5_89 (s_X5_refuse _ _ _ _ _ _ rfIn4) mO rfl (Nat.le_of_ble_eq_true rfl) (Nat.le_of_ble_eq_true rfl) (Nat.zero_le _) (Nat.zero_le _) ?_
                rintro _ _ _ ⟨rfl, rfl, rfl⟩
                exact N.iret dX5_copy_117 rfl (Nat.zero_le _) (Nat.zero_le _) ⟨_, rfl, (by rw [mcopy, if_neg c9, if_neg c21, if_neg c38, if_neg c48, if_pos c58, if_neg c68, mcp2, if_pos c99]; exact rmf_ok ht)⟩
              · refine N.aload0 dX5_copy_102 ?_
                refine N.getf dX5_copy_103 flX5_7 mO rfl ?_
                refine N.iload2 dX5_copy_106 ?_
                refine N.iald dX5_copy_107 mH0 (sh8v c21) ?_
                refine N.if_ne (tgt := 118) dX5_copy_108 (by decide) (fun c108 => ?_) (fun c108 => ?_)
                · refine N.iload5 dX5_copy_118 ?_
                  refine N.if_lt (tgt := 181) dX5_copy_120 (by decide) (fun c120 => ?_) (fun c120 => ?_)
                  · refine N.aload0 dX5_copy_181 ?_
                    refine N.bipush (v := -2) dX5_copy_182 (by decide) ?_
                    refine N.vi1 dX5_copy_184 vX5_refuse lkX5_89 (s_X5_refuse _ _ _ _ _ _ rfIn2) mO rfl (Nat.le_of_ble_eq_true rfl) (Nat.le_of_ble_eq_true rfl) (Nat.zero_le _) (Nat.zero_le _) ?_
                    rintro _ _ _ ⟨rfl, rfl, rfl⟩
                    exact N.iret dX5_copy_187 rfl (Nat.zero_le _) (Nat.zero_le _) ⟨_, rfl, (by rw [mcopy, if_neg c9, if_neg c21, if_neg c38, if_neg c48, if_pos c58, if_neg c68, mcp2, if_neg c99, if_neg c108, if_pos c120]; exact rmf_ok ht)⟩
                  · refine N.iload3 dX5_copy_123 ?_
                    refine N.if_lt (tgt := 181) dX5_copy_124 (by decide) (fun c124 => ?_) (fun c124 => ?_)
                    · refine N.aload0 dX5_copy_181 ?_
                      refine N.bipush (v := -2) dX5_copy_182 (by decide) ?_
                      refine N.vi1 dX5_copy_184 vX5_refuse lkX5_89 (s_X5_refuse _ _ _ _ _ _ rfIn2) mO rfl (Nat.le_of_ble_eq_true rfl) (Nat.le_of_ble_eq_true rfl) (Nat.zero_le _) (Nat.zero_le _) ?_
                      rintro _ _ _ ⟨rfl, rfl, rfl⟩
                      exact N.iret dX5_copy_187 rfl (Nat.zero_le _) (Nat.zero_le _) ⟨_, rfl, (by rw [mcopy, if_neg c9, if_neg c21, if_neg c38, if_neg c48, if_pos c58, if_neg c68, mcp2, if_neg c99, if_neg c108, if_neg c120, if_pos c124]; exact rmf_ok ht)⟩
                    · refine N.iload4 dX5_copy_127 ?_
                      refine N.if_lt (tgt := 181) dX5_copy_129 (by decide) (fun c129 => ?_) (fun c129 => ?_)
                      · refine N.aload0 dX5_copy_181 ?_
                        refine N.bipush (v := -2) dX5_copy_182 (by decide) ?_
                        refine N.vi1 dX5_copy_184 vX5_refuse lkX5_89 (s_X5_refuse _ _ _ _ _ _ rfIn2) mO rfl (Nat.le_of_ble_eq_true rfl) (Nat.le_of_ble_eq_true rfl) (Nat.zero_le _) (Nat.zero_le _) ?_
                        rintro _ _ _ ⟨rfl, rfl, rfl⟩
                        exact N.iret dX5_copy_187 rfl (Nat.zero_le _) (Nat.zero_le _) ⟨_, rfl, (by rw [mcopy, if_neg c9, if_neg c21, if_neg c38, if_neg c48, if_pos c58, if_neg c68, mcp2, if_neg c99, if_neg c108, if_neg c120, if_neg c124, if_pos c129]; exact rmf_ok ht)⟩
                      · refine N.iload5 dX5_copy_132 ?_
                        refine N.aload0 dX5_copy_134 ?_
                        refine N.getf dX5_copy_135 flX5_16 mO rfl ?_
                        refine N.iload1 dX5_copy_138 ?_
                        refine N.iald dX5_copy_139 mH2 (sh8v c9) ?_
                        refine N.icmp_gt (tgt := 181) dX5_copy_140 (by decide) (fun c140 => ?_) (fun c140 => ?_)
                        · refine N.aload0 dX5_copy_181 ?_
                          refine N.bipush (v := -2) dX5_copy_182 (by decide) ?_
                          refine N.vi1 dX5_copy_184 vX5_refuse lkX5_89 (s_X5_refuse _ _ _ _ _ _ rfIn2) mO rfl (Nat.le_of_ble_eq_true rfl) (Nat.le_of_ble_eq_true rfl) (Nat.zero_le _) (Nat.zero_le _) ?_
                          rintro _ _ _ ⟨rfl, rfl, rfl⟩
                          exact N.iret dX5_copy_187 rfl (Nat.zero_le _) (Nat.zero_le _) ⟨_, rfl, (by rw [mcopy, if_neg c9, if_neg c21, if_neg c38, if_neg c48, if_pos c58, if_neg c68, mcp2, if_neg c99, if_neg c108, if_neg c120, if_neg c124, if_neg c129, if_pos c140]; exact rmf_ok ht)⟩
                        · refine N.iload5 dX5_copy_143 ?_
                          refine N.aload0 dX5_copy_145 ?_
                          refine N.getf dX5_copy_146 flX5_16 mO rfl ?_
                          refine N.iload2 dX5_copy_149 ?_
                          refine N.iald dX5_copy_150 mH2 (sh8v c21) ?_
                          refine N.icmp_gt (tgt := 181) dX5_copy_151 (by decide) (fun c151 => ?_) (fun c151 => ?_)
                          · refine N.aload0 dX5_copy_181 ?_
                            refine N.bipush (v := -2) dX5_copy_182 (by decide) ?_
                            refine N.vi1 dX5_copy_184 vX5_refuse lkX5_89 (s_X5_refuse _ _ _ _ _ _ rfIn2) mO rfl (Nat.le_of_ble_eq_true rfl) (Nat.le_of_ble_eq_true rfl) (Nat.zero_le _) (Nat.zero_le _) ?_
                            rintro _ _ _ ⟨rfl, rfl, rfl⟩
                            exact N.iret dX5_copy_187 rfl (Nat.zero_le _) (Nat.zero_le _) ⟨_, rfl, (by rw [mcopy, if_neg c9, if_neg c21, if_neg c38, if_neg c48, if_pos c58, if_neg c68, mcp2, if_neg c99, if_neg c108, if_neg c120, if_neg c124, if_neg c129, if_neg c140, if_pos c151]; exact rmf_ok ht)⟩
                          · refine N.iload3 dX5_copy_154 ?_
                            refine N.aload0 dX5_copy_155 ?_
                            refine N.getf dX5_copy_156 flX5_16 mO rfl ?_
                            refine N.iload1 dX5_copy_159 ?_
                            refine N.iald dX5_copy_160 mH2 (sh8v c9) ?_
                            refine N.iload5 dX5_copy_161 ?_
                            refine N.isub dX5_copy_163 ?_
                            refine N.icmp_gt (tgt := 181) dX5_copy_164 (by decide) (fun c164 => ?_) (fun c164 => ?_)
                            · refine N.aload0 dX5_copy_181 ?_
                              refine N.bipush (v := -2) dX5_copy_182 (by decide) ?_
                              refine N.vi1 dX5_copy_184 vX5_refuse lkX5_89 (s_X5_refuse _ _ _ _ _ _ rfIn2) mO rfl (Nat.le_of_ble_eq_true rfl) (Nat.le_of_ble_eq_true rfl) (Nat.zero_le _) (Nat.zero_le _) ?_
                              rintro _ _ _ ⟨rfl, rfl, rfl⟩
                              exact N.iret dX5_copy_187 rfl (Nat.zero_le _) (Nat.zero_le _) ⟨_, rfl, (by rw [mcopy, if_neg c9, if_neg c21, if_neg c38, if_neg c48, if_pos c58, if_neg c68, mcp2, if_neg c99, if_neg c108, if_neg c120, if_neg c124, if_neg c129, if_neg c140, if_neg c151, if_pos c164]; exact rmf_ok ht)⟩
                            · refine N.iload4 dX5_copy_167 ?_
                              refine N.aload0 dX5_copy_169 ?_
                              refine N.getf dX5_copy_170 flX5_16 mO rfl ?_
                              refine N.iload2 dX5_copy_173 ?_
                              refine N.iald dX5_copy_174 mH2 (sh8v c21) ?_
                              refine N.iload5 dX5_copy_175 ?_
                              refine N.isub dX5_copy_177 ?_
                              refine N.icmp_le (tgt := 188) dX5_copy_178 (by decide) (fun c178 => ?_) (fun c178 => ?_)
                              · refine N.iconst (v := 0) dX5_copy_188 (by decide) ?_
                                refine N.istore6 dX5_copy_189 rfl ?_
                                obtain ⟨Z1, hZ1, ez1⟩ := hM.2.1 _ (sh8 c9)
                                obtain ⟨Z2, hZ2, ez2⟩ := hM.2.1 _ (sh8 c21)
                                obtain ⟨a1, m1, ei, en, hle1⟩ := cp_nat ez1 hZ1 c120 c124 c140 c164
                                obtain ⟨a2, m2, ej, en2, hle2⟩ := cp_nat ez2 hZ2 c120 c129 c151 (Int32.not_lt.mpr c178)
                                have hcl : n.toNatClampNeg = m1 := by rw [en, nI_clamp (by omega)]
                                have hcl2 : n.toNatClampNeg = m2 := by rw [en2, nI_clamp (by omega)]
                                obtain rfl : m1 = m2 := hcl.symm.trans hcl2
                                refine N.wk (by exact ⟨rfl, rfl, rfl, rfl, rfl, rfl, rfl, trivial⟩) (l1_X5_copy _ b _ v (wt e t) _ _ p q i j n c9 (sh8 c9) a1 m1 ei en (by omega) _ ?_ m1 0 (by omega))
                                refine N.iconst (v := 0) dX5_copy_222 (by decide) ?_
                                refine N.istore6 dX5_copy_223 rfl ?_
                                refine N.eqW (w' := putM K (tw K w t z) b (v, rwE (mvE (wt e t) (cpM1 (e.2.2.1 p.toNatClampNeg) e.2.2.2.1 i m1)) q.toNatClampNeg (e.2.2.1 q.toNatClampNeg))) (congrArg (fun q_ => putM K (tw K w t z) b (v, e.1, e.2.1, q_, cpM1 (e.2.2.1 p.toNatClampNeg) e.2.2.2.1 i m1, e.2.2.2.2, t)) upL_id) ?_
                                exact N.wk (by exact ⟨rfl, rfl, rfl, rfl, rfl, rfl, rfl, trivial⟩) (l2_X5_copy _ b _ v (mvE (wt e t) (cpM1 (e.2.2.1 p.toNatClampNeg) e.2.2.2.1 i m1)) _ _ p q i j n c21 (sh8 c21) _ a2 m1 ej en (by omega) _ (mp_ok (e := (e.1, e.2.1, upL e.2.2.1 q.toNatClampNeg (cpM2 (e.2.2.1 q.toNatClampNeg) (cpM1 (e.2.2.1 p.toNatClampNeg) e.2.2.2.1 i m1) j m1), cpM1 (e.2.2.1 p.toNatClampNeg) e.2.2.2.1 i m1, e.2.2.2.2)) ht (by rw [mcopy, if_neg c9, if_neg c21, if_neg c38, if_neg c48, if_pos c58, if_neg c68, mcp2, if_neg c99, if_neg c108, if_neg c120, if_neg c124, if_neg c129, if_neg c140, if_neg c151, if_neg c164, if_pos c178, mcp3, hcl])) m1 0 (by omega))
                              · refine N.aload0 dX5_copy_181 ?_
                                refine N.bipush (v := -2) dX5_copy_182 (by decide) ?_
                                refine N.vi1 dX5_copy_184 vX5_refuse lkX5_89 (s_X5_refuse _ _ _ _ _ _ rfIn2) mO rfl (Nat.le_of_ble_eq_true rfl) (Nat.le_of_ble_eq_true rfl) (Nat.zero_le _) (Nat.zero_le _) ?_
                                rintro _ _ _ ⟨rfl, rfl, rfl⟩
                                exact N.iret dX5_copy_187 rfl (Nat.zero_le _) (Nat.zero_le _) ⟨_, rfl, (by rw [mcopy, if_neg c9, if_neg c21, if_neg c38, if_neg c48, if_pos c58, if_neg c68, mcp2, if_neg c99, if_neg c108, if_neg c120, if_neg c124, if_neg c129, if_neg c140, if_neg c151, if_neg c164, if_neg c178]; exact rmf_ok ht)⟩
                · refine N.aload0 dX5_copy_111 ?_
                  refine N.bipush (v := -4) dX5_copy_112 (by decide) ?_
                  refine N.vi1 dX5_copy_114 vX5_refuse lkX5_89 (s_X5_refuse _ _ _ _ _ _ rfIn4) mO rfl (Nat.le_of_ble_eq_true rfl) (Nat.le_of_ble_eq_true rfl) (Nat.zero_le _) (Nat.zero_le _) ?_
                  rintro _ _ _ ⟨rfl, rfl, rfl⟩
                  exact N.iret dX5_copy_117 rfl (Nat.zero_le _) (Nat.zero_le _) ⟨_, rfl, (by rw [mcopy, if_neg c9, if_neg c21, if_neg c38, if_neg c48, if_pos c58, if_neg c68, mcp2, if_neg c99, if_pos c108]; exact rmf_ok ht)⟩
            · refine N.aload0 dX5_copy_71 ?_
              refine N.getf dX5_copy_72 flX5_13 mO rfl ?_
              refine N.iload1 dX5_copy_75 ?_
              refine N.iald dX5_copy_76 mH1 (sh8v c9) ?_
              refine N.aload0 dX5_copy_77 ?_
              refine N.getf dX5_copy_78 flX5_13 mO rfl ?_
              refine N.iload2 dX5_copy_81 ?_
              refine N.iald dX5_copy_82 mH1 (sh8v c21) ?_
              refine N.icmp_eq (tgt := 93) dX5_copy_83 (by decide) (fun c83 => ?_) (fun c83 => ?_)
              · refine N.aload0 dX5_copy_93 ?_
                refine N.getf dX5_copy_94 flX5_7 mO rfl ?_
                refine N.iload1 dX5_copy_97 ?_
                refine N.iald dX5_copy_98 mH0 (sh8v c9) ?_
                refine N.if_eq (tgt := 111) dX5_copy_99 (by decide) (fun c99 => ?_) (fun c99 => ?_)
                · refine N.aload0 dX5_copy_111 ?_
                  refine N.bipush (v := -4) dX5_copy_112 (by decide) ?_
                  refine N.vi1 dX5_copy_114 vX5_refuse lkX5_89 (s_X5_refuse _ _ _ _ _ _ rfIn4) mO rfl (Nat.le_of_ble_eq_true rfl) (Nat.le_of_ble_eq_true rfl) (Nat.zero_le _) (Nat.zero_le _) ?_
                  rintro _ _ _ ⟨rfl, rfl, rfl⟩
                  exact N.iret dX5_copy_117 rfl (Nat.zero_le _) (Nat.zero_le _) ⟨_, rfl, (by rw [mcopy, if_neg c9, if_neg c21, if_neg c38, if_neg c48, if_pos c58, if_pos c68, if_pos c83, mcp2, if_pos c99]; exact rmf_ok ht)⟩
                · refine N.aload0 dX5_copy_102 ?_
                  refine N.getf dX5_copy_103 flX5_7 mO rfl ?_
                  refine N.iload2 dX5_copy_106 ?_
                  refine N.iald dX5_copy_107 mH0 (sh8v c21) ?_
                  refine N.if_ne (tgt := 118) dX5_copy_108 (by decide) (fun c108 => ?_) (fun c108 => ?_)
                  · refine N.iload5 dX5_copy_118 ?_
                    refine N.if_lt (tgt := 181) dX5_copy_120 (by decide) (fun c120 => ?_) (fun c120 => ?_)
                    · refine N.aload0 dX5_copy_181 ?_
                      refine N.bipush (v := -2) dX5_copy_182 (by decide) ?_
                      refine N.vi1 dX5_copy_184 vX5_refuse lkX5_89 (s_X5_refuse _ _ _ _ _ _ rfIn2) mO rfl (Nat.le_of_ble_eq_true rfl) (Nat.le_of_ble_eq_true rfl) (Nat.zero_le _) (Nat.zero_le _) ?_
                      rintro _ _ _ ⟨rfl, rfl, rfl⟩
                      exact N.iret dX5_copy_187 rfl (Nat.zero_le _) (Nat.zero_le _) ⟨_, rfl, (by rw [mcopy, if_neg c9, if_neg c21, if_neg c38, if_neg c48, if_pos c58, if_pos c68, if_pos c83, mcp2, if_neg c99, if_neg c108, if_pos c120]; exact rmf_ok ht)⟩
                    · refine N.iload3 dX5_copy_123 ?_
                      refine N.if_lt (tgt := 181) dX5_copy_124 (by decide) (fun c124 => ?_) (fun c124 => ?_)
                      · refine N.aload0 dX5_copy_181 ?_
                        refine N.bipush (v := -2) dX5_copy_182 (by decide) ?_
                        refine N.vi1 dX5_copy_184 vX5_refuse lkX5_89 (s_X5_refuse _ _ _ _ _ _ rfIn2) mO rfl (Nat.le_of_ble_eq_true rfl) (Nat.le_of_ble_eq_true rfl) (Nat.zero_le _) (Nat.zero_le _) ?_
                        rintro _ _ _ ⟨rfl, rfl, rfl⟩
                        exact N.iret dX5_copy_187 rfl (Nat.zero_le _) (Nat.zero_le _) ⟨_, rfl, (by rw [mcopy, if_neg c9, if_neg c21, if_neg c38, if_neg c48, if_pos c58, if_pos c68, if_pos c83, mcp2, if_neg c99, if_neg c108, if_neg c120, if_pos c124]; exact rmf_ok ht)⟩
                      · refine N.iload4 dX5_copy_127 ?_
                        refine N.if_lt (tgt := 181) dX5_copy_129 (by decide) (fun c129 => ?_) (fun c129 => ?_)
                        · refine N.aload0 dX5_copy_181 ?_
                          refine N.bipush (v := -2) dX5_copy_182 (by decide) ?_
                          refine N.vi1 dX5_copy_184 vX5_refuse lkX5_89 (s_X5_refuse _ _ _ _ _ _ rfIn2) mO rfl (Nat.le_of_ble_eq_true rfl) (Nat.le_of_ble_eq_true rfl) (Nat.zero_le _) (Nat.zero_le _) ?_
                          rintro _ _ _ ⟨rfl, rfl, rfl⟩
                          exact N.iret dX5_copy_187 rfl (Nat.zero_le _) (Nat.zero_le _) ⟨_, rfl, (by rw [mcopy, if_neg c9, if_neg c21, if_neg c38, if_neg c48, if_pos c58, if_pos c68, if_pos c83, mcp2, if_neg c99, if_neg c108, if_neg c120, if_neg c124, if_pos c129]; exact rmf_ok ht)⟩
                        · refine N.iload5 dX5_copy_132 ?_
                          refine N.aload0 dX5_copy_134 ?_
                          refine N.getf dX5_copy_135 flX5_16 mO rfl ?_
                          refine N.iload1 dX5_copy_138 ?_
                          refine N.iald dX5_copy_139 mH2 (sh8v c9) ?_
                          refine N.icmp_gt (tgt := 181) dX5_copy_140 (by decide) (fun c140 => ?_) (fun c140 => ?_)
                          · refine N.aload0 dX5_copy_181 ?_
                            refine N.bipush (v := -2) dX5_copy_182 (by decide) ?_
                            refine N.vi1 dX5_copy_184 vX5_refuse lkX5_89 (s_X5_refuse _ _ _ _ _ _ rfIn2) mO rfl (Nat.le_of_ble_eq_true rfl) (Nat.le_of_ble_eq_true rfl) (Nat.zero_le _) (Nat.zero_le _) ?_
                            rintro _ _ _ ⟨rfl, rfl, rfl⟩
                            exact N.iret dX5_copy_187 rfl (Nat.zero_le _) (Nat.zero_le _) ⟨_, rfl, (by rw [mcopy, if_neg c9, if_neg c21, if_neg c38, if_neg c48, if_pos c58, if_pos c68, if_pos c83, mcp2, if_neg c99, if_neg c108, if_neg c120, if_neg c124, if_neg c129, if_pos c140]; exact rmf_ok ht)⟩
                          · refine N.iload5 dX5_copy_143 ?_
                            refine N.aload0 dX5_copy_145 ?_
                            refine N.getf dX5_copy_146 flX5_16 mO rfl ?_
                            refine N.iload2 dX5_copy_149 ?_
                            refine N.iald dX5_copy_150 mH2 (sh8v c21) ?_
                            refine N.icmp_gt (tgt := 181) dX5_copy_151 (by decide) (fun c151 => ?_) (fun c151 => ?_)
                            · refine N.aload0 dX5_copy_181 ?_
                              refine N.bipush (v := -2) dX5_copy_182 (by decide) ?_
                              refine N.vi1 dX5_copy_184 vX5_refuse lkX5_89 (s_X5_refuse _ _ _ _ _ _ rfIn2) mO rfl (Nat.le_of_ble_eq_true rfl) (Nat.le_of_ble_eq_true rfl) (Nat.zero_le _) (Nat.zero_le _) ?_
                              rintro _ _ _ ⟨rfl, rfl, rfl⟩
                              exact N.iret dX5_copy_187 rfl (Nat.zero_le _) (Nat.zero_le _) ⟨_, rfl, (by rw [mcopy, if_neg c9, if_neg c21, if_neg c38, if_neg c48, if_pos c58, if_pos c68, if_pos c83, mcp2, if_neg c99, if_neg c108, if_neg c120, if_neg c124, if_neg c129, if_neg c140, if_pos c151]; exact rmf_ok ht)⟩
                            · refine N.iload3 dX5_copy_154 ?_
                              refine N.aload0 dX5_copy_155 ?_
                              refine N.getf dX5_copy_156 flX5_16 mO rfl ?_
                              refine N.iload1 dX5_copy_159 ?_
                              refine N.iald dX5_copy_160 mH2 (sh8v c9) ?_
                              refine N.iload5 dX5_copy_161 ?_
                              refine N.isub dX5_copy_163 ?_
                              refine N.icmp_gt (tgt := 181) dX5_copy_164 (by decide) (fun c164 => ?_) (fun c164 => ?_)
                              · refine N.aload0 dX5_copy_181 ?_
                                refine N.bipush (v := -2) dX5_copy_182 (by decide) ?_
                                refine N.vi1 dX5_copy_184 vX5_refuse lkX5_89 (s_X5_refuse _ _ _ _ _ _ rfIn2) mO rfl (Nat.le_of_ble_eq_true rfl) (Nat.le_of_ble_eq_true rfl) (Nat.zero_le _) (Nat.zero_le _) ?_
                                rintro _ _ _ ⟨rfl, rfl, rfl⟩
                                exact N.iret dX5_copy_187 rfl (Nat.zero_le _) (Nat.zero_le _) ⟨_, rfl, (by rw [mcopy, if_neg c9, if_neg c21, if_neg c38, if_neg c48, if_pos c58, if_pos c68, if_pos c83, mcp2, if_neg c99, if_neg c108, if_neg c120, if_neg c124, if_neg c129, if_neg c140, if_neg c151, if_pos c164]; exact rmf_ok ht)⟩
                              · refine N.iload4 dX5_copy_167 ?_
                                refine N.aload0 dX5_copy_169 ?_
                                refine N.getf dX5_copy_170 flX5_16 mO rfl ?_
                                refine N.iload2 dX5_copy_173 ?_
                                refine N.iald dX5_copy_174 mH2 (sh8v c21) ?_
                                refine N.iload5 dX5_copy_175 ?_
                                refine N.isub dX5_copy_177 ?_
                                refine N.icmp_le (tgt := 188) dX5_copy_178 (by decide) (fun c178 => ?_) (fun c178 => ?_)
                                · refine N.iconst (v := 0) dX5_copy_188 (by decide) ?_
                                  refine N.istore6 dX5_copy_189 rfl ?_
                                  obtain ⟨Z1, hZ1, ez1⟩ := hM.2.1 _ (sh8 c9)
                                  obtain ⟨Z2, hZ2, ez2⟩ := hM.2.1 _ (sh8 c21)
                                  obtain ⟨a1, m1, ei, en, hle1⟩ := cp_nat ez1 hZ1 c120 c124 c140 c164
                                  obtain ⟨a2, m2, ej, en2, hle2⟩ := cp_nat ez2 hZ2 c120 c129 c151 (Int32.not_lt.mpr c178)
                                  have hcl : n.toNatClampNeg = m1 := by rw [en, nI_clamp (by omega)]
                                  have hcl2 : n.toNatClampNeg = m2 := by rw [en2, nI_clamp (by omega)]
                                  obtain rfl : m1 = m2 := hcl.symm.trans hcl2
                                  refine N.wk (by exact ⟨rfl, rfl, rfl, rfl, rfl, rfl, rfl, trivial⟩) (l1_X5_copy _ b _ v (wt e t) _ _ p q i j n c9 (sh8 c9) a1 m1 ei en (by omega) _ ?_ m1 0 (by omega))
                                  refine N.iconst (v := 0) dX5_copy_222 (by decide) ?_
                                  refine N.istore6 dX5_copy_223 rfl ?_
                                  refine N.eqW (w' := putM K (tw K w t z) b (v, rwE (mvE (wt e t) (cpM1 (e.2.2.1 p.toNatClampNeg) e.2.2.2.1 i m1)) q.toNatClampNeg (e.2.2.1 q.toNatClampNeg))) (congrArg (fun q_ => putM K (tw K w t z) b (v, e.1, e.2.1, q_, cpM1 (e.2.2.1 p.toNatClampNeg) e.2.2.2.1 i m1, e.2.2.2.2, t)) upL_id) ?_
                                  exact N.wk (by exact ⟨rfl, rfl, rfl, rfl, rfl, rfl, rfl, trivial⟩) (l2_X5_copy _ b _ v (mvE (wt e t) (cpM1 (e.2.2.1 p.toNatClampNeg) e.2.2.2.1 i m1)) _ _ p q i j n c21 (sh8 c21) _ a2 m1 ej en (by omega) _ (mp_ok (e := (e.1, e.2.1, upL e.2.2.1 q.toNatClampNeg (cpM2 (e.2.2.1 q.toNatClampNeg) (cpM1 (e.2.2.1 p.toNatClampNeg) e.2.2.2.1 i m1) j m1), cpM1 (e.2.2.1 p.toNatClampNeg) e.2.2.2.1 i m1, e.2.2.2.2)) ht (by rw [mcopy, if_neg c9, if_neg c21, if_neg c38, if_neg c48, if_pos c58, if_pos c68, if_pos c83, mcp2, if_neg c99, if_neg c108, if_neg c120, if_neg c124, if_neg c129, if_neg c140, if_neg c151, if_neg c164, if_pos c178, mcp3, hcl])) m1 0 (by omega))
                                · refine N.aload0 dX5_copy_181 ?_
                                  refine N.bipush (v := -2) dX5_copy_182 (by decide) ?_
                                  refine N.vi1 dX5_copy_184 vX5_refuse lkX5_89 (s_X5_refuse _ _ _ _ _ _ rfIn2) mO rfl (Nat.le_of_ble_eq_true rfl) (Nat.le_of_ble_eq_true rfl) (Nat.zero_le _) (Nat.zero_le _) ?_
                                  rintro _ _ _ ⟨rfl, rfl, rfl⟩
                                  exact N.iret dX5_copy_187 rfl (Nat.zero_le _) (Nat.zero_le _) ⟨_, rfl, (by rw [mcopy, if_neg c9, if_neg c21, if_neg c38, if_neg c48, if_pos c58, if_pos c68, if_pos c83, mcp2, if_neg c99, if_neg c108, if_neg c120, if_neg c124, if_neg c129, if_neg c140, if_neg c151, if_neg c164, if_neg c178]; exact rmf_ok ht)⟩
                  · refine N.aload0 dX5_copy_111 ?_
                    refine N.bipush (v := -4) dX5_copy_112 (by decide) ?_
                    refine N.vi1 dX5_copy_114 vX5_refuse lkX5_89 (s_X5_refuse _ _ _ _ _ _ rfIn4) mO rfl (Nat.le_of_ble_eq_true rfl) (Nat.le_of_ble_eq_true rfl) (Nat.zero_le _) (Nat.zero_le _) ?_
                    rintro _ _ _ ⟨rfl, rfl, rfl⟩
                    exact N.iret dX5_copy_117 rfl (Nat.zero_le _) (Nat.zero_le _) ⟨_, rfl, (by rw [mcopy, if_neg c9, if_neg c21, if_neg c38, if_neg c48, if_pos c58, if_pos c68, if_pos c83, mcp2, if_neg c99, if_pos c108]; exact rmf_ok ht)⟩
              · refine N.aload0 dX5_copy_86 ?_
                refine N.bipush (v := -3) dX5_copy_87 (by decide) ?_
                refine N.vi1 dX5_copy_89 vX5_refuse lkX5_89 (s_X5_refuse _ _ _ _ _ _ rfIn3) mO rfl (Nat.le_of_ble_eq_true rfl) (Nat.le_of_ble_eq_true rfl) (Nat.zero_le _) (Nat.zero_le _) ?_
                rintro _ _ _ ⟨rfl, rfl, rfl⟩
                exact N.iret dX5_copy_92 rfl (Nat.zero_le _) (Nat.zero_le _) ⟨_, rfl, (by rw [mcopy, if_neg c9, if_neg c21, if_neg c38, if_neg c48, if_pos c58, if_pos c68, if_neg c83]; exact rmf_ok ht)⟩
    · refine N.aload0 dX5_copy_24 ?_
      refine N.bipush (v := -2) dX5_copy_25 (by decide) ?_
      refine N.vi1 dX5_copy_27 vX5_refuse lkX5_89 (s_X5_refuse _ _ _ _ _ _ rfIn2) mO rfl (Nat.le_of_ble_eq_true rfl) (Nat.le_of_ble_eq_true rfl) (Nat.zero_le _) (Nat.zero_le _) ?_
      rintro _ _ _ ⟨rfl, rfl, rfl⟩
      exact N.iret dX5_copy_30 rfl (Nat.zero_le _) (Nat.zero_le _) ⟨_, rfl, (by rw [mcopy, if_neg c9, if_pos c21]; exact rmf_ok ht)⟩
def thG (v : CV) (n : Int32) (k : Nat) : Int32 := goG (setS v 4 (nI k)) n
def thTo (v : CV) (n : Int32) : Nat → Int32 × Int32
  | 0 => (0, 0)
  | k + 1 => if nI k = 0 then (nI k, thG v n k) else if thG v n k ≤ (thTo v n k).2 then thTo v n k else (nI k, thG v n k)
set_option maxRecDepth 100000 in
theorem l_X5_third {K : Kx} (w : Wd) (b sz0 : Nat) (v : CV) (e : M5) (mc ms : Nat) (n : Int32) (h : okP v) (m : Nat) (hm : m ≤ 600) (hn : n = nI m) (P : Int32 → Wd → Nat → Prop) (hP : ∀ t z sz, tOk G b sz t → sz0 ≤ sz → P ((thTo v n 3).1) (putM K (tw K w t z) b (v, wt e t)) sz) : ∀ nn k (t : Option Nat) (z : MX) (sz cc ss : Nat), k + nn = 3 → tOk G b sz t → sz0 ≤ sz → cc + kc t ≤ mc → ss + ks t ≤ ms → N K mX5_third 9 mc ms (Qi P) 26 [some (.ref b), some (.int n), some (.int (thTo v n k).1), some (.int (thTo v n k).2), some (.int (nI k)), none, none] [] (putM K (tw K w t z) b (v, wt e t)) sz cc ss := by
  intro nn
  induction nn with
  | zero =>
    intro k t z sz cc ss hk ht hz0 hcc hss
    obtain rfl : k = 3 := by omega
    refine N.iload4 dX5_third_26 ?_
    refine N.iconst (v := 3) dX5_third_28 (by decide) ?_
    refine N.icmp_ge (tgt := 76) dX5_third_29 (by decide) (fun c29 => ?_) (fun c29 => absurd (by decide) c29)
    refine N.iload2 dX5_third_76 ?_
    exact N.iret dX5_third_77 rfl (by omega) (by omega) ⟨_, rfl, (hP _ _ _ ht hz0)⟩
  | succ nn ih =>
    intro k t z sz cc ss hk ht hz0 hcc hss
    refine N.iload4 dX5_third_26 ?_
    refine N.iconst (v := 3) dX5_third_28 (by decide) ?_
    refine N.icmp_ge (tgt := 76) dX5_third_29 (by decide) (fun c29 => absurd c29 (nI_ge (a := k) (b := 3) (by omega) (by omega))) (fun c29 => ?_)
    refine N.aload0 dX5_third_32 ?_
    refine N.va0A dX5_third_33 vX5_fresh lkX5_248 (s_X5_fresh w b _ v e t z ht) mO rfl (Nat.le_of_ble_eq_true rfl) (Nat.le_of_ble_eq_true rfl) (by omega) (by omega) ?_
    rintro q _ sz2 ⟨z2, rfl, hd, hz⟩
    refine N.astore5 dX5_third_36 rfl ?_
    refine N.aload5 dX5_third_38 ?_
    refine N.iload4 dX5_third_40 ?_
    refine N.putf dX5_third_42 flX5_52 (tO hd) (Nat.le_of_ble_eq_true rfl) (fun _ h => by cases h; rfl) rfl rfl (tP4 hd) ?_
    refine N.aload5 dX5_third_45 ?_
    refine N.iload1 dX5_third_47 ?_
    refine N.vi1 dX5_third_48 vX5_goes lkX5_316 (Sp.mi hd fun W => s_X5_goes W _ _ _ _ _ (h.set (by decide) _) m hm hn) (tO hd) rfl (Nat.le_of_ble_eq_true rfl) (Nat.le_of_ble_eq_true rfl) (by omega) (by omega) ?_
    rintro _ _ _ ⟨rfl, rfl, rfl⟩
    refine N.eqS (show _ = [Value.int (thG v n k)] from rfl) ?_
    generalize hg : thG v n k = g0
    refine N.istore6 dX5_third_51 rfl ?_
    refine N.iload4 dX5_third_53 ?_
    refine N.if_eq (tgt := 64) dX5_third_55 (by decide) (fun c55 => ?_) (fun c55 => ?_)
    · refine N.iload4 dX5_third_64 ?_
      refine N.istore2 dX5_third_66 rfl ?_
      refine N.iload6 dX5_third_67 ?_
      refine N.istore3 dX5_third_69 rfl ?_
      refine N.iinc4 dX5_third_70 rfl (nI_inc _) ?_
      refine N.goto (tgt := 26) dX5_third_73 (by decide) ?_
      exact N.wk (by rw [thTo, hg, if_pos c55]; exact ⟨rfl, rfl, rfl, rfl, rfl, trivial⟩) (ih (k + 1) (some q) _ _ _ _ (by omega) (tOk_s ht hz hd) (Nat.le_trans hz0 hz) (by rw [kc_s]; omega) (by rw [ks_s]; omega))
    · refine N.iload6 dX5_third_58 ?_
      refine N.iload3 dX5_third_60 ?_
      refine N.icmp_le (tgt := 70) dX5_third_61 (by decide) (fun c61 => ?_) (fun c61 => ?_)
      · refine N.iinc4 dX5_third_70 rfl (nI_inc _) ?_
        refine N.goto (tgt := 26) dX5_third_73 (by decide) ?_
        exact N.wk (by rw [thTo, hg, if_neg c55, if_pos c61]; exact ⟨rfl, rfl, rfl, rfl, rfl, trivial⟩) (ih (k + 1) (some q) _ _ _ _ (by omega) (tOk_s ht hz hd) (Nat.le_trans hz0 hz) (by rw [kc_s]; omega) (by rw [ks_s]; omega))
      · refine N.iload4 dX5_third_64 ?_
        refine N.istore2 dX5_third_66 rfl ?_
        refine N.iload6 dX5_third_67 ?_
        refine N.istore3 dX5_third_69 rfl ?_
        refine N.iinc4 dX5_third_70 rfl (nI_inc _) ?_
        refine N.goto (tgt := 26) dX5_third_73 (by decide) ?_
        exact N.wk (by rw [thTo, hg, if_neg c55, if_neg c61]; exact ⟨rfl, rfl, rfl, rfl, rfl, trivial⟩) (ih (k + 1) (some q) _ _ _ _ (by omega) (tOk_s ht hz hd) (Nat.le_trans hz0 hz) (by rw [kc_s]; omega) (by rw [ks_s]; omega))
def mthird (m : Mst) (n : Int32) : Int32 × Mst := if isInF n 0 600 = 0 then rm m (-2) else ((thTo m.1 n 3).1, m)
set_option maxRecDepth 100000 in
theorem s_X5_third {K : Kx} (w : Wd) (b sz : Nat) (v : CV) (e : M5) (t : Option Nat) (z : MX) (n : Int32) (ht : tOk G b sz t) (hM : okM (v, e)) : Sp K mX5_third 9 (kc t) (ks t) [.ref b, .int n] (putM K (tw K w t z) b (v, wt e t)) sz (Qi fun r w' sz' => r = (mthird (v, e) n).1 ∧ ∃ t' z', w' = putM K (tw K w t' z') b ((mthird (v, e) n).2.1, wt (mthird (v, e) n).2.2 t') ∧ tOk G b sz' t' ∧ sz ≤ sz') := by
  refine Sp.ofN [some (.ref b), some (.int n), none, none, none, none, none] rfl rfl rfl (Nat.le_of_ble_eq_true rfl) ?_
  have h : okP v := hM.1
  refine N.iload1 dX5_third_0 ?_
  refine N.i2l dX5_third_1 ?_
  refine N.lconst (v := 0) dX5_third_2 (by decide) ?_
  refine N.ldc2 dX5_third_3 ctX5_314 ?_
  refine N.si3 dX5_third_6 vX5_in lkX5_77 (s_X5_in _ _ _ _ _) rfl (Nat.le_of_ble_eq_true rfl) (Nat.le_of_ble_eq_true rfl) (by omega) (by omega) ?_
  rintro r1 _ _ ⟨er, rfl, rfl⟩
  obtain rfl := er.trans (inL_i (a := (0)) (b := (600)) rfl rfl)
  refine N.if_ne (tgt := 19) dX5_third_9 (by decide) (fun c9 => ?_) (fun c9 => ?_)
  · obtain ⟨m, hm, hn⟩ := in_n (N' := 600) (by decide) c9
    refine N.iconst (v := 0) dX5_third_19 (by decide) ?_
    refine N.istore2 dX5_third_20 rfl ?_
    refine N.iconst (v := 0) dX5_third_21 (by decide) ?_
    refine N.istore3 dX5_third_22 rfl ?_
    refine N.iconst (v := 0) dX5_third_23 (by decide) ?_
    refine N.istore4 dX5_third_24 rfl ?_
    exact N.wk (by exact ⟨rfl, rfl, rfl, rfl, rfl, trivial⟩) (l_X5_third w b _ v e _ _ n h m hm hn _ (fun t2 z2 sz2 ht2 hz2 => md_ok ht2 hz2 (by rw [mthird, if_neg c9])) 3 0 t z _ _ _ (by omega) ht (Nat.le_refl _) (by omega) (by omega))
  · refine N.aload0 dX5_third_12 ?_
    refine N.bipush (v := -2) dX5_third_13 (by decide) ?_
    refine N.vi1 dX5_third_15 vX5_refuse lkX5_89 (s_X5_refuse _ _ _ _ _ _ rfIn2) mO rfl (Nat.le_of_ble_eq_true rfl) (Nat.le_of_ble_eq_true rfl) (by omega) (by omega) ?_
    rintro _ _ _ ⟨rfl, rfl, rfl⟩
    exact N.iret dX5_third_18 rfl (by omega) (by omega) ⟨_, rfl, (by rw [mthird, if_pos c9]; exact rmf_ok ht)⟩
def whTo (v : CV) (l n : Int32) : Nat → Int32 × Int32
  | 0 => (0, 0)
  | k + 1 => if nI k = 0 then (nI k, cgM v l n (nI k)) else if cgM v l n (nI k) ≤ (whTo v l n k).2 then whTo v l n k else (nI k, cgM v l n (nI k))
set_option maxRecDepth 100000 in
theorem l_X5_where {K : Kx} (w : Wd) (b sz0 : Nat) (v : CV) (e : M5) (mc ms : Nat) (l : Int32) (n : Int32) (h : okP v) (hl : vp_in l 4) (m : Nat) (hm : m ≤ 600) (hn : n = nI m) (P : Int32 → Wd → Nat → Prop) (hP : ∀ t z sz, tOk G b sz t → sz0 ≤ sz → P ((whTo v l n 3).1) (putM K (tw K w t z) b (v, wt e t)) sz) : ∀ nn k (t : Option Nat) (z : MX) (sz cc ss : Nat), k + nn = 3 → tOk G b sz t → sz0 ≤ sz → cc + kc t ≤ mc → ss + ks t ≤ ms → N K mX5_where 9 mc ms (Qi P) 51 [some (.ref b), some (.int l), some (.int n), some (.int (whTo v l n k).1), some (.int (whTo v l n k).2), some (.int (nI k)), none] [] (putM K (tw K w t z) b (v, wt e t)) sz cc ss := by
  intro nn
  induction nn with
  | zero =>
    intro k t z sz cc ss hk ht hz0 hcc hss
    obtain rfl : k = 3 := by omega
    refine N.iload5 dX5_where_51 ?_
    refine N.iconst (v := 3) dX5_where_53 (by decide) ?_
    refine N.icmp_ge (tgt := 92) dX5_where_54 (by decide) (fun c54 => ?_) (fun c54 => absurd (by decide) c54)
    refine N.iload3 dX5_where_92 ?_
    exact N.iret dX5_where_93 rfl (by omega) (by omega) ⟨_, rfl, (hP _ _ _ ht hz0)⟩
  | succ nn ih =>
    intro k t z sz cc ss hk ht hz0 hcc hss
    refine N.iload5 dX5_where_51 ?_
    refine N.iconst (v := 3) dX5_where_53 (by decide) ?_
    refine N.icmp_ge (tgt := 92) dX5_where_54 (by decide) (fun c54 => absurd c54 (nI_ge (a := k) (b := 3) (by omega) (by omega))) (fun c54 => ?_)
    refine N.aload0 dX5_where_57 ?_
    refine N.iload1 dX5_where_58 ?_
    refine N.iload2 dX5_where_59 ?_
    refine N.iload5 dX5_where_60 ?_
    refine N.vi3A dX5_where_62 vX5_changeIn lkX5_335 (s_X5_changeIn w b _ v e t z _ _ _ ht h hl m hm hn) mO rfl (Nat.le_of_ble_eq_true rfl) (Nat.le_of_ble_eq_true rfl) (by omega) (by omega) ?_
    rintro _ _ sz2 ⟨rfl, q, y, rfl, hd, hz⟩
    generalize hg : cgM v l n (nI k) = g0
    refine N.istore6 dX5_where_65 rfl ?_
    refine N.iload5 dX5_where_67 ?_
    refine N.if_eq (tgt := 79) dX5_where_69 (by decide) (fun c69 => ?_) (fun c69 => ?_)
    · refine N.iload5 dX5_where_79 ?_
      refine N.istore3 dX5_where_81 rfl ?_
      refine N.iload6 dX5_where_82 ?_
      refine N.istore4 dX5_where_84 rfl ?_
      refine N.iinc5 dX5_where_86 rfl (nI_inc _) ?_
      refine N.goto (tgt := 51) dX5_where_89 (by decide) ?_
      exact N.wk (by rw [whTo, hg, if_pos c69]; exact ⟨rfl, rfl, rfl, rfl, rfl, rfl, trivial⟩) (ih (k + 1) (some q) _ _ _ _ (by omega) (tOk_s ht hz hd) (Nat.le_trans hz0 hz) (by rw [kc_s]; omega) (by rw [ks_s]; omega))
    · refine N.iload6 dX5_where_72 ?_
      refine N.iload4 dX5_where_74 ?_
      refine N.icmp_le (tgt := 86) dX5_where_76 (by decide) (fun c76 => ?_) (fun c76 => ?_)
      · refine N.iinc5 dX5_where_86 rfl (nI_inc _) ?_
        refine N.goto (tgt := 51) dX5_where_89 (by decide) ?_
        exact N.wk (by rw [whTo, hg, if_neg c69, if_pos c76]; exact ⟨rfl, rfl, rfl, rfl, rfl, rfl, trivial⟩) (ih (k + 1) (some q) _ _ _ _ (by omega) (tOk_s ht hz hd) (Nat.le_trans hz0 hz) (by rw [kc_s]; omega) (by rw [ks_s]; omega))
      · refine N.iload5 dX5_where_79 ?_
        refine N.istore3 dX5_where_81 rfl ?_
        refine N.iload6 dX5_where_82 ?_
        refine N.istore4 dX5_where_84 rfl ?_
        refine N.iinc5 dX5_where_86 rfl (nI_inc _) ?_
        refine N.goto (tgt := 51) dX5_where_89 (by decide) ?_
        exact N.wk (by rw [whTo, hg, if_neg c69, if_neg c76]; exact ⟨rfl, rfl, rfl, rfl, rfl, rfl, trivial⟩) (ih (k + 1) (some q) _ _ _ _ (by omega) (tOk_s ht hz hd) (Nat.le_trans hz0 hz) (by rw [kc_s]; omega) (by rw [ks_s]; omega))
def mwhere (m : Mst) (l n : Int32) : Int32 × Mst := if isInF l 0 3 = 0 then rm m (-2) else if isInF n 0 600 = 0 then rm m (-2) else if m.1.2 4 l.toNatClampNeg = 0 then rm m (-5) else ((whTo m.1 l n 3).1, m)
set_option maxRecDepth 100000 in
theorem s_X5_where {K : Kx} (w : Wd) (b sz : Nat) (v : CV) (e : M5) (t : Option Nat) (z : MX) (l : Int32) (n : Int32) (ht : tOk G b sz t) (hM : okM (v, e)) : Sp K mX5_where 9 (kc t) (ks t) [.ref b, .int l, .int n] (putM K (tw K w t z) b (v, wt e t)) sz (Qi fun r w' sz' => r = (mwhere (v, e) l n).1 ∧ ∃ t' z', w' = putM K (tw K w t' z') b ((mwhere (v, e) l n).2.1, wt (mwhere (v, e) l n).2.2 t') ∧ tOk G b sz' t' ∧ sz ≤ sz') := by
  refine Sp.ofN [some (.ref b), some (.int l), some (.int n), none, none, none, none] rfl rfl rfl (Nat.le_of_ble_eq_true rfl) ?_
  have h : okP v := hM.1
  refine N.iload1 dX5_where_0 ?_
  refine N.i2l dX5_where_1 ?_
  refine N.si1 dX5_where_2 vX5_isLine lkX5_138 (s_X5_isLine _ _ _) rfl (Nat.le_of_ble_eq_true rfl) (Nat.le_of_ble_eq_true rfl) (by omega) (by omega) ?_
  rintro r1 _ _ ⟨er, rfl, rfl⟩
  obtain rfl := er.trans (inL_i (a := 0) (b := 3) rfl rfl)
  refine N.if_eq (tgt := 20) dX5_where_5 (by decide) (fun c5 => ?_) (fun c5 => ?_)
  · refine N.aload0 dX5_where_20 ?_
    refine N.bipush (v := -2) dX5_where_21 (by decide) ?_
    refine N.vi1 dX5_where_23 vX5_refuse lkX5_89 (s_X5_refuse _ _ _ _ _ _ rfIn2) mO rfl (Nat.le_of_ble_eq_true rfl) (Nat.le_of_ble_eq_true rfl) (by omega) (by omega) ?_
    rintro _ _ _ ⟨rfl, rfl, rfl⟩
    exact N.iret dX5_where_26 rfl (by omega) (by omega) ⟨_, rfl, (by rw [mwhere, if_pos c5]; exact rmf_ok ht)⟩
  · refine N.iload2 dX5_where_8 ?_
    refine N.i2l dX5_where_9 ?_
    refine N.lconst (v := 0) dX5_where_10 (by decide) ?_
    refine N.ldc2 dX5_where_11 ctX5_314 ?_
    refine N.si3 dX5_where_14 vX5_in lkX5_77 (s_X5_in _ _ _ _ _) rfl (Nat.le_of_ble_eq_true rfl) (Nat.le_of_ble_eq_true rfl) (by omega) (by omega) ?_
    rintro r1 _ _ ⟨er, rfl, rfl⟩
    obtain rfl := er.trans (inL_i (a := (0)) (b := (600)) rfl rfl)
    refine N.if_ne (tgt := 27) dX5_where_17 (by decide) (fun c17 => ?_) (fun c17 => ?_)
    · refine N.aload0 dX5_where_27 ?_
      refine N.getf dX5_where_28 flX5_49 mO rfl ?_
      refine N.iload1 dX5_where_31 ?_
      refine N.iald dX5_where_32 mA4 (ln_in c5) ?_
      refine N.if_ne (tgt := 43) dX5_where_33 (by decide) (fun c33 => ?_) (fun c33 => ?_)
      · obtain ⟨m, hm, hn⟩ := in_n (N' := 600) (by decide) c17
        refine N.iconst (v := 0) dX5_where_43 (by decide) ?_
        refine N.istore3 dX5_where_44 rfl ?_
        refine N.iconst (v := 0) dX5_where_45 (by decide) ?_
        refine N.istore4 dX5_where_46 rfl ?_
        refine N.iconst (v := 0) dX5_where_48 (by decide) ?_
        refine N.istore5 dX5_where_49 rfl ?_
        exact N.wk (by exact ⟨rfl, rfl, rfl, rfl, rfl, rfl, trivial⟩) (l_X5_where w b _ v e _ _ l n h (ln_in c5) m hm hn _ (fun t2 z2 sz2 ht2 hz2 => md_ok ht2 hz2 (by rw [mwhere, if_neg c5, if_neg c17, if_neg c33])) 3 0 t z _ _ _ (by omega) ht (Nat.le_refl _) (by omega) (by omega))
      · refine N.aload0 dX5_where_36 ?_
        refine N.bipush (v := -5) dX5_where_37 (by decide) ?_
        refine N.vi1 dX5_where_39 vX5_refuse lkX5_89 (s_X5_refuse _ _ _ _ _ _ rfIn5) mO rfl (Nat.le_of_ble_eq_true rfl) (Nat.le_of_ble_eq_true rfl) (by omega) (by omega) ?_
        rintro _ _ _ ⟨rfl, rfl, rfl⟩
        exact N.iret dX5_where_42 rfl (by omega) (by omega) ⟨_, rfl, (by rw [mwhere, if_neg c5, if_neg c17, if_pos c33]; exact rmf_ok ht)⟩
    · refine N.aload0 dX5_where_20 ?_
      refine N.bipush (v := -2) dX5_where_21 (by decide) ?_
      refine N.vi1 dX5_where_23 vX5_refuse lkX5_89 (s_X5_refuse _ _ _ _ _ _ rfIn2) mO rfl (Nat.le_of_ble_eq_true rfl) (Nat.le_of_ble_eq_true rfl) (by omega) (by omega) ?_
      rintro _ _ _ ⟨rfl, rfl, rfl⟩
      exact N.iret dX5_where_26 rfl (by omega) (by omega) ⟨_, rfl, (by rw [mwhere, if_neg c5, if_pos c17]; exact rmf_ok ht)⟩
def fvX (v : CV) (y : Int32) (k : Nat) : Int32 := if bitsF (nI (k + 1)) = y then powAM (putOnV v (nI (k + 1))) else -1
def fvTo (v : CV) (y : Int32) : Nat → Int32 × Int32
  | 0 => (0, -1)
  | k + 1 => if fvX v y k ≤ (fvTo v y k).2 then fvTo v y k else (nI (k + 1), fvX v y k)
theorem one_shl : ∀ P, P < 11 → (1 : Int32) <<< (nI P &&& 31) = nI (2 ^ P - 1 + 1) := by decide
theorem pow_le {P : Nat} (h : P ≤ 10) : 2 ^ P - 1 ≤ 1023 := by
  have := Nat.pow_le_pow_right (n := 2) (by decide) h
  omega
theorem oneS {v : CV} {P : Nat} (e : v.1 0 = nI P) (hP : P ≤ 10) : (1 : Int32) <<< (v.1 0 &&& 31) = nI (2 ^ P - 1 + 1) := by rw [e]; exact one_shl P (by omega)
set_option maxRecDepth 100000 in
theorem l_X5_five {K : Kx} (w : Wd) (b sz0 : Nat) (v : CV) (e : M5) (mc ms : Nat) (g : Int32) (h : okP v) (m : Nat) (hm : m ≤ 1023) (hn : (1 : Int32) <<< (v.1 0 &&& 31) = nI (m + 1)) (P : Int32 → Wd → Nat → Prop) (hP : ∀ t z sz, tOk G b sz t → sz0 ≤ sz → P ((fvTo v g m).1) (putM K (tw K w t z) b (v, wt e t)) sz) : ∀ nn k (t : Option Nat) (z : MX) (sz cc ss : Nat), k + nn = m → tOk G b sz t → sz0 ≤ sz → cc + kc t ≤ mc → ss + ks t ≤ ms → N K mX5_five 9 mc ms (Qi P) 38 [some (.ref b), some (.int g), some (.int (fvTo v g k).1), some (.int (fvTo v g k).2), some (.int (nI (k + 1))), none] [] (putM K (tw K w t z) b (v, wt e t)) sz cc ss := by
  intro nn
  induction nn with
  | zero =>
    intro k t z sz cc ss hk ht hz0 hcc hss
    obtain rfl : k = m := by omega
    refine N.iload4 dX5_five_38 ?_
    refine N.iconst (v := 1) dX5_five_40 (by decide) ?_
    refine N.aload0 dX5_five_41 ?_
    refine N.getf dX5_five_42 flX5_74 mO rfl ?_
    refine N.ishl dX5_five_45 ?_
    refine N.icmp_ge (tgt := 88) dX5_five_46 (by decide) (fun c46 => ?_) (fun c46 => absurd (pl_ge hn (by omega) (by omega)) c46)
    refine N.iload2 dX5_five_88 ?_
    exact N.iret dX5_five_89 rfl (by omega) (by omega) ⟨_, rfl, (hP _ _ _ ht hz0)⟩
  | succ nn ih =>
    intro k t z sz cc ss hk ht hz0 hcc hss
    refine N.iload4 dX5_five_38 ?_
    refine N.iconst (v := 1) dX5_five_40 (by decide) ?_
    refine N.aload0 dX5_five_41 ?_
    refine N.getf dX5_five_42 flX5_74 mO rfl ?_
    refine N.ishl dX5_five_45 ?_
    refine N.icmp_ge (tgt := 88) dX5_five_46 (by decide) (fun c46 => absurd c46 (by rw [hn]; exact nI_ge (by omega) (by omega))) (fun c46 => ?_)
    refine N.iload4 dX5_five_49 ?_
    refine N.si1 dX5_five_51 vX5_bits lkX5_122 (s_X5_bits _ _ _) rfl (Nat.le_of_ble_eq_true rfl) (Nat.le_of_ble_eq_true rfl) (by omega) (by omega) ?_
    rintro _ _ _ ⟨rfl, rfl, rfl⟩
    refine N.iload1 dX5_five_54 ?_
    refine N.icmp_ne (tgt := 67) dX5_five_55 (by decide) (fun c55 => ?_) (fun c55 => ?_)
    · refine N.iconst (v := -1) dX5_five_67 (by decide) ?_
      refine N.eqS (show _ = [Value.int (fvX v g k)] by rw [fvX, if_neg c55]) ?_
      generalize hg : fvX v g k = g0
      refine N.istore5 dX5_five_68 rfl ?_
      refine N.iload5 dX5_five_70 ?_
      refine N.iload3 dX5_five_72 ?_
      refine N.icmp_le (tgt := 82) dX5_five_73 (by decide) (fun c73 => ?_) (fun c73 => ?_)
      · refine N.iinc4 dX5_five_82 rfl (nI_inc _) ?_
        refine N.goto (tgt := 38) dX5_five_85 (by decide) ?_
        exact N.wk (by rw [fvTo, hg, if_pos c73]; exact ⟨rfl, rfl, rfl, rfl, rfl, trivial⟩) (ih (k + 1) t _ _ _ _ (by omega) ht hz0 (by omega) (by omega))
      · refine N.iload4 dX5_five_76 ?_
        refine N.istore2 dX5_five_78 rfl ?_
        refine N.iload5 dX5_five_79 ?_
        refine N.istore3 dX5_five_81 rfl ?_
        refine N.iinc4 dX5_five_82 rfl (nI_inc _) ?_
        refine N.goto (tgt := 38) dX5_five_85 (by decide) ?_
        exact N.wk (by rw [fvTo, hg, if_neg c73]; exact ⟨rfl, rfl, rfl, rfl, rfl, trivial⟩) (ih (k + 1) t _ _ _ _ (by omega) ht hz0 (by omega) (by omega))
    · refine N.aload0 dX5_five_58 ?_
      refine N.iload4 dX5_five_59 ?_
      refine N.vi1A dX5_five_61 vX5_powerBy lkX5_311 (s_X5_powerBy w b _ v e t z _ ht h) mO rfl (Nat.le_of_ble_eq_true rfl) (Nat.le_of_ble_eq_true rfl) (by omega) (by omega) ?_
      rintro _ _ sz2 ⟨rfl, q, y, rfl, hd, hz⟩
      refine N.goto (tgt := 68) dX5_five_64 (by decide) ?_
      refine N.eqS (show _ = [Value.int (fvX v g k)] by rw [fvX, if_pos c55]) ?_
      generalize hg : fvX v g k = g0
      refine N.istore5 dX5_five_68 rfl ?_
      refine N.iload5 dX5_five_70 ?_
      refine N.iload3 dX5_five_72 ?_
      refine N.icmp_le (tgt := 82) dX5_five_73 (by decide) (fun c73 => ?_) (fun c73 => ?_)
      · refine N.iinc4 dX5_five_82 rfl (nI_inc _) ?_
        refine N.goto (tgt := 38) dX5_five_85 (by decide) ?_
        exact N.wk (by rw [fvTo, hg, if_pos c73]; exact ⟨rfl, rfl, rfl, rfl, rfl, trivial⟩) (ih (k + 1) (some q) _ _ _ _ (by omega) (tOk_s ht hz hd) (Nat.le_trans hz0 hz) (by rw [kc_s]; omega) (by rw [ks_s]; omega))
      · refine N.iload4 dX5_five_76 ?_
        refine N.istore2 dX5_five_78 rfl ?_
        refine N.iload5 dX5_five_79 ?_
        refine N.istore3 dX5_five_81 rfl ?_
        refine N.iinc4 dX5_five_82 rfl (nI_inc _) ?_
        refine N.goto (tgt := 38) dX5_five_85 (by decide) ?_
        exact N.wk (by rw [fvTo, hg, if_neg c73]; exact ⟨rfl, rfl, rfl, rfl, rfl, trivial⟩) (ih (k + 1) (some q) _ _ _ _ (by omega) (tOk_s ht hz hd) (Nat.le_trans hz0 hz) (by rw [kc_s]; omega) (by rw [ks_s]; omega))
def mfive (m : Mst) : Int32 × Mst := if m.1.1 0 = 0 then rm m (-5) else if 5 ≤ m.1.1 0 then ((fvTo m.1 5 (2 ^ np m.1 - 1)).1, m) else ((fvTo m.1 (m.1.1 0) (2 ^ np m.1 - 1)).1, m)
set_option maxRecDepth 100000 in
theorem s_X5_five {K : Kx} (w : Wd) (b sz : Nat) (v : CV) (e : M5) (t : Option Nat) (z : MX) (ht : tOk G b sz t) (hM : okM (v, e)) : Sp K mX5_five 9 (kc t) (ks t) [.ref b] (putM K (tw K w t z) b (v, wt e t)) sz (Qi fun r w' sz' => r = (mfive (v, e)).1 ∧ ∃ t' z', w' = putM K (tw K w t' z') b ((mfive (v, e)).2.1, wt (mfive (v, e)).2.2 t') ∧ tOk G b sz' t' ∧ sz ≤ sz') := by
  refine Sp.ofN [some (.ref b), none, none, none, none, none] rfl rfl rfl (Nat.le_of_ble_eq_true rfl) ?_
  have h : okP v := hM.1
  refine N.aload0 dX5_five_0 ?_
  refine N.getf dX5_five_1 flX5_74 mO rfl ?_
  refine N.if_ne (tgt := 14) dX5_five_4 (by decide) (fun c4 => ?_) (fun c4 => ?_)
  · obtain ⟨P0, hP0, e0, e1⟩ := np_ex h
    refine N.aload0 dX5_five_14 ?_
    refine N.getf dX5_five_15 flX5_74 mO rfl ?_
    refine N.iconst (v := 5) dX5_five_18 (by decide) ?_
    refine N.icmp_ge (tgt := 29) dX5_five_19 (by decide) (fun c19 => ?_) (fun c19 => ?_)
    · refine N.iconst (v := 5) dX5_five_29 (by decide) ?_
      refine N.istore1 dX5_five_30 rfl ?_
      refine N.iconst (v := 0) dX5_five_31 (by decide) ?_
      refine N.istore2 dX5_five_32 rfl ?_
      refine N.iconst (v := -1) dX5_five_33 (by decide) ?_
      refine N.istore3 dX5_five_34 rfl ?_
      refine N.iconst (v := 1) dX5_five_35 (by decide) ?_
      refine N.istore4 dX5_five_36 rfl ?_
      exact N.wk (by exact ⟨rfl, rfl, rfl, rfl, rfl, trivial⟩) (l_X5_five w b _ v e _ _ _ h (2 ^ P0 - 1) (pow_le hP0) (oneS e0 hP0) _ (fun t2 z2 sz2 ht2 hz2 => md_ok ht2 hz2 (by rw [mfive, if_neg c4, if_pos c19, e1])) _ 0 t z _ _ _ (Nat.zero_add _) ht (Nat.le_refl _) (by omega) (by omega))
    · refine N.aload0 dX5_five_22 ?_
      refine N.getf dX5_five_23 flX5_74 mO rfl ?_
      refine N.goto (tgt := 30) dX5_five_26 (by decide) ?_
      refine N.istore1 dX5_five_30 rfl ?_
      refine N.iconst (v := 0) dX5_five_31 (by decide) ?_
      refine N.istore2 dX5_five_32 rfl ?_
      refine N.iconst (v := -1) dX5_five_33 (by decide) ?_
      refine N.istore3 dX5_five_34 rfl ?_
      refine N.iconst (v := 1) dX5_five_35 (by decide) ?_
      refine N.istore4 dX5_five_36 rfl ?_
      exact N.wk (by exact ⟨rfl, rfl, rfl, rfl, rfl, trivial⟩) (l_X5_five w b _ v e _ _ _ h (2 ^ P0 - 1) (pow_le hP0) (oneS e0 hP0) _ (fun t2 z2 sz2 ht2 hz2 => md_ok ht2 hz2 (by rw [mfive, if_neg c4, if_neg c19, e1])) _ 0 t z _ _ _ (Nat.zero_add _) ht (Nat.le_refl _) (by omega) (by omega))
  · refine N.aload0 dX5_five_7 ?_
    refine N.bipush (v := -5) dX5_five_8 (by decide) ?_
    refine N.vi1 dX5_five_10 vX5_refuse lkX5_89 (s_X5_refuse _ _ _ _ _ _ rfIn5) mO rfl (Nat.le_of_ble_eq_true rfl) (Nat.le_of_ble_eq_true rfl) (by omega) (by omega) ?_
    rintro _ _ _ ⟨rfl, rfl, rfl⟩
    exact N.iret dX5_five_13 rfl (by omega) (by omega) ⟨_, rfl, (by rw [mfive, if_pos c4]; exact rmf_ok ht)⟩
theorem gE_7 {E : ME} {x y : Int32} : (gE E x y).1 7 = x := rfl
theorem gE_8 {E : ME} {x y : Int32} : (gE E x y).1 8 = y := rfl
def tfTo (u : CV) (S n : Int32) : Nat → Int32
  | 0 => 0
  | k + 1 => if S - n * oddsAF (setS u 6 (nI (k + 1))) < 0 then tfTo u S n k else nI (k + 1)
set_option maxRecDepth 100000 in
theorem l_X5_theirsFor {K : Kx} (w : Wd) (b sz : Nat) (v : CV) (E : ME) (mc ms : Nat) (n : Int32) (q : Nat) (hd : apG G q b) (u0 : CV) (E2 : ME) (cc ss : Nat) (hcc : cc ≤ mc) (hss : ss ≤ ms) (P : Int32 → Wd → Nat → Prop) (R : Int32) (hP : ∀ y, P R (putM K (putM K w q y) b (v, E)) sz) : ∀ nn (u : CV), nn < 2 ^ 31 → (∀ x, setS u 6 x = setS u0 6 x) → tfTo u0 (E2.1 7) n nn = R → N K mX5_theirsFor 9 mc ms (Qi P) 34 [some (.ref b), some (.int n), some (.ref q), some (.int (nI nn))] [] (putM K (putM K w q (u, E2)) b (v, E)) sz cc ss := by
  intro nn
  induction nn with
  | zero =>
    intro u h31 hu hR
    refine N.iload3 dX5_theirsFor_34 ?_
    refine N.if_le (tgt := 65) dX5_theirsFor_35 (by decide) (fun c35 => ?_) (fun c35 => absurd (by decide) c35)
    refine N.iconst (v := 0) dX5_theirsFor_65 (by decide) ?_
    exact N.iret dX5_theirsFor_66 rfl (by omega) (by omega) ⟨_, rfl, (by rw [← hR] at hP; exact hP _)⟩
  | succ nn ih =>
    intro u h31 hu hR
    refine N.iload3 dX5_theirsFor_34 ?_
    refine N.if_le (tgt := 65) dX5_theirsFor_35 (by decide) (fun c35 => absurd c35 (nI_ge (a := 0) (by omega) (by omega))) (fun c35 => ?_)
    refine N.aload2 dX5_theirsFor_38 ?_
    refine N.iload3 dX5_theirsFor_39 ?_
    refine N.putf dX5_theirsFor_40 flX5_56 (tO hd) (Nat.le_of_ble_eq_true rfl) (fun _ h => by cases h; rfl) rfl rfl (tP6 hd) ?_
    refine N.eqW (w' := putM K (putM K w q (setS u 6 (nI (nn + 1)), E2)) b (v, E)) rfl ?_
    rw [hu]
    refine N.aload2 dX5_theirsFor_43 ?_
    refine N.getf dX5_theirsFor_44 flX5_268 (tO hd) rfl ?_
    refine N.iload1 dX5_theirsFor_47 ?_
    refine N.aload2 dX5_theirsFor_48 ?_
    refine N.vi0 dX5_theirsFor_49 vX5_oddsAgainst lkX5_280 (Sp.mi hd fun W => s_X5_oddsAgainst W _ _ _ _) (tO hd) rfl (Nat.le_of_ble_eq_true rfl) (Nat.le_of_ble_eq_true rfl) (by omega) (by omega) ?_
    rintro _ _ _ ⟨rfl, rfl, rfl⟩
    refine N.imul dX5_theirsFor_52 ?_
    refine N.isub dX5_theirsFor_53 ?_
    refine N.if_lt (tgt := 59) dX5_theirsFor_54 (by decide) (fun c54 => ?_) (fun c54 => ?_)
    · refine N.iinc3 dX5_theirsFor_59 rfl (nI_dec _) ?_
      refine N.goto (tgt := 34) dX5_theirsFor_62 (by decide) ?_
      exact ih _ (by omega) (fun x => setS2) (by rw [← hR, tfTo, if_pos c54])
    · refine N.iload3 dX5_theirsFor_57 ?_
      exact N.iret dX5_theirsFor_58 rfl (by omega) (by omega) ⟨_, rfl, (by rw [← hR, tfTo, if_neg c54] at hP; exact hP _)⟩
def mtf (m : Mst) (n : Int32) : Int32 × Mst := if isInF n 0 600 = 0 then rm m (-2) else (tfTo (goV m.1 n) (goO m.1 n) n 999, m)
set_option maxRecDepth 100000 in
theorem s_X5_theirsFor {K : Kx} (w : Wd) (b sz : Nat) (v : CV) (e : M5) (t : Option Nat) (z : MX) (n : Int32) (ht : tOk G b sz t) (hM : okM (v, e)) : Sp K mX5_theirsFor 9 (kc t) (ks t) [.ref b, .int n] (putM K (tw K w t z) b (v, wt e t)) sz (Qi fun r w' sz' => r = (mtf (v, e) n).1 ∧ ∃ t' z', w' = putM K (tw K w t' z') b ((mtf (v, e) n).2.1, wt (mtf (v, e) n).2.2 t') ∧ tOk G b sz' t' ∧ sz ≤ sz') := by
  refine Sp.ofN [some (.ref b), some (.int n), none, none] rfl rfl rfl (Nat.le_of_ble_eq_true rfl) ?_
  have h : okP v := hM.1
  refine N.iload1 dX5_theirsFor_0 ?_
  refine N.i2l dX5_theirsFor_1 ?_
  refine N.lconst (v := 0) dX5_theirsFor_2 (by decide) ?_
  refine N.ldc2 dX5_theirsFor_3 ctX5_314 ?_
  refine N.si3 dX5_theirsFor_6 vX5_in lkX5_77 (s_X5_in _ _ _ _ _) rfl (Nat.le_of_ble_eq_true rfl) (Nat.le_of_ble_eq_true rfl) (by omega) (by omega) ?_
  rintro r1 _ _ ⟨er, rfl, rfl⟩
  obtain rfl := er.trans (inL_i (a := (0)) (b := (600)) rfl rfl)
  refine N.if_ne (tgt := 19) dX5_theirsFor_9 (by decide) (fun c9 => ?_) (fun c9 => ?_)
  · obtain ⟨m, hm, hn⟩ := in_n (N' := 600) (by decide) c9
    refine N.aload0 dX5_theirsFor_19 ?_
    refine N.va0A dX5_theirsFor_20 vX5_fresh lkX5_248 (s_X5_fresh w b _ v e t z ht) mO rfl (Nat.le_of_ble_eq_true rfl) (Nat.le_of_ble_eq_true rfl) (by omega) (by omega) ?_
    rintro q _ sz2 ⟨z2, rfl, hd, hz⟩
    refine N.astore2 dX5_theirsFor_23 rfl ?_
    refine N.aload2 dX5_theirsFor_24 ?_
    refine N.iload1 dX5_theirsFor_25 ?_
    refine N.vi1 dX5_theirsFor_26 vX5_goes lkX5_316 (Sp.mi hd fun W => s_X5_goes W _ _ _ _ _ (h) m hm hn) (tO hd) rfl (Nat.le_of_ble_eq_true rfl) (Nat.le_of_ble_eq_true rfl) (by omega) (by omega) ?_
    rintro _ _ _ ⟨rfl, rfl, rfl⟩
    refine N.pop dX5_theirsFor_29 rfl ?_
    refine N.sipush (v := 999) dX5_theirsFor_30 (by decide) ?_
    refine N.istore3 dX5_theirsFor_33 rfl ?_
    exact N.wk (by exact ⟨rfl, rfl, rfl, rfl, trivial⟩) (l_X5_theirsFor w b _ v (wt e (some q)) _ _ n q hd _ _ _ _ (by omega) (by omega) _ _ (fun y => mq_ok ht hd hz (by rw [mtf, if_neg c9, gE_7])) 999 _ (by omega) (fun x => rfl) rfl)
  · refine N.aload0 dX5_theirsFor_12 ?_
    refine N.bipush (v := -2) dX5_theirsFor_13 (by decide) ?_
    refine N.vi1 dX5_theirsFor_15 vX5_refuse lkX5_89 (s_X5_refuse _ _ _ _ _ _ rfIn2) mO rfl (Nat.le_of_ble_eq_true rfl) (Nat.le_of_ble_eq_true rfl) (by omega) (by omega) ?_
    rintro _ _ _ ⟨rfl, rfl, rfl⟩
    exact N.iret dX5_theirsFor_18 rfl (by omega) (by omega) ⟨_, rfl, (by rw [mtf, if_pos c9]; exact rmf_ok ht)⟩
