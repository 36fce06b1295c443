/-! loops over the object in thought -/
def pk (c : Nat → Prop) [DecidablePred c] (i g : Nat → Int32) : Nat → Int32 × Int32
  | 0 => (-1, 0)
  | k + 1 => if c k then offerF (pk c i g k) (i k) (g k) else pk c i g k
def pkA (i g : Nat → Int32) : Nat → Int32 × Int32
  | 0 => (-1, 0)
  | k + 1 => offerF (pkA i g k) (i k) (g k)
theorem pk_t {c : Nat → Prop} [DecidablePred c] {i g : Nat → Int32} {k : Nat} (h : c k) : offerF (pk c i g k) (i k) (g k) = pk c i g (k + 1) := (if_pos h).symm
theorem pk_f {c : Nat → Prop} [DecidablePred c] {i g : Nat → Int32} {k : Nat} (h : ¬ c k) : pk c i g k = pk c i g (k + 1) := (if_neg h).symm
theorem first_in {v : CV} (h : ¬ firstLF v = -1) : vp_in (firstLF v) 4 := by
  unfold firstLF at *
  split
  · split
    · split
      · split
        · simp_all
        · exact in4 (k := 3) (by decide)
      · exact in4 (k := 2) (by decide)
    · exact in4 (k := 1) (by decide)
  · exact in4 (k := 0) (by decide)
theorem next_in {v : CV} {l : Int32} (hl : vp_in l 4) : vp_in (nextLF v l) 4 := by
  unfold nextLF
  split
  · split
    · split
      · split
        · exact hl
        · exact hl_in (by assumption)
      · exact hl_in (by assumption)
    · exact hl_in (by assumption)
  · exact hl_in (by assumption)
theorem np_ex {v : CV} (h : okP v) : ∃ P : Nat, P ≤ 10 ∧ v.1 0 = nI P ∧ np v = P := by
  obtain ⟨P, hP, e⟩ := h
  exact ⟨P, hP, e, np_of e hP⟩
theorem pub_ok {K : Kx} {w : Wd} {a sz : Nat} {x : XV} {g : Int32 × XV} {r : Int32} {u : CV} {p : Int32 × Int32} (e : g = (r, x)) : r = g.1 ∧ sz = sz ∧ ∃ x', putU K w a x u p = putX K w a x' ∧ rel x' = rel g.2 := by
  subst e
  exact ⟨rfl, rfl, _, rfl, rel_xup⟩
theorem nI_dec (k : Nat) : nI (k + 1) + Int32.ofInt (-1) = nI k := (Int32.sub_eq_add_neg (a := nI (k + 1)) (b := 1)).symm.trans (nI_pred k)
def fullTo (x : XV) : Nat → Int32
  | 0 => 0
  | k + 1 => if (x.2.2.1 k).2.1 = -1 then fullTo x k else fullTo x k + 1
theorem xShn {a k : Nat} (hk : k < 8) : va_rf (shRef a (nI k).toNatClampNeg) = .ref (a + (30 + 2 * k)) := by rw [nI_clamp (by omega)]; exact xShv hk
theorem nI8 {k : Nat} (hk : k < 8) : vp_in (nI k) 8 := vp_in_nI hk (by omega)
set_option maxRecDepth 100000 in
theorem l_X4_fullShelves {K : Kx} (w : Wd) (a sz : Nat) (x : XV) (p : Int32 × Int32) (P : Int32 → Wd → Nat → Prop) (hP : ∀ u' p', P (fullTo x 8) (putU K w a x u' p') sz) : ∀ (nn k : Nat) (u : CV), k + nn = 8 → N K mX4_fullShelves 0 0 0 (Qi P) 4 [some (.ref a), some (.int (fullTo x k)), some (.int (nI k))] [] (putU K w a x u p) sz 0 0 := by
  intro nn
  induction nn with
  | zero =>
    intro k u hk
    obtain rfl : k = 8 := by omega
    refine N.iload2 dX4_fullShelves_4 ?_
    refine N.bipush (v := 8) dX4_fullShelves_5 (by decide) ?_
    refine N.icmp_ge (tgt := 32) dX4_fullShelves_7 (by decide) (fun c7 => ?_) (fun c7 => absurd (by decide) c7)
    refine N.iload1 dX4_fullShelves_32 ?_
    exact N.iret dX4_fullShelves_33 rfl (Nat.zero_le _) (Nat.zero_le _) ⟨_, rfl, (hP _ _)⟩
  | succ nn ih =>
    intro k u hk
    refine N.iload2 dX4_fullShelves_4 ?_
    refine N.bipush (v := 8) dX4_fullShelves_5 (by decide) ?_
    refine N.icmp_ge (tgt := 32) dX4_fullShelves_7 (by decide) (fun c7 => absurd c7 (nI_ge (a := k) (b := 8) (by omega) (by omega))) (fun c7 => ?_)
    refine N.aload0 dX4_fullShelves_10 ?_
    refine N.getf dX4_fullShelves_11 flX4_34 yO rfl ?_
    refine N.iload2 dX4_fullShelves_14 ?_
    refine N.aald dX4_fullShelves_15 yH (nI8 (by omega)) (xShn (by omega)) ?_
    refine N.getf dX4_fullShelves_16 flX4_86 (yS (i := k) (by omega)) rfl ?_
    refine N.iconst (v := -1) dX4_fullShelves_19 (by decide) ?_
    refine N.icmp_eq (tgt := 26) dX4_fullShelves_20 (by decide) (fun c20 => ?_) (fun c20 => ?_)
    · refine N.iinc2 dX4_fullShelves_26 rfl (nI_inc _) ?_
      refine N.goto (tgt := 4) dX4_fullShelves_29 (by decide) ?_
      exact N.wk (by rw [fullTo, if_pos c20]; exact ⟨rfl, rfl, rfl, trivial⟩) (ih (k + 1) u (by omega))
    · refine N.iinc1 dX4_fullShelves_23 rfl rfl ?_
      refine N.iinc2 dX4_fullShelves_26 rfl (nI_inc _) ?_
      refine N.goto (tgt := 4) dX4_fullShelves_29 (by decide) ?_
      exact N.wk (by rw [fullTo, if_neg c20]; exact ⟨rfl, rfl, rfl, trivial⟩) (ih (k + 1) u (by omega))
set_option maxRecDepth 100000 in
theorem s_X4_fullShelves {K : Kx} (w : Wd) (a sz : Nat) (x : XV) (u : CV) (p : Int32 × Int32) : Sp K mX4_fullShelves 0 0 0 [.ref a] (putU K w a x u p) sz (Qi fun r w' sz' => r = fullTo x 8 ∧ sz' = sz ∧ ∃ u' p', w' = putU K w a x u' p') := by
  refine Sp.ofN [some (.ref a), none, none] rfl rfl rfl (Nat.le_of_ble_eq_true rfl) ?_
  refine N.iconst (v := 0) dX4_fullShelves_0 (by decide) ?_
  refine N.istore1 dX4_fullShelves_1 rfl ?_
  refine N.iconst (v := 0) dX4_fullShelves_2 (by decide) ?_
  refine N.istore2 dX4_fullShelves_3 rfl ?_
  exact N.wk (by exact ⟨rfl, rfl, rfl, trivial⟩) (l_X4_fullShelves w a _ x p _ (fun _ _ => ⟨rfl, rfl, _, _, rfl⟩) 8 0 u (by omega))
theorem st5 {t : Int32} (c : ¬ isInF t 12 16 = 0) : vp_in (t - 12) 5 := by
  obtain ⟨h1, h2⟩ := isIn_ne c
  have e1 := Int32.not_lt.mp h1
  have e2 := Int32.not_lt.mp h2
  rw [vp_in_iff]
  rw [Int32.le_iff_toInt_le] at e1 e2
  have a1 : (12 : Int32).toInt = 12 := rfl
  have a2 : (16 : Int32).toInt = 16 := rfl
  rw [Int32.toInt_sub, a1, Int.bmod_eq_of_le (by omega) (by omega)]
  omega
def xstatus (x : XV) (t : Int32) : Int32 × XV := if isInF t 12 16 = 0 then (if t = 0 then ((x.1 0).1 0, x) else if t = 1 then ((x.1 0).1 1, x) else if t = 2 then ((x.1 0).1 2, x) else if t = 3 then ((x.1 0).1 3, x) else if t = 4 then ((x.1 0).1 4, x) else if t = 5 then ((x.1 0).1 5, x) else if t = 6 then ((x.1 0).1 6, x) else if t = 7 then ((x.1 0).1 7, x) else if t = 8 then ((x.1 0).1 8, x) else if t = 9 then ((x.1 0).1 9, x) else if t = 10 then ((x.1 0).1 10, x) else if t = 11 then ((x.1 0).1 11, x) else if t = 12 then (-1, x) else if t = 13 then (-1, x) else if t = 14 then (-1, x) else if t = 15 then (-1, x) else if t = 16 then (-1, x) else if t = 17 then (x.2.1.2 0, x) else if t = 18 then ((x.1 0).1 12, x) else if t = 19 then (fullTo x 8, x) else (-1, x)) else (x.2.2.2.1 (t - 12).toNatClampNeg, x)
set_option maxRecDepth 100000 in
theorem s_X4_status {K : Kx} (w : Wd) (a sz : Nat) (x : XV) (t : Int32) (hX : okX x)  : Sp K mX4_status 9 0 0 [.ref a, .int t] (putX K w a x) sz (Qi fun r w' sz' => r = (xstatus x t).1 ∧ sz' = sz ∧ ∃ x', w' = putX K w a x' ∧ rel x' = rel (xstatus x t).2) := by
  refine Sp.ofN [some (.ref a), some (.int t)] rfl rfl rfl (Nat.le_of_ble_eq_true rfl) ?_
  have h : okP (x.1 0) := hX.1
  refine N.eqW (congrArg (putX K w a) (xup_self x)) ?_
  generalize x.1 1 = u0
  generalize x.2.2.2.2.1 = p0
  refine N.iload1 dX4_status_0 ?_
  refine N.bipush (v := 12) dX4_status_1 (by decide) ?_
  refine N.bipush (v := 16) dX4_status_3 (by decide) ?_
  refine N.si3 dX4_status_5 vX4_isIn lkX4_58 (s_X4_isIn _ _ _ _ _) rfl (Nat.le_of_ble_eq_true rfl) (Nat.le_of_ble_eq_true rfl) (Nat.zero_le _) (Nat.zero_le _) ?_
  rintro _ _ _ ⟨rfl, rfl, rfl⟩
  refine N.if_eq (tgt := 21) dX4_status_8 (by decide) (fun c8 => ?_) (fun c8 => ?_)
  · refine N.iload1 dX4_status_21 ?_
    refine N.swc 0 (fun t22_0 => ?_) (fun t22_0 => ?_)
    · refine N.tsIn (off := 94) (tgt := 116) 0 t22_0 dX4_status_22 (by decide) (by decide) (by decide) (by decide) ?_
      refine N.aload0 dX4_status_116 ?_
      refine N.getf dX4_status_117 flX4_10 yO rfl ?_
      refine N.getf dX4_status_120 flX4_229 yO0 rfl ?_
      exact N.iret dX4_status_123 rfl (Nat.zero_le _) (Nat.zero_le _) ⟨_, rfl, (by rw [xstatus, if_pos c8, if_pos t22_0]; exact ⟨rfl, rfl, _, rfl, rel_xup⟩)⟩
    refine N.swc 1 (fun t22_1 => ?_) (fun t22_1 => ?_)
    · refine N.tsIn (off := 102) (tgt := 124) 1 t22_1 dX4_status_22 (by decide) (by decide) (by decide) (by decide) ?_
      refine N.aload0 dX4_status_124 ?_
      refine N.getf dX4_status_125 flX4_10 yO rfl ?_
      refine N.getf dX4_status_128 flX4_175 yO0 rfl ?_
      exact N.iret dX4_status_131 rfl (Nat.zero_le _) (Nat.zero_le _) ⟨_, rfl, (by rw [xstatus, if_pos c8, if_neg t22_0, if_pos t22_1]; exact ⟨rfl, rfl, _, rfl, rel_xup⟩)⟩
    refine N.swc 2 (fun t22_2 => ?_) (fun t22_2 => ?_)
    · refine N.tsIn (off := 110) (tgt := 132) 2 t22_2 dX4_status_22 (by decide) (by decide) (by decide) (by decide) ?_
      refine N.aload0 dX4_status_132 ?_
      refine N.getf dX4_status_133 flX4_10 yO rfl ?_
      refine N.getf dX4_status_136 flX4_181 yO0 rfl ?_
      exact N.iret dX4_status_139 rfl (Nat.zero_le _) (Nat.zero_le _) ⟨_, rfl, (by rw [xstatus, if_pos c8, if_neg t22_0, if_neg t22_1, if_pos t22_2]; exact ⟨rfl, rfl, _, rfl, rel_xup⟩)⟩
    refine N.swc 3 (fun t22_3 => ?_) (fun t22_3 => ?_)
    · refine N.tsIn (off := 118) (tgt := 140) 3 t22_3 dX4_status_22 (by decide) (by decide) (by decide) (by decide) ?_
      refine N.aload0 dX4_status_140 ?_
      refine N.getf dX4_status_141 flX4_10 yO rfl ?_
      refine N.getf dX4_status_144 flX4_333 yO0 rfl ?_
      exact N.iret dX4_status_147 rfl (Nat.zero_le _) (Nat.zero_le _) ⟨_, rfl, (by rw [xstatus, if_pos c8, if_neg t22_0, if_neg t22_1, if_neg t22_2, if_pos t22_3]; exact ⟨rfl, rfl, _, rfl, rel_xup⟩)⟩
    refine N.swc 4 (fun t22_4 => ?_) (fun t22_4 => ?_)
    · refine N.tsIn (off := 126) (tgt := 148) 4 t22_4 dX4_status_22 (by decide) (by decide) (by decide) (by decide) ?_
      refine N.aload0 dX4_status_148 ?_
      refine N.getf dX4_status_149 flX4_10 yO rfl ?_
      refine N.getf dX4_status_152 flX4_145 yO0 rfl ?_
      exact N.iret dX4_status_155 rfl (Nat.zero_le _) (Nat.zero_le _) ⟨_, rfl, (by rw [xstatus, if_pos c8, if_neg t22_0, if_neg t22_1, if_neg t22_2, if_neg t22_3, if_pos t22_4]; exact ⟨rfl, rfl, _, rfl, rel_xup⟩)⟩
    refine N.swc 5 (fun t22_5 => ?_) (fun t22_5 => ?_)
    · refine N.tsIn (off := 134) (tgt := 156) 5 t22_5 dX4_status_22 (by decide) (by decide) (by decide) (by decide) ?_
      refine N.aload0 dX4_status_156 ?_
      refine N.getf dX4_status_157 flX4_10 yO rfl ?_
      refine N.getf dX4_status_160 flX4_148 yO0 rfl ?_
      exact N.iret dX4_status_163 rfl (Nat.zero_le _) (Nat.zero_le _) ⟨_, rfl, (by rw [xstatus, if_pos c8, if_neg t22_0, if_neg t22_1, if_neg t22_2, if_neg t22_3, if_neg t22_4, if_pos t22_5]; exact ⟨rfl, rfl, _, rfl, rel_xup⟩)⟩
    refine N.swc 6 (fun t22_6 => ?_) (fun t22_6 => ?_)
    · refine N.tsIn (off := 142) (tgt := 164) 6 t22_6 dX4_status_22 (by decide) (by decide) (by decide) (by decide) ?_
      refine N.aload0 dX4_status_164 ?_
      refine N.getf dX4_status_165 flX4_10 yO rfl ?_
      refine N.getf dX4_status_168 flX4_151 yO0 rfl ?_
      exact N.iret dX4_status_171 rfl (Nat.zero_le _) (Nat.zero_le _) ⟨_, rfl, (by rw [xstatus, if_pos c8, if_neg t22_0, if_neg t22_1, if_neg t22_2, if_neg t22_3, if_neg t22_4, if_neg t22_5, if_pos t22_6]; exact ⟨rfl, rfl, _, rfl, rel_xup⟩)⟩
    refine N.swc 7 (fun t22_7 => ?_) (fun t22_7 => ?_)
    · refine N.tsIn (off := 150) (tgt := 172) 7 t22_7 dX4_status_22 (by decide) (by decide) (by decide) (by decide) ?_
      refine N.aload0 dX4_status_172 ?_
      refine N.getf dX4_status_173 flX4_10 yO rfl ?_
      refine N.getf dX4_status_176 flX4_154 yO0 rfl ?_
      exact N.iret dX4_status_179 rfl (Nat.zero_le _) (Nat.zero_le _) ⟨_, rfl, (by rw [xstatus, if_pos c8, if_neg t22_0, if_neg t22_1, if_neg t22_2, if_neg t22_3, if_neg t22_4, if_neg t22_5, if_neg t22_6, if_pos t22_7]; exact ⟨rfl, rfl, _, rfl, rel_xup⟩)⟩
    refine N.swc 8 (fun t22_8 => ?_) (fun t22_8 => ?_)
    · refine N.tsIn (off := 158) (tgt := 180) 8 t22_8 dX4_status_22 (by decide) (by decide) (by decide) (by decide) ?_
      refine N.aload0 dX4_status_180 ?_
      refine N.getf dX4_status_181 flX4_10 yO rfl ?_
      refine N.getf dX4_status_184 flX4_336 yO0 rfl ?_
      exact N.iret dX4_status_187 rfl (Nat.zero_le _) (Nat.zero_le _) ⟨_, rfl, (by rw [xstatus, if_pos c8, if_neg t22_0, if_neg t22_1, if_neg t22_2, if_neg t22_3, if_neg t22_4, if_neg t22_5, if_neg t22_6, if_neg t22_7, if_pos t22_8]; exact ⟨rfl, rfl, _, rfl, rel_xup⟩)⟩
    refine N.swc 9 (fun t22_9 => ?_) (fun t22_9 => ?_)
    · refine N.tsIn (off := 166) (tgt := 188) 9 t22_9 dX4_status_22 (by decide) (by decide) (by decide) (by decide) ?_
      refine N.aload0 dX4_status_188 ?_
      refine N.getf dX4_status_189 flX4_10 yO rfl ?_
      refine N.getf dX4_status_192 flX4_339 yO0 rfl ?_
      exact N.iret dX4_status_195 rfl (Nat.zero_le _) (Nat.zero_le _) ⟨_, rfl, (by rw [xstatus, if_pos c8, if_neg t22_0, if_neg t22_1, if_neg t22_2, if_neg t22_3, if_neg t22_4, if_neg t22_5, if_neg t22_6, if_neg t22_7, if_neg t22_8, if_pos t22_9]; exact ⟨rfl, rfl, _, rfl, rel_xup⟩)⟩
    refine N.swc 10 (fun t22_10 => ?_) (fun t22_10 => ?_)
    · refine N.tsIn (off := 174) (tgt := 196) 10 t22_10 dX4_status_22 (by decide) (by decide) (by decide) (by decide) ?_
      refine N.aload0 dX4_status_196 ?_
      refine N.getf dX4_status_197 flX4_10 yO rfl ?_
      refine N.getf dX4_status_200 flX4_318 yO0 rfl ?_
      exact N.iret dX4_status_203 rfl (Nat.zero_le _) (Nat.zero_le _) ⟨_, rfl, (by rw [xstatus, if_pos c8, if_neg t22_0, if_neg t22_1, if_neg t22_2, if_neg t22_3, if_neg t22_4, if_neg t22_5, if_neg t22_6, if_neg t22_7, if_neg t22_8, if_neg t22_9, if_pos t22_10]; exact ⟨rfl, rfl, _, rfl, rel_xup⟩)⟩
    refine N.swc 11 (fun t22_11 => ?_) (fun t22_11 => ?_)
    · refine N.tsIn (off := 182) (tgt := 204) 11 t22_11 dX4_status_22 (by decide) (by decide) (by decide) (by decide) ?_
      refine N.aload0 dX4_status_204 ?_
      refine N.getf dX4_status_205 flX4_10 yO rfl ?_
      refine N.getf dX4_status_208 flX4_321 yO0 rfl ?_
      exact N.iret dX4_status_211 rfl (Nat.zero_le _) (Nat.zero_le _) ⟨_, rfl, (by rw [xstatus, if_pos c8, if_neg t22_0, if_neg t22_1, if_neg t22_2, if_neg t22_3, if_neg t22_4, if_neg t22_5, if_neg t22_6, if_neg t22_7, if_neg t22_8, if_neg t22_9, if_neg t22_10, if_pos t22_11]; exact ⟨rfl, rfl, _, rfl, rel_xup⟩)⟩
    refine N.swc 12 (fun t22_12 => ?_) (fun t22_12 => ?_)
    · refine N.tsIn (off := 211) (tgt := 233) 12 t22_12 dX4_status_22 (by decide) (by decide) (by decide) (by decide) ?_
      refine N.iconst (v := -1) dX4_status_233 (by decide) ?_
      exact N.iret dX4_status_234 rfl (Nat.zero_le _) (Nat.zero_le _) ⟨_, rfl, (by rw [xstatus, if_pos c8, if_neg t22_0, if_neg t22_1, if_neg t22_2, if_neg t22_3, if_neg t22_4, if_neg t22_5, if_neg t22_6, if_neg t22_7, if_neg t22_8, if_neg t22_9, if_neg t22_10, if_neg t22_11, if_pos t22_12]; exact ⟨rfl, rfl, _, rfl, rel_xup⟩)⟩
    refine N.swc 13 (fun t22_13 => ?_) (fun t22_13 => ?_)
    · refine N.tsIn (off := 211) (tgt := 233) 13 t22_13 dX4_status_22 (by decide) (by decide) (by decide) (by decide) ?_
      refine N.iconst (v := -1) dX4_status_233 (by decide) ?_
      exact N.iret dX4_status_234 rfl (Nat.zero_le _) (Nat.zero_le _) ⟨_, rfl, (by rw [xstatus, if_pos c8, if_neg t22_0, if_neg t22_1, if_neg t22_2, if_neg t22_3, if_neg t22_4, if_neg t22_5, if_neg t22_6, if_neg t22_7, if_neg t22_8, if_neg t22_9, if_neg t22_10, if_neg t22_11, if_neg t22_12, if_pos t22_13]; exact ⟨rfl, rfl, _, rfl, rel_xup⟩)⟩
    refine N.swc 14 (fun t22_14 => ?_) (fun t22_14 => ?_)
    · refine N.tsIn (off := 211) (tgt := 233) 14 t22_14 dX4_status_22 (by decide) (by decide) (by decide) (by decide) ?_
      refine N.iconst (v := -1) dX4_status_233 (by decide) ?_
      exact N.iret dX4_status_234 rfl (Nat.zero_le _) (Nat.zero_le _) ⟨_, rfl, (by rw [xstatus, if_pos c8, if_neg t22_0, if_neg t22_1, if_neg t22_2, if_neg t22_3, if_neg t22_4, if_neg t22_5, if_neg t22_6, if_neg t22_7, if_neg t22_8, if_neg t22_9, if_neg t22_10, if_neg t22_11, if_neg t22_12, if_neg t22_13, if_pos t22_14]; exact ⟨rfl, rfl, _, rfl, rel_xup⟩)⟩
    refine N.swc 15 (fun t22_15 => ?_) (fun t22_15 => ?_)
    · refine N.tsIn (off := 211) (tgt := 233) 15 t22_15 dX4_status_22 (by decide) (by decide) (by decide) (by decide) ?_
      refine N.iconst (v := -1) dX4_status_233 (by decide) ?_
      exact N.iret dX4_status_234 rfl (Nat.zero_le _) (Nat.zero_le _) ⟨_, rfl, (by rw [xstatus, if_pos c8, if_neg t22_0, if_neg t22_1, if_neg t22_2, if_neg t22_3, if_neg t22_4, if_neg t22_5, if_neg t22_6, if_neg t22_7, if_neg t22_8, if_neg t22_9, if_neg t22_10, if_neg t22_11, if_neg t22_12, if_neg t22_13, if_neg t22_14, if_pos t22_15]; exact ⟨rfl, rfl, _, rfl, rel_xup⟩)⟩
    refine N.swc 16 (fun t22_16 => ?_) (fun t22_16 => ?_)
    · refine N.tsIn (off := 211) (tgt := 233) 16 t22_16 dX4_status_22 (by decide) (by decide) (by decide) (by decide) ?_
      refine N.iconst (v := -1) dX4_status_233 (by decide) ?_
      exact N.iret dX4_status_234 rfl (Nat.zero_le _) (Nat.zero_le _) ⟨_, rfl, (by rw [xstatus, if_pos c8, if_neg t22_0, if_neg t22_1, if_neg t22_2, if_neg t22_3, if_neg t22_4, if_neg t22_5, if_neg t22_6, if_neg t22_7, if_neg t22_8, if_neg t22_9, if_neg t22_10, if_neg t22_11, if_neg t22_12, if_neg t22_13, if_neg t22_14, if_neg t22_15, if_pos t22_16]; exact ⟨rfl, rfl, _, rfl, rel_xup⟩)⟩
    refine N.swc 17 (fun t22_17 => ?_) (fun t22_17 => ?_)
    · refine N.tsIn (off := 190) (tgt := 212) 17 t22_17 dX4_status_22 (by decide) (by decide) (by decide) (by decide) ?_
      refine N.aload0 dX4_status_212 ?_
      refine N.getf dX4_status_213 flX4_28 yO rfl ?_
      refine N.getf dX4_status_216 flX4_157 yT rfl ?_
      exact N.iret dX4_status_219 rfl (Nat.zero_le _) (Nat.zero_le _) ⟨_, rfl, (by rw [xstatus, if_pos c8, if_neg t22_0, if_neg t22_1, if_neg t22_2, if_neg t22_3, if_neg t22_4, if_neg t22_5, if_neg t22_6, if_neg t22_7, if_neg t22_8, if_neg t22_9, if_neg t22_10, if_neg t22_11, if_neg t22_12, if_neg t22_13, if_neg t22_14, if_neg t22_15, if_neg t22_16, if_pos t22_17]; exact ⟨rfl, rfl, _, rfl, rel_xup⟩)⟩
    refine N.swc 18 (fun t22_18 => ?_) (fun t22_18 => ?_)
    · refine N.tsIn (off := 198) (tgt := 220) 18 t22_18 dX4_status_22 (by decide) (by decide) (by decide) (by decide) ?_
      refine N.aload0 dX4_status_220 ?_
      refine N.getf dX4_status_221 flX4_10 yO rfl ?_
      refine N.getf dX4_status_224 flX4_330 yO0 rfl ?_
      exact N.iret dX4_status_227 rfl (Nat.zero_le _) (Nat.zero_le _) ⟨_, rfl, (by rw [xstatus, if_pos c8, if_neg t22_0, if_neg t22_1, if_neg t22_2, if_neg t22_3, if_neg t22_4, if_neg t22_5, if_neg t22_6, if_neg t22_7, if_neg t22_8, if_neg t22_9, if_neg t22_10, if_neg t22_11, if_neg t22_12, if_neg t22_13, if_neg t22_14, if_neg t22_15, if_neg t22_16, if_neg t22_17, if_pos t22_18]; exact ⟨rfl, rfl, _, rfl, rel_xup⟩)⟩
    refine N.swc 19 (fun t22_19 => ?_) (fun t22_19 => ?_)
    · refine N.tsIn (off := 206) (tgt := 228) 19 t22_19 dX4_status_22 (by decide) (by decide) (by decide) (by decide) ?_
      refine N.aload0 dX4_status_228 ?_
      refine N.vi0 dX4_status_229 vX4_fullShelves lkX4_342 (s_X4_fullShelves _ _ _ _ _ _) yO rfl (Nat.le_of_ble_eq_true rfl) (Nat.le_of_ble_eq_true rfl) (Nat.zero_le _) (Nat.zero_le _) ?_
      rintro _ _ _ ⟨rfl, rfl, u2, p2, rfl⟩
      exact N.iret dX4_status_232 rfl (Nat.zero_le _) (Nat.zero_le _) ⟨_, rfl, (by rw [xstatus, if_pos c8, if_neg t22_0, if_neg t22_1, if_neg t22_2, if_neg t22_3, if_neg t22_4, if_neg t22_5, if_neg t22_6, if_neg t22_7, if_neg t22_8, if_neg t22_9, if_neg t22_10, if_neg t22_11, if_neg t22_12, if_neg t22_13, if_neg t22_14, if_neg t22_15, if_neg t22_16, if_neg t22_17, if_neg t22_18, if_pos t22_19]; exact ⟨rfl, rfl, _, rfl, rel_xup⟩)⟩
    refine N.tsOut (tgt := 233) dX4_status_22 (by have h0 := sw_ne t22_0 (z := 0) (by decide); have h1 := sw_ne t22_1 (z := 1) (by decide); have h2 := sw_ne t22_2 (z := 2) (by decide); have h3 := sw_ne t22_3 (z := 3) (by decide); have h4 := sw_ne t22_4 (z := 4) (by decide); have h5 := sw_ne t22_5 (z := 5) (by decide); have h6 := sw_ne t22_6 (z := 6) (by decide); have h7 := sw_ne t22_7 (z := 7) (by decide); have h8 := sw_ne t22_8 (z := 8) (by decide); have h9 := sw_ne t22_9 (z := 9) (by decide); have h10 := sw_ne t22_10 (z := 10) (by decide); have h11 := sw_ne t22_11 (z := 11) (by decide); have h12 := sw_ne t22_12 (z := 12) (by decide); have h13 := sw_ne t22_13 (z := 13) (by decide); have h14 := sw_ne t22_14 (z := 14) (by decide); have h15 := sw_ne t22_15 (z := 15) (by decide); have h16 := sw_ne t22_16 (z := 16) (by decide); have h17 := sw_ne t22_17 (z := 17) (by decide); have h18 := sw_ne t22_18 (z := 18) (by decide); have h19 := sw_ne t22_19 (z := 19) (by decide); omega) (by decide) ?_
    refine N.iconst (v := -1) dX4_status_233 (by decide) ?_
    exact N.iret dX4_status_234 rfl (Nat.zero_le _) (Nat.zero_le _) ⟨_, rfl, (by rw [xstatus, if_pos c8, if_neg t22_0, if_neg t22_1, if_neg t22_2, if_neg t22_3, if_neg t22_4, if_neg t22_5, if_neg t22_6, if_neg t22_7, if_neg t22_8, if_neg t22_9, if_neg t22_10, if_neg t22_11, if_neg t22_12, if_neg t22_13, if_neg t22_14, if_neg t22_15, if_neg t22_16, if_neg t22_17, if_neg t22_18, if_neg t22_19]; exact ⟨rfl, rfl, _, rfl, rel_xup⟩)⟩
  · refine N.aload0 dX4_status_11 ?_
    refine N.getf dX4_status_12 flX4_38 yO rfl ?_
    refine N.iload1 dX4_status_15 ?_
    refine N.bipush (v := 12) dX4_status_16 (by decide) ?_
    refine N.isub dX4_status_18 ?_
    refine N.iald dX4_status_19 yE (st5 c8) ?_
    exact N.iret dX4_status_20 rfl (Nat.zero_le _) (Nat.zero_le _) ⟨_, rfl, (by rw [xstatus, if_neg c8]; exact ⟨rfl, rfl, _, rfl, rel_xup⟩)⟩
def strP (v : CV) : Nat → Int32 × Int32 := pk (fun k => ¬ hasPlF v (nI k) = 0) nI (fun k => powAll (putOnV v (v.2 4 (nI k).toNatClampNeg)))
def strF (v : CV) : Int32 := (strP v 4).1
set_option maxRecDepth 100000 in
theorem l_X4_strongestLine {K : Kx} (w : Wd) (a sz : Nat) (x : XV) (h : okP (x.1 0)) (P : Int32 → Wd → Nat → Prop) (hP : ∀ u' p', P (strF (x.1 0)) (putU K w a x u' p') sz) : ∀ (nn k : Nat) (u : CV), k + nn = 4 → N K mX4_strongestLine 5 0 0 (Qi P) 9 [some (.ref a), some (.int (nI k))] [] (putU K w a x u (strP (x.1 0) k)) sz 0 0 := by
  intro nn
  induction nn with
  | zero =>
    intro k u hk
    obtain rfl : k = 4 := by omega
    refine N.iload1 dX4_strongestLine_9 ?_
    refine N.iconst (v := 4) dX4_strongestLine_10 (by decide) ?_
    refine N.icmp_ge (tgt := 52) dX4_strongestLine_11 (by decide) (fun c11 => ?_) (fun c11 => absurd (by decide) c11)
    refine N.aload0 dX4_strongestLine_52 ?_
    refine N.getf dX4_strongestLine_53 flX4_45 yO rfl ?_
    refine N.getf dX4_strongestLine_56 flX4_243 yP rfl ?_
    exact N.iret dX4_strongestLine_59 rfl (Nat.zero_le _) (Nat.zero_le _) ⟨_, rfl, (hP _ _)⟩
  | succ nn ih =>
    intro k u hk
    refine N.iload1 dX4_strongestLine_9 ?_
    refine N.iconst (v := 4) dX4_strongestLine_10 (by decide) ?_
    refine N.icmp_ge (tgt := 52) dX4_strongestLine_11 (by decide) (fun c11 => absurd c11 (nI_ge (a := k) (b := 4) (by omega) (by omega))) (fun c11 => ?_)
    refine N.aload0 dX4_strongestLine_14 ?_
    refine N.getf dX4_strongestLine_15 flX4_10 yO rfl ?_
    refine N.iload1 dX4_strongestLine_18 ?_
    refine N.vi1 dX4_strongestLine_19 vX1_hasPlayers lkX4_208 (Sp.n0i fun W => s_X1_hasPlayers W _ _ _ _) yO0 rfl (Nat.le_of_ble_eq_true rfl) (Nat.le_of_ble_eq_true rfl) (Nat.zero_le _) (Nat.zero_le _) ?_
    rintro _ _ _ ⟨rfl, rfl, rfl⟩
    refine N.if_eq (tgt := 46) dX4_strongestLine_22 (by decide) (fun c22 => ?_) (fun c22 => ?_)
    · refine N.iinc1 dX4_strongestLine_46 rfl (nI_inc _) ?_
      refine N.goto (tgt := 9) dX4_strongestLine_49 (by decide) ?_
      exact N.eqW (congrArg (putU K w a x _) (pk_f (not_not_intro c22))) (N.wk (by exact ⟨rfl, rfl, trivial⟩) (ih (k + 1) _ (by omega)))
    · refine N.aload0 dX4_strongestLine_25 ?_
      refine N.getf dX4_strongestLine_26 flX4_45 yO rfl ?_
      refine N.iload1 dX4_strongestLine_29 ?_
      refine N.aload0 dX4_strongestLine_30 ?_
      refine N.aload0 dX4_strongestLine_31 ?_
      refine N.getf dX4_strongestLine_32 flX4_10 yO rfl ?_
      refine N.getf dX4_strongestLine_35 flX4_142 yO0 rfl ?_
      refine N.iload1 dX4_strongestLine_38 ?_
      refine N.iald dX4_strongestLine_39 yA0_4 (in4 (by omega)) ?_
      refine N.vi1 dX4_strongestLine_40 vX4_powerWith lkX4_196 (s_X4_powerWith _ _ _ _ _ _ _ h) yO rfl (Nat.le_of_ble_eq_true rfl) (Nat.le_of_ble_eq_true rfl) (Nat.zero_le _) (Nat.zero_le _) ?_
      rintro _ _ _ ⟨rfl, rfl, rfl⟩
      refine N.vv2 dX4_strongestLine_43 vX0_offer lkX4_240 (Sp.pv fun W => s_X0_offer W _ _ _ _ _) yP rfl (Nat.le_of_ble_eq_true rfl) (Nat.le_of_ble_eq_true rfl) (Nat.zero_le _) (Nat.zero_le _) ?_
      rintro _ _ ⟨rfl, rfl⟩
      refine N.iinc1 dX4_strongestLine_46 rfl (nI_inc _) ?_
      refine N.goto (tgt := 9) dX4_strongestLine_49 (by decide) ?_
      exact N.eqW (congrArg (putU K w a x _) (pk_t c22)) (N.wk (by exact ⟨rfl, rfl, trivial⟩) (ih (k + 1) _ (by omega)))
set_option maxRecDepth 100000 in
theorem s_X4_strongestLine {K : Kx} (w : Wd) (a sz : Nat) (x : XV) (u : CV) (p : Int32 × Int32) (h : okP (x.1 0)) : Sp K mX4_strongestLine 5 0 0 [.ref a] (putU K w a x u p) sz (Qi fun r w' sz' => r = strF (x.1 0) ∧ sz' = sz ∧ ∃ u' p', w' = putU K w a x u' p') := by
  refine Sp.ofN [some (.ref a), none] rfl rfl rfl (Nat.le_of_ble_eq_true rfl) ?_
  refine N.aload0 dX4_strongestLine_0 ?_
  refine N.getf dX4_strongestLine_1 flX4_45 yO rfl ?_
  refine N.vv0 dX4_strongestLine_4 vX0_begin lkX4_237 (Sp.pv fun W => s_X0_begin W _ _ _) yP rfl (Nat.le_of_ble_eq_true rfl) (Nat.le_of_ble_eq_true rfl) (Nat.zero_le _) (Nat.zero_le _) ?_
  rintro _ _ ⟨rfl, rfl⟩
  refine N.iconst (v := 0) dX4_strongestLine_7 (by decide) ?_
  refine N.istore1 dX4_strongestLine_8 rfl ?_
  exact N.wk (by exact ⟨rfl, rfl, trivial⟩) (l_X4_strongestLine w a _ x h _ (fun _ _ => ⟨rfl, rfl, _, _, rfl⟩) 4 0 u (by omega))
def xbest (x : XV) (t : Int32) : Int32 × XV := if isInF t 0 1 = 0 then rf x (-2) else if firstLF (x.1 0) = -1 then rf x (-5) else if t = 0 then (freshF (x.1 0), x) else (strF (x.1 0), x)
set_option maxRecDepth 100000 in
theorem s_X4_best {K : Kx} (w : Wd) (a sz : Nat) (x : XV) (t : Int32) (hX : okX x)  : Sp K mX4_best 9 0 0 [.ref a, .int t] (putX K w a x) sz (Qi fun r w' sz' => r = (xbest x t).1 ∧ sz' = sz ∧ ∃ x', w' = putX K w a x' ∧ rel x' = rel (xbest x t).2) := by
  refine Sp.ofN [some (.ref a), some (.int t)] rfl rfl rfl (Nat.le_of_ble_eq_true rfl) ?_
  have h : okP (x.1 0) := hX.1
  refine N.eqW (congrArg (putX K w a) (xup_self x)) ?_
  generalize x.1 1 = u0
  generalize x.2.2.2.2.1 = p0
  refine N.iload1 dX4_best_0 ?_
  refine N.iconst (v := 0) dX4_best_1 (by decide) ?_
  refine N.iconst (v := 1) dX4_best_2 (by decide) ?_
  refine N.si3 dX4_best_3 vX4_isIn lkX4_58 (s_X4_isIn _ _ _ _ _) rfl (Nat.le_of_ble_eq_true rfl) (Nat.le_of_ble_eq_true rfl) (Nat.zero_le _) (Nat.zero_le _) ?_
  rintro _ _ _ ⟨rfl, rfl, rfl⟩
  refine N.if_ne (tgt := 16) dX4_best_6 (by decide) (fun c6 => ?_) (fun c6 => ?_)
  · refine N.aload0 dX4_best_16 ?_
    refine N.getf dX4_best_17 flX4_10 yO rfl ?_
    refine N.vi0 dX4_best_20 vX1_firstLine lkX4_217 (Sp.n0i fun W => s_X1_firstLine W _ _ _) yO0 rfl (Nat.le_of_ble_eq_true rfl) (Nat.le_of_ble_eq_true rfl) (Nat.zero_le _) (Nat.zero_le _) ?_
    rintro _ _ _ ⟨rfl, rfl, rfl⟩
    refine N.iconst (v := -1) dX4_best_23 (by decide) ?_
    refine N.icmp_ne (tgt := 34) dX4_best_24 (by decide) (fun c24 => ?_) (fun c24 => ?_)
    · refine N.iload1 dX4_best_34 ?_
      refine N.if_ne (tgt := 48) dX4_best_35 (by decide) (fun c35 => ?_) (fun c35 => ?_)
      · refine N.aload0 dX4_best_48 ?_
        refine N.vi0 dX4_best_49 vX4_strongestLine lkX4_223 (s_X4_strongestLine _ _ _ _ _ _ h) yO rfl (Nat.le_of_ble_eq_true rfl) (Nat.le_of_ble_eq_true rfl) (Nat.zero_le _) (Nat.zero_le _) ?_
        rintro _ _ _ ⟨rfl, rfl, u2, p2, rfl⟩
        exact N.iret dX4_best_52 rfl (Nat.zero_le _) (Nat.zero_le _) ⟨_, rfl, (by rw [xbest, if_neg c6, if_neg c24, if_neg c35]; exact ⟨rfl, rfl, _, rfl, rel_xup⟩)⟩
      · refine N.aload0 dX4_best_38 ?_
        refine N.getf dX4_best_39 flX4_10 yO rfl ?_
        refine N.vi0 dX4_best_42 vX1_freshestLine lkX4_220 (Sp.n0i fun W => s_X1_freshestLine W _ _ _ h) yO0 rfl (Nat.le_of_ble_eq_true rfl) (Nat.le_of_ble_eq_true rfl) (Nat.zero_le _) (Nat.zero_le _) ?_
        rintro _ _ _ ⟨rfl, rfl, rfl⟩
        refine N.goto (tgt := 52) dX4_best_45 (by decide) ?_
        exact N.iret dX4_best_52 rfl (Nat.zero_le _) (Nat.zero_le _) ⟨_, rfl, (by rw [xbest, if_neg c6, if_neg c24, if_pos c35]; exact ⟨rfl, rfl, _, rfl, rel_xup⟩)⟩
    · refine N.aload0 dX4_best_27 ?_
      refine N.bipush (v := -5) dX4_best_28 (by decide) ?_
      refine N.vi1 dX4_best_30 vX4_refuse lkX4_62 (s_X4_refuse _ _ _ _ _ _ _) yO rfl (Nat.le_of_ble_eq_true rfl) (Nat.le_of_ble_eq_true rfl) (Nat.zero_le _) (Nat.zero_le _) ?_
      rintro _ _ _ ⟨rfl, rfl, rfl⟩
      exact N.iret dX4_best_33 rfl (Nat.zero_le _) (Nat.zero_le _) ⟨_, rfl, (by rw [xbest, if_neg c6, if_pos c24]; exact rf_ok)⟩
  · refine N.aload0 dX4_best_9 ?_
    refine N.bipush (v := -2) dX4_best_10 (by decide) ?_
    refine N.vi1 dX4_best_12 vX4_refuse lkX4_62 (s_X4_refuse _ _ _ _ _ _ _) yO rfl (Nat.le_of_ble_eq_true rfl) (Nat.le_of_ble_eq_true rfl) (Nat.zero_le _) (Nat.zero_le _) ?_
    rintro _ _ _ ⟨rfl, rfl, rfl⟩
    exact N.iret dX4_best_15 rfl (Nat.zero_le _) (Nat.zero_le _) ⟨_, rfl, (by rw [xbest, if_pos c6]; exact rf_ok)⟩
def fiveP (v : CV) : Nat → Int32 × Int32 := pk (fun k => bcF (nI (k + 1)) = minF 5 (v.1 0)) (fun k => nI (k + 1)) (fun k => powAll (putOnV v (nI (k + 1))))
def fiveF (v : CV) : Int32 := (fiveP v (everyF v).toNatClampNeg).1
theorem every_n : ∀ P, P < 11 → ∃ E, E ≤ 1023 ∧ ((1 : Int32) <<< (nI P &&& 31)) - 1 = nI E := by
  intro P hP
  refine ⟨2 ^ P - 1, ?_, ?_⟩
  · have : 2 ^ P ≤ 2 ^ 10 := Nat.pow_le_pow_right (by decide) (by omega)
    omega
  · rcases (show P = 0 ∨ P = 1 ∨ P = 2 ∨ P = 3 ∨ P = 4 ∨ P = 5 ∨ P = 6 ∨ P = 7 ∨ P = 8 ∨ P = 9 ∨ P = 10 by omega) with rfl | rfl | rfl | rfl | rfl | rfl | rfl | rfl | rfl | rfl | rfl <;> decide
theorem okP.ev {v : CV} (h : okP v) : ∃ E, E ≤ 1023 ∧ everyF v = nI E := by
  obtain ⟨P, hP, e⟩ := h
  unfold everyF
  rw [e]
  exact every_n P (by omega)
set_option maxRecDepth 100000 in
theorem l_X4_five {K : Kx} (w : Wd) (a sz : Nat) (x : XV) (h : okP (x.1 0)) (E : Nat) (hE : E ≤ 1023) (he : everyF (x.1 0) = nI E) (P : Int32 → Wd → Nat → Prop) (hP : ∀ u' p', P ((fiveP (x.1 0) E).1) (putU K w a x u' p') sz) : ∀ (nn k : Nat) (u : CV), k + nn = E → N K mX4_five 9 0 0 (Qi P) 38 [some (.ref a), some (.int (minF 5 ((x.1 0).1 0))), some (.int (nI (k + 1)))] [] (putU K w a x u (fiveP (x.1 0) k)) sz 0 0 := by
  intro nn
  induction nn with
  | zero =>
    intro k u hk
    obtain rfl : k = E := by omega
    refine N.iload2 dX4_five_38 ?_
    refine N.aload0 dX4_five_39 ?_
    refine N.getf dX4_five_40 flX4_10 yO rfl ?_
    refine N.vi0 dX4_five_43 vX1_everybody lkX4_134 (Sp.n0i fun W => s_X1_everybody W _ _ _) yO0 rfl (Nat.le_of_ble_eq_true rfl) (Nat.le_of_ble_eq_true rfl) (Nat.zero_le _) (Nat.zero_le _) ?_
    rintro _ _ _ ⟨rfl, rfl, rfl⟩
    refine N.icmp_gt (tgt := 76) dX4_five_46 (by decide) (fun c46 => ?_) (fun c46 => absurd (by rw [he]; exact nI_lt (by omega) (by omega)) c46)
    refine N.aload0 dX4_five_76 ?_
    refine N.getf dX4_five_77 flX4_45 yO rfl ?_
    refine N.getf dX4_five_80 flX4_243 yP rfl ?_
    exact N.iret dX4_five_83 rfl (Nat.zero_le _) (Nat.zero_le _) ⟨_, rfl, (hP _ _)⟩
  | succ nn ih =>
    intro k u hk
    refine N.iload2 dX4_five_38 ?_
    refine N.aload0 dX4_five_39 ?_
    refine N.getf dX4_five_40 flX4_10 yO rfl ?_
    refine N.vi0 dX4_five_43 vX1_everybody lkX4_134 (Sp.n0i fun W => s_X1_everybody W _ _ _) yO0 rfl (Nat.le_of_ble_eq_true rfl) (Nat.le_of_ble_eq_true rfl) (Nat.zero_le _) (Nat.zero_le _) ?_
    rintro _ _ _ ⟨rfl, rfl, rfl⟩
    refine N.icmp_gt (tgt := 76) dX4_five_46 (by decide) (fun c46 => absurd c46 (by rw [he]; exact nI_nlt (by omega) (by omega))) (fun c46 => ?_)
    refine N.iload2 dX4_five_49 ?_
    refine N.si1 dX4_five_50 vJ6_bitCount_0f7a4 lkX4_137 (s_J6_bitCount_0f7a4 _ _ _) rfl (Nat.le_of_ble_eq_true rfl) (Nat.le_of_ble_eq_true rfl) (Nat.zero_le _) (Nat.zero_le _) ?_
    rintro _ _ _ ⟨rfl, rfl, rfl⟩
    refine N.iload1 dX4_five_53 ?_
    refine N.icmp_ne (tgt := 70) dX4_five_54 (by decide) (fun c54 => ?_) (fun c54 => ?_)
    · refine N.iinc2 dX4_five_70 rfl (nI_inc _) ?_
      refine N.goto (tgt := 38) dX4_five_73 (by decide) ?_
      exact N.eqW (congrArg (putU K w a x _) (pk_f c54)) (N.wk (by exact ⟨rfl, rfl, rfl, trivial⟩) (ih (k + 1) _ (by omega)))
    · refine N.aload0 dX4_five_57 ?_
      refine N.getf dX4_five_58 flX4_45 yO rfl ?_
      refine N.iload2 dX4_five_61 ?_
      refine N.aload0 dX4_five_62 ?_
      refine N.iload2 dX4_five_63 ?_
      refine N.vi1 dX4_five_64 vX4_powerWith lkX4_196 (s_X4_powerWith _ _ _ _ _ _ _ h) yO rfl (Nat.le_of_ble_eq_true rfl) (Nat.le_of_ble_eq_true rfl) (Nat.zero_le _) (Nat.zero_le _) ?_
      rintro _ _ _ ⟨rfl, rfl, rfl⟩
      refine N.vv2 dX4_five_67 vX0_offer lkX4_240 (Sp.pv fun W => s_X0_offer W _ _ _ _ _) yP rfl (Nat.le_of_ble_eq_true rfl) (Nat.le_of_ble_eq_true rfl) (Nat.zero_le _) (Nat.zero_le _) ?_
      rintro _ _ ⟨rfl, rfl⟩
      refine N.iinc2 dX4_five_70 rfl (nI_inc _) ?_
      refine N.goto (tgt := 38) dX4_five_73 (by decide) ?_
      exact N.eqW (congrArg (putU K w a x _) (pk_t c54)) (N.wk (by exact ⟨rfl, rfl, rfl, trivial⟩) (ih (k + 1) _ (by omega)))
def xfive (x : XV) : Int32 × XV := if (x.1 0).1 0 = 0 then rf x (-5) else (fiveF (x.1 0), x)
set_option maxRecDepth 100000 in
theorem s_X4_five {K : Kx} (w : Wd) (a sz : Nat) (x : XV) (hX : okX x)  : Sp K mX4_five 9 0 0 [.ref a] (putX K w a x) sz (Qi fun r w' sz' => r = (xfive x).1 ∧ sz' = sz ∧ ∃ x', w' = putX K w a x' ∧ rel x' = rel (xfive x).2) := by
  refine Sp.ofN [some (.ref a), none, none] rfl rfl rfl (Nat.le_of_ble_eq_true rfl) ?_
  have h : okP (x.1 0) := hX.1
  refine N.eqW (congrArg (putX K w a) (xup_self x)) ?_
  generalize x.1 1 = u0
  generalize x.2.2.2.2.1 = p0
  refine N.aload0 dX4_five_0 ?_
  refine N.getf dX4_five_1 flX4_10 yO rfl ?_
  refine N.getf dX4_five_4 flX4_229 yO0 rfl ?_
  refine N.if_ne (tgt := 17) dX4_five_7 (by decide) (fun c7 => ?_) (fun c7 => ?_)
  · refine N.iconst (v := 5) dX4_five_17 (by decide) ?_
    refine N.aload0 dX4_five_18 ?_
    refine N.getf dX4_five_19 flX4_10 yO rfl ?_
    refine N.getf dX4_five_22 flX4_229 yO0 rfl ?_
    refine N.mmin dX4_five_25 mkX4_232 (Nat.le_of_ble_eq_true rfl) (Nat.le_of_ble_eq_true rfl) (Nat.zero_le _) (Nat.zero_le _) ?_
    refine N.istore1 dX4_five_28 rfl ?_
    obtain ⟨E, hE, he⟩ := h.ev
    have hc : (everyF (x.1 0)).toNatClampNeg = E := by rw [he, nI_clamp (by omega)]
    refine N.aload0 dX4_five_29 ?_
    refine N.getf dX4_five_30 flX4_45 yO rfl ?_
    refine N.vv0 dX4_five_33 vX0_begin lkX4_237 (Sp.pv fun W => s_X0_begin W _ _ _) yP rfl (Nat.le_of_ble_eq_true rfl) (Nat.le_of_ble_eq_true rfl) (Nat.zero_le _) (Nat.zero_le _) ?_
    rintro _ _ ⟨rfl, rfl⟩
    refine N.iconst (v := 1) dX4_five_36 (by decide) ?_
    refine N.istore2 dX4_five_37 rfl ?_
    exact N.wk (by exact ⟨rfl, rfl, rfl, trivial⟩) (l_X4_five w a _ x h E hE he _ (fun _ _ => by rw [xfive, if_neg c7, fiveF, hc]; exact ⟨rfl, rfl, _, rfl, rel_xup⟩) E 0 _ (by omega))
  · refine N.aload0 dX4_five_10 ?_
    refine N.bipush (v := -5) dX4_five_11 (by decide) ?_
    refine N.vi1 dX4_five_13 vX4_refuse lkX4_62 (s_X4_refuse _ _ _ _ _ _ _) yO rfl (Nat.le_of_ble_eq_true rfl) (Nat.le_of_ble_eq_true rfl) (Nat.zero_le _) (Nat.zero_le _) ?_
    rintro _ _ _ ⟨rfl, rfl, rfl⟩
    exact N.iret dX4_five_16 rfl (Nat.zero_le _) (Nat.zero_le _) ⟨_, rfl, (by rw [xfive, if_pos c7]; exact rf_ok)⟩
def trdP (u : CV) : Nat → Int32 × Int32 := pkA nI (fun k => u.2 3 (nI k).toNatClampNeg)
def trdF (u : CV) : Int32 := (trdP u (np u)).1
theorem trd_eq {u : CV} {P : Nat} (e : np u = P) : (trdP u P).1 = trdF u := by rw [trdF, e]
set_option maxRecDepth 100000 in
set_option maxRecDepth 100000 in
theorem l_X4_tiredest {K : Kx} (w : Wd) (a sz : Nat) (x : XV) (u : CV) (n : Int32) (P0 : Nat) (hP0 : P0 ≤ 10) (e0 : u.1 0 = nI P0) (P : Int32 → Wd → Nat → Prop) (hP : ∀ u' p', P ((trdP u P0).1) (putU K w a x u' p') sz) : ∀ (nn k : Nat), k + nn = P0 → N K mX4_tiredest 9 0 0 (Qi P) 63 [some (.ref a), some (.int n), some (.int (nI k))] [] (putU K w a x u (trdP u k)) sz 0 0 := by
  intro nn
  induction nn with
  | zero =>
    intro k hk
    obtain rfl : k = P0 := by omega
    refine N.iload2 dX4_tiredest_63 ?_
    refine N.aload0 dX4_tiredest_64 ?_
    refine N.getf dX4_tiredest_65 flX4_16 yO rfl ?_
    refine N.getf dX4_tiredest_68 flX4_229 yO1 rfl ?_
    refine N.icmp_ge (tgt := 97) dX4_tiredest_71 (by decide) (fun c71 => ?_) (fun c71 => absurd (pl_ge e0 (by omega) (by omega)) c71)
    refine N.aload0 dX4_tiredest_97 ?_
    refine N.getf dX4_tiredest_98 flX4_45 yO rfl ?_
    refine N.getf dX4_tiredest_101 flX4_243 yP rfl ?_
    exact N.iret dX4_tiredest_104 rfl (Nat.zero_le _) (Nat.zero_le _) ⟨_, rfl, (hP _ _)⟩
  | succ nn ih =>
    intro k hk
    refine N.iload2 dX4_tiredest_63 ?_
    refine N.aload0 dX4_tiredest_64 ?_
    refine N.getf dX4_tiredest_65 flX4_16 yO rfl ?_
    refine N.getf dX4_tiredest_68 flX4_229 yO1 rfl ?_
    refine N.icmp_ge (tgt := 97) dX4_tiredest_71 (by decide) (fun c71 => absurd c71 (pl_nge e0 (by omega) (by omega))) (fun c71 => ?_)
    refine N.aload0 dX4_tiredest_74 ?_
    refine N.getf dX4_tiredest_75 flX4_45 yO rfl ?_
    refine N.iload2 dX4_tiredest_78 ?_
    refine N.aload0 dX4_tiredest_79 ?_
    refine N.getf dX4_tiredest_80 flX4_16 yO rfl ?_
    refine N.getf dX4_tiredest_83 flX4_128 yO1 rfl ?_
    refine N.iload2 dX4_tiredest_86 ?_
    refine N.iald dX4_tiredest_87 yA1_3 (in10 (by omega)) ?_
    refine N.vv2 dX4_tiredest_88 vX0_offer lkX4_240 (Sp.pv fun W => s_X0_offer W _ _ _ _ _) yP rfl (Nat.le_of_ble_eq_true rfl) (Nat.le_of_ble_eq_true rfl) (Nat.zero_le _) (Nat.zero_le _) ?_
    rintro _ _ ⟨rfl, rfl⟩
    refine N.iinc2 dX4_tiredest_91 rfl (nI_inc _) ?_
    refine N.goto (tgt := 63) dX4_tiredest_94 (by decide) ?_
    exact ih (k + 1) (by omega)
def xtrd (x : XV) (n : Int32) : Int32 × XV := if isInF n 0 600 = 0 then rf x (-2) else if (x.1 0).1 0 = 0 then rf x (-5) else (trdF (passV n (x.1 0)), x)
set_option maxRecDepth 100000 in
theorem s_X4_tiredest {K : Kx} (w : Wd) (a sz : Nat) (x : XV) (n : Int32) (hX : okX x)  : Sp K mX4_tiredest 9 0 0 [.ref a, .int n] (putX K w a x) sz (Qi fun r w' sz' => r = (xtrd x n).1 ∧ sz' = sz ∧ ∃ x', w' = putX K w a x' ∧ rel x' = rel (xtrd x n).2) := by
  refine Sp.ofN [some (.ref a), some (.int n), none] rfl rfl rfl (Nat.le_of_ble_eq_true rfl) ?_
  have h : okP (x.1 0) := hX.1
  refine N.eqW (congrArg (putX K w a) (xup_self x)) ?_
  generalize x.1 1 = u0
  generalize x.2.2.2.2.1 = p0
  refine N.iload1 dX4_tiredest_0 ?_
  refine N.iconst (v := 0) dX4_tiredest_1 (by decide) ?_
  refine N.sipush (v := 600) dX4_tiredest_2 (by decide) ?_
  refine N.si3 dX4_tiredest_5 vX4_isIn lkX4_58 (s_X4_isIn _ _ _ _ _) rfl (Nat.le_of_ble_eq_true rfl) (Nat.le_of_ble_eq_true rfl) (Nat.zero_le _) (Nat.zero_le _) ?_
  rintro _ _ _ ⟨rfl, rfl, rfl⟩
  refine N.if_ne (tgt := 18) dX4_tiredest_8 (by decide) (fun c8 => ?_) (fun c8 => ?_)
  · refine N.aload0 dX4_tiredest_18 ?_
    refine N.getf dX4_tiredest_19 flX4_10 yO rfl ?_
    refine N.getf dX4_tiredest_22 flX4_229 yO0 rfl ?_
    refine N.if_ne (tgt := 35) dX4_tiredest_25 (by decide) (fun c25 => ?_) (fun c25 => ?_)
    · have ho := h
      refine N.aload0 dX4_tiredest_35 ?_
      refine N.getf dX4_tiredest_36 flX4_16 yO rfl ?_
      refine N.aload0 dX4_tiredest_39 ?_
      refine N.getf dX4_tiredest_40 flX4_10 yO rfl ?_
      refine N.vv1 dX4_tiredest_43 vX1_takeFrom lkX4_161 (Sp.tk) yO1 rfl (Nat.le_of_ble_eq_true rfl) (Nat.le_of_ble_eq_true rfl) (Nat.zero_le _) (Nat.zero_le _) ?_
      rintro _ _ ⟨rfl, rfl⟩
      refine N.aload0 dX4_tiredest_46 ?_
      refine N.getf dX4_tiredest_47 flX4_16 yO rfl ?_
      refine N.iload1 dX4_tiredest_50 ?_
      refine N.vv1 dX4_tiredest_51 vX1_passSeconds lkX4_246 (Sp.n1v fun W => s_X1_passSeconds W _ _ _ _ ho) yO1 rfl (Nat.le_of_ble_eq_true rfl) (Nat.le_of_ble_eq_true rfl) (Nat.zero_le _) (Nat.zero_le _) ?_
      rintro _ _ ⟨rfl, rfl⟩
      obtain ⟨P0, hP0, e0, e1⟩ := np_ex (h.pass n)
      refine N.aload0 dX4_tiredest_54 ?_
      refine N.getf dX4_tiredest_55 flX4_45 yO rfl ?_
      refine N.vv0 dX4_tiredest_58 vX0_begin lkX4_237 (Sp.pv fun W => s_X0_begin W _ _ _) yP rfl (Nat.le_of_ble_eq_true rfl) (Nat.le_of_ble_eq_true rfl) (Nat.zero_le _) (Nat.zero_le _) ?_
      rintro _ _ ⟨rfl, rfl⟩
      refine N.iconst (v := 0) dX4_tiredest_61 (by decide) ?_
      refine N.istore2 dX4_tiredest_62 rfl ?_
      exact N.wk (by exact ⟨rfl, rfl, rfl, trivial⟩) (l_X4_tiredest w a _ x (passV n (x.1 0)) n P0 hP0 e0 _ (fun _ _ => pub_ok (by rw [xtrd, if_neg c8, if_neg c25, trd_eq e1])) P0 0 (by omega))
    · refine N.aload0 dX4_tiredest_28 ?_
      refine N.bipush (v := -5) dX4_tiredest_29 (by decide) ?_
      refine N.vi1 dX4_tiredest_31 vX4_refuse lkX4_62 (s_X4_refuse _ _ _ _ _ _ _) yO rfl (Nat.le_of_ble_eq_true rfl) (Nat.le_of_ble_eq_true rfl) (Nat.zero_le _) (Nat.zero_le _) ?_
      rintro _ _ _ ⟨rfl, rfl, rfl⟩
      exact N.iret dX4_tiredest_34 rfl (Nat.zero_le _) (Nat.zero_le _) ⟨_, rfl, (by rw [xtrd, if_neg c8, if_pos c25]; exact rf_ok)⟩
  · refine N.aload0 dX4_tiredest_11 ?_
    refine N.bipush (v := -2) dX4_tiredest_12 (by decide) ?_
    refine N.vi1 dX4_tiredest_14 vX4_refuse lkX4_62 (s_X4_refuse _ _ _ _ _ _ _) yO rfl (Nat.le_of_ble_eq_true rfl) (Nat.le_of_ble_eq_true rfl) (Nat.zero_le _) (Nat.zero_le _) ?_
    rintro _ _ _ ⟨rfl, rfl, rfl⟩
    exact N.iret dX4_tiredest_17 rfl (Nat.zero_le _) (Nat.zero_le _) ⟨_, rfl, (by rw [xtrd, if_pos c8]; exact rf_ok)⟩
def thdP (v : CV) (n : Int32) : Nat → Int32 × Int32 := pkA nI (fun k => gainsF (setS v 4 (nI k)) n)
def whrP (v : CV) (l n : Int32) : Nat → Int32 × Int32 := pkA nI (fun k => chgG v l n (nI k))
set_option maxRecDepth 100000 in
theorem l_X4_third {K : Kx} (w : Wd) (a sz : Nat) (x : XV) (n : Int32) (h : okP (x.1 0)) (m : Nat) (hm : m ≤ 600) (hn : n = nI m) (P : Int32 → Wd → Nat → Prop) (hP : ∀ u' p', P ((thdP (x.1 0) n 3).1) (putU K w a x u' p') sz) : ∀ (nn k : Nat) (u : CV), k + nn = 3 → N K mX4_third 9 0 0 (Qi P) 27 [some (.ref a), some (.int n), some (.int (nI k))] [] (putU K w a x u (thdP (x.1 0) n k)) sz 0 0 := by
  intro nn
  induction nn with
  | zero =>
    intro k u hk
    obtain rfl : k = 3 := by omega
    refine N.iload2 dX4_third_27 ?_
    refine N.iconst (v := 3) dX4_third_28 (by decide) ?_
    refine N.icmp_ge (tgt := 73) dX4_third_29 (by decide) (fun c29 => ?_) (fun c29 => absurd (by decide) c29)
    refine N.aload0 dX4_third_73 ?_
    refine N.getf dX4_third_74 flX4_45 yO rfl ?_
    refine N.getf dX4_third_77 flX4_243 yP rfl ?_
    exact N.iret dX4_third_80 rfl (Nat.zero_le _) (Nat.zero_le _) ⟨_, rfl, (hP _ _)⟩
  | succ nn ih =>
    intro k u hk
    refine N.iload2 dX4_third_27 ?_
    refine N.iconst (v := 3) dX4_third_28 (by decide) ?_
    refine N.icmp_ge (tgt := 73) dX4_third_29 (by decide) (fun c29 => absurd c29 (nI_ge (a := k) (b := 3) (by omega) (by omega))) (fun c29 => ?_)
    refine N.aload0 dX4_third_32 ?_
    refine N.getf dX4_third_33 flX4_16 yO rfl ?_
    refine N.aload0 dX4_third_36 ?_
    refine N.getf dX4_third_37 flX4_10 yO rfl ?_
    refine N.vv1 dX4_third_40 vX1_takeFrom lkX4_161 (Sp.tk) yO1 rfl (Nat.le_of_ble_eq_true rfl) (Nat.le_of_ble_eq_true rfl) (Nat.zero_le _) (Nat.zero_le _) ?_
    rintro _ _ ⟨rfl, rfl⟩
    refine N.aload0 dX4_third_43 ?_
    refine N.getf dX4_third_44 flX4_16 yO rfl ?_
    refine N.iload2 dX4_third_47 ?_
    refine N.putf dX4_third_48 flX4_145 yO1 (Nat.le_of_ble_eq_true rfl) (fun _ h => by cases h; rfl) rfl rfl yP1_4 ?_
    refine N.aload0 dX4_third_51 ?_
    refine N.getf dX4_third_52 flX4_45 yO rfl ?_
    refine N.iload2 dX4_third_55 ?_
    refine N.aload0 dX4_third_56 ?_
    refine N.getf dX4_third_57 flX4_16 yO rfl ?_
    refine N.iload1 dX4_third_60 ?_
    refine N.vi1 dX4_third_61 vX1_gainsIn lkX4_253 (Sp.n1i fun W => s_X1_gainsIn W _ _ _ _ m hm hn (h.set (by decide) _)) yO1 rfl (Nat.le_of_ble_eq_true rfl) (Nat.le_of_ble_eq_true rfl) (Nat.zero_le _) (Nat.zero_le _) ?_
    rintro _ _ _ ⟨rfl, rfl, rfl⟩
    refine N.vv2 dX4_third_64 vX0_offer lkX4_240 (Sp.pv fun W => s_X0_offer W _ _ _ _ _) yP rfl (Nat.le_of_ble_eq_true rfl) (Nat.le_of_ble_eq_true rfl) (Nat.zero_le _) (Nat.zero_le _) ?_
    rintro _ _ ⟨rfl, rfl⟩
    refine N.iinc2 dX4_third_67 rfl (nI_inc _) ?_
    refine N.goto (tgt := 27) dX4_third_70 (by decide) ?_
    exact ih (k + 1) _ (by omega)
def xthird (x : XV) (n : Int32) : Int32 × XV := if isInF n 0 600 = 0 then rf x (-2) else ((thdP (x.1 0) n 3).1, x)
set_option maxRecDepth 100000 in
theorem s_X4_third {K : Kx} (w : Wd) (a sz : Nat) (x : XV) (n : Int32) (hX : okX x)  : Sp K mX4_third 9 0 0 [.ref a, .int n] (putX K w a x) sz (Qi fun r w' sz' => r = (xthird x n).1 ∧ sz' = sz ∧ ∃ x', w' = putX K w a x' ∧ rel x' = rel (xthird x n).2) := by
  refine Sp.ofN [some (.ref a), some (.int n), none] rfl rfl rfl (Nat.le_of_ble_eq_true rfl) ?_
  have h : okP (x.1 0) := hX.1
  refine N.eqW (congrArg (putX K w a) (xup_self x)) ?_
  generalize x.1 1 = u0
  generalize x.2.2.2.2.1 = p0
  refine N.iload1 dX4_third_0 ?_
  refine N.iconst (v := 0) dX4_third_1 (by decide) ?_
  refine N.sipush (v := 600) dX4_third_2 (by decide) ?_
  refine N.si3 dX4_third_5 vX4_isIn lkX4_58 (s_X4_isIn _ _ _ _ _) rfl (Nat.le_of_ble_eq_true rfl) (Nat.le_of_ble_eq_true rfl) (Nat.zero_le _) (Nat.zero_le _) ?_
  rintro _ _ _ ⟨rfl, rfl, rfl⟩
  refine N.if_ne (tgt := 18) dX4_third_8 (by decide) (fun c8 => ?_) (fun c8 => ?_)
  · obtain ⟨m, hm, hn⟩ := in_n (N' := 600) (by decide) c8
    have ho := h
    refine N.aload0 dX4_third_18 ?_
    refine N.getf dX4_third_19 flX4_45 yO rfl ?_
    refine N.vv0 dX4_third_22 vX0_begin lkX4_237 (Sp.pv fun W => s_X0_begin W _ _ _) yP rfl (Nat.le_of_ble_eq_true rfl) (Nat.le_of_ble_eq_true rfl) (Nat.zero_le _) (Nat.zero_le _) ?_
    rintro _ _ ⟨rfl, rfl⟩
    refine N.iconst (v := 0) dX4_third_25 (by decide) ?_
    refine N.istore2 dX4_third_26 rfl ?_
    exact N.wk (by exact ⟨rfl, rfl, rfl, trivial⟩) (l_X4_third w a _ x n h m hm hn _ (fun _ _ => (pub_ok (by rw [xthird, if_neg c8]))) 3 0 _ (by omega))
  · refine N.aload0 dX4_third_11 ?_
    refine N.bipush (v := -2) dX4_third_12 (by decide) ?_
    refine N.vi1 dX4_third_14 vX4_refuse lkX4_62 (s_X4_refuse _ _ _ _ _ _ _) yO rfl (Nat.le_of_ble_eq_true rfl) (Nat.le_of_ble_eq_true rfl) (Nat.zero_le _) (Nat.zero_le _) ?_
    rintro _ _ _ ⟨rfl, rfl, rfl⟩
    exact N.iret dX4_third_17 rfl (Nat.zero_le _) (Nat.zero_le _) ⟨_, rfl, (by rw [xthird, if_pos c8]; exact rf_ok)⟩
set_option maxRecDepth 100000 in
theorem l_X4_where {K : Kx} (w : Wd) (a sz : Nat) (x : XV) (l n : Int32) (hl : vp_in l 4) (h : okP (x.1 0)) (m : Nat) (hm : m ≤ 600) (hn : n = nI m) (P : Int32 → Wd → Nat → Prop) (hP : ∀ u' p', P ((whrP (x.1 0) l n 3).1) (putU K w a x u' p') sz) : ∀ (nn k : Nat) (u : CV), k + nn = 3 → N K mX4_where 9 0 0 (Qi P) 52 [some (.ref a), some (.int l), some (.int n), some (.int (nI k))] [] (putU K w a x u (whrP (x.1 0) l n k)) sz 0 0 := by
  intro nn
  induction nn with
  | zero =>
    intro k u hk
    obtain rfl : k = 3 := by omega
    refine N.iload3 dX4_where_52 ?_
    refine N.iconst (v := 3) dX4_where_53 (by decide) ?_
    refine N.icmp_ge (tgt := 78) dX4_where_54 (by decide) (fun c54 => ?_) (fun c54 => absurd (by decide) c54)
    refine N.aload0 dX4_where_78 ?_
    refine N.getf dX4_where_79 flX4_45 yO rfl ?_
    refine N.getf dX4_where_82 flX4_243 yP rfl ?_
    exact N.iret dX4_where_85 rfl (Nat.zero_le _) (Nat.zero_le _) ⟨_, rfl, (hP _ _)⟩
  | succ nn ih =>
    intro k u hk
    refine N.iload3 dX4_where_52 ?_
    refine N.iconst (v := 3) dX4_where_53 (by decide) ?_
    refine N.icmp_ge (tgt := 78) dX4_where_54 (by decide) (fun c54 => absurd c54 (nI_ge (a := k) (b := 3) (by omega) (by omega))) (fun c54 => ?_)
    refine N.aload0 dX4_where_57 ?_
    refine N.getf dX4_where_58 flX4_45 yO rfl ?_
    refine N.iload3 dX4_where_61 ?_
    refine N.aload0 dX4_where_62 ?_
    refine N.iload1 dX4_where_63 ?_
    refine N.iload2 dX4_where_64 ?_
    refine N.iload3 dX4_where_65 ?_
    refine N.vi3 dX4_where_66 vX4_gainsOfChange lkX4_271 (s_X4_gainsOfChange _ _ _ _ _ _ _ _ _ h hl m hm hn) yO rfl (Nat.le_of_ble_eq_true rfl) (Nat.le_of_ble_eq_true rfl) (Nat.zero_le _) (Nat.zero_le _) ?_
    rintro _ _ _ ⟨rfl, rfl, rfl⟩
    refine N.vv2 dX4_where_69 vX0_offer lkX4_240 (Sp.pv fun W => s_X0_offer W _ _ _ _ _) yP rfl (Nat.le_of_ble_eq_true rfl) (Nat.le_of_ble_eq_true rfl) (Nat.zero_le _) (Nat.zero_le _) ?_
    rintro _ _ ⟨rfl, rfl⟩
    refine N.iinc3 dX4_where_72 rfl (nI_inc _) ?_
    refine N.goto (tgt := 52) dX4_where_75 (by decide) ?_
    exact ih (k + 1) _ (by omega)
def xwhere (x : XV) (l n : Int32) : Int32 × XV := if isInF l 0 3 = 0 then rf x (-2) else if isInF n 0 600 = 0 then rf x (-2) else if hasPlF (x.1 0) l = 0 then rf x (-5) else ((whrP (x.1 0) l n 3).1, x)
set_option maxRecDepth 100000 in
theorem s_X4_where {K : Kx} (w : Wd) (a sz : Nat) (x : XV) (l : Int32) (n : Int32) (hX : okX x)  : Sp K mX4_where 9 0 0 [.ref a, .int l, .int n] (putX K w a x) sz (Qi fun r w' sz' => r = (xwhere x l n).1 ∧ sz' = sz ∧ ∃ x', w' = putX K w a x' ∧ rel x' = rel (xwhere x l n).2) := by
  refine Sp.ofN [some (.ref a), some (.int l), some (.int n), none] rfl rfl rfl (Nat.le_of_ble_eq_true rfl) ?_
  have h : okP (x.1 0) := hX.1
  refine N.eqW (congrArg (putX K w a) (xup_self x)) ?_
  generalize x.1 1 = u0
  generalize x.2.2.2.2.1 = p0
  refine N.iload1 dX4_where_0 ?_
  refine N.si1 dX4_where_1 vX4_isLine lkX4_131 (s_X4_isLine _ _ _) rfl (Nat.le_of_ble_eq_true rfl) (Nat.le_of_ble_eq_true rfl) (Nat.zero_le _) (Nat.zero_le _) ?_
  rintro _ _ _ ⟨rfl, rfl, rfl⟩
  refine N.if_eq (tgt := 18) dX4_where_4 (by decide) (fun c4 => ?_) (fun c4 => ?_)
  · refine N.aload0 dX4_where_18 ?_
    refine N.bipush (v := -2) dX4_where_19 (by decide) ?_
    refine N.vi1 dX4_where_21 vX4_refuse lkX4_62 (s_X4_refuse _ _ _ _ _ _ _) yO rfl (Nat.le_of_ble_eq_true rfl) (Nat.le_of_ble_eq_true rfl) (Nat.zero_le _) (Nat.zero_le _) ?_
    rintro _ _ _ ⟨rfl, rfl, rfl⟩
    exact N.iret dX4_where_24 rfl (Nat.zero_le _) (Nat.zero_le _) ⟨_, rfl, (by rw [xwhere, if_pos c4]; exact rf_ok)⟩
  · refine N.iload2 dX4_where_7 ?_
    refine N.iconst (v := 0) dX4_where_8 (by decide) ?_
    refine N.sipush (v := 600) dX4_where_9 (by decide) ?_
    refine N.si3 dX4_where_12 vX4_isIn lkX4_58 (s_X4_isIn _ _ _ _ _) rfl (Nat.le_of_ble_eq_true rfl) (Nat.le_of_ble_eq_true rfl) (Nat.zero_le _) (Nat.zero_le _) ?_
    rintro _ _ _ ⟨rfl, rfl, rfl⟩
    refine N.if_ne (tgt := 25) dX4_where_15 (by decide) (fun c15 => ?_) (fun c15 => ?_)
    · refine N.aload0 dX4_where_25 ?_
      refine N.getf dX4_where_26 flX4_10 yO rfl ?_
      refine N.iload1 dX4_where_29 ?_
      refine N.vi1 dX4_where_30 vX1_hasPlayers lkX4_208 (Sp.n0i fun W => s_X1_hasPlayers W _ _ _ _) yO0 rfl (Nat.le_of_ble_eq_true rfl) (Nat.le_of_ble_eq_true rfl) (Nat.zero_le _) (Nat.zero_le _) ?_
      rintro _ _ _ ⟨rfl, rfl, rfl⟩
      refine N.if_ne (tgt := 43) dX4_where_33 (by decide) (fun c33 => ?_) (fun c33 => ?_)
      · obtain ⟨m, hm, hn⟩ := in_n (N' := 600) (by decide) c15
        have ho := h
        refine N.aload0 dX4_where_43 ?_
        refine N.getf dX4_where_44 flX4_45 yO rfl ?_
        refine N.vv0 dX4_where_47 vX0_begin lkX4_237 (Sp.pv fun W => s_X0_begin W _ _ _) yP rfl (Nat.le_of_ble_eq_true rfl) (Nat.le_of_ble_eq_true rfl) (Nat.zero_le _) (Nat.zero_le _) ?_
        rintro _ _ ⟨rfl, rfl⟩
        refine N.iconst (v := 0) dX4_where_50 (by decide) ?_
        refine N.istore3 dX4_where_51 rfl ?_
        exact N.wk (by exact ⟨rfl, rfl, rfl, rfl, trivial⟩) (l_X4_where w a _ x l n (ln_in c4) h m hm hn _ (fun _ _ => (pub_ok (by rw [xwhere, if_neg c4, if_neg c15, if_neg c33]))) 3 0 _ (by omega))
      · refine N.aload0 dX4_where_36 ?_
        refine N.bipush (v := -5) dX4_where_37 (by decide) ?_
        refine N.vi1 dX4_where_39 vX4_refuse lkX4_62 (s_X4_refuse _ _ _ _ _ _ _) yO rfl (Nat.le_of_ble_eq_true rfl) (Nat.le_of_ble_eq_true rfl) (Nat.zero_le _) (Nat.zero_le _) ?_
        rintro _ _ _ ⟨rfl, rfl, rfl⟩
        exact N.iret dX4_where_42 rfl (Nat.zero_le _) (Nat.zero_le _) ⟨_, rfl, (by rw [xwhere, if_neg c4, if_neg c15, if_pos c33]; exact rf_ok)⟩
    · refine N.aload0 dX4_where_18 ?_
      refine N.bipush (v := -2) dX4_where_19 (by decide) ?_
      refine N.vi1 dX4_where_21 vX4_refuse lkX4_62 (s_X4_refuse _ _ _ _ _ _ _) yO rfl (Nat.le_of_ble_eq_true rfl) (Nat.le_of_ble_eq_true rfl) (Nat.zero_le _) (Nat.zero_le _) ?_
      rintro _ _ _ ⟨rfl, rfl, rfl⟩
      exact N.iret dX4_where_24 rfl (Nat.zero_le _) (Nat.zero_le _) ⟨_, rfl, (by rw [xwhere, if_neg c4, if_pos c15]; exact rf_ok)⟩
