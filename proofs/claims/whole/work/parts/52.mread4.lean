variable {G : Nat → Prop}
theorem pl_lt {v : CV} (h : okP v) (c : ¬ 10 ≤ v.1 0) : vp_in (v.1 0) 10 := by
  obtain ⟨P, hP, e⟩ := h
  rw [e] at c ⊢
  exact in10 (Nat.not_le.mp fun q => c (nI_le (a := 10) q (by omega)))
def sk1 (q : RM) : RM := if q.1 = 0 then (0, q.2) else (1, q.2.1, (skTo q.2.2.1 (q.2.2.2.2 6 0).toNatClampNeg).1, q.2.2.2)
def on1 (f : Nat → Int32) (S : Nat) (r : Rd) (v : CV) (E : M2) : RM := if r.1.2.2 = 2 then (if isInF r.2 0 3 = 0 then no r v E else if v.2 4 r.2.toNatClampNeg = 0 then no r v E else (1, lk f S r.1.2.1, putOnV v (v.2 4 r.2.toNatClampNeg), E)) else no r v E
def pl3 (q : RM) : RM := if q.1 = 0 then (0, q.2) else (1, q.2.1, addV q.2.2.1 (q.2.2.2.2 6 0) (q.2.2.2.2 6 1) (q.2.2.2.2 6 2), q.2.2.2)
def pl2 (f : Nat → Int32) (S : Nat) (q : RM) : RM := if q.1 = 0 then (0, q.2) else pl3 (nuM f S q.2.1 q.2.2.1 q.2.2.2 2 0 9)
def pl1 (f : Nat → Int32) (S : Nat) (q : RM) : RM := if q.1 = 0 then (0, q.2) else pl2 f S (nuM f S q.2.1 q.2.2.1 q.2.2.2 1 1 99)
def sFf (f : Nat → Int32) (S : Nat) (r : Rd) (v : CV) (E : M2) : RM := if isWF f r.1 6 = 0 then no r v E else sk1 (teM f S r v E 1 99)
def sEe (f : Nat → Int32) (S : Nat) (r : Rd) (v : CV) (E : M2) : RM := if isWF f r.1 5 = 0 then sFf f S r v E else asM f S r v E 2
def sDd (f : Nat → Int32) (S : Nat) (r : Rd) (v : CV) (E : M2) : RM := if isWF f r.1 4 = 0 then sEe f S r v E else asM f S r v E 1
def sCc (f : Nat → Int32) (S : Nat) (r : Rd) (v : CV) (E : M2) : RM := if isWF f r.1 3 = 0 then sDd f S r v E else asM f S r v E 0
def sBb (f : Nat → Int32) (S : Nat) (r : Rd) (v : CV) (E : M2) : RM := if isWF f r.1 2 = 0 then sCc f S r v E else on1 f S (lk f S r.1.2.1) v E
def sAa (f : Nat → Int32) (S : Nat) (r : Rd) (v : CV) (E : M2) : RM := if isWF f r.1 1 = 0 then sBb f S r v E else liM f S r v E
def stM (f : Nat → Int32) (S : Nat) (r : Rd) (v : CV) (E : M2) : RM := if isWF f r.1 0 = 0 then sAa f S r v E else if 10 ≤ v.1 0 then sAa f S r v E else pl1 f S (teM f S r v E 0 5)
theorem ok_q0 {S : Nat} {r : Rd} {E : M2} {q : RM} (h : OkR S r q) (h2 : kp E q.2.2.2) (h3 : okP q.2.2.1) : OkQ S r E ((0, q.2) : RM) := ⟨⟨Or.inl rfl, h.2⟩, h2, h3⟩
theorem ok_sk {f : Nat → Int32} {S : Nat} {r : Rd} {v : CV} {E : M2} (hr : I3 S r.1) (h : okP v) : OkQ S r E (sk1 (teM f S r v E 1 99)) := by
  have h1 := ok_te (f := f) (v := v) (E := E) (lo := 1) (hi := 99) hr
  have h2 := te_k (f := f) (S := S) (r := r) (v := v) (E := E) (lo := 1) (hi := 99)
  generalize teM f S r v E 1 99 = q at h1 h2
  have hv : okP q.2.2.1 := by rw [h2.2.1]; exact h
  unfold sk1
  by_cases c : q.1 = 0
  · rw [if_pos c]; exact ok_q0 h1 h2.1 hv
  · rw [if_neg c]; exact ⟨⟨Or.inr rfl, h1.2⟩, h2.1, skTo_ok hv _⟩
theorem ok_no2 {S : Nat} {r : Rd} {v : CV} {E : M2} (hr : I3 S r.1) (h : okP v) : OkQ S r E (no r v E) := ⟨ok_no hr, kp_fl, h⟩
theorem ok_on {f : Nat → Int32} {S : Nat} {r : Rd} {v : CV} {E : M2} (hr : I3 S r.1) (h : okP v) : OkQ S r E (on1 f S (lk f S r.1.2.1) v E) := by
  have hk := lk_ok (f := f) hr.2
  have hl := lk_le (f := f) (S := S) (e := r.1.2.1)
  generalize lk f S r.1.2.1 = r1 at hk hl ⊢
  unfold on1
  split
  · split
    · exact ⟨(ok_no hk).le hl, kp_fl, h⟩
    · split
      · exact ⟨(ok_no hk).le hl, kp_fl, h⟩
      · exact ⟨⟨Or.inr rfl, lk_ok hk.2, Nat.le_trans hl lk_le⟩, kp.rfl', h.on _⟩
  · exact ⟨(ok_no hk).le hl, kp_fl, h⟩
theorem okP.bec {v : CV} (h : okP v) (x y : Int32) : okP (becM v x y) := h
theorem ok_as2 {f : Nat → Int32} {S : Nat} {r : Rd} {v : CV} {E : M2} {x : Int32} (hr : I3 S r.1) (h : okP v) : OkQ S r E (asM f S r v E x) := by
  refine ⟨ok_as hr, ?_⟩
  unfold asM as1
  split
  · split
    · exact ⟨kp_fl, h⟩
    · exact ⟨kp.rfl', h.bec _ _⟩
  · exact ⟨kp_fl, h⟩
theorem okP.addm {v : CV} (h : okP v) (c : ¬ 10 ≤ v.1 0) (k s a : Int32) : okP (addV v k s a) := by
  obtain ⟨P, hP, e⟩ := h
  rw [e] at c
  have hlt : P < 10 := Nat.not_le.mp fun q => c (nI_le (a := 10) q (by omega))
  refine ⟨P + 1, by omega, ?_⟩
  show v.1 0 + 1 = nI (P + 1)
  rw [e]; exact nI_1 P
theorem ok_pl {f : Nat → Int32} {S : Nat} {r : Rd} {v : CV} {E : M2} (hr : I3 S r.1) (h : okP v) (c : ¬ 10 ≤ v.1 0) : OkQ S r E (pl1 f S (teM f S r v E 0 5)) := by
  have h1 := ok_te (f := f) (v := v) (E := E) (lo := 0) (hi := 5) hr
  have h2 := te_k (f := f) (S := S) (r := r) (v := v) (E := E) (lo := 0) (hi := 5)
  generalize teM f S r v E 0 5 = q at h1 h2
  have hv : okP q.2.2.1 := by rw [h2.2.1]; exact h
  unfold pl1
  by_cases c1 : q.1 = 0
  · rw [if_pos c1]; exact ok_q0 h1 h2.1 hv
  · rw [if_neg c1]
    have h3 := ok_nu (f := f) (v := q.2.2.1) (E := q.2.2.2) (i := 1) (lo := 1) (hi := 99) h1.2.1
    have h4 := nu_k (f := f) (S := S) (r := q.2.1) (v := q.2.2.1) (E := q.2.2.2) (i := 1) (lo := 1) (hi := 99)
    generalize nuM f S q.2.1 q.2.2.1 q.2.2.2 1 1 99 = q2 at h3 h4
    have h3' := h3.le h1.2.2
    have hv2 : okP q2.2.2.1 := by rw [h4.2.1]; exact hv
    unfold pl2
    by_cases c2 : q2.1 = 0
    · rw [if_pos c2]; exact ok_q0 h3' (h2.1.tr h4.1) hv2
    · rw [if_neg c2]
      have h5 := ok_nu (f := f) (v := q2.2.2.1) (E := q2.2.2.2) (i := 2) (lo := 0) (hi := 9) h3.2.1
      have h6 := nu_k (f := f) (S := S) (r := q2.2.1) (v := q2.2.2.1) (E := q2.2.2.2) (i := 2) (lo := 0) (hi := 9)
      generalize nuM f S q2.2.1 q2.2.2.1 q2.2.2.2 2 0 9 = q3 at h5 h6
      have h5' := h5.le h3'.2.2
      have hv3 : okP q3.2.2.1 := by rw [h6.2.1]; exact hv2
      have ev : q3.2.2.1 = v := h6.2.1.trans (h4.2.1.trans h2.2.1)
      unfold pl3
      by_cases c3 : q3.1 = 0
      · rw [if_pos c3]; exact ok_q0 h5' ((h2.1.tr h4.1).tr h6.1) hv3
      · rw [if_neg c3]; exact ⟨⟨Or.inr rfl, h5'.2⟩, (h2.1.tr h4.1).tr h6.1, hv3.addm (by rw [ev]; exact c) _ _ _⟩
theorem ok_sA {f : Nat → Int32} {S : Nat} {r : Rd} {v : CV} {E : M2} (hr : I3 S r.1) (h : okP v) : OkQ S r E (sAa f S r v E) := by
  unfold sAa
  split
  · unfold sBb
    split
    · unfold sCc
      split
      · unfold sDd
        split
        · unfold sEe
          split
          · unfold sFf
            split
            · exact ok_no2 hr h
            · exact ok_sk hr h
          · exact ok_as2 hr h
        · exact ok_as2 hr h
      · exact ok_as2 hr h
    · exact ok_on hr h
  · exact ok_li hr h
theorem ok_st {f : Nat → Int32} {S : Nat} {r : Rd} {v : CV} {E : M2} (hr : I3 S r.1) (h : okP v) : OkQ S r E (stM f S r v E) := by
  unfold stM
  split
  · exact ok_sA hr h
  · split
    · exact ok_sA hr h
    · rename_i c; exact ok_pl hr h c
theorem isW0 {f : Nat → Int32} {s : T3} {j : Nat} (h : ¬ s.2.2 = 1) : isWF f s j = 0 := by rw [isWF, if_neg h]
theorem st_0 {f : Nat → Int32} {S : Nat} {r : Rd} {v : CV} {E : M2} (h : ¬ r.1.2.2 = 1) : (stM f S r v E).1 = 0 := by
  rw [stM, if_pos (isW0 h), sAa, if_pos (isW0 h), sBb, if_pos (isW0 h), sCc, if_pos (isW0 h), sDd, if_pos (isW0 h), sEe, if_pos (isW0 h), sFf, if_pos (isW0 h)]
  rfl
set_option maxRecDepth 100000 in
theorem l_X5_statement {K : Kx} (w : Wd) (b sz : Nat) (v : CV) (E : M2) (c : Cc) (h : okP v) (r : Rd) (m : Nat) (hm : m ≤ 99) (et : E.2 6 0 = nI m) (P : Int32 → Wd → Nat → Prop) (hP : P 1 (putM K w b ((skTo v m).1, rdS (em E c) r)) sz) : ∀ nn k, k + nn = m → N K mX5_statement 5 0 0 (Qi P) 216 [some (.ref b), some (.int 1), some (.int (nI k))] [] (putM K w b ((skTo v k).1, rdS (em E c) r)) sz 0 0 := by
  intro nn
  induction nn with
  | zero =>
    intro k hk
    obtain rfl : k = m := by omega
    refine N.iload1 dX5_statement_216 ?_
    refine N.if_eq (tgt := 241) dX5_statement_217 (by decide) (fun c217 => absurd c217 (by decide)) (fun c217 => ?_)
    refine N.iload2 dX5_statement_220 ?_
    refine N.aload0 dX5_statement_221 ?_
    refine N.getf dX5_statement_222 flX5_65 mxO rfl ?_
    refine N.iconst (v := 0) dX5_statement_225 (by decide) ?_
    refine N.iald dX5_statement_226 mxD (vp_in_nI (n := 0) (by decide) (by decide)) ?_
    refine N.icmp_ge (tgt := 241) dX5_statement_227 (by decide) (fun c227 => ?_) (fun c227 => absurd (pl_ge et (by omega) (by omega)) c227)
    refine N.iload1 dX5_statement_241 ?_
    exact N.zret dX5_statement_242 rfl rfl (Nat.zero_le _) (Nat.zero_le _) ⟨_, rfl, hP⟩
  | succ nn ih =>
    intro k hk
    refine N.iload1 dX5_statement_216 ?_
    refine N.if_eq (tgt := 241) dX5_statement_217 (by decide) (fun c217 => absurd c217 (by decide)) (fun c217 => ?_)
    refine N.iload2 dX5_statement_220 ?_
    refine N.aload0 dX5_statement_221 ?_
    refine N.getf dX5_statement_222 flX5_65 mxO rfl ?_
    refine N.iconst (v := 0) dX5_statement_225 (by decide) ?_
    refine N.iald dX5_statement_226 mxD (vp_in_nI (n := 0) (by decide) (by decide)) ?_
    refine N.icmp_ge (tgt := 241) dX5_statement_227 (by decide) (fun c227 => absurd c227 (by rw [show (em E c).2.1 6 (0 : Int32).toNatClampNeg = nI m from et]; exact nI_ge (by omega) (by omega))) (fun c227 => ?_)
    refine N.aload0 dX5_statement_230 ?_
    refine N.vi0 dX5_statement_231 vX5_secondTruly lkX5_230 (s_X5_secondTruly _ _ _ _ _ (skTo_ok h k)) mxO rfl (Nat.le_of_ble_eq_true rfl) (Nat.le_of_ble_eq_true rfl) (Nat.zero_le _) (Nat.zero_le _) ?_
    rintro _ _ _ ⟨rfl, rfl, rfl⟩
    refine N.pop dX5_statement_234 rfl ?_
    refine N.iinc2 dX5_statement_235 rfl (nI_inc _) ?_
    refine N.goto (tgt := 216) dX5_statement_238 (by decide) ?_
    rw [← skTo_s]
    exact ih (k + 1) (by omega)
set_option maxRecDepth 100000 in
theorem s_X5_statement {K : Kx} (w : Wd) (b sz : Nat) (v : CV) (E : M2) (c : Cc) (S : Nat) (hS : S ≤ 250) (hz : E.1 0 = nI S) (r : Rd) (hr : I3 S r.1) (h : okP v) : Sp K mX5_statement 5 0 0 [.ref b] (putM K w b (v, rdS (em E c) r)) sz (Qi fun x' w' sz' => x' = (stM (E.2 4) S r v E).1 ∧ w' = putM K w b ((stM (E.2 4) S r v E).2.2.1, rdS (em (stM (E.2 4) S r v E).2.2.2 c) (stM (E.2 4) S r v E).2.1) ∧ sz' = sz) := by
  refine Sp.ofN [some (.ref b), none, none] rfl rfl rfl (Nat.le_of_ble_eq_true rfl) ?_
  refine N.aload0 dX5_statement_0 ?_
  refine N.ldcS (j := 7) (tx := "player") dX5_statement_1 rfl ?_
  refine N.vi1 dX5_statement_3 vX5_isWord lkX5_208 (s_X5_isWord _ _ _ _ E c S hS hz r hr 0 (by decide)) mxO rfl (Nat.le_of_ble_eq_true rfl) (Nat.le_of_ble_eq_true rfl) (Nat.zero_le _) (Nat.zero_le _) ?_
  rintro _ _ _ ⟨rfl, rfl, rfl⟩
  refine N.if_eq (tgt := 75) dX5_statement_6 (by decide) (fun c6 => ?_) (fun c6 => ?_)
  · refine N.aload0 dX5_statement_75 ?_
    refine N.ldcS (j := 8) (tx := "line") dX5_statement_76 rfl ?_
    refine N.vi1 dX5_statement_78 vX5_isWord lkX5_208 (s_X5_isWord _ _ _ _ E c S hS hz r hr 1 (by decide)) mxO rfl (Nat.le_of_ble_eq_true rfl) (Nat.le_of_ble_eq_true rfl) (Nat.zero_le _) (Nat.zero_le _) ?_
    rintro _ _ _ ⟨rfl, rfl, rfl⟩
    refine N.if_eq (tgt := 89) dX5_statement_81 (by decide) (fun c81 => ?_) (fun c81 => ?_)
    · refine N.aload0 dX5_statement_89 ?_
      refine N.ldcS (j := 9) (tx := "on") dX5_statement_90 rfl ?_
      refine N.vi1 dX5_statement_92 vX5_isWord lkX5_208 (s_X5_isWord _ _ _ _ E c S hS hz r hr 2 (by decide)) mxO rfl (Nat.le_of_ble_eq_true rfl) (Nat.le_of_ble_eq_true rfl) (Nat.zero_le _) (Nat.zero_le _) ?_
      rintro _ _ _ ⟨rfl, rfl, rfl⟩
      refine N.if_eq (tgt := 152) dX5_statement_95 (by decide) (fun c95 => ?_) (fun c95 => ?_)
      · refine N.aload0 dX5_statement_152 ?_
        refine N.ldcS (j := 10) (tx := "third") dX5_statement_153 rfl ?_
        refine N.vi1 dX5_statement_155 vX5_isWord lkX5_208 (s_X5_isWord _ _ _ _ E c S hS hz r hr 3 (by decide)) mxO rfl (Nat.le_of_ble_eq_true rfl) (Nat.le_of_ble_eq_true rfl) (Nat.zero_le _) (Nat.zero_le _) ?_
        rintro _ _ _ ⟨rfl, rfl, rfl⟩
        refine N.if_eq (tgt := 167) dX5_statement_158 (by decide) (fun c158 => ?_) (fun c158 => ?_)
        · refine N.aload0 dX5_statement_167 ?_
          refine N.ldcS (j := 11) (tx := "half") dX5_statement_168 rfl ?_
          refine N.vi1 dX5_statement_170 vX5_isWord lkX5_208 (s_X5_isWord _ _ _ _ E c S hS hz r hr 4 (by decide)) mxO rfl (Nat.le_of_ble_eq_true rfl) (Nat.le_of_ble_eq_true rfl) (Nat.zero_le _) (Nat.zero_le _) ?_
          rintro _ _ _ ⟨rfl, rfl, rfl⟩
          refine N.if_eq (tgt := 182) dX5_statement_173 (by decide) (fun c173 => ?_) (fun c173 => ?_)
          · refine N.aload0 dX5_statement_182 ?_
            refine N.ldcS (j := 12) (tx := "theirs") dX5_statement_183 rfl ?_
            refine N.vi1 dX5_statement_185 vX5_isWord lkX5_208 (s_X5_isWord _ _ _ _ E c S hS hz r hr 5 (by decide)) mxO rfl (Nat.le_of_ble_eq_true rfl) (Nat.le_of_ble_eq_true rfl) (Nat.zero_le _) (Nat.zero_le _) ?_
            rintro _ _ _ ⟨rfl, rfl, rfl⟩
            refine N.if_eq (tgt := 197) dX5_statement_188 (by decide) (fun c188 => ?_) (fun c188 => ?_)
            · refine N.aload0 dX5_statement_197 ?_
              refine N.ldcS (j := 13) (tx := "skate") dX5_statement_198 rfl ?_
              refine N.vi1 dX5_statement_200 vX5_isWord lkX5_208 (s_X5_isWord _ _ _ _ E c S hS hz r hr 6 (by decide)) mxO rfl (Nat.le_of_ble_eq_true rfl) (Nat.le_of_ble_eq_true rfl) (Nat.zero_le _) (Nat.zero_le _) ?_
              rintro _ _ _ ⟨rfl, rfl, rfl⟩
              refine N.if_eq (tgt := 243) dX5_statement_203 (by decide) (fun c203 => ?_) (fun c203 => ?_)
              · refine N.aload0 dX5_statement_243 ?_
                refine N.vi0 dX5_statement_244 vX5_wrong lkX5_192 (s_X5_wrong _ _ _ _ E c _) mxO rfl (Nat.le_of_ble_eq_true rfl) (Nat.le_of_ble_eq_true rfl) (Nat.zero_le _) (Nat.zero_le _) ?_
                rintro _ _ _ ⟨rfl, rfl, rfl⟩
                exact N.zret dX5_statement_247 rfl rfl (Nat.zero_le _) (Nat.zero_le _) ⟨_, rfl, ⟨by rw [stM, if_pos c6, sAa, if_pos c81, sBb, if_pos c95, sCc, if_pos c158, sDd, if_pos c173, sEe, if_pos c188, sFf, if_pos c203]; try rfl, by rw [stM, if_pos c6, sAa, if_pos c81, sBb, if_pos c95, sCc, if_pos c158, sDd, if_pos c173, sEe, if_pos c188, sFf, if_pos c203]; try rfl, rfl⟩⟩
              · refine N.aload0 dX5_statement_206 ?_
                refine N.iconst (v := 1) dX5_statement_207 (by decide) ?_
                refine N.bipush (v := 99) dX5_statement_208 (by decide) ?_
                refine N.vi2 dX5_statement_210 vX5_tells lkX5_203 (s_X5_tells _ _ _ _ E c S hS hz r hr _ _) mxO rfl (Nat.le_of_ble_eq_true rfl) (Nat.le_of_ble_eq_true rfl) (Nat.zero_le _) (Nat.zero_le _) ?_
                rintro _ _ _ ⟨rfl, rfl, rfl⟩
                have h1 := ok_te (f := (E.2 4)) (v := v) (E := E) (lo := 1) (hi := 99) hr
                have h2 := te_k (f := (E.2 4)) (S := S) (r := r) (v := v) (E := E) (lo := 1) (hi := 99)
                generalize hq : teM (E.2 4) S r v E 1 99 = q at h1 h2 ⊢
                refine N.istore1 dX5_statement_213 rfl ?_
                refine N.iconst (v := 0) dX5_statement_214 (by decide) ?_
                refine N.istore2 dX5_statement_215 rfl ?_
                by_cases c0 : q.1 = 0
                · refine N.iload1 dX5_statement_216 ?_
                  refine N.if_eq (tgt := 241) dX5_statement_217 (by decide) (fun c217 => ?_) (fun c217 => absurd c0 c217)
                  refine N.iload1 dX5_statement_241 ?_
                  exact N.zret dX5_statement_242 rfl (nar01 h1.1) (Nat.zero_le _) (Nat.zero_le _) ⟨_, rfl, ⟨by rw [stM, if_pos c6, sAa, if_pos c81, sBb, if_pos c95, sCc, if_pos c158, sDd, if_pos c173, sEe, if_pos c188, sFf, if_neg c203, hq, sk1, if_pos c0]; exact c0, by rw [stM, if_pos c6, sAa, if_pos c81, sBb, if_pos c95, sCc, if_pos c158, sDd, if_pos c173, sEe, if_pos c188, sFf, if_neg c203, hq, sk1, if_pos c0], rfl⟩⟩
                · have hq1 : q.1 = 1 := h1.1.resolve_left c0
                  obtain ⟨m, hm, hm1, et⟩ := in_n1 (N' := 99) (by decide) (h2.2.2 c0)
                  rw [hq1]
                  exact N.wk (by exact ⟨rfl, rfl, rfl, trivial⟩) (l_X5_statement w b _ q.2.2.1 q.2.2.2 c (by rw [h2.2.1]; exact h) q.2.1 m hm et _ (by rw [stM, if_pos c6, sAa, if_pos c81, sBb, if_pos c95, sCc, if_pos c158, sDd, if_pos c173, sEe, if_pos c188, sFf, if_neg c203, hq, sk1, if_neg c0, et, nI_clamp (by omega)]; exact ⟨rfl, rfl, rfl⟩) m 0 (by omega))
            · refine N.aload0 dX5_statement_191 ?_
              refine N.iconst (v := 2) dX5_statement_192 (by decide) ?_
              refine N.vi1 dX5_statement_193 vX5_asks lkX5_223 (s_X5_asks _ _ _ _ E c S hS hz r hr _) mxO rfl (Nat.le_of_ble_eq_true rfl) (Nat.le_of_ble_eq_true rfl) (Nat.zero_le _) (Nat.zero_le _) ?_
              rintro _ _ _ ⟨rfl, rfl, rfl⟩
              exact N.zret dX5_statement_196 rfl (nar01 (ok_as hr).1) (Nat.zero_le _) (Nat.zero_le _) ⟨_, rfl, ⟨by rw [stM, if_pos c6, sAa, if_pos c81, sBb, if_pos c95, sCc, if_pos c158, sDd, if_pos c173, sEe, if_neg c188], by rw [stM, if_pos c6, sAa, if_pos c81, sBb, if_pos c95, sCc, if_pos c158, sDd, if_pos c173, sEe, if_neg c188], rfl⟩⟩
          · refine N.aload0 dX5_statement_176 ?_
            refine N.iconst (v := 1) dX5_statement_177 (by decide) ?_
            refine N.vi1 dX5_statement_178 vX5_asks lkX5_223 (s_X5_asks _ _ _ _ E c S hS hz r hr _) mxO rfl (Nat.le_of_ble_eq_true rfl) (Nat.le_of_ble_eq_true rfl) (Nat.zero_le _) (Nat.zero_le _) ?_
            rintro _ _ _ ⟨rfl, rfl, rfl⟩
            exact N.zret dX5_statement_181 rfl (nar01 (ok_as hr).1) (Nat.zero_le _) (Nat.zero_le _) ⟨_, rfl, ⟨by rw [stM, if_pos c6, sAa, if_pos c81, sBb, if_pos c95, sCc, if_pos c158, sDd, if_neg c173], by rw [stM, if_pos c6, sAa, if_pos c81, sBb, if_pos c95, sCc, if_pos c158, sDd, if_neg c173], rfl⟩⟩
        · refine N.aload0 dX5_statement_161 ?_
          refine N.iconst (v := 0) dX5_statement_162 (by decide) ?_
          refine N.vi1 dX5_statement_163 vX5_asks lkX5_223 (s_X5_asks _ _ _ _ E c S hS hz r hr _) mxO rfl (Nat.le_of_ble_eq_true rfl) (Nat.le_of_ble_eq_true rfl) (Nat.zero_le _) (Nat.zero_le _) ?_
          rintro _ _ _ ⟨rfl, rfl, rfl⟩
          exact N.zret dX5_statement_166 rfl (nar01 (ok_as hr).1) (Nat.zero_le _) (Nat.zero_le _) ⟨_, rfl, ⟨by rw [stM, if_pos c6, sAa, if_pos c81, sBb, if_pos c95, sCc, if_neg c158], by rw [stM, if_pos c6, sAa, if_pos c81, sBb, if_pos c95, sCc, if_neg c158], rfl⟩⟩
      · refine N.aload0 dX5_statement_98 ?_
        refine N.vv0 dX5_statement_99 vX5_look lkX5_196 (s_X5_look _ _ _ _ (em E c) S hS hz _ hr.2 _ _ _) mxO rfl (Nat.le_of_ble_eq_true rfl) (Nat.le_of_ble_eq_true rfl) (Nat.zero_le _) (Nat.zero_le _) ?_
        rintro _ _ ⟨rfl, rfl⟩
        have hr1 := lk_ok (f := (E.2 4)) hr.2
        generalize hlk : lk (E.2 4) S r.1.2.1 = r1 at hr1 ⊢
        refine N.aload0 dX5_statement_102 ?_
        refine N.getf dX5_statement_103 flX5_170 mxO rfl ?_
        refine N.iconst (v := 2) dX5_statement_106 (by decide) ?_
        refine N.icmp_ne (tgt := 133) dX5_statement_107 (by decide) (fun c107 => ?_) (fun c107 => ?_)
        · refine N.aload0 dX5_statement_133 ?_
          refine N.vi0 dX5_statement_134 vX5_wrong lkX5_192 (s_X5_wrong _ _ _ _ E c _) mxO rfl (Nat.le_of_ble_eq_true rfl) (Nat.le_of_ble_eq_true rfl) (Nat.zero_le _) (Nat.zero_le _) ?_
          rintro _ _ _ ⟨rfl, rfl, rfl⟩
          exact N.zret dX5_statement_137 rfl rfl (Nat.zero_le _) (Nat.zero_le _) ⟨_, rfl, ⟨by rw [stM, if_pos c6, sAa, if_pos c81, sBb, if_neg c95, hlk, on1, if_neg c107]; try rfl, by rw [stM, if_pos c6, sAa, if_pos c81, sBb, if_neg c95, hlk, on1, if_neg c107]; try rfl, rfl⟩⟩
        · refine N.aload0 dX5_statement_110 ?_
          refine N.getf dX5_statement_111 flX5_167 mxO rfl ?_
          refine N.i2l dX5_statement_114 ?_
          refine N.si1 dX5_statement_115 vX5_isLine lkX5_138 (s_X5_isLine _ _ _) rfl (Nat.le_of_ble_eq_true rfl) (Nat.le_of_ble_eq_true rfl) (Nat.zero_le _) (Nat.zero_le _) ?_
          rintro r1 _ _ ⟨er, rfl, rfl⟩
          obtain rfl := er.trans (inL_i (a := 0) (b := 3) rfl rfl)
          refine N.if_eq (tgt := 133) dX5_statement_118 (by decide) (fun c118 => ?_) (fun c118 => ?_)
          · refine N.aload0 dX5_statement_133 ?_
            refine N.vi0 dX5_statement_134 vX5_wrong lkX5_192 (s_X5_wrong _ _ _ _ E c _) mxO rfl (Nat.le_of_ble_eq_true rfl) (Nat.le_of_ble_eq_true rfl) (Nat.zero_le _) (Nat.zero_le _) ?_
            rintro _ _ _ ⟨rfl, rfl, rfl⟩
            exact N.zret dX5_statement_137 rfl rfl (Nat.zero_le _) (Nat.zero_le _) ⟨_, rfl, ⟨by rw [stM, if_pos c6, sAa, if_pos c81, sBb, if_neg c95, hlk, on1, if_pos c107, if_pos c118]; try rfl, by rw [stM, if_pos c6, sAa, if_pos c81, sBb, if_neg c95, hlk, on1, if_pos c107, if_pos c118]; try rfl, rfl⟩⟩
          · refine N.aload0 dX5_statement_121 ?_
            refine N.getf dX5_statement_122 flX5_49 mxO rfl ?_
            refine N.aload0 dX5_statement_125 ?_
            refine N.getf dX5_statement_126 flX5_167 mxO rfl ?_
            refine N.iald dX5_statement_129 mA4 (ln_in c118) ?_
            refine N.if_ne (tgt := 138) dX5_statement_130 (by decide) (fun c130 => ?_) (fun c130 => ?_)
            · refine N.aload0 dX5_statement_138 ?_
              refine N.aload0 dX5_statement_139 ?_
              refine N.getf dX5_statement_140 flX5_167 mxO rfl ?_
              refine N.vv1 dX5_statement_143 vX5_whistles lkX5_218 (s_X5_whistles _ _ _ _ _ _ (ln_in c118)) mxO rfl (Nat.le_of_ble_eq_true rfl) (Nat.le_of_ble_eq_true rfl) (Nat.zero_le _) (Nat.zero_le _) ?_
              rintro _ _ ⟨rfl, rfl⟩
              refine N.aload0 dX5_statement_146 ?_
              refine N.vv0 dX5_statement_147 vX5_look lkX5_196 (s_X5_look _ _ _ _ (em E c) S hS hz _ hr1.2 _ _ _) mxO rfl (Nat.le_of_ble_eq_true rfl) (Nat.le_of_ble_eq_true rfl) (Nat.zero_le _) (Nat.zero_le _) ?_
              rintro _ _ ⟨rfl, rfl⟩
              refine N.iconst (v := 1) dX5_statement_150 (by decide) ?_
              exact N.zret dX5_statement_151 rfl rfl (Nat.zero_le _) (Nat.zero_le _) ⟨_, rfl, ⟨by rw [stM, if_pos c6, sAa, if_pos c81, sBb, if_neg c95, hlk, on1, if_pos c107, if_neg c118, if_neg c130]; try rfl, by rw [stM, if_pos c6, sAa, if_pos c81, sBb, if_neg c95, hlk, on1, if_pos c107, if_neg c118, if_neg c130]; try rfl, rfl⟩⟩
            · refine N.aload0 dX5_statement_133 ?_
              refine N.vi0 dX5_statement_134 vX5_wrong lkX5_192 (s_X5_wrong _ _ _ _ E c _) mxO rfl (Nat.le_of_ble_eq_true rfl) (Nat.le_of_ble_eq_true rfl) (Nat.zero_le _) (Nat.zero_le _) ?_
              rintro _ _ _ ⟨rfl, rfl, rfl⟩
              exact N.zret dX5_statement_137 rfl rfl (Nat.zero_le _) (Nat.zero_le _) ⟨_, rfl, ⟨by rw [stM, if_pos c6, sAa, if_pos c81, sBb, if_neg c95, hlk, on1, if_pos c107, if_neg c118, if_pos c130]; try rfl, by rw [stM, if_pos c6, sAa, if_pos c81, sBb, if_neg c95, hlk, on1, if_pos c107, if_neg c118, if_pos c130]; try rfl, rfl⟩⟩
    · refine N.aload0 dX5_statement_84 ?_
      refine N.vi0 dX5_statement_85 vX5_lineTold lkX5_213 (s_X5_lineTold _ _ _ _ E c S hS hz r hr) mxO rfl (Nat.le_of_ble_eq_true rfl) (Nat.le_of_ble_eq_true rfl) (Nat.zero_le _) (Nat.zero_le _) ?_
      rintro _ _ _ ⟨rfl, rfl, rfl⟩
      exact N.zret dX5_statement_88 rfl (nar01 (ok_li hr h).1.1) (Nat.zero_le _) (Nat.zero_le _) ⟨_, rfl, ⟨by rw [stM, if_pos c6, sAa, if_neg c81], by rw [stM, if_pos c6, sAa, if_neg c81], rfl⟩⟩
  · refine N.aload0 dX5_statement_9 ?_
    refine N.getf dX5_statement_10 flX5_74 mxO rfl ?_
    refine N.bipush (v := 10) dX5_statement_13 (by decide) ?_
    refine N.icmp_ge (tgt := 75) dX5_statement_15 (by decide) (fun c15 => ?_) (fun c15 => ?_)
    · refine N.aload0 dX5_statement_75 ?_
      refine N.ldcS (j := 8) (tx := "line") dX5_statement_76 rfl ?_
      refine N.vi1 dX5_statement_78 vX5_isWord lkX5_208 (s_X5_isWord _ _ _ _ E c S hS hz r hr 1 (by decide)) mxO rfl (Nat.le_of_ble_eq_true rfl) (Nat.le_of_ble_eq_true rfl) (Nat.zero_le _) (Nat.zero_le _) ?_
      rintro _ _ _ ⟨rfl, rfl, rfl⟩
      refine N.if_eq (tgt := 89) dX5_statement_81 (by decide) (fun c81 => ?_) (fun c81 => ?_)
      · refine N.aload0 dX5_statement_89 ?_
        refine N.ldcS (j := 9) (tx := "on") dX5_statement_90 rfl ?_
        refine N.vi1 dX5_statement_92 vX5_isWord lkX5_208 (s_X5_isWord _ _ _ _ E c S hS hz r hr 2 (by decide)) mxO rfl (Nat.le_of_ble_eq_true rfl) (Nat.le_of_ble_eq_true rfl) (Nat.zero_le _) (Nat.zero_le _) ?_
        rintro _ _ _ ⟨rfl, rfl, rfl⟩
        refine N.if_eq (tgt := 152) dX5_statement_95 (by decide) (fun c95 => ?_) (fun c95 => ?_)
        · refine N.aload0 dX5_statement_152 ?_
          refine N.ldcS (j := 10) (tx := "third") dX5_statement_153 rfl ?_
          refine N.vi1 dX5_statement_155 vX5_isWord lkX5_208 (s_X5_isWord _ _ _ _ E c S hS hz r hr 3 (by decide)) mxO rfl (Nat.le_of_ble_eq_true rfl) (Nat.le_of_ble_eq_true rfl) (Nat.zero_le _) (Nat.zero_le _) ?_
          rintro _ _ _ ⟨rfl, rfl, rfl⟩
          refine N.if_eq (tgt := 167) dX5_statement_158 (by decide) (fun c158 => ?_) (fun c158 => ?_)
          · refine N.aload0 dX5_statement_167 ?_
            refine N.ldcS (j := 11) (tx := "half") dX5_statement_168 rfl ?_
            refine N.vi1 dX5_statement_170 vX5_isWord lkX5_208 (s_X5_isWord _ _ _ _ E c S hS hz r hr 4 (by decide)) mxO rfl (Nat.le_of_ble_eq_true rfl) (Nat.le_of_ble_eq_true rfl) (Nat.zero_le _) (Nat.zero_le _) ?_
            rintro _ _ _ ⟨rfl, rfl, rfl⟩
            refine N.if_eq (tgt := 182) dX5_statement_173 (by decide) (fun c173 => ?_) (fun c173 => ?_)
            · refine N.aload0 dX5_statement_182 ?_
              refine N.ldcS (j := 12) (tx := "theirs") dX5_statement_183 rfl ?_
              refine N.vi1 dX5_statement_185 vX5_isWord lkX5_208 (s_X5_isWord _ _ _ _ E c S hS hz r hr 5 (by decide)) mxO rfl (Nat.le_of_ble_eq_true rfl) (Nat.le_of_ble_eq_true rfl) (Nat.zero_le _) (Nat.zero_le _) ?_
              rintro _ _ _ ⟨rfl, rfl, rfl⟩
              refine N.if_eq (tgt := 197) dX5_statement_188 (by decide) (fun c188 => ?_) (fun c188 => ?_)
              · refine N.aload0 dX5_statement_197 ?_
                refine N.ldcS (j := 13) (tx := "skate") dX5_statement_198 rfl ?_
                refine N.vi1 dX5_statement_200 vX5_isWord lkX5_208 (s_X5_isWord _ _ _ _ E c S hS hz r hr 6 (by decide)) mxO rfl (Nat.le_of_ble_eq_true rfl) (Nat.le_of_ble_eq_true rfl) (Nat.zero_le _) (Nat.zero_le _) ?_
                rintro _ _ _ ⟨rfl, rfl, rfl⟩
                refine N.if_eq (tgt := 243) dX5_statement_203 (by decide) (fun c203 => ?_) (fun c203 => ?_)
                · refine N.aload0 dX5_statement_243 ?_
                  refine N.vi0 dX5_statement_244 vX5_wrong lkX5_192 (s_X5_wrong _ _ _ _ E c _) mxO rfl (Nat.le_of_ble_eq_true rfl) (Nat.le_of_ble_eq_true rfl) (Nat.zero_le _) (Nat.zero_le _) ?_
                  rintro _ _ _ ⟨rfl, rfl, rfl⟩
                  exact N.zret dX5_statement_247 rfl rfl (Nat.zero_le _) (Nat.zero_le _) ⟨_, rfl, ⟨by rw [stM, if_neg c6, if_pos c15, sAa, if_pos c81, sBb, if_pos c95, sCc, if_pos c158, sDd, if_pos c173, sEe, if_pos c188, sFf, if_pos c203]; try rfl, by rw [stM, if_neg c6, if_pos c15, sAa, if_pos c81, sBb, if_pos c95, sCc, if_pos c158, sDd, if_pos c173, sEe, if_pos c188, sFf, if_pos c203]; try rfl, rfl⟩⟩
                · refine N.aload0 dX5_statement_206 ?_
                  refine N.iconst (v := 1) dX5_statement_207 (by decide) ?_
                  refine N.bipush (v := 99) dX5_statement_208 (by decide) ?_
                  refine N.vi2 dX5_statement_210 vX5_tells lkX5_203 (s_X5_tells _ _ _ _ E c S hS hz r hr _ _) mxO rfl (Nat.le_of_ble_eq_true rfl) (Nat.le_of_ble_eq_true rfl) (Nat.zero_le _) (Nat.zero_le _) ?_
                  rintro _ _ _ ⟨rfl, rfl, rfl⟩
                  have h1 := ok_te (f := (E.2 4)) (v := v) (E := E) (lo := 1) (hi := 99) hr
                  have h2 := te_k (f := (E.2 4)) (S := S) (r := r) (v := v) (E := E) (lo := 1) (hi := 99)
                  generalize hq : teM (E.2 4) S r v E 1 99 = q at h1 h2 ⊢
                  refine N.istore1 dX5_statement_213 rfl ?_
                  refine N.iconst (v := 0) dX5_statement_214 (by decide) ?_
                  refine N.istore2 dX5_statement_215 rfl ?_
                  by_cases c0 : q.1 = 0
                  · refine N.iload1 dX5_statement_216 ?_
                    refine N.if_eq (tgt := 241) dX5_statement_217 (by decide) (fun c217 => ?_) (fun c217 => absurd c0 c217)
                    refine N.iload1 dX5_statement_241 ?_
                    exact N.zret dX5_statement_242 rfl (nar01 h1.1) (Nat.zero_le _) (Nat.zero_le _) ⟨_, rfl, ⟨by rw [stM, if_neg c6, if_pos c15, sAa, if_pos c81, sBb, if_pos c95, sCc, if_pos c158, sDd, if_pos c173, sEe, if_pos c188, sFf, if_neg c203, hq, sk1, if_pos c0]; exact c0, by rw [stM, if_neg c6, if_pos c15, sAa, if_pos c81, sBb, if_pos c95, sCc, if_pos c158, sDd, if_pos c173, sEe, if_pos c188, sFf, if_neg c203, hq, sk1, if_pos c0], rfl⟩⟩
                  · have hq1 : q.1 = 1 := h1.1.resolve_left c0
                    obtain ⟨m, hm, hm1, et⟩ := in_n1 (N' := 99) (by decide) (h2.2.2 c0)
                    rw [hq1]
                    exact N.wk (by exact ⟨rfl, rfl, rfl, trivial⟩) (l_X5_statement w b _ q.2.2.1 q.2.2.2 c (by rw [h2.2.1]; exact h) q.2.1 m hm et _ (by rw [stM, if_neg c6, if_pos c15, sAa, if_pos c81, sBb, if_pos c95, sCc, if_pos c158, sDd, if_pos c173, sEe, if_pos c188, sFf, if_neg c203, hq, sk1, if_neg c0, et, nI_clamp (by omega)]; exact ⟨rfl, rfl, rfl⟩) m 0 (by omega))
              · refine N.aload0 dX5_statement_191 ?_
                refine N.iconst (v := 2) dX5_statement_192 (by decide) ?_
                refine N.vi1 dX5_statement_193 vX5_asks lkX5_223 (s_X5_asks _ _ _ _ E c S hS hz r hr _) mxO rfl (Nat.le_of_ble_eq_true rfl) (Nat.le_of_ble_eq_true rfl) (Nat.zero_le _) (Nat.zero_le _) ?_
                rintro _ _ _ ⟨rfl, rfl, rfl⟩
                exact N.zret dX5_statement_196 rfl (nar01 (ok_as hr).1) (Nat.zero_le _) (Nat.zero_le _) ⟨_, rfl, ⟨by rw [stM, if_neg c6, if_pos c15, sAa, if_pos c81, sBb, if_pos c95, sCc, if_pos c158, sDd, if_pos c173, sEe, if_neg c188], by rw [stM, if_neg c6, if_pos c15, sAa, if_pos c81, sBb, if_pos c95, sCc, if_pos c158, sDd, if_pos c173, sEe, if_neg c188], rfl⟩⟩
            · refine N.aload0 dX5_statement_176 ?_
              refine N.iconst (v := 1) dX5_statement_177 (by decide) ?_
              refine N.vi1 dX5_statement_178 vX5_asks lkX5_223 (s_X5_asks _ _ _ _ E c S hS hz r hr _) mxO rfl (Nat.le_of_ble_eq_true rfl) (Nat.le_of_ble_eq_true rfl) (Nat.zero_le _) (Nat.zero_le _) ?_
              rintro _ _ _ ⟨rfl, rfl, rfl⟩
              exact N.zret dX5_statement_181 rfl (nar01 (ok_as hr).1) (Nat.zero_le _) (Nat.zero_le _) ⟨_, rfl, ⟨by rw [stM, if_neg c6, if_pos c15, sAa, if_pos c81, sBb, if_pos c95, sCc, if_pos c158, sDd, if_neg c173], by rw [stM, if_neg c6, if_pos c15, sAa, if_pos c81, sBb, if_pos c95, sCc, if_pos c158, sDd, if_neg c173], rfl⟩⟩
          · refine N.aload0 dX5_statement_161 ?_
            refine N.iconst (v := 0) dX5_statement_162 (by decide) ?_
            refine N.vi1 dX5_statement_163 vX5_asks lkX5_223 (s_X5_asks _ _ _ _ E c S hS hz r hr _) mxO rfl (Nat.le_of_ble_eq_true rfl) (Nat.le_of_ble_eq_true rfl) (Nat.zero_le _) (Nat.zero_le _) ?_
            rintro _ _ _ ⟨rfl, rfl, rfl⟩
            exact N.zret dX5_statement_166 rfl (nar01 (ok_as hr).1) (Nat.zero_le _) (Nat.zero_le _) ⟨_, rfl, ⟨by rw [stM, if_neg c6, if_pos c15, sAa, if_pos c81, sBb, if_pos c95, sCc, if_neg c158], by rw [stM, if_neg c6, if_pos c15, sAa, if_pos c81, sBb, if_pos c95, sCc, if_neg c158], rfl⟩⟩
        · refine N.aload0 dX5_statement_98 ?_
          refine N.vv0 dX5_statement_99 vX5_look lkX5_196 (s_X5_look _ _ _ _ (em E c) S hS hz _ hr.2 _ _ _) mxO rfl (Nat.le_of_ble_eq_true rfl) (Nat.le_of_ble_eq_true rfl) (Nat.zero_le _) (Nat.zero_le _) ?_
          rintro _ _ ⟨rfl, rfl⟩
          have hr1 := lk_ok (f := (E.2 4)) hr.2
          generalize hlk : lk (E.2 4) S r.1.2.1 = r1 at hr1 ⊢
          refine N.aload0 dX5_statement_102 ?_
          refine N.getf dX5_statement_103 flX5_170 mxO rfl ?_
          refine N.iconst (v := 2) dX5_statement_106 (by decide) ?_
          refine N.icmp_ne (tgt := 133) dX5_statement_107 (by decide) (fun c107 => ?_) (fun c107 => ?_)
          · refine N.aload0 dX5_statement_133 ?_
            refine N.vi0 dX5_statement_134 vX5_wrong lkX5_192 (s_X5_wrong _ _ _ _ E c _) mxO rfl (Nat.le_of_ble_eq_true rfl) (Nat.le_of_ble_eq_true rfl) (Nat.zero_le _) (Nat.zero_le _) ?_
            rintro _ _ _ ⟨rfl, rfl, rfl⟩
            exact N.zret dX5_statement_137 rfl rfl (Nat.zero_le _) (Nat.zero_le _) ⟨_, rfl, ⟨by rw [stM, if_neg c6, if_pos c15, sAa, if_pos c81, sBb, if_neg c95, hlk, on1, if_neg c107]; try rfl, by rw [stM, if_neg c6, if_pos c15, sAa, if_pos c81, sBb, if_neg c95, hlk, on1, if_neg c107]; try rfl, rfl⟩⟩
          · refine N.aload0 dX5_statement_110 ?_
            refine N.getf dX5_statement_111 flX5_167 mxO rfl ?_
            refine N.i2l dX5_statement_114 ?_
            refine N.si1 dX5_statement_115 vX5_isLine lkX5_138 (s_X5_isLine _ _ _) rfl (Nat.le_of_ble_eq_true rfl) (Nat.le_of_ble_eq_true rfl) (Nat.zero_le _) (Nat.zero_le _) ?_
            rintro r1 _ _ ⟨er, rfl, rfl⟩
            obtain rfl := er.trans (inL_i (a := 0) (b := 3) rfl rfl)
            refine N.if_eq (tgt := 133) dX5_statement_118 (by decide) (fun c118 => ?_) (fun c118 => ?_)
            · refine N.aload0 dX5_statement_133 ?_
              refine N.vi0 dX5_statement_134 vX5_wrong lkX5_192 (s_X5_wrong _ _ _ _ E c _) mxO rfl (Nat.le_of_ble_eq_true rfl) (Nat.le_of_ble_eq_true rfl) (Nat.zero_le _) (Nat.zero_le _) ?_
              rintro _ _ _ ⟨rfl, rfl, rfl⟩
              exact N.zret dX5_statement_137 rfl rfl (Nat.zero_le _) (Nat.zero_le _) ⟨_, rfl, ⟨by rw [stM, if_neg c6, if_pos c15, sAa, if_pos c81, sBb, if_neg c95, hlk, on1, if_pos c107, if_pos c118]; try rfl, by rw [stM, if_neg c6, if_pos c15, sAa, if_pos c81, sBb, if_neg c95, hlk, on1, if_pos c107, if_pos c118]; try rfl, rfl⟩⟩
            · refine N.aload0 dX5_statement_121 ?_
              refine N.getf dX5_statement_122 flX5_49 mxO rfl ?_
              refine N.aload0 dX5_statement_125 ?_
              refine N.getf dX5_statement_126 flX5_167 mxO rfl ?_
              refine N.iald dX5_statement_129 mA4 (ln_in c118) ?_
              refine N.if_ne (tgt := 138) dX5_statement_130 (by decide) (fun c130 => ?_) (fun c130 => ?_)
              · refine N.aload0 dX5_statement_138 ?_
                refine N.aload0 dX5_statement_139 ?_
                refine N.getf dX5_statement_140 flX5_167 mxO rfl ?_
                refine N.vv1 dX5_statement_143 vX5_whistles lkX5_218 (s_X5_whistles _ _ _ _ _ _ (ln_in c118)) mxO rfl (Nat.le_of_ble_eq_true rfl) (Nat.le_of_ble_eq_true rfl) (Nat.zero_le _) (Nat.zero_le _) ?_
                rintro _ _ ⟨rfl, rfl⟩
                refine N.aload0 dX5_statement_146 ?_
                refine N.vv0 dX5_statement_147 vX5_look lkX5_196 (s_X5_look _ _ _ _ (em E c) S hS hz _ hr1.2 _ _ _) mxO rfl (Nat.le_of_ble_eq_true rfl) (Nat.le_of_ble_eq_true rfl) (Nat.zero_le _) (Nat.zero_le _) ?_
                rintro _ _ ⟨rfl, rfl⟩
                refine N.iconst (v := 1) dX5_statement_150 (by decide) ?_
                exact N.zret dX5_statement_151 rfl rfl (Nat.zero_le _) (Nat.zero_le _) ⟨_, rfl, ⟨by rw [stM, if_neg c6, if_pos c15, sAa, if_pos c81, sBb, if_neg c95, hlk, on1, if_pos c107, if_neg c118, if_neg c130]; try rfl, by rw [stM, if_neg c6, if_pos c15, sAa, if_pos c81, sBb, if_neg c95, hlk, on1, if_pos c107, if_neg c118, if_neg c130]; try rfl, rfl⟩⟩
              · refine N.aload0 dX5_statement_133 ?_
                refine N.vi0 dX5_statement_134 vX5_wrong lkX5_192 (s_X5_wrong _ _ _ _ E c _) mxO rfl (Nat.le_of_ble_eq_true rfl) (Nat.le_of_ble_eq_true rfl) (Nat.zero_le _) (Nat.zero_le _) ?_
                rintro _ _ _ ⟨rfl, rfl, rfl⟩
                exact N.zret dX5_statement_137 rfl rfl (Nat.zero_le _) (Nat.zero_le _) ⟨_, rfl, ⟨by rw [stM, if_neg c6, if_pos c15, sAa, if_pos c81, sBb, if_neg c95, hlk, on1, if_pos c107, if_neg c118, if_pos c130]; try rfl, by rw [stM, if_neg c6, if_pos c15, sAa, if_pos c81, sBb, if_neg c95, hlk, on1, if_pos c107, if_neg c118, if_pos c130]; try rfl, rfl⟩⟩
      · refine N.aload0 dX5_statement_84 ?_
        refine N.vi0 dX5_statement_85 vX5_lineTold lkX5_213 (s_X5_lineTold _ _ _ _ E c S hS hz r hr) mxO rfl (Nat.le_of_ble_eq_true rfl) (Nat.le_of_ble_eq_true rfl) (Nat.zero_le _) (Nat.zero_le _) ?_
        rintro _ _ _ ⟨rfl, rfl, rfl⟩
        exact N.zret dX5_statement_88 rfl (nar01 (ok_li hr h).1.1) (Nat.zero_le _) (Nat.zero_le _) ⟨_, rfl, ⟨by rw [stM, if_neg c6, if_pos c15, sAa, if_neg c81], by rw [stM, if_neg c6, if_pos c15, sAa, if_neg c81], rfl⟩⟩
    · refine N.aload0 dX5_statement_18 ?_
      refine N.iconst (v := 0) dX5_statement_19 (by decide) ?_
      refine N.iconst (v := 5) dX5_statement_20 (by decide) ?_
      refine N.vi2 dX5_statement_21 vX5_tells lkX5_203 (s_X5_tells _ _ _ _ E c S hS hz r hr _ _) mxO rfl (Nat.le_of_ble_eq_true rfl) (Nat.le_of_ble_eq_true rfl) (Nat.zero_le _) (Nat.zero_le _) ?_
      rintro _ _ _ ⟨rfl, rfl, rfl⟩
      have h1 := ok_te (f := (E.2 4)) (v := v) (E := E) (lo := 0) (hi := 5) hr
      have h2 := te_k (f := (E.2 4)) (S := S) (r := r) (v := v) (E := E) (lo := 0) (hi := 5)
      generalize hq : teM (E.2 4) S r v E 0 5 = q at h1 h2 ⊢
      have hf : q.2.2.2.2 4 = (E.2 4) := h2.1.1 4 (by decide)
      refine N.if_eq (tgt := 49) dX5_statement_24 (by decide) (fun c24 => ?_) (fun c24 => ?_)
      · refine N.iconst (v := 0) dX5_statement_49 (by decide) ?_
        exact N.zret dX5_statement_50 rfl rfl (Nat.zero_le _) (Nat.zero_le _) ⟨_, rfl, ⟨by rw [stM, if_neg c6, if_neg c15, hq, pl1, if_pos c24], by rw [stM, if_neg c6, if_neg c15, hq, pl1, if_pos c24], rfl⟩⟩
      · refine N.aload0 dX5_statement_27 ?_
        refine N.iconst (v := 1) dX5_statement_28 (by decide) ?_
        refine N.iconst (v := 1) dX5_statement_29 (by decide) ?_
        refine N.bipush (v := 99) dX5_statement_30 (by decide) ?_
        refine N.vi3 dX5_statement_32 vX5_number lkX5_199 (s_X5_number _ _ _ q.2.2.1 q.2.2.2 c S hS (h2.1.2.trans hz) q.2.1 h1.2.1 _ _ _ (vp_in_nI (n := 1) (by decide) (by decide))) mxO rfl (Nat.le_of_ble_eq_true rfl) (Nat.le_of_ble_eq_true rfl) (Nat.zero_le _) (Nat.zero_le _) ?_
        rintro _ _ _ ⟨rfl, rfl, rfl⟩
        rw [hf]
        have h3 := ok_nu (f := (E.2 4)) (v := q.2.2.1) (E := q.2.2.2) (i := 1) (lo := 1) (hi := 99) h1.2.1
        have h4 := nu_k (f := (E.2 4)) (S := S) (r := q.2.1) (v := q.2.2.1) (E := q.2.2.2) (i := 1) (lo := 1) (hi := 99)
        generalize hq2 : nuM (E.2 4) S q.2.1 q.2.2.1 q.2.2.2 1 1 99 = q2 at h3 h4 ⊢
        have hf2 : q2.2.2.2.2 4 = (E.2 4) := (h4.1.1 4 (by decide)).trans hf
        refine N.if_eq (tgt := 49) dX5_statement_35 (by decide) (fun c35 => ?_) (fun c35 => ?_)
        · refine N.iconst (v := 0) dX5_statement_49 (by decide) ?_
          exact N.zret dX5_statement_50 rfl rfl (Nat.zero_le _) (Nat.zero_le _) ⟨_, rfl, ⟨by rw [stM, if_neg c6, if_neg c15, hq, pl1, if_neg c24, hq2, pl2, if_pos c35], by rw [stM, if_neg c6, if_neg c15, hq, pl1, if_neg c24, hq2, pl2, if_pos c35], rfl⟩⟩
        · refine N.aload0 dX5_statement_38 ?_
          refine N.iconst (v := 2) dX5_statement_39 (by decide) ?_
          refine N.iconst (v := 0) dX5_statement_40 (by decide) ?_
          refine N.bipush (v := 9) dX5_statement_41 (by decide) ?_
          refine N.vi3 dX5_statement_43 vX5_number lkX5_199 (s_X5_number _ _ _ q2.2.2.1 q2.2.2.2 c S hS (h4.1.2.trans (h2.1.2.trans hz)) q2.2.1 h3.2.1 _ _ _ (vp_in_nI (n := 2) (by decide) (by decide))) mxO rfl (Nat.le_of_ble_eq_true rfl) (Nat.le_of_ble_eq_true rfl) (Nat.zero_le _) (Nat.zero_le _) ?_
          rintro _ _ _ ⟨rfl, rfl, rfl⟩
          rw [hf2]
          have h6 := nu_k (f := (E.2 4)) (S := S) (r := q2.2.1) (v := q2.2.2.1) (E := q2.2.2.2) (i := 2) (lo := 0) (hi := 9)
          generalize hq3 : nuM (E.2 4) S q2.2.1 q2.2.2.1 q2.2.2.2 2 0 9 = q3 at h6 ⊢
          have ev : q3.2.2.1 = v := h6.2.1.trans (h4.2.1.trans h2.2.1)
          refine N.if_ne (tgt := 51) dX5_statement_46 (by decide) (fun c46 => ?_) (fun c46 => ?_)
          · refine N.aload0 dX5_statement_51 ?_
            refine N.aload0 dX5_statement_52 ?_
            refine N.getf dX5_statement_53 flX5_65 mxO rfl ?_
            refine N.iconst (v := 0) dX5_statement_56 (by decide) ?_
            refine N.iald dX5_statement_57 mxD (vp_in_nI (n := 0) (by decide) (by decide)) ?_
            refine N.aload0 dX5_statement_58 ?_
            refine N.getf dX5_statement_59 flX5_65 mxO rfl ?_
            refine N.iconst (v := 1) dX5_statement_62 (by decide) ?_
            refine N.iald dX5_statement_63 mxD (vp_in_nI (n := 1) (by decide) (by decide)) ?_
            refine N.aload0 dX5_statement_64 ?_
            refine N.getf dX5_statement_65 flX5_65 mxO rfl ?_
            refine N.iconst (v := 2) dX5_statement_68 (by decide) ?_
            refine N.iald dX5_statement_69 mxD (vp_in_nI (n := 2) (by decide) (by decide)) ?_
            refine N.vv3 dX5_statement_70 vX5_addPlayer lkX5_132 (s_X5_addPlayer _ _ _ _ _ _ _ _ (by rw [ev]; exact pl_lt h c15)) mxO rfl (Nat.le_of_ble_eq_true rfl) (Nat.le_of_ble_eq_true rfl) (Nat.zero_le _) (Nat.zero_le _) ?_
            rintro _ _ ⟨rfl, rfl⟩
            refine N.iconst (v := 1) dX5_statement_73 (by decide) ?_
            exact N.zret dX5_statement_74 rfl rfl (Nat.zero_le _) (Nat.zero_le _) ⟨_, rfl, ⟨by rw [stM, if_neg c6, if_neg c15, hq, pl1, if_neg c24, hq2, pl2, if_neg c35, hq3, pl3, if_neg c46]; try rfl, by rw [stM, if_neg c6, if_neg c15, hq, pl1, if_neg c24, hq2, pl2, if_neg c35, hq3, pl3, if_neg c46]; try rfl, rfl⟩⟩
          · refine N.iconst (v := 0) dX5_statement_49 (by decide) ?_
            exact N.zret dX5_statement_50 rfl rfl (Nat.zero_le _) (Nat.zero_le _) ⟨_, rfl, ⟨by rw [stM, if_neg c6, if_neg c15, hq, pl1, if_neg c24, hq2, pl2, if_neg c35, hq3, pl3, if_pos c46], by rw [stM, if_neg c6, if_neg c15, hq, pl1, if_neg c24, hq2, pl2, if_neg c35, hq3, pl3, if_pos c46], rfl⟩⟩
