variable {G : Nat → Prop}
/-- what a reading leaves as it was -/
def kp (E E' : M2) : Prop := (∀ i, i ≠ 6 → E'.2 i = E.2 i) ∧ E'.1 0 = E.1 0
theorem kp.rfl' {E : M2} : kp E E := ⟨fun _ _ => rfl, rfl⟩
theorem kp.tr {E E' E2 : M2} (h : kp E E') (h2 : kp E' E2) : kp E E2 := ⟨fun i hi => (h2.1 i hi).trans (h.1 i hi), h2.2.trans h.2⟩
theorem kp_fl {E : M2} {r : Rd} : kp E (fl E r) := ⟨fun _ _ => rfl, rfl⟩
theorem kp_tl {E : M2} {i x : Int32} : kp E (tl E i x) := ⟨fun j hj => if_neg hj, rfl⟩
abbrev OkQ (S : Nat) (r : Rd) (E : M2) (q : RM) : Prop := OkR S r q ∧ kp E q.2.2.2 ∧ okP q.2.2.1
theorem nu_k {f : Nat → Int32} {S : Nat} {r : Rd} {v : CV} {E : M2} {i lo hi : Int32} : kp E (nuM f S r v E i lo hi).2.2.2 ∧ (nuM f S r v E i lo hi).2.2.1 = v ∧ (¬ (nuM f S r v E i lo hi).1 = 0 → ¬ isInF ((nuM f S r v E i lo hi).2.2.2.2 6 i.toNatClampNeg) lo hi = 0 ∧ ∀ j, j ≠ i.toNatClampNeg → (nuM f S r v E i lo hi).2.2.2.2 6 j = E.2 6 j) := by
  unfold nuM
  by_cases h1 : r.1.2.2 = 2
  · rw [if_pos h1]
    by_cases h2 : isInF r.2 lo hi = 0
    · rw [if_pos h2]; exact ⟨kp_fl, rfl, fun q => absurd rfl q⟩
    · rw [if_neg h2]
      refine ⟨kp_tl, rfl, fun _ => ⟨?_, fun j hj => ?_⟩⟩
      · show ¬ isInF (upd (E.2 6) i.toNatClampNeg r.2 i.toNatClampNeg) lo hi = 0
        unfold upd
        rw [if_pos rfl]; exact h2
      · show upd (E.2 6) i.toNatClampNeg r.2 j = E.2 6 j
        unfold upd
        rw [if_neg hj]
  · rw [if_neg h1]; exact ⟨kp_fl, rfl, fun q => absurd rfl q⟩
theorem te_k {f : Nat → Int32} {S : Nat} {r : Rd} {v : CV} {E : M2} {lo hi : Int32} : kp E (teM f S r v E lo hi).2.2.2 ∧ (teM f S r v E lo hi).2.2.1 = v ∧ (¬ (teM f S r v E lo hi).1 = 0 → ¬ isInF ((teM f S r v E lo hi).2.2.2.2 6 0) lo hi = 0) := by
  have h := nu_k (f := f) (S := S) (r := lk f S r.1.2.1) (v := v) (E := E) (i := 0) (lo := lo) (hi := hi)
  exact ⟨h.1, h.2.1, fun q => (h.2.2 q).1⟩
def liR (f : Nat → Int32) (S : Nat) (v : CV) : Nat → Rd → Int32 → Int32 × Rd × Int32
  | 0, r, s => (0, r, s)
  | n + 1, r, s => if r.1.2.2 = 2 then (if isPlF v r.2 = 0 then (0, r, s) else if bitF s r.2 = 0 then (if bitsF s = 5 then (0, r, s) else if (lk f S r.1.2.1).1.2.2 = 2 then liR f S v n (lk f S r.1.2.1) (s ||| ((1 : Int32) <<< (r.2 &&& 31))) else (1, lk f S r.1.2.1, s ||| ((1 : Int32) <<< (r.2 &&& 31)))) else (0, r, s)) else (0, r, s)
def lnV (v : CV) (l s : Int32) : CV := (v.1, upA v.2 4 (upd (v.2 4) l.toNatClampNeg s))
def li2 (q : RM) (z : Int32 × Rd × Int32) : RM := if z.1 = 0 then (0, z.2.1, q.2.2.1, fl q.2.2.2 z.2.1) else (1, z.2.1, lnV q.2.2.1 (q.2.2.2.2 6 0) z.2.2, q.2.2.2)
def li1 (f : Nat → Int32) (S : Nat) (q : RM) : RM := if q.1 = 0 then (0, q.2) else li2 q (liR f S q.2.2.1 251 q.2.1 0)
def liM (f : Nat → Int32) (S : Nat) (r : Rd) (v : CV) (E : M2) : RM := li1 f S (teM f S r v E 0 3)
theorem liR_ok {f : Nat → Int32} {S : Nat} {v : CV} : ∀ n r s, I3 S r.1 → I3 S (liR f S v n r s).2.1.1 ∧ r.1.2.1 ≤ (liR f S v n r s).2.1.1.2.1
  | 0, r, s, h => ⟨h, Nat.le_refl _⟩
  | n + 1, r, s, h => by
    rw [liR]
    have hk := lk_ok (f := f) h.2
    have hl := lk_le (f := f) (S := S) (e := r.1.2.1)
    by_cases h1 : r.1.2.2 = 2
    · rw [if_pos h1]
      by_cases h2 : isPlF v r.2 = 0
      · rw [if_pos h2]; exact ⟨h, Nat.le_refl _⟩
      · rw [if_neg h2]
        by_cases h3 : bitF s r.2 = 0
        · rw [if_pos h3]
          by_cases h4 : bitsF s = 5
          · rw [if_pos h4]; exact ⟨h, Nat.le_refl _⟩
          · rw [if_neg h4]
            by_cases h5 : (lk f S r.1.2.1).1.2.2 = 2
            · rw [if_pos h5]
              have ih := liR_ok (f := f) (v := v) n (lk f S r.1.2.1) (s ||| ((1 : Int32) <<< (r.2 &&& 31))) hk
              exact ⟨ih.1, Nat.le_trans hl ih.2⟩
            · rw [if_neg h5]; exact ⟨hk, hl⟩
        · rw [if_neg h3]; exact ⟨h, Nat.le_refl _⟩
    · rw [if_neg h1]; exact ⟨h, Nat.le_refl _⟩
theorem okP.ln {v : CV} (h : okP v) (l s : Int32) : okP (lnV v l s) := h
theorem ok_li {f : Nat → Int32} {S : Nat} {r : Rd} {v : CV} {E : M2} (hr : I3 S r.1) (h : okP v) : OkQ S r E (liM f S r v E) := by
  have h1 := ok_te (f := f) (v := v) (E := E) (lo := 0) (hi := 3) hr
  have h2 := te_k (f := f) (S := S) (r := r) (v := v) (E := E) (lo := 0) (hi := 3)
  unfold liM
  generalize teM f S r v E 0 3 = q at h1 h2
  have hv : okP q.2.2.1 := by rw [h2.2.1]; exact h
  unfold li1
  by_cases c : q.1 = 0
  · rw [if_pos c]; exact ⟨⟨Or.inl rfl, h1.2⟩, h2.1, hv⟩
  · rw [if_neg c]
    have h3 := liR_ok (f := f) (v := q.2.2.1) 251 q.2.1 0 h1.2.1
    unfold li2
    generalize liR f S q.2.2.1 251 q.2.1 0 = z at h3
    by_cases c2 : z.1 = 0
    · rw [if_pos c2]; exact ⟨⟨Or.inl rfl, h3.1, Nat.le_trans h1.2.2 h3.2⟩, h2.1.tr kp_fl, hv⟩
    · rw [if_neg c2]; exact ⟨⟨Or.inr rfl, h3.1, Nat.le_trans h1.2.2 h3.2⟩, h2.1, hv.ln _ _⟩
set_option maxRecDepth 100000 in
theorem l_X5_lineTold {K : Kx} (w : Wd) (b sz : Nat) (v : CV) (E : M2) (c : Cc) (S : Nat) (hS : S ≤ 250) (hz : E.1 0 = nI S) (hl : vp_in (E.2 6 0) 4) (P : Int32 → Wd → Nat → Prop) : ∀ nn (r : Rd) (s : Int32), I3 S r.1 → S - r.1.2.1 < nn → ((liR (E.2 4) S v nn r s).1 = 0 → P 0 (putM K w b (v, rdS (em (fl E (liR (E.2 4) S v nn r s).2.1) c) (liR (E.2 4) S v nn r s).2.1)) sz) → (¬ (liR (E.2 4) S v nn r s).1 = 0 → P 1 (putM K w b (lnV v (E.2 6 0) (liR (E.2 4) S v nn r s).2.2, rdS (em E c) (liR (E.2 4) S v nn r s).2.1)) sz) → N K mX5_lineTold 4 0 0 (Qi P) 13 [some (.ref b), some (.int s)] [] (putM K w b (v, rdS (em E c) r)) sz 0 0 := by
  intro nn
  induction nn with
  | zero =>
    intro r s hr hm h0 h1
    exact absurd hm (by omega)
  | succ nn ih =>
    intro r s hr hm h0 h1
    refine N.aload0 dX5_lineTold_13 ?_
    refine N.getf dX5_lineTold_14 flX5_170 mxO rfl ?_
    refine N.iconst (v := 2) dX5_lineTold_17 (by decide) ?_
    refine N.icmp_ne (tgt := 51) dX5_lineTold_18 (by decide) (fun c18 => ?_) (fun c18 => ?_)
    · refine N.aload0 dX5_lineTold_51 ?_
      refine N.vi0 dX5_lineTold_52 vX5_wrong lkX5_192 (s_X5_wrong _ _ _ _ E c _) mxO rfl (Nat.le_of_ble_eq_true rfl) (Nat.le_of_ble_eq_true rfl) (Nat.zero_le _) (Nat.zero_le _) ?_
      rintro _ _ _ ⟨rfl, rfl, rfl⟩
      exact N.zret dX5_lineTold_55 rfl rfl (Nat.zero_le _) (Nat.zero_le _) ⟨_, rfl, (by rw [liR, if_neg c18] at h0; exact h0 rfl)⟩
    · refine N.aload0 dX5_lineTold_21 ?_
      refine N.aload0 dX5_lineTold_22 ?_
      refine N.getf dX5_lineTold_23 flX5_167 mxO rfl ?_
      refine N.vi1 dX5_lineTold_26 vX5_isPlayer lkX5_100 (s_X5_isPlayer _ _ _ _ _ _) mxO rfl (Nat.le_of_ble_eq_true rfl) (Nat.le_of_ble_eq_true rfl) (Nat.zero_le _) (Nat.zero_le _) ?_
      rintro _ _ _ ⟨rfl, rfl, rfl⟩
      refine N.if_eq (tgt := 51) dX5_lineTold_29 (by decide) (fun c29 => ?_) (fun c29 => ?_)
      · refine N.aload0 dX5_lineTold_51 ?_
        refine N.vi0 dX5_lineTold_52 vX5_wrong lkX5_192 (s_X5_wrong _ _ _ _ E c _) mxO rfl (Nat.le_of_ble_eq_true rfl) (Nat.le_of_ble_eq_true rfl) (Nat.zero_le _) (Nat.zero_le _) ?_
        rintro _ _ _ ⟨rfl, rfl, rfl⟩
        exact N.zret dX5_lineTold_55 rfl rfl (Nat.zero_le _) (Nat.zero_le _) ⟨_, rfl, (by rw [liR, if_pos c18, if_pos c29] at h0; exact h0 rfl)⟩
      · refine N.iload1 dX5_lineTold_32 ?_
        refine N.aload0 dX5_lineTold_33 ?_
        refine N.getf dX5_lineTold_34 flX5_167 mxO rfl ?_
        refine N.si2 dX5_lineTold_37 vX5_has lkX5_119 (s_X5_has _ _ _ _) rfl (Nat.le_of_ble_eq_true rfl) (Nat.le_of_ble_eq_true rfl) (Nat.zero_le _) (Nat.zero_le _) ?_
        rintro _ _ _ ⟨rfl, rfl, rfl⟩
        refine N.if_ne (tgt := 51) dX5_lineTold_40 (by decide) (fun c40 => ?_) (fun c40 => ?_)
        · refine N.aload0 dX5_lineTold_51 ?_
          refine N.vi0 dX5_lineTold_52 vX5_wrong lkX5_192 (s_X5_wrong _ _ _ _ E c _) mxO rfl (Nat.le_of_ble_eq_true rfl) (Nat.le_of_ble_eq_true rfl) (Nat.zero_le _) (Nat.zero_le _) ?_
          rintro _ _ _ ⟨rfl, rfl, rfl⟩
          exact N.zret dX5_lineTold_55 rfl rfl (Nat.zero_le _) (Nat.zero_le _) ⟨_, rfl, (by rw [liR, if_pos c18, if_neg c29, if_neg c40] at h0; exact h0 rfl)⟩
        · refine N.iload1 dX5_lineTold_43 ?_
          refine N.si1 dX5_lineTold_44 vX5_bits lkX5_122 (s_X5_bits _ _ _) rfl (Nat.le_of_ble_eq_true rfl) (Nat.le_of_ble_eq_true rfl) (Nat.zero_le _) (Nat.zero_le _) ?_
          rintro _ _ _ ⟨rfl, rfl, rfl⟩
          refine N.iconst (v := 5) dX5_lineTold_47 (by decide) ?_
          refine N.icmp_ne (tgt := 56) dX5_lineTold_48 (by decide) (fun c48 => ?_) (fun c48 => ?_)
          · refine N.iload1 dX5_lineTold_56 ?_
            refine N.iconst (v := 1) dX5_lineTold_57 (by decide) ?_
            refine N.aload0 dX5_lineTold_58 ?_
            refine N.getf dX5_lineTold_59 flX5_167 mxO rfl ?_
            refine N.ishl dX5_lineTold_62 ?_
            refine N.ior dX5_lineTold_63 ?_
            refine N.istore1 dX5_lineTold_64 rfl ?_
            refine N.aload0 dX5_lineTold_65 ?_
            refine N.vv0 dX5_lineTold_66 vX5_look lkX5_196 (s_X5_look _ _ _ _ (em E c) S hS hz _ hr.2 _ _ _) mxO rfl (Nat.le_of_ble_eq_true rfl) (Nat.le_of_ble_eq_true rfl) (Nat.zero_le _) (Nat.zero_le _) ?_
            rintro _ _ ⟨rfl, rfl⟩
            refine N.aload0 dX5_lineTold_69 ?_
            refine N.getf dX5_lineTold_70 flX5_170 mxO rfl ?_
            refine N.iconst (v := 2) dX5_lineTold_73 (by decide) ?_
            refine N.icmp_eq (tgt := 13) dX5_lineTold_74 (by decide) (fun c74 => ?_) (fun c74 => ?_)
            · have hlt := lk_lt (f := (E.2 4)) (S := S) (e := r.1.2.1) (by rw [c74]; decide)
              have hk := lk_ok (f := (E.2 4)) hr.2
              rw [liR, if_pos c18, if_neg c29, if_pos c40, if_neg c48, if_pos c74] at h0 h1
              exact ih (lk (E.2 4) S r.1.2.1) _ hk (by have := hk.2; omega) h0 h1
            · refine N.aload0 dX5_lineTold_77 ?_
              refine N.getf dX5_lineTold_78 flX5_49 mxO rfl ?_
              refine N.aload0 dX5_lineTold_81 ?_
              refine N.getf dX5_lineTold_82 flX5_65 mxO rfl ?_
              refine N.iconst (v := 0) dX5_lineTold_85 (by decide) ?_
              refine N.iald dX5_lineTold_86 mxD (vp_in_nI (n := 0) (by decide) (by decide)) ?_
              refine N.iload1 dX5_lineTold_87 ?_
              refine N.iast dX5_lineTold_88 mA4 hl mK4 ?_
              refine N.iconst (v := 1) dX5_lineTold_89 (by decide) ?_
              exact N.zret dX5_lineTold_90 rfl rfl (Nat.zero_le _) (Nat.zero_le _) ⟨_, rfl, (by rw [liR, if_pos c18, if_neg c29, if_pos c40, if_neg c48, if_neg c74] at h1; exact h1 (by show ¬ (1 : Int32) = 0; decide))⟩
          · refine N.aload0 dX5_lineTold_51 ?_
            refine N.vi0 dX5_lineTold_52 vX5_wrong lkX5_192 (s_X5_wrong _ _ _ _ E c _) mxO rfl (Nat.le_of_ble_eq_true rfl) (Nat.le_of_ble_eq_true rfl) (Nat.zero_le _) (Nat.zero_le _) ?_
            rintro _ _ _ ⟨rfl, rfl, rfl⟩
            exact N.zret dX5_lineTold_55 rfl rfl (Nat.zero_le _) (Nat.zero_le _) ⟨_, rfl, (by rw [liR, if_pos c18, if_neg c29, if_pos c40, if_pos c48] at h0; exact h0 rfl)⟩
set_option maxRecDepth 100000 in
theorem s_X5_lineTold {K : Kx} (w : Wd) (b sz : Nat) (v : CV) (E : M2) (c : Cc) (S : Nat) (hS : S ≤ 250) (hz : E.1 0 = nI S) (r : Rd) (hr : I3 S r.1) : Sp K mX5_lineTold 4 0 0 [.ref b] (putM K w b (v, rdS (em E c) r)) sz (Qi fun x' w' sz' => x' = (liM (E.2 4) S r v E).1 ∧ w' = putM K w b ((liM (E.2 4) S r v E).2.2.1, rdS (em (liM (E.2 4) S r v E).2.2.2 c) (liM (E.2 4) S r v E).2.1) ∧ sz' = sz) := by
  refine Sp.ofN [some (.ref b), none] rfl rfl rfl (Nat.le_of_ble_eq_true rfl) ?_
  refine N.aload0 dX5_lineTold_0 ?_
  refine N.iconst (v := 0) dX5_lineTold_1 (by decide) ?_
  refine N.iconst (v := 3) dX5_lineTold_2 (by decide) ?_
  refine N.vi2 dX5_lineTold_3 vX5_tells lkX5_203 (s_X5_tells _ _ _ _ E c S hS hz r hr _ _) mxO rfl (Nat.le_of_ble_eq_true rfl) (Nat.le_of_ble_eq_true rfl) (Nat.zero_le _) (Nat.zero_le _) ?_
  rintro _ _ _ ⟨rfl, rfl, rfl⟩
  have h2 := te_k (f := (E.2 4)) (S := S) (r := r) (v := v) (E := E) (lo := 0) (hi := 3)
  have h1 := ok_te (f := (E.2 4)) (v := v) (E := E) (lo := 0) (hi := 3) hr
  unfold liM
  generalize teM (E.2 4) S r v E 0 3 = q at h1 h2 ⊢
  refine N.if_ne (tgt := 11) dX5_lineTold_6 (by decide) (fun c6 => ?_) (fun c6 => ?_)
  · refine N.iconst (v := 0) dX5_lineTold_11 (by decide) ?_
    refine N.istore1 dX5_lineTold_12 rfl ?_
    have hf : q.2.2.2.2 4 = (E.2 4) := h2.1.1 4 (by decide)
    rw [li1, if_neg c6, li2, ← hf]
    refine N.wk (by exact ⟨rfl, rfl, trivial⟩) (l_X5_lineTold w b _ q.2.2.1 q.2.2.2 c S hS (h2.1.2.trans hz) (ln_in (h2.2.2 c6)) _ 251 q.2.1 0 h1.2.1 (by omega) ?_ ?_)
    · intro c2; rw [if_pos c2]; exact ⟨rfl, rfl, rfl⟩
    · intro c2; rw [if_neg c2]; exact ⟨rfl, rfl, rfl⟩
  · refine N.iconst (v := 0) dX5_lineTold_9 (by decide) ?_
    exact N.zret dX5_lineTold_10 rfl rfl (Nat.zero_le _) (Nat.zero_le _) ⟨_, rfl, ⟨by rw [li1, if_pos c6], by rw [li1, if_pos c6], rfl⟩⟩
