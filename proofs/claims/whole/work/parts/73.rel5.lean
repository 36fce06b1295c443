/-! books -/
theorem nb_n {m : Mst} {s n : Int32} (c1 : ¬ isInF s 0 7 = 0) (c2 : ¬ isInF n 0 40 = 0) (h : ¬ nrF m.2.2.1 s = 0) : nbF m.2.2.1 s n = nrF m.2.2.1 s ∧ nbM m.2 s n = nrM m.2 s := by
  unfold nbF nbM
  rw [if_neg c1, if_neg c2, if_neg h, if_neg c1, if_neg c2, if_neg h]; exact ⟨rfl, rfl⟩
theorem hp0_n {sh : SV} {n : Int32} {k z : Nat} (hn : n = nI k) (hz : sh.2.2 = nI z) (hk : k ≤ 40) (hz2 : z ≤ 40) : hasPF sh 0 n = 0 ↔ ¬ n ≤ sh.2.2 := by
  subst hn
  rw [hz]
  by_cases c : k ≤ z
  · refine ⟨fun q => absurd q ?_, fun q => absurd (nI_le c (by omega)) q⟩
    exact hasP_1 (nI_pos (by omega)) (by decide) (by rw [hz]; exact nI_nlt c (by omega)) (by rw [hz, pk_sub c]; exact nI_pos (by omega))
  · exact ⟨fun _ => nI_ge (by omega) (by omega), fun _ => hasP_0 (Or.inr (Or.inr (Or.inl (by rw [hz]; exact nI_lt (by omega) (by omega)))))⟩
theorem lg4 {x : Int64} : 0 ≤ lg_cmp x 4 ↔ 0 < lg_cmp x 3 := by
  rw [lg_cmp_gt, ← Int32.not_lt, lg_cmp_lt, Int64.lt_iff_toInt_lt, Int64.lt_iff_toInt_lt]
  have a : (3 : Int64).toInt = 3 := rfl
  have b : (4 : Int64).toInt = 4 := rfl
  rw [a, b]; omega
theorem fw_eq {v : CV} {f : Nat → Int64} : ∀ n k, fwF v f k n = wiF v f n k
  | 0, k => rfl
  | n + 1, k => by
    rw [fwF, wiF, fw_eq n (k + 1)]
    unfold inL
    by_cases c1 : lg_cmp (f (nI k).toNatClampNeg) 0 < 0
    · rw [if_pos c1, if_pos c1, if_pos rfl]
    · rw [if_neg c1, if_neg c1]
      by_cases c2 : 0 < lg_cmp (f (nI k).toNatClampNeg) 3
      · rw [if_pos (lg4.mpr c2), if_pos c2, if_pos rfl]
      · have hin : ¬ inL (f (nI k).toNatClampNeg) 0 3 = 0 := by unfold inL; rw [if_neg c1, if_neg c2]; decide
        have hv := inL_vp hin
        rw [if_neg (fun q => c2 (lg4.mp q)), if_neg c2, if_neg (show ¬ (1 : Int32) = 0 by decide)]
        have hi : ¬ isInF (f (nI k).toNatClampNeg).toInt32 0 3 = 0 := by
          obtain ⟨j, hj, e⟩ := vp4 hv
          rw [e]
          unfold isInF
          rw [if_neg (nI_pos (by omega)), if_neg (show ¬ (3 : Int32) < nI j from nI_nlt (a := 3) (by omega) (by decide))]
          decide
        by_cases c3 : v.2 4 (f (nI k).toNatClampNeg).toInt32.toNatClampNeg = 0
        · rw [if_pos c3, if_pos ((hp_in hi).mpr c3)]
        · rw [if_neg c3, if_neg (fun q => c3 ((hp_in hi).mp q))]
theorem R_judge {x : XV} {m : Mst} (h : Rl x m) (s n : Int32) : Rs x m (xjudge x s n) (mjudge m s n) := by
  unfold xjudge mjudge
  by_cases c1 : isInF s 0 7 = 0
  · have e1 : nbF m.2.2.1 s n = -2 := by unfold nbF; rw [if_pos c1]
    have e2 : nbM m.2 s n = reM m.2 (-2) := by unfold nbM; rw [if_pos c1]
    rw [if_pos c1, e1, if_neg (by decide), e2]; exact R_f2 h
  · rw [if_neg c1]
    by_cases c2 : isInF n 0 40 = 0
    · have e1 : nbF m.2.2.1 s n = -2 := by unfold nbF; rw [if_neg c1, if_pos c2]
      have e2 : nbM m.2 s n = reM m.2 (-2) := by unfold nbM; rw [if_neg c1, if_pos c2]
      rw [if_pos c2, e1, if_neg (by decide), e2]; exact R_f2 h
    · rw [if_neg c2]
      have hs := sh8 c1
      obtain ⟨k, _, hk, ek⟩ := nb_of (a := 0) (b := 40) rfl rfl (by decide) (by decide) c2
      rcases sh_row (h.2.2.1 _ hs) with ⟨a, b, c, d, e⟩ | ⟨a, b, c, d, e, f, g⟩ | ⟨a, b, c, d, _⟩
      · have hn : ¬ nrF m.2.2.1 s = 0 := by rw [(nr_3 (m := m) c1 a).1]; decide
        obtain ⟨e1, e2⟩ := nb_n c1 c2 hn
        rw [if_pos b, d, e1, if_neg hn, e2, (nr_3 (m := m) c1 a).1, (nr_3 c1 a).2]; exact R_f4 h
      · have hn := nr_4 (m := m) c1 a
        obtain ⟨z, hz, ez⟩ := h.2.2.2.1 _ hs
        have hp := hp0_n ek ez hk hz
        rw [if_neg b]
        by_cases c3 : n ≤ (x.2.2.1 s.toNatClampNeg).2.2
        · have e1 : nbF m.2.2.1 s n = 0 := by unfold nbF; rw [if_neg c1, if_neg c2, if_pos hn, if_pos (by rw [← f]; exact c3)]
          rw [if_neg (fun q => hp.mp q c3), e1, if_pos rfl]
          refine R_id h ?_
          unfold judF
          rw [fw_eq, h.1, g]
        · have c4 : ¬ n ≤ m.2.2.1 2 s.toNatClampNeg := by rw [← f]; exact c3
          have e1 : nbF m.2.2.1 s n = -2 := by unfold nbF; rw [if_neg c1, if_neg c2, if_pos hn, if_neg c4]
          have e2 : nbM m.2 s n = reM m.2 (-2) := by unfold nbM; rw [if_neg c1, if_neg c2, if_pos hn, if_neg c4]
          rw [if_pos (hp.mpr c3), e1, if_neg (by decide), e2]; exact R_f2 h
      · have hn : ¬ nrF m.2.2.1 s = 0 := by rw [(nr_2 (m := m) c1 a).1]; decide
        obtain ⟨e1, e2⟩ := nb_n c1 c2 hn
        rw [if_pos b, d, e1, if_neg hn, e2, (nr_2 (m := m) c1 a).1, (nr_2 c1 a).2]; exact R_f3 h
theorem max_eq {a b : Int32} : maxF a b = if b ≤ a then a else b := by
  unfold maxF
  by_cases c : b ≤ a
  · rw [if_pos c, if_neg (Int32.not_lt.mpr c)]
  · rw [if_neg c, if_pos (Int32.not_le.mp c)]
theorem bm_eq {x : XV} {v : CV} {i : Nat} {q : Int32} {f : Nat → Int64} (hv : x.1 0 = v) (hI : Iv (tr0 v q)) (hf : (x.2.2.1 i).1 = f) : ∀ k, k ≤ 40 → (∀ j, j < k → vp_in (bkL f j) 4) → bmTo v (tr0 v q) f q (nI 20) k = (coTo x i q k, (lgTo x i q k).2, (lgTo x i q k).1) ∧ Iv (coTo x i q k)
  | 0, _, _ => by
    have e : coTo x i q 0 = tr0 v q := by rw [coTo, hv]; rfl
    have e2 : lgTo x i q 0 = (0, 0) := by rw [lgTo]
    rw [e, e2, bmTo]; exact ⟨rfl, hI⟩
  | k + 1, hk, hl => by
    obtain ⟨ih, hI2⟩ := bm_eq hv hI hf k (by omega) (fun j hj => hl j (by omega))
    have hlk := hl k (by omega)
    have hon := hI2.onl hlk
    have ec : coTo x i q (k + 1) = passV (nI 20) (putOnV (coTo x i q k) ((coTo x i q k).2 4 (bkL f k).toNatClampNeg)) := by rw [coTo, hf]; rfl
    have el : lgTo x i q (k + 1) = if onBF x i (nI k) q = 0 then (maxF (lgTo x i q k).1 0, 0) else (maxF (lgTo x i q k).1 ((lgTo x i q k).2 + 20), (lgTo x i q k).2 + 20) := by rw [lgTo]
    have eb : onBF x i (nI k) q = 0 ↔ bitF (v.2 4 (bkL f k).toNatClampNeg) q = 0 := by
      unfold onBF
      rw [hv, hf]
      show (if bitF (v.2 4 (bkL f k).toNatClampNeg) q = 1 then (1 : Int32) else 0) = 0 ↔ _
      rcases bit01 (v.2 4 (bkL f k).toNatClampNeg) q with z | z
      · rw [if_neg (by rw [z]; decide)]; exact ⟨fun _ => z, fun _ => rfl⟩
      · rw [if_pos z]; exact ⟨fun y => absurd y (by decide), fun y => absurd (z.symm.trans y) (by decide)⟩
    rw [bmTo, ih, ec, el]
    dsimp only
    rw [goV_eq hon (m := 20) (by decide)]
    refine ⟨?_, hon.pass (by decide)⟩
    unfold bkN
    by_cases c : bitF (v.2 4 (bkL f k).toNatClampNeg) q = 0
    · rw [if_pos c, if_pos (eb.mpr c), max_eq]
    · rw [if_neg c, if_neg (fun z => c (eb.mp z)), max_eq]
theorem co_1 {x : XV} {i : Nat} {q : Int32} : ∀ k, (coTo x i q k).2 1 = (x.1 0).2 1
  | 0 => by
    have e : coTo x i q 0 = ((x.1 0).1, upA (x.1 0).2 3 (upd ((x.1 0).2 3) q.toNatClampNeg 0)) := by rw [coTo]
    rw [e]; dsimp only; rw [upA3 (i := 1) (by decide)]
  | k + 1 => by
    rw [coTo, pass_i (by decide)]
    exact co_1 k
theorem R_booked {x : XV} {m : Mst} (h : Rl x m) (s n q t : Int32) : Rs x m (xbooked x s n q t) (mbooked m s n q t) := by
  unfold xbooked mbooked
  rw [h.1]
  by_cases c1 : isInF s 0 7 = 0
  · rw [if_pos c1, if_pos c1]; exact R_f2 h
  · rw [if_neg c1, if_neg c1]
    by_cases c2 : isInF n 0 40 = 0
    · rw [if_pos c2, if_pos c2]; exact R_f2 h
    · rw [if_neg c2, if_neg c2]
      by_cases c3 : isPlF m.1 q = 0
      · rw [if_pos c3, if_pos c3]; exact R_f2 h
      · rw [if_neg c3, if_neg c3]
        by_cases c4 : isInF t 0 1 = 0
        · rw [if_pos c4, if_pos c4]; exact R_f2 h
        · rw [if_neg c4, if_neg c4]
          have hs := sh8 c1
          obtain ⟨k, _, hk, ek⟩ := nb_of (a := 0) (b := 40) rfl rfl (by decide) (by decide) c2
          rcases sh_row (h.2.2.1 _ hs) with ⟨a, b, c, d, e⟩ | ⟨a, b, c, d, e, f, g⟩ | ⟨a, b, c, d, _⟩
          · have hn : ¬ nrF m.2.2.1 s = 0 := by rw [(nr_3 (m := m) c1 a).1]; decide
            obtain ⟨e1, e2⟩ := nb_n c1 c2 hn
            rw [if_pos b, d, e1, if_neg hn, e2, (nr_3 (m := m) c1 a).1, (nr_3 c1 a).2]; exact R_f4 h
          · have hn := nr_4 (m := m) c1 a
            obtain ⟨z, hz, ez⟩ := h.2.2.2.1 _ hs
            have hp := hp0_n ek ez hk hz
            have hcl : n.toNatClampNeg = k := by rw [ek, nI_clamp (by omega)]
            rw [if_neg b]
            by_cases c5 : n ≤ (x.2.2.1 s.toNatClampNeg).2.2
            · have e1 : nbF m.2.2.1 s n = 0 := by unfold nbF; rw [if_neg c1, if_neg c2, if_pos hn, if_pos (by rw [← f]; exact c5)]
              have ej : judF x s n = wiF m.1 (m.2.2.2.1 s.toNatClampNeg) n.toNatClampNeg 0 := by unfold judF; rw [fw_eq, h.1, g]
              rw [if_neg (fun z => hp.mp z c5), e1, if_pos rfl, ej]
              by_cases c6 : wiF m.1 (m.2.2.2.1 s.toNatClampNeg) n.toNatClampNeg 0 = -1
              · rw [if_pos c6, if_pos c6, mbk2_e hcl]
                rw [hcl] at c6
                obtain ⟨p, hpp, ep⟩ := pl_nb h.2.1 c3
                have hI : Iv (tr0 m.1 q) := h.2.1.s3 nb00
                obtain ⟨bm, _⟩ := bm_eq (x := x) (v := m.1) (i := s.toNatClampNeg) (q := q) h.1 hI g k hk (fun j hj => wi_ok k 0 (by omega) c6 j (by omega) (by omega))
                rw [show (20 : Int32) = nI 20 from rfl, bm]
                dsimp only
                by_cases c7 : t = 0
                · rw [if_pos c7, if_pos c7]
                  refine R_id h ?_
                  unfold lgF
                  rw [hcl]
                · rw [if_neg c7, if_neg c7]
                  refine R_id h ?_
                  unfold cosF coF
                  rw [hcl, co_1, h.1]
              · rw [if_neg c6, if_neg c6]; exact R_f5 h
            · have c6 : ¬ n ≤ m.2.2.1 2 s.toNatClampNeg := by rw [← f]; exact c5
              have e1 : nbF m.2.2.1 s n = -2 := by unfold nbF; rw [if_neg c1, if_neg c2, if_pos hn, if_neg c6]
              have e2 : nbM m.2 s n = reM m.2 (-2) := by unfold nbM; rw [if_neg c1, if_neg c2, if_pos hn, if_neg c6]
              rw [if_pos (hp.mpr c5), e1, if_neg (by decide), e2]; exact R_f2 h
          · have hn : ¬ nrF m.2.2.1 s = 0 := by rw [(nr_2 (m := m) c1 a).1]; decide
            obtain ⟨e1, e2⟩ := nb_n c1 c2 hn
            rw [if_pos b, d, e1, if_neg hn, e2, (nr_2 (m := m) c1 a).1, (nr_2 c1 a).2]; exact R_f3 h
/-! match -/
theorem inL_n {x : Int64} (h : ¬ inL x 1 999 = 0) : ∃ g, x = lN g ∧ 1 ≤ g ∧ g ≤ 999 := by
  unfold inL at h
  by_cases h1 : lg_cmp x 1 < 0
  · rw [if_pos h1] at h; exact absurd rfl h
  · rw [if_neg h1] at h
    by_cases h2 : 0 < lg_cmp x 999
    · rw [if_pos h2] at h; exact absurd rfl h
    · have a1 : ¬ x < 1 := fun q => h1 ((lg_cmp_lt _ _).mpr q)
      have a2 : ¬ 999 < x := fun q => h2 ((lg_cmp_gt _ _).mpr q)
      rw [Int64.lt_iff_toInt_lt] at a1 a2
      have b1 : (1 : Int64).toInt = 1 := rfl
      have b2 : (999 : Int64).toInt = 999 := rfl
      rw [b1] at a1
      rw [b2] at a2
      refine ⟨x.toInt.toNat, Int64.toInt_inj.mp ?_, by omega, by omega⟩
      rw [pk_lT (by omega)]; omega
theorem ar_0 {f : Nat → Int64} : ∀ n k, arR f n k 0 = 0
  | 0, k => rfl
  | n + 1, k => by rw [arR, if_pos rfl]
theorem ar_1 {f : Nat → Int64} : ∀ n k, k + n ≤ 40 → (¬ arR f n k 1 = 0 ↔ ∀ i, k ≤ i → i < k + n → ¬ inL (f i) 1 999 = 0)
  | 0, k, _ => ⟨fun _ i h1 h2 => absurd h1 (by omega), fun _ => by rw [arR]; decide⟩
  | n + 1, k, hk => by
    rw [arR, if_neg (by decide), nI_clamp (by omega)]
    by_cases c : inL (f k) 1 999 = 0
    · rw [c, ar_0]
      exact ⟨fun q => absurd rfl q, fun q => absurd c (q k (by omega) (by omega))⟩
    · have c1 : inL (f k) 1 999 = 1 := by
        unfold inL at c ⊢
        split
        · rename_i q; rw [if_pos q] at c; exact absurd rfl c
        · rename_i q; rw [if_neg q] at c
          split
          · rename_i r; rw [if_pos r] at c; exact absurd rfl c
          · rfl
      rw [c1, ar_1 n (k + 1) (by omega)]
      refine ⟨fun q i h1 h2 => ?_, fun q i h1 h2 => q i (by omega) (by omega)⟩
      by_cases e : i = k
      · rw [e]; exact c
      · exact q i (by omega) (by omega)
theorem all_1 {f : Nat → Int64} : ∀ n k, k + n ≤ 40 → (¬ allF f 1 999 k n = 0 ↔ ∀ i, k ≤ i → i < k + n → ¬ inL (f i) 1 999 = 0)
  | 0, k, _ => ⟨fun _ i h1 h2 => absurd h1 (by omega), fun _ => by rw [allF]; decide⟩
  | n + 1, k, hk => by
    rw [allF, nI_clamp (by omega)]
    by_cases c1 : lg_cmp (f k) 1 < 0
    · rw [if_pos c1]
      exact ⟨fun q => absurd rfl q, fun q => absurd (show inL (f k) 1 999 = 0 by unfold inL; rw [if_pos c1]) (q k (by omega) (by omega))⟩
    · rw [if_neg c1]
      by_cases c2 : lg_cmp (f k) 999 ≤ 0
      · rw [if_pos c2, all_1 n (k + 1) (by omega)]
        have c : ¬ inL (f k) 1 999 = 0 := by unfold inL; rw [if_neg c1, if_neg (Int32.not_lt.mpr c2)]; decide
        refine ⟨fun q i h1 h2 => ?_, fun q i h1 h2 => q i (by omega) (by omega)⟩
        by_cases e : i = k
        · rw [e]; exact c
        · exact q i (by omega) (by omega)
      · rw [if_neg c2]
        exact ⟨fun q => absurd rfl q, fun q => absurd (show inL (f k) 1 999 = 0 by unfold inL; rw [if_neg c1, if_pos (Int32.not_le.mp c2)]) (q k (by omega) (by omega))⟩
theorem mx_none {v : CV} {f : Nat → Int64} {c : Nat} (h : nlF v = 1) : ∀ k, k ≤ 4 → mxTo v f c k = (-1, 0)
  | 0, _ => rfl
  | k + 1, hk => by
    have hz : ∀ i, i < 4 → v.2 4 i = 0 := fun i hi => Classical.byContradiction fun q => by
      unfold nlF at h
      rcases (show i = 0 ∨ i = 1 ∨ i = 2 ∨ i = 3 by omega) with rfl | rfl | rfl | rfl
      · rw [if_neg q] at h; exact absurd h (by decide)
      · split at h
        · exact absurd h (by decide)
        · exact absurd h (by decide)
      · split at h
        · split at h
          · exact absurd h (by decide)
          · exact absurd h (by decide)
        · exact absurd h (by decide)
      · split at h
        · split at h
          · split at h
            · exact absurd h (by decide)
            · exact absurd h (by decide)
          · exact absurd h (by decide)
        · exact absurd h (by decide)
    rw [mxTo, nI_clamp (by omega), if_pos (hz k (by omega)), mx_none h k (by omega)]
theorem nl_01 (v : CV) : nlF v = 0 ∨ nlF v = 1 := by
  unfold nlF
  split
  · split
    · split
      · split
        · exact Or.inr rfl
        · exact Or.inl rfl
      · exact Or.inl rfl
    · exact Or.inl rfl
  · exact Or.inl rfl
theorem R_match {x : XV} {m : Mst} (h : Rl x m) (s n q : Int32) : Rs x m (xmatch x s n q) (mmatch m s n q) := by
  unfold xmatch mmatch
  by_cases c1 : isInF s 0 7 = 0
  · rw [if_pos c1, if_pos c1]; exact R_g2 h
  · rw [if_neg c1, if_neg c1]
    by_cases c2 : isInF n 1 40 = 0
    · rw [if_pos c2, if_pos c2]; exact R_g2 h
    · rw [if_neg c2, if_neg c2]
      by_cases c3 : isInF q 0 1 = 0
      · rw [if_pos c3, if_pos c3]; exact R_g2 h
      · rw [if_neg c3, if_neg c3]
        have hs := sh8 c1
        obtain ⟨k, hk1, hk, ek⟩ := nb_of (a := 1) (b := 40) rfl rfl (by decide) (by decide) c2
        have hcl : n.toNatClampNeg = k := by rw [ek, nI_clamp (by omega)]
        rcases sh_row (h.2.2.1 _ hs) with ⟨a, b, c, d, e⟩ | ⟨a, b, c, d, e, f, g⟩ | ⟨a, b, c, d, _⟩
        · rw [if_pos b, d, (nr_3 (m := m) c1 a).1, if_neg (by decide), (nr_3 c1 a).2]; exact R_g4 h
        · rw [if_neg b, nr_4 (m := m) c1 a, if_pos rfl]
          obtain ⟨z, hz, ez⟩ := h.2.2.2.1 _ hs
          have hp := hp0_n ek ez hk hz
          unfold mm2
          rw [hcl]
          by_cases c4 : n ≤ (x.2.2.1 s.toNatClampNeg).2.2
          · rw [if_neg (fun y => hp.mp y c4), if_neg (show ¬ m.2.2.1 2 s.toNatClampNeg < n by rw [← f]; exact Int32.not_lt.mpr c4)]
            have ea : mchA x s n = allF (m.2.2.2.1 s.toNatClampNeg) 1 999 0 k := by unfold mchA; rw [hcl, g]
            rw [ea, g]
            by_cases c5 : ∀ i, 0 ≤ i → i < 0 + k → ¬ inL (m.2.2.2.1 s.toNatClampNeg i) 1 999 = 0
            · rw [if_neg ((all_1 k 0 (by omega)).mpr c5), if_neg ((ar_1 k 0 (by omega)).mpr c5), h.1]
              obtain ⟨c, rfl⟩ : ∃ c, k = c + 1 := ⟨k - 1, by omega⟩
              have hg : ∃ gg : Nat → Nat, ∀ i, i ≤ c → m.2.2.2.1 s.toNatClampNeg i = lN (gg i) ∧ 1 ≤ gg i ∧ gg i ≤ 999 := by
                refine ⟨fun i => (m.2.2.2.1 s.toNatClampNeg i).toInt.toNat, fun i hi => ?_⟩
                obtain ⟨w, e1, e2, e3⟩ := inL_n (c5 i (by omega) (by omega))
                have : (m.2.2.2.1 s.toNatClampNeg i).toInt.toNat = w := by rw [e1, pk_lT (by omega)]; omega
                dsimp only
                rw [this]; exact ⟨e1, e2, e3⟩
              obtain ⟨gg, hgg⟩ := hg
              have em := mch_eq h.2.1 (f := m.2.2.2.1 s.toNatClampNeg) (g := gg) (c := c) (by omega) hgg 4 (Nat.le_refl _)
              unfold mm3 mchG
              rw [em, Nat.add_sub_cancel]
              rcases nl_01 m.1 with c6 | c6
              · have hne : ¬ (mxTo m.1 (m.2.2.2.1 s.toNatClampNeg) c 4).1 = -1 := by
                  rw [← em]
                  obtain ⟨i, hi, hz⟩ := nl_ex (nl_0 c6)
                  exact pk_ne 4 (by decide) ⟨i, hi, fun y => hz ((hp_c hi).mp y)⟩
                rw [if_neg (fun y => first_nl.mp y c6), if_neg hne]
                by_cases c7 : q = 0
                · rw [if_pos c7, if_pos c7]; exact R_id h rfl
                · rw [if_neg c7, if_neg c7]; exact R_id h rfl
              · rw [if_pos (first_nl.mpr (by rw [c6]; decide)), if_pos (show (mxTo m.1 (m.2.2.2.1 s.toNatClampNeg) c 4).1 = -1 by rw [mx_none c6 4 (Nat.le_refl _)])]
                exact R_g5 h
            · rw [if_pos (Classical.byContradiction fun y => c5 ((all_1 k 0 (by omega)).mp y)), if_pos (Classical.byContradiction fun y => c5 ((ar_1 k 0 (by omega)).mp y))]
              exact R_g2 h
          · rw [if_pos (hp.mpr c4), if_pos (show m.2.2.1 2 s.toNatClampNeg < n by rw [← f]; exact Int32.not_le.mp c4), ar_0, if_pos rfl]; exact R_g2 h
        · rw [if_pos b, d, (nr_2 (m := m) c1 a).1, if_neg (by decide), (nr_2 c1 a).2]; exact R_g3 h
