/-! contracts turned: another picture ahead, another behind -/
theorem Sp.conv {K : Kx} {M : Md} {d mc ms : Nat} {as : List Value} {w w0 : Wd} {sz : Nat} {Q Q' : Qx} (h : Sp K M d mc ms as w sz Q) (hp : ∀ H, HW K w0 sz H → HW K w sz H) (hq : ∀ r w' sz', Q r w' sz' → ∃ w2, Q' r w2 sz' ∧ ∀ H, HW K w' sz' H → HW K w2 sz' H) : Sp K M d mc ms as w0 sz Q' := by
  intro p e ha hc hk s m args below hf happ hP hK
  obtain ⟨n, o, h1, h2, h3, ⟨r, w', sz', e1, q1, q2⟩, h5⟩ := h p e ha hc hk s m args below hf happ ⟨hP.1, hP.2.1, hp _ hP.2.2⟩ hK
  obtain ⟨w2, q3, q4⟩ := hq r w' sz' q1
  exact ⟨n, o, h1, h2, h3, ⟨r, w2, sz', e1, q3, q4 _ q2⟩, h5⟩
theorem Sp.mono {K : Kx} {M : Md} {d mc ms : Nat} {as : List Value} {w : Wd} {sz : Nat} {Q Q' : Qx} (h : Sp K M d mc ms as w sz Q) (hq : ∀ r w' sz', Q r w' sz' → Q' r w' sz') : Sp K M d mc ms as w sz Q' := h.conv (fun _ h => h) (fun r w' sz' q => ⟨w', hq r w' sz' q, fun _ h => h⟩)
theorem Sp.eqW {K : Kx} {M : Md} {d mc ms : Nat} {as : List Value} {w w0 : Wd} {sz : Nat} {Q : Qx} (e : w0 = w) (h : Sp K M d mc ms as w sz Q) : Sp K M d mc ms as w0 sz Q := e ▸ h
/-! shelf, tape, pick -/
abbrev SV : Type := (Nat → Int64) × Int32 × Int32
abbrev TV : Type := (Nat → Int32) × (Nat → Int32)
def sF (b : Nat) (v : SV) : List Value := [.ref (b + 1), .int v.2.1, .int v.2.2]
def sC (K : Kx) (b : Nat) (v : SV) : Nat → Option va_E
  | 0 => some (.inr (2, sF b v))
  | 1 => some (.inl (kC K 1, 40, .inr (.inl v.1)))
  | _ => none
abbrev putS (K : Kx) (w : Wd) (b : Nat) (v : SV) : Wd := reg w b (sC K b v)
def tF (b : Nat) (v : TV) : List Value := [.ref (b + 1), .int (v.2 0), .int (v.2 1), .int (v.2 2), .int (v.2 3)]
def tC (K : Kx) (b : Nat) (v : TV) : Nat → Option va_E
  | 0 => some (.inr (3, tF b v))
  | 1 => some (.inl (kC K 0, 250, .inl v.1))
  | _ => none
abbrev putT (K : Kx) (w : Wd) (b : Nat) (v : TV) : Wd := reg w b (tC K b v)
def pF (v : Int32 × Int32) : List Value := [.int v.1, .int v.2]
def pC (v : Int32 × Int32) : Nat → Option va_E
  | 0 => some (.inr (0, pF v))
  | _ => none
abbrev putP (w : Wd) (b : Nat) (v : Int32 × Int32) : Wd := reg w b (pC v)
section SL
variable {K : Kx} {w : Wd} {b : Nat}
theorem shO {v : SV} : putS K w b v b = some (.inr (2, sF b v)) := reg_at (k := 0) rfl
theorem shA {v : SV} : putS K w b v (b + 1) = some (.inl (kC K 1, 40, .inr (.inl v.1))) := reg_at (k := 1) rfl
theorem shP1 {v : SV} {x : Int32} : upW (putS K w b v) b (.inr (2, (sF b v).set 1 (.int x))) = putS K w b (v.1, x, v.2.2) := by
  refine reg_up (k := 0) (fun q => ?_)
  match q with
  | 0 => simp [sC, sF]
  | 1 => simp [sC]
  | n + 2 => simp [sC]
theorem shP2 {v : SV} {x : Int32} : upW (putS K w b v) b (.inr (2, (sF b v).set 2 (.int x))) = putS K w b (v.1, v.2.1, x) := by
  refine reg_up (k := 0) (fun q => ?_)
  match q with
  | 0 => simp [sC, sF]
  | 1 => simp [sC]
  | n + 2 => simp [sC]
theorem shK {v : SV} {f : Nat → Int64} : upW (putS K w b v) (b + 1) (.inl (kC K 1, 40, .inr (.inl f))) = putS K w b (f, v.2) := by
  refine reg_up (k := 1) (fun q => ?_)
  match q with
  | 0 => simp [sC, sF]
  | 1 => simp [sC]
  | n + 2 => simp [sC]
theorem taO {v : TV} : putT K w b v b = some (.inr (3, tF b v)) := reg_at (k := 0) rfl
theorem taA {v : TV} : putT K w b v (b + 1) = some (.inl (kC K 0, 250, .inl v.1)) := reg_at (k := 1) rfl
theorem taS {v : TV} {f : Nat → Int32} : upW (putT K w b v) (b + 1) (.inl (kC K 0, 250, .inl f)) = putT K w b (f, v.2) := by
  refine reg_up (k := 1) (fun q => ?_)
  match q with
  | 0 => simp [tC, tF]
  | 1 => simp [tC]
  | n + 2 => simp [tC]
theorem taP0 {v : TV} {x : Int32} : upW (putT K w b v) b (.inr (3, (tF b v).set 1 (.int x))) = putT K w b (v.1, upd v.2 0 x) := by
  refine reg_up (k := 0) (fun q => ?_)
  match q with
  | 0 => simp [tC, tF, upd]
  | 1 => simp [tC]
  | n + 2 => simp [tC]
theorem taP1 {v : TV} {x : Int32} : upW (putT K w b v) b (.inr (3, (tF b v).set 2 (.int x))) = putT K w b (v.1, upd v.2 1 x) := by
  refine reg_up (k := 0) (fun q => ?_)
  match q with
  | 0 => simp [tC, tF, upd]
  | 1 => simp [tC]
  | n + 2 => simp [tC]
theorem taP2 {v : TV} {x : Int32} : upW (putT K w b v) b (.inr (3, (tF b v).set 3 (.int x))) = putT K w b (v.1, upd v.2 2 x) := by
  refine reg_up (k := 0) (fun q => ?_)
  match q with
  | 0 => simp [tC, tF, upd]
  | 1 => simp [tC]
  | n + 2 => simp [tC]
theorem taP3 {v : TV} {x : Int32} : upW (putT K w b v) b (.inr (3, (tF b v).set 4 (.int x))) = putT K w b (v.1, upd v.2 3 x) := by
  refine reg_up (k := 0) (fun q => ?_)
  match q with
  | 0 => simp [tC, tF, upd]
  | 1 => simp [tC]
  | n + 2 => simp [tC]
theorem piO {v : Int32 × Int32} : putP w b v b = some (.inr (0, pF v)) := reg_at (k := 0) rfl
theorem piP0 {v : Int32 × Int32} {x : Int32} : upW (putP w b v) b (.inr (0, (pF v).set 0 (.int x))) = putP w b (x, v.2) := by
  refine reg_up (k := 0) (fun q => ?_)
  match q with
  | 0 => simp [pC, pF]
  | n + 1 => simp [pC]
theorem piP1 {v : Int32 × Int32} {x : Int32} : upW (putP w b v) b (.inr (0, (pF v).set 1 (.int x))) = putP w b (v.1, x) := by
  refine reg_up (k := 0) (fun q => ?_)
  match q with
  | 0 => simp [pC, pF]
  | n + 1 => simp [pC]
end SL
def offerF (v : Int32 × Int32) (i x : Int32) : Int32 × Int32 := if v.1 = -1 then (i, x) else if x ≤ v.2 then v else (i, x)
def isRowF (v : SV) : Int32 := isInF v.2.1 0 4
def isPlrF (v : SV) : Int32 := if v.2.1 < 10 then 0 else 1
def whyF (v : SV) : Int32 := if isPlrF v = 0 then -4 else -3
def hasPF (v : SV) (f n : Int32) : Int32 := if isInF n 0 v.2.2 = 0 then 0 else if isInF f 0 (v.2.2 - n) = 0 then 0 else 1
def fitF (c : Int32) (x : Int64) : Int64 := if c = 0 then x.toInt32.toInt8.toInt32.toInt64 else if c = 1 then x.toInt32.toInt16.toInt32.toInt64 else if c = 2 then x.toInt32.toInt64 else if c = 3 then x else if c = 4 then (if lg_cmp x 0 = 0 then 0 else 1) else x
def allF (f : Nat → Int64) (lo hi : Int64) (k : Nat) : Nat → Int32
  | 0 => 1
  | n + 1 => if lg_cmp (f (nI k).toNatClampNeg) lo < 0 then 0 else if lg_cmp (f (nI k).toNatClampNeg) hi ≤ 0 then allF f lo hi (k + 1) n else 0
def grF (f : Nat → Int64) : Nat → Int64
  | 0 => 0
  | k + 1 => maxL (grF f k) (f (nI k).toNatClampNeg)
theorem arrL_eq {cA : ClassId} {n : Nat} {f g : Nat → Int64} (h : ∀ j, j < n → f j = g j) : vp_cell cA (n, .inr (.inl f)) = vp_cell cA (n, .inr (.inl g)) := by
  rw [vp_cell_l, vp_cell_l]
  unfold arrV
  congr 2
  funext j
  show Value.long (f j.1) = Value.long (g j.1)
  rw [h j.1 j.2]
theorem HW.arrL {K : Kx} {w : Wd} {sz q n : Nat} {f g : Nat → Int64} (h : ∀ j, j < n → f j = g j) : ∀ H, HW K (upW w q (.inl (kC K 1, n, .inr (.inl f)))) sz H → HW K (upW w q (.inl (kC K 1, n, .inr (.inl g)))) sz H := by
  intro H hW
  refine ⟨hW.1, hW.2.1, fun a e ha => ?_⟩
  by_cases hq : a = q
  · subst hq
    unfold upW at ha
    rw [if_pos rfl] at ha
    cases ha
    have := hW.2.2 a (.inl (kC K 1, n, .inr (.inl f))) (by unfold upW; rw [if_pos rfl])
    refine ⟨this.1, ?_⟩
    show H[a]? = _
    rw [← arrL_eq h]
    exact this.2
  · unfold upW at ha
    rw [if_neg hq] at ha
    exact hW.2.2 a e (by unfold upW; rw [if_neg hq]; exact ha)
theorem HW.arrI {K : Kx} {w : Wd} {sz q n : Nat} {f g : Nat → Int32} (h : ∀ j, j < n → f j = g j) : ∀ H, HW K (upW w q (.inl (kC K 0, n, .inl f))) sz H → HW K (upW w q (.inl (kC K 0, n, .inl g))) sz H := by
  intro H hW
  refine ⟨hW.1, hW.2.1, fun a e ha => ?_⟩
  by_cases hq : a = q
  · subst hq
    unfold upW at ha
    rw [if_pos rfl] at ha
    cases ha
    have := hW.2.2 a (.inl (kC K 0, n, .inl f)) (by unfold upW; rw [if_pos rfl])
    refine ⟨this.1, ?_⟩
    show H[a]? = _
    rw [← arr_eq h]
    exact this.2
  · unfold upW at ha
    rw [if_neg hq] at ha
    exact hW.2.2 a e (by unfold upW; rw [if_neg hq]; exact ha)
theorem upW_at {w : Wd} {a : Nat} {e : va_E} : upW w a e a = some e := if_pos rfl
theorem upW_up {w : Wd} {a : Nat} {e e' : va_E} : upW (upW w a e) a e' = upW w a e' := by
  funext q
  unfold upW
  by_cases h : q = a
  · rw [if_pos h, if_pos h]
  · rw [if_neg h, if_neg h, if_neg h]
theorem upW_id {w : Wd} {a : Nat} {e : va_E} (h : w a = some e) : w = upW w a e := by
  funext q
  unfold upW
  by_cases hq : q = a
  · subst hq; rw [if_pos rfl, h]
  · rw [if_neg hq]
set_option maxRecDepth 100000 in
theorem s_X0_begin {K : Kx} (w : Wd) (b sz : Nat) (v : Int32 × Int32) : Sp K mX0_begin 0 0 0 [.ref b] (putP w b v) sz (Qv fun w' sz' => w' = putP w b (-1, 0) ∧ sz' = sz) := by
  refine Sp.ofN [some (.ref b)] rfl rfl rfl (Nat.le_of_ble_eq_true rfl) ?_
  refine N.aload0 dX0_begin_0 ?_
  refine N.iconst (v := -1) dX0_begin_1 (by decide) ?_
  refine N.putf dX0_begin_2 flX0_9 piO (Nat.le_of_ble_eq_true rfl) (fun _ h => by cases h; rfl) rfl rfl piP0 ?_
  refine N.aload0 dX0_begin_5 ?_
  refine N.iconst (v := 0) dX0_begin_6 (by decide) ?_
  refine N.putf dX0_begin_7 flX0_15 piO (Nat.le_of_ble_eq_true rfl) (fun _ h => by cases h; rfl) rfl rfl piP1 ?_
  exact N.vret dX0_begin_10 rfl (Nat.zero_le _) (Nat.zero_le _) ⟨rfl, ⟨rfl, rfl⟩⟩
set_option maxRecDepth 100000 in
theorem s_X0_offer {K : Kx} (w : Wd) (b sz : Nat) (v : Int32 × Int32) (i : Int32) (x : Int32) : Sp K mX0_offer 0 0 0 [.ref b, .int i, .int x] (putP w b v) sz (Qv fun w' sz' => w' = putP w b (offerF v i x) ∧ sz' = sz) := by
  refine Sp.ofN [some (.ref b), some (.int i), some (.int x)] rfl rfl rfl (Nat.le_of_ble_eq_true rfl) ?_
  refine N.aload0 dX0_offer_0 ?_
  refine N.getf dX0_offer_1 flX0_9 piO rfl ?_
  refine N.iconst (v := -1) dX0_offer_4 (by decide) ?_
  refine N.icmp_eq (tgt := 16) dX0_offer_5 (by decide) (fun c5 => ?_) (fun c5 => ?_)
  · refine N.aload0 dX0_offer_16 ?_
    refine N.iload1 dX0_offer_17 ?_
    refine N.putf dX0_offer_18 flX0_9 piO (Nat.le_of_ble_eq_true rfl) (fun _ h => by cases h; rfl) rfl rfl piP0 ?_
    refine N.aload0 dX0_offer_21 ?_
    refine N.iload2 dX0_offer_22 ?_
    refine N.putf dX0_offer_23 flX0_15 piO (Nat.le_of_ble_eq_true rfl) (fun _ h => by cases h; rfl) rfl rfl piP1 ?_
    exact N.vret dX0_offer_26 rfl (Nat.zero_le _) (Nat.zero_le _) ⟨rfl, ⟨(by rw [offerF, if_pos c5]), rfl⟩⟩
  · refine N.iload2 dX0_offer_8 ?_
    refine N.aload0 dX0_offer_9 ?_
    refine N.getf dX0_offer_10 flX0_15 piO rfl ?_
    refine N.icmp_le (tgt := 26) dX0_offer_13 (by decide) (fun c13 => ?_) (fun c13 => ?_)
    · exact N.vret dX0_offer_26 rfl (Nat.zero_le _) (Nat.zero_le _) ⟨rfl, ⟨(by rw [offerF, if_neg c5, if_pos c13]), rfl⟩⟩
    · refine N.aload0 dX0_offer_16 ?_
      refine N.iload1 dX0_offer_17 ?_
      refine N.putf dX0_offer_18 flX0_9 piO (Nat.le_of_ble_eq_true rfl) (fun _ h => by cases h; rfl) rfl rfl piP0 ?_
      refine N.aload0 dX0_offer_21 ?_
      refine N.iload2 dX0_offer_22 ?_
      refine N.putf dX0_offer_23 flX0_15 piO (Nat.le_of_ble_eq_true rfl) (fun _ h => by cases h; rfl) rfl rfl piP1 ?_
      exact N.vret dX0_offer_26 rfl (Nat.zero_le _) (Nat.zero_le _) ⟨rfl, ⟨(by rw [offerF, if_neg c5, if_neg c13]), rfl⟩⟩
def fillTo (f : Nat → Int64) (x : Int64) : Nat → (Nat → Int64)
  | 0 => f
  | k + 1 => vp_updL (fillTo f x k) (nI k).toNatClampNeg x
theorem fillTo_lt (f : Nat → Int64) (x : Int64) : ∀ k j, k < 2 ^ 31 → j < k → fillTo f x k j = x
  | 0, j, _, h => absurd h (Nat.not_lt_zero _)
  | k + 1, j, hk, h => by
    rw [fillTo, nI_clamp (by omega)]
    unfold vp_updL
    by_cases e : j = k
    · rw [if_pos e]
    · rw [if_neg e]; exact fillTo_lt f x k j (by omega) (by omega)
set_option maxRecDepth 100000 in
theorem l_J7_fill_d0a16 {K : Kx} (w : Wd) (q sz : Nat) (f : Nat → Int64) (x : Int64) : ∀ nn k, k + nn = 40 → N K mJ7_fill_d0a16 0 0 0 (Qv fun w' sz' => w' = upW w q (.inl (kC K 1, 40, .inr (.inl (fun _ => x)))) ∧ sz' = sz) 6 [some (.ref q), some (.long x), none, some (.int (nI k)), some (.int 40)] [] (upW w q (.inl (kC K 1, 40, .inr (.inl (fillTo f x k))))) sz 0 0 := by
  intro nn
  induction nn with
  | zero =>
    intro k hk
    obtain rfl : k = 40 := by omega
    refine N.iload3 dJ7_fill_d0a16_6 ?_
    refine N.iload4 dJ7_fill_d0a16_7 ?_
    refine N.icmp_ge (tgt := 22) dJ7_fill_d0a16_9 (by decide) (fun c9 => ?_) (fun c9 => absurd (by decide) c9)
    exact N.hw (HW.arrL (fun j hj => fillTo_lt f x 40 j (by omega) hj)) (N.vret dJ7_fill_d0a16_22 rfl (Nat.zero_le _) (Nat.zero_le _) ⟨rfl, rfl, rfl⟩)
  | succ nn ih =>
    intro k hk
    refine N.iload3 dJ7_fill_d0a16_6 ?_
    refine N.iload4 dJ7_fill_d0a16_7 ?_
    refine N.icmp_ge (tgt := 22) dJ7_fill_d0a16_9 (by decide) (fun c9 => absurd c9 (nI_ge (a := k) (b := 40) (by omega) (by omega))) (fun c9 => ?_)
    refine N.aload0 dJ7_fill_d0a16_12 ?_
    refine N.iload3 dJ7_fill_d0a16_13 ?_
    refine N.lload1 dJ7_fill_d0a16_14 ?_
    refine N.last dJ7_fill_d0a16_15 upW_at (vp_in_nI (by omega) (by omega)) upW_up ?_
    refine N.iinc3 dJ7_fill_d0a16_16 rfl (nI_inc k) ?_
    refine N.goto (tgt := 6) dJ7_fill_d0a16_19 (by decide) ?_
    exact ih (k + 1) (by omega)
set_option maxRecDepth 100000 in
theorem s_J7_fill_d0a16 {K : Kx} (w : Wd) (q sz : Nat) (f : Nat → Int64) (x : Int64) : Sp K mJ7_fill_d0a16 0 0 0 [.ref q, .long x] (upW w q (.inl (kC K 1, 40, .inr (.inl f)))) sz (Qv fun w' sz' => w' = upW w q (.inl (kC K 1, 40, .inr (.inl (fun _ => x)))) ∧ sz' = sz) := by
  refine Sp.ofNF [some (.ref q), some (.long x), none, none, none] rfl rfl rfl (Nat.le_of_ble_eq_true rfl) ?_
  refine N.iconst (v := 0) dJ7_fill_d0a16_0 (by decide) ?_
  refine N.istore3 dJ7_fill_d0a16_1 rfl ?_
  refine N.aload0 dJ7_fill_d0a16_2 ?_
  refine N.alenL dJ7_fill_d0a16_3 upW_at rfl ?_
  refine N.istore4 dJ7_fill_d0a16_4 rfl ?_
  exact l_J7_fill_d0a16 w q sz f x 40 0 (by omega)
set_option maxRecDepth 100000 in
theorem s_X2_isRow {K : Kx} (w : Wd) (b sz : Nat) (v : SV) : Sp K mX2_isRow 1 0 0 [.ref b] (putS K w b v) sz (Qi fun r w' sz' => r = (isRowF v) ∧ w' = putS K w b v ∧ sz' = sz) := by
  refine Sp.ofN [some (.ref b)] rfl rfl rfl (Nat.le_of_ble_eq_true rfl) ?_
  refine N.aload0 dX2_isRow_0 ?_
  refine N.getf dX2_isRow_1 flX2_15 shO rfl ?_
  refine N.iconst (v := 0) dX2_isRow_4 (by decide) ?_
  refine N.iconst (v := 4) dX2_isRow_5 (by decide) ?_
  refine N.si3 dX2_isRow_6 vX4_isIn lkX2_22 (s_X4_isIn _ _ _ _ _) rfl (Nat.le_of_ble_eq_true rfl) (Nat.le_of_ble_eq_true rfl) (Nat.zero_le _) (Nat.zero_le _) ?_
  rintro _ _ _ ⟨rfl, rfl, rfl⟩
  exact N.zret dX2_isRow_9 rfl (isIn_nar _ _ _) (Nat.zero_le _) (Nat.zero_le _) ⟨_, rfl, ⟨rfl, rfl, rfl⟩⟩
set_option maxRecDepth 100000 in
theorem s_X2_isPlayer {K : Kx} (w : Wd) (b sz : Nat) (v : SV) : Sp K mX2_isPlayer 0 0 0 [.ref b] (putS K w b v) sz (Qi fun r w' sz' => r = (isPlrF v) ∧ w' = putS K w b v ∧ sz' = sz) := by
  refine Sp.ofN [some (.ref b)] rfl rfl rfl (Nat.le_of_ble_eq_true rfl) ?_
  refine N.aload0 dX2_isPlayer_0 ?_
  refine N.getf dX2_isPlayer_1 flX2_15 shO rfl ?_
  refine N.bipush (v := 10) dX2_isPlayer_4 (by decide) ?_
  refine N.icmp_lt (tgt := 13) dX2_isPlayer_6 (by decide) (fun c6 => ?_) (fun c6 => ?_)
  · refine N.iconst (v := 0) dX2_isPlayer_13 (by decide) ?_
    exact N.zret dX2_isPlayer_14 rfl rfl (Nat.zero_le _) (Nat.zero_le _) ⟨_, rfl, ⟨(by first | (simp only [isPlrF, c6, ↓reduceIte]; done) | (simp_all [isPlrF]; done)), rfl, rfl⟩⟩
  · refine N.iconst (v := 1) dX2_isPlayer_9 (by decide) ?_
    refine N.goto (tgt := 14) dX2_isPlayer_10 (by decide) ?_
    exact N.zret dX2_isPlayer_14 rfl rfl (Nat.zero_le _) (Nat.zero_le _) ⟨_, rfl, ⟨(by first | (simp only [isPlrF, c6, ↓reduceIte]; done) | (simp_all [isPlrF]; done)), rfl, rfl⟩⟩
set_option maxRecDepth 100000 in
theorem s_X2_whyNoRow {K : Kx} (w : Wd) (b sz : Nat) (v : SV) : Sp K mX2_whyNoRow 1 0 0 [.ref b] (putS K w b v) sz (Qi fun r w' sz' => r = (whyF v) ∧ w' = putS K w b v ∧ sz' = sz) := by
  refine Sp.ofN [some (.ref b)] rfl rfl rfl (Nat.le_of_ble_eq_true rfl) ?_
  refine N.aload0 dX2_whyNoRow_0 ?_
  refine N.vi0 dX2_whyNoRow_1 vX2_isPlayer lkX2_26 (s_X2_isPlayer _ _ _ _) shO rfl (Nat.le_of_ble_eq_true rfl) (Nat.le_of_ble_eq_true rfl) (Nat.zero_le _) (Nat.zero_le _) ?_
  rintro _ _ _ ⟨rfl, rfl, rfl⟩
  refine N.if_eq (tgt := 12) dX2_whyNoRow_4 (by decide) (fun c4 => ?_) (fun c4 => ?_)
  · refine N.bipush (v := -4) dX2_whyNoRow_12 (by decide) ?_
    exact N.iret dX2_whyNoRow_14 rfl (Nat.zero_le _) (Nat.zero_le _) ⟨_, rfl, ⟨(by first | (simp only [whyF, c4, ↓reduceIte]; done) | (simp_all [whyF]; done)), rfl, rfl⟩⟩
  · refine N.bipush (v := -3) dX2_whyNoRow_7 (by decide) ?_
    refine N.goto (tgt := 14) dX2_whyNoRow_9 (by decide) ?_
    exact N.iret dX2_whyNoRow_14 rfl (Nat.zero_le _) (Nat.zero_le _) ⟨_, rfl, ⟨(by first | (simp only [whyF, c4, ↓reduceIte]; done) | (simp_all [whyF]; done)), rfl, rfl⟩⟩
set_option maxRecDepth 100000 in
theorem s_X2_becomeRow {K : Kx} (w : Wd) (b sz : Nat) (v : SV) (s : Int32) (n : Int32) : Sp K mX2_becomeRow 1 0 0 [.ref b, .int s, .int n] (putS K w b v) sz (Qv fun w' sz' => w' = putS K w b ((fun _ => 0, s, n)) ∧ sz' = sz) := by
  refine Sp.ofN [some (.ref b), some (.int s), some (.int n)] rfl rfl rfl (Nat.le_of_ble_eq_true rfl) ?_
  refine N.aload0 dX2_becomeRow_0 ?_
  refine N.iload1 dX2_becomeRow_1 ?_
  refine N.putf dX2_becomeRow_2 flX2_15 shO (Nat.le_of_ble_eq_true rfl) (fun _ h => by cases h; rfl) rfl rfl shP1 ?_
  refine N.aload0 dX2_becomeRow_5 ?_
  refine N.iload2 dX2_becomeRow_6 ?_
  refine N.putf dX2_becomeRow_7 flX2_19 shO (Nat.le_of_ble_eq_true rfl) (fun _ h => by cases h; rfl) rfl rfl shP2 ?_
  refine N.aload0 dX2_becomeRow_10 ?_
  refine N.getf dX2_becomeRow_11 flX2_9 shO rfl ?_
  refine N.lconst (v := 0) dX2_becomeRow_14 (by decide) ?_
  refine N.sv2 dX2_becomeRow_15 vJ7_fill_d0a16 lkX2_30 (Sp.eqW (upW_id shA) (s_J7_fill_d0a16 _ _ _ _ _)) rfl (Nat.le_of_ble_eq_true rfl) (Nat.le_of_ble_eq_true rfl) (Nat.zero_le _) (Nat.zero_le _) ?_
  rintro _ _ ⟨rfl, rfl⟩
  refine N.eqW shK ?_
  exact N.vret dX2_becomeRow_18 rfl (Nat.zero_le _) (Nat.zero_le _) ⟨rfl, ⟨rfl, rfl⟩⟩
set_option maxRecDepth 100000 in
theorem s_X2_hasPlaces {K : Kx} (w : Wd) (b sz : Nat) (v : SV) (f : Int32) (n : Int32) : Sp K mX2_hasPlaces 1 0 0 [.ref b, .int f, .int n] (putS K w b v) sz (Qi fun r w' sz' => r = (hasPF v f n) ∧ w' = putS K w b v ∧ sz' = sz) := by
  refine Sp.ofN [some (.ref b), some (.int f), some (.int n)] rfl rfl rfl (Nat.le_of_ble_eq_true rfl) ?_
  refine N.iload2 dX2_hasPlaces_0 ?_
  refine N.iconst (v := 0) dX2_hasPlaces_1 (by decide) ?_
  refine N.aload0 dX2_hasPlaces_2 ?_
  refine N.getf dX2_hasPlaces_3 flX2_19 shO rfl ?_
  refine N.si3 dX2_hasPlaces_6 vX4_isIn lkX2_22 (s_X4_isIn _ _ _ _ _) rfl (Nat.le_of_ble_eq_true rfl) (Nat.le_of_ble_eq_true rfl) (Nat.zero_le _) (Nat.zero_le _) ?_
  rintro _ _ _ ⟨rfl, rfl, rfl⟩
  refine N.if_eq (tgt := 30) dX2_hasPlaces_9 (by decide) (fun c9 => ?_) (fun c9 => ?_)
  · refine N.iconst (v := 0) dX2_hasPlaces_30 (by decide) ?_
    exact N.zret dX2_hasPlaces_31 rfl rfl (Nat.zero_le _) (Nat.zero_le _) ⟨_, rfl, ⟨(by first | (simp only [hasPF, c9, ↓reduceIte]; done) | (simp_all [hasPF]; done)), rfl, rfl⟩⟩
  · refine N.iload1 dX2_hasPlaces_12 ?_
    refine N.iconst (v := 0) dX2_hasPlaces_13 (by decide) ?_
    refine N.aload0 dX2_hasPlaces_14 ?_
    refine N.getf dX2_hasPlaces_15 flX2_19 shO rfl ?_
    refine N.iload2 dX2_hasPlaces_18 ?_
    refine N.isub dX2_hasPlaces_19 ?_
    refine N.si3 dX2_hasPlaces_20 vX4_isIn lkX2_22 (s_X4_isIn _ _ _ _ _) rfl (Nat.le_of_ble_eq_true rfl) (Nat.le_of_ble_eq_true rfl) (Nat.zero_le _) (Nat.zero_le _) ?_
    rintro _ _ _ ⟨rfl, rfl, rfl⟩
    refine N.if_eq (tgt := 30) dX2_hasPlaces_23 (by decide) (fun c23 => ?_) (fun c23 => ?_)
    · refine N.iconst (v := 0) dX2_hasPlaces_30 (by decide) ?_
      exact N.zret dX2_hasPlaces_31 rfl rfl (Nat.zero_le _) (Nat.zero_le _) ⟨_, rfl, ⟨(by first | (simp only [hasPF, c9, c23, ↓reduceIte]; done) | (simp_all [hasPF]; done)), rfl, rfl⟩⟩
    · refine N.iconst (v := 1) dX2_hasPlaces_26 (by decide) ?_
      refine N.goto (tgt := 31) dX2_hasPlaces_27 (by decide) ?_
      exact N.zret dX2_hasPlaces_31 rfl rfl (Nat.zero_le _) (Nat.zero_le _) ⟨_, rfl, ⟨(by first | (simp only [hasPF, c9, c23, ↓reduceIte]; done) | (simp_all [hasPF]; done)), rfl, rfl⟩⟩
set_option maxRecDepth 100000 in
theorem s_X2_put {K : Kx} (w : Wd) (b sz : Nat) (v : SV) (i : Int32) (x : Int64) (hp : vp_in i 40) : Sp K mX2_put 0 0 0 [.ref b, .int i, .long x] (putS K w b v) sz (Qv fun w' sz' => w' = putS K w b ((vp_updL v.1 i.toNatClampNeg (fitF v.2.1 x), v.2)) ∧ sz' = sz) := by
  refine Sp.ofN [some (.ref b), some (.int i), some (.long x), none] rfl rfl rfl (Nat.le_of_ble_eq_true rfl) ?_
  refine N.aload0 dX2_put_0 ?_
  refine N.getf dX2_put_1 flX2_15 shO rfl ?_
  refine N.swc 0 (fun t4_0 => ?_) (fun t4_0 => ?_)
  · refine N.tsIn (off := 36) (tgt := 40) 0 t4_0 dX2_put_4 (by decide) (by decide) (by decide) (by decide) ?_
    refine N.aload0 dX2_put_40 ?_
    refine N.getf dX2_put_41 flX2_9 shO rfl ?_
    refine N.iload1 dX2_put_44 ?_
    refine N.lload2 dX2_put_45 ?_
    refine N.l2i dX2_put_46 ?_
    refine N.i2b dX2_put_47 ?_
    refine N.i2l dX2_put_48 ?_
    refine N.last dX2_put_49 shA hp shK ?_
    refine N.goto (tgt := 105) dX2_put_50 (by decide) ?_
    exact N.vret dX2_put_105 rfl (Nat.zero_le _) (Nat.zero_le _) ⟨rfl, ⟨(by simp only [fitF, t4_0, ↓reduceIte]; try rfl), rfl⟩⟩
  refine N.swc 1 (fun t4_1 => ?_) (fun t4_1 => ?_)
  · refine N.tsIn (off := 49) (tgt := 53) 1 t4_1 dX2_put_4 (by decide) (by decide) (by decide) (by decide) ?_
    refine N.aload0 dX2_put_53 ?_
    refine N.getf dX2_put_54 flX2_9 shO rfl ?_
    refine N.iload1 dX2_put_57 ?_
    refine N.lload2 dX2_put_58 ?_
    refine N.l2i dX2_put_59 ?_
    refine N.i2s dX2_put_60 ?_
    refine N.i2l dX2_put_61 ?_
    refine N.last dX2_put_62 shA hp shK ?_
    refine N.goto (tgt := 105) dX2_put_63 (by decide) ?_
    exact N.vret dX2_put_105 rfl (Nat.zero_le _) (Nat.zero_le _) ⟨rfl, ⟨(by simp only [fitF, t4_0, t4_1, ↓reduceIte]; try rfl), rfl⟩⟩
  refine N.swc 2 (fun t4_2 => ?_) (fun t4_2 => ?_)
  · refine N.tsIn (off := 62) (tgt := 66) 2 t4_2 dX2_put_4 (by decide) (by decide) (by decide) (by decide) ?_
    refine N.aload0 dX2_put_66 ?_
    refine N.getf dX2_put_67 flX2_9 shO rfl ?_
    refine N.iload1 dX2_put_70 ?_
    refine N.lload2 dX2_put_71 ?_
    refine N.l2i dX2_put_72 ?_
    refine N.i2l dX2_put_73 ?_
    refine N.last dX2_put_74 shA hp shK ?_
    refine N.goto (tgt := 105) dX2_put_75 (by decide) ?_
    exact N.vret dX2_put_105 rfl (Nat.zero_le _) (Nat.zero_le _) ⟨rfl, ⟨(by simp only [fitF, t4_0, t4_1, t4_2, ↓reduceIte]; try rfl), rfl⟩⟩
  refine N.swc 3 (fun t4_3 => ?_) (fun t4_3 => ?_)
  · refine N.tsIn (off := 94) (tgt := 98) 3 t4_3 dX2_put_4 (by decide) (by decide) (by decide) (by decide) ?_
    refine N.aload0 dX2_put_98 ?_
    refine N.getf dX2_put_99 flX2_9 shO rfl ?_
    refine N.iload1 dX2_put_102 ?_
    refine N.lload2 dX2_put_103 ?_
    refine N.last dX2_put_104 shA hp shK ?_
    exact N.vret dX2_put_105 rfl (Nat.zero_le _) (Nat.zero_le _) ⟨rfl, ⟨(by simp only [fitF, t4_0, t4_1, t4_2, t4_3, ↓reduceIte]; try rfl), rfl⟩⟩
  refine N.swc 4 (fun t4_4 => ?_) (fun t4_4 => ?_)
  · refine N.tsIn (off := 74) (tgt := 78) 4 t4_4 dX2_put_4 (by decide) (by decide) (by decide) (by decide) ?_
    refine N.aload0 dX2_put_78 ?_
    refine N.getf dX2_put_79 flX2_9 shO rfl ?_
    refine N.iload1 dX2_put_82 ?_
    refine N.lload2 dX2_put_83 ?_
    refine N.lconst (v := 0) dX2_put_84 (by decide) ?_
    refine N.lcmp dX2_put_85 ?_
    refine N.if_eq (tgt := 93) dX2_put_86 (by decide) (fun c86 => ?_) (fun c86 => ?_)
    · refine N.lconst (v := 0) dX2_put_93 (by decide) ?_
      refine N.last dX2_put_94 shA hp shK ?_
      refine N.goto (tgt := 105) dX2_put_95 (by decide) ?_
      exact N.vret dX2_put_105 rfl (Nat.zero_le _) (Nat.zero_le _) ⟨rfl, ⟨(by simp only [fitF, t4_0, t4_1, t4_2, t4_3, t4_4, c86, ↓reduceIte]; try rfl), rfl⟩⟩
    · refine N.lconst (v := 1) dX2_put_89 (by decide) ?_
      refine N.goto (tgt := 94) dX2_put_90 (by decide) ?_
      refine N.last dX2_put_94 shA hp shK ?_
      refine N.goto (tgt := 105) dX2_put_95 (by decide) ?_
      exact N.vret dX2_put_105 rfl (Nat.zero_le _) (Nat.zero_le _) ⟨rfl, ⟨(by simp only [fitF, t4_0, t4_1, t4_2, t4_3, t4_4, c86, ↓reduceIte]; try rfl), rfl⟩⟩
  refine N.tsOut (tgt := 98) dX2_put_4 (by have h0 := sw_ne t4_0 (z := 0) (by decide); have h1 := sw_ne t4_1 (z := 1) (by decide); have h2 := sw_ne t4_2 (z := 2) (by decide); have h3 := sw_ne t4_3 (z := 3) (by decide); have h4 := sw_ne t4_4 (z := 4) (by decide); omega) (by decide) ?_
  refine N.aload0 dX2_put_98 ?_
  refine N.getf dX2_put_99 flX2_9 shO rfl ?_
  refine N.iload1 dX2_put_102 ?_
  refine N.lload2 dX2_put_103 ?_
  refine N.last dX2_put_104 shA hp shK ?_
  exact N.vret dX2_put_105 rfl (Nat.zero_le _) (Nat.zero_le _) ⟨rfl, ⟨(by simp only [fitF, t4_0, t4_1, t4_2, t4_3, t4_4, ↓reduceIte]; try rfl), rfl⟩⟩
