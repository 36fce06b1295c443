/-! the frame: one judgement N for a method's inside, one contract Sp for a call, over worlds that are partial functions from addresses to cells -/
def gT : List Cond := lw_tbl.filter goodWord
def isNw : Cond → Bool
  | .fieldLinkNest _ _ _ _ _ _ => true
  | .methodLinkNest _ _ _ _ => true
  | _ => false
def nT : List Cond := tables_1.filter isNw
theorem gT_good : GoodIn gT gT := fun w h => ⟨h, good_of_word (List.mem_filter.mp h).2⟩
theorem gm {w : Cond} (i : Nat) (h : lw_tbl[i]? = some w) (hg : goodWord w = true) : w ∈ gT := List.mem_filter.mpr ⟨List.mem_of_getElem? h, hg⟩
theorem nm_ {w : Cond} (i : Nat) (h : tables_1[i]? = some w) (hg : isNw w = true) : w ∈ nT := List.mem_filter.mpr ⟨List.mem_of_getElem? h, hg⟩
theorem nT_warm {w : Cond} (h : isNw w = true) {s U : State} (hW : s.WarmedH U.vm) (hZ : va_Nw w s) : va_Nw w U := by
  cases w <;> first | exact va_Nw.warmF hW hZ | exact va_Nw.warmM hW hZ | cases h
theorem nT_same {w : Cond} (h : isNw w = true) {s U : State} (hv : s.vm = U.vm) (hZ : va_Nw w s) : va_Nw w U := by
  cases w <;> first | exact va_Nw.same rfl hv hZ | cases h
abbrev vwCl : List vw_C := [(RX0, TX0, 2), (RX1, TX1, 18), (RX2, TX2, 3), (RX3, TX3, 5), (RX4, TX4, 9), (RX5, TX5, 42)]
abbrev Wd : Type := Nat → Option va_E
abbrev Md : Type := MethodName × ByteArray × Nat × Option FieldType
/-- what is fixed for a run of the law: the launch, the state at its entry, class numbers, array class numbers, addresses of the texts and of static arrays -/
abbrev Kx : Type := Launch × State × va_G × (Nat → ClassId) × (Nat → Nat) × (Nat → Nat)
abbrev kL (K : Kx) : Launch := K.1
abbrev kS (K : Kx) : State := K.2.1
abbrev kD (K : Kx) : va_G := K.2.2.1
abbrev kC (K : Kx) : Nat → ClassId := K.2.2.2.1
abbrev kA (K : Kx) : Nat → Nat := K.2.2.2.2.1
abbrev kB (K : Kx) : Nat → Nat := K.2.2.2.2.2
def fr (K : Kx) : Addr → Prop := fun q => (kS K).heap.size ≤ q
def kty (K : Kx) : List (ClassId × FieldType) := [(kC K 0, .int), (kC K 1, .long), (kC K 2, .object "OverTheBoards$Shelf"), (kC K 3, .array .long)]
def strs : List (String × Nat × String) := [("OverTheBoards$Tape", 31, "player"), ("OverTheBoards$Tape", 41, "line"), ("OverTheBoards$Tape", 93, "on"), ("OverTheBoards$Tape", 95, "third"), ("OverTheBoards$Tape", 97, "half"), ("OverTheBoards$Tape", 99, "theirs"), ("OverTheBoards$Tape", 101, "skate"), ("OverTheBoardsModel", 206, "player"), ("OverTheBoardsModel", 212, "line"), ("OverTheBoardsModel", 216, "on"), ("OverTheBoardsModel", 222, "third"), ("OverTheBoardsModel", 226, "half"), ("OverTheBoardsModel", 227, "theirs"), ("OverTheBoardsModel", 228, "skate")]
def strLen : List Nat := [6, 4, 2, 5, 4, 6, 5]
def strByt : List (List Int32) := [[112, 108, 97, 121, 101, 114], [108, 105, 110, 101], [111, 110], [116, 104, 105, 114, 100], [104, 97, 108, 102], [116, 104, 101, 105, 114, 115], [115, 107, 97, 116, 101]]
def leastsV (j : Nat) : Int32 := [0, 0, 0, 1, 1].getD j 0
def mostsV (j : Nat) : Int32 := [3, 2, 1, 999, 99].getD j 0
def va_AOL (U : State) : Prop := (Cond.arrayOver (.array .long)).before #[] U = true
theorem va_AOL.moved {u U : State} (hvm : u.vm.Alike U.vm) (h : va_AOL u) : va_AOL U := by
  have h2 : (Cond.arrayOver (.array .long)).before #[] (u.setVm U.vm) = true := (Cond.arrayOver_setVmC hvm _).trans h
  unfold va_AOL
  simp only [Cond.before, Cond.holds, Cond.value] at h2 ⊢
  exact h2
/-- what holds at the law's entry of classes, statics and texts -/
def Kok (K : Kx) : Prop :=
  va_K (kD K) vwCl (kty K) (kS K) ∧ va_AO "OverTheBoards$Shelf" (kS K) ∧ va_AOL (kS K) ∧
  vk_S 7 strLen strByt (kA K) (kB K) (fr K) (kS K) (kS K).heap ∧
  (va_Z "OverTheBoards$Tape" "LEASTS" "[I" (.ref (kB K 7)) (fr K) (kS K) (kS K).heap ∧ va_T .int (kB K 7) 5 (fun j => .int (leastsV j)) (fr K) (kS K) (kS K).heap) ∧
  (va_Z "OverTheBoards$Tape" "MOSTS" "[I" (.ref (kB K 8)) (fr K) (kS K) (kS K).heap ∧ va_T .int (kB K 8) 5 (fun j => .int (mostsV j)) (fr K) (kS K) (kS K).heap) ∧
  va_Z "java/lang/String" "COMPACT_STRINGS" "Z" (.int 1) (fr K) (kS K) (kS K).heap ∧
  va_Zq "jdk/internal/util/Preconditions" "SIOOBE_FORMATTER" "Ljava/util/function/BiFunction;" (fr K) (kS K) (kS K).heap
def Cx (K : Kx) (U : State) : Prop := (kS K).vm.Alike U.vm ∧ (∀ w ∈ nT, va_Nw w U) ∧ (∀ i q, strs[i]? = some q → vk_R q.1 q.2.1 q.2.2 (kA K (i % 7)) U) ∧ Kok K
theorem Cx.warm {K : Kx} {s U : State} (h : Cx K s) (hW : s.WarmedH U.vm) : Cx K U :=
  ⟨h.1.trans hW.alike, fun w hw => nT_warm (List.mem_filter.mp hw).2 hW (h.2.1 w hw), fun i q hq => (h.2.2.1 i q hq).warm hW, h.2.2.2⟩
theorem Cx.same {K : Kx} {s U : State} (h : Cx K s) (hv : s.vm = U.vm) : Cx K U :=
  ⟨hv ▸ h.1, fun w hw => nT_same (List.mem_filter.mp hw).2 hv (h.2.1 w hw), fun i q hq => (h.2.2.1 i q hq).same hv.symm, h.2.2.2⟩
def Lo (K : Kx) (H : Heap) : Prop := (kS K).heap.size ≤ H.size ∧ ∀ q, q < (kS K).heap.size → H[q]? = (kS K).heap[q]?
/-- the heap holds the world w, which has sz cells in all, and nothing old has changed -/
def HW (K : Kx) (w : Wd) (sz : Nat) (H : Heap) : Prop := H.size = sz ∧ Lo K H ∧ ∀ a e, w a = some e → (kS K).heap.size ≤ a ∧ va_at (kD K) vwCl (a, e) H
def upW (w : Wd) (a : Nat) (e : va_E) : Wd := fun q => if q = a then some e else w q
theorem HW.set {K : Kx} {w : Wd} {sz a : Nat} {e0 e : va_E} {H H1 : Heap} (h : HW K w sz H) (ha : w a = some e0) (he : va_at (kD K) vwCl (a, e) H1) (hz : H1.size = H.size) (oq : ∀ q, q ≠ a → H1[q]? = H[q]?) : HW K (upW w a e) sz H1 := by
  have h1 := (h.2.2 a e0 ha).1
  refine ⟨hz.trans h.1, ⟨by rw [hz]; exact h.2.1.1, fun q hq => ?_⟩, fun b e' hb => ?_⟩
  · rw [oq q (by omega)]; exact h.2.1.2 q hq
  · unfold upW at hb
    by_cases hba : b = a
    · subst hba; rw [if_pos rfl] at hb; cases hb; exact ⟨h1, he⟩
    · rw [if_neg hba] at hb; exact ⟨(h.2.2 b e' hb).1, (h.2.2 b e' hb).2.kept (oq b hba)⟩
theorem HW.lt {K : Kx} {w : Wd} {sz a : Nat} {e : va_E} {H : Heap} (h : HW K w sz H) (ha : w a = some e) : a < sz := by
  have := (h.2.2 a e ha).2.lt
  rw [← h.1]; exact this
theorem HW.push {K : Kx} {w : Wd} {sz : Nat} {e : va_E} {H H1 : Heap} (h : HW K w sz H) (he : va_at (kD K) vwCl (sz, e) H1) (hz : H1.size = sz + 1) (oq : ∀ q, q < sz → H1[q]? = H[q]?) : HW K (upW w sz e) (sz + 1) H1 := by
  have hl : (kS K).heap.size ≤ sz := by rw [← h.1]; exact h.2.1.1
  refine ⟨hz, ⟨by omega, fun q hq => ?_⟩, fun b e' hb => ?_⟩
  · rw [oq q (by omega)]; exact h.2.1.2 q hq
  · unfold upW at hb
    by_cases hba : b = sz
    · subst hba; rw [if_pos rfl] at hb; cases hb; exact ⟨hl, he⟩
    · rw [if_neg hba] at hb; exact ⟨(h.2.2 b e' hb).1, (h.2.2 b e' hb).2.kept (oq b (h.lt hb))⟩
def rmOf (d mc ms : Nat) : Room := { frames := d, cells := mc, slots := ms, locals := 40 * d }
abbrev Qx : Type := Option Value → Wd → Nat → Prop
def Qc_ (K : Kx) (Q : Qx) : Array Value → State → Outcome → State → Prop := fun _ _ o t => ∃ r w sz, o = .returned r ∧ Q r w sz ∧ HW K w sz t.heap
def mws (M : Md) : List Cond := Cond.code M.1 M.2.1 M.2.2.1 M.2.2.2 :: gT
def Pc_ (K : Kx) (as : List Value) (w : Wd) (sz : Nat) : Array Value → State → Prop := fun v U => v = as.toArray ∧ Cx K U ∧ HW K w sz U.heap
/-- the contract: called with as in the world w of sz cells, M returns, and Q of its answer and the world behind it -/
def Sp (K : Kx) (M : Md) (d mc ms : Nat) (as : List Value) (w : Wd) (sz : Nat) (Q : Qx) : Prop :=
  Met (kL K) M.1 (mws M) (rmOf d mc ms) (Pc_ K as w sz) (Qc_ K Q) mc ms (fr K)
def lpr : Nat → List (Option Value) → List (Nat × Value)
  | _, [] => []
  | i, none :: t => lpr (i + 1) t
  | i, some v :: t => (i, v) :: lpr (i + 1) t
def Cf (K : Kx) (M : Md) (p : Program) (s : State) (m : MethodId) (args : Array Value) (meth : Method) (c : Code) : Prop :=
  p.tables.exec = Jvm.exec ∧ c.code = M.2.1 ∧ meth.sig.returnType = M.2.2.2 ∧ meth.locks = false ∧ c.maxLocals = M.2.2.1 ∧ s.vm.findClass M.1.cls = some m.cls ∧ meth.name = M.1.name ∧ (∀ w ∈ mws M, w.before args s = true) ∧ Cx K s ∧ Lo K s.heap
/-- inside M, at pc, with locals L and operands st, in the world w: it comes to its end with Q -/
def N (K : Kx) (M : Md) (d mc ms : Nat) (Q : Qx) (pc : Nat) (L : List (Option Value)) (st : List Value) (w : Wd) (sz cc ss : Nat) : Prop :=
  ∀ (p : Program) (e : Env) (s : State) (m : MethodId) (args : Array Value) (below : List Frame) (meth : Method) (c : Code) (H : Heap) (locs : List Loc) (ls : Array Slot),
    Cf K M p s m args meth c → HW K w sz H → (∀ q ∈ locs, fr K q.base) → L.length = M.2.2.1 → lv_has ls M.2.2.1 (lpr 0 L) →
    W p (kL K) e (rmOf d mc ms) s m args below meth c H locs cc ss (MQ below (Qc_ K Q) args s mc ms (fr K)) (F0 m pc ls st)
theorem lpr_mem : ∀ (L : List (Option Value)) (j i : Nat) (v : Value), L[i]? = some (some v) → (j + i, v) ∈ lpr j L
  | [], j, i, v, h => by simp at h
  | none :: t, j, 0, v, h => by simp at h
  | none :: t, j, i + 1, v, h => by
    have := lpr_mem t (j + 1) i v (by simpa using h)
    rw [show j + (i + 1) = j + 1 + i by omega]
    exact this
  | some x :: t, j, 0, v, h => by
    simp at h; subst h
    exact List.mem_cons_self
  | some x :: t, j, i + 1, v, h => by
    have := lpr_mem t (j + 1) i v (by simpa using h)
    rw [show j + (i + 1) = j + 1 + i by omega]
    exact List.mem_cons_of_mem _ this
theorem lpr_of : ∀ (L : List (Option Value)) (j : Nat) (q : Nat × Value), q ∈ lpr j L → ∃ i, q.1 = j + i ∧ L[i]? = some (some q.2)
  | [], j, q, h => by cases h
  | none :: t, j, q, h => by
    obtain ⟨i, h1, h2⟩ := lpr_of t (j + 1) q h
    exact ⟨i + 1, by omega, by simpa using h2⟩
  | some x :: t, j, q, h => by
    rcases List.mem_cons.mp h with rfl | h
    · exact ⟨0, rfl, rfl⟩
    · obtain ⟨i, h1, h2⟩ := lpr_of t (j + 1) q h
      exact ⟨i + 1, by omega, by simpa using h2⟩
theorem lv_mono {ls : Array Slot} {n : Nat} {l l' : List (Nat × Value)} (h : lv_has ls n l) (hs : ∀ q ∈ l', q ∈ l) : lv_has ls n l' := ⟨h.1, h.2.1, fun q hq => h.2.2 q (hs q hq)⟩
/-- the place ahead of i holds no long -/
def c1 : Option Value → Bool
  | none => true
  | some v => v.category == 1
def okS (L : List (Option Value)) (i : Nat) : Bool := match i with
  | 0 => true
  | j + 1 => c1 (L.getD j none)
theorem okS_ne {L : List (Option Value)} {i j : Nat} {v : Value} (h : okS L i = true) (hj : j + 1 = i) (hv : L[j]? = some (some v)) : (v.category == 2) = false := by
  subst hj
  simp only [okS, List.getD_eq_getElem?_getD, hv, Option.getD_some, c1] at h
  have := eq_of_beq h
  rw [this]; rfl
theorem lpr_set1 {L : List (Option Value)} {i : Nat} {v : Value} (hok : okS L i = true) : ∀ q ∈ lpr 0 (L.set i (some v)), q ∈ (i, v) :: (lpr 0 L).filter (fun q => !(q.1 == i) && !(q.1 + 1 == i && q.2.category == 2)) := by
  intro q hq
  obtain ⟨j, h1, h2⟩ := lpr_of _ _ _ hq
  by_cases hji : j = i
  · subst hji
    rw [List.getElem?_set_self'] at h2
    cases hL : L[j]? with
    | none => rw [hL] at h2; cases h2
    | some x =>
      rw [hL] at h2
      have hv : v = q.2 := by simpa using h2
      have : q = (j, v) := Prod.ext (by omega) hv.symm
      rw [this]; exact List.mem_cons_self
  · rw [List.getElem?_set_ne (Ne.symm hji)] at h2
    refine List.mem_cons_of_mem _ (List.mem_filter.mpr ⟨?_, ?_⟩)
    · have := lpr_mem L 0 j q.2 h2
      rw [show q = (0 + j, q.2) from Prod.ext h1 rfl]; exact this
    · have e1 : (q.1 == i) = false := by rw [beq_eq_false_iff_ne]; omega
      by_cases h3 : j + 1 = i
      · have := okS_ne hok h3 h2
        simp [e1, this]
      · have e2 : (q.1 + 1 == i) = false := by rw [beq_eq_false_iff_ne]; omega
        simp [e1, e2]
theorem lpr_set2 {L : List (Option Value)} {i : Nat} {v : Value} (hok : okS L i = true) : ∀ q ∈ lpr 0 ((L.set i (some v)).set (i + 1) none), q ∈ (i, v) :: (lpr 0 L).filter (fun q => !(q.1 == i) && (!(q.1 == i + 1) && !(q.1 + 1 == i && q.2.category == 2))) := by
  intro q hq
  obtain ⟨j, h1, h2⟩ := lpr_of _ _ _ hq
  by_cases hj1 : j = i + 1
  · subst hj1
    rw [List.getElem?_set_self'] at h2
    cases hL : (L.set i (some v))[i + 1]? with
    | none => rw [hL] at h2; cases h2
    | some x => rw [hL] at h2; simp at h2
  rw [List.getElem?_set_ne (Ne.symm hj1)] at h2
  by_cases hji : j = i
  · subst hji
    rw [List.getElem?_set_self'] at h2
    cases hL : L[j]? with
    | none => rw [hL] at h2; cases h2
    | some x =>
      rw [hL] at h2
      have hv : v = q.2 := by simpa using h2
      have : q = (j, v) := Prod.ext (by omega) hv.symm
      rw [this]; exact List.mem_cons_self
  · rw [List.getElem?_set_ne (Ne.symm hji)] at h2
    refine List.mem_cons_of_mem _ (List.mem_filter.mpr ⟨?_, ?_⟩)
    · have := lpr_mem L 0 j q.2 h2
      rw [show q = (0 + j, q.2) from Prod.ext h1 rfl]; exact this
    · have e1 : (q.1 == i) = false := by rw [beq_eq_false_iff_ne]; omega
      have e3 : (q.1 == i + 1) = false := by rw [beq_eq_false_iff_ne]; omega
      by_cases h3 : j + 1 = i
      · have := okS_ne hok h3 h2
        simp [e1, e3, this]
      · have e2 : (q.1 + 1 == i) = false := by rw [beq_eq_false_iff_ne]; omega
        simp [e1, e2, e3]
/-- a method's contract out of its inside -/
theorem Sp.ofN {K : Kx} {M : Md} {d mc ms : Nat} {Q : Qx} {as : List Value} {w : Wd} {sz : Nat} (L : List (Option Value)) (hy : plainName M.1.cls = true) (hL : L.length = M.2.2.1) (ha : lpr 0 L = lv_args 0 as) (hn : (lg_sl as).length ≤ M.2.2.1) (k : N K M d mc ms Q 0 L [] w sz 0 0) : Sp K M d mc ms as w sz Q := by
  refine Met.ofW (cc := M.2.1) (maxL := M.2.2.1) (ret := M.2.2.2) hy rfl ?_
  intro p e s m args below meth c s₁ B hml hv
  obtain ⟨rfl, hC, hW⟩ := hv
  have hts := atoms_spec (ws := mws M) B.pre
  have hown : s.vm.findClass M.1.cls = some m.cls := findClass_of_methodNamed B.named
  have hl := lv_entry as (n := M.2.2.1) hn
  rw [lg_entry_eq]
  generalize (lg_sl as ++ List.replicate (M.2.2.1 - (lg_sl as).length) Slot.unset).toArray = ls at hl ⊢
  exact k p e s m as.toArray below meth c s.heap [] ls ⟨B.exec, B.bytes, B.returns, B.notSynchronized, hml, hown, (name_of_methodNamed B.named B.method).1, hts, hC, hW.2.1⟩ hW (fun _ h => by cases h) hL (by rw [ha]; exact hl)
