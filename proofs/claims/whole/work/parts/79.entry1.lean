/-! the entry: what is given of classes, statics and texts -/
theorem e_ws0 : ∀ w ∈ u_ws RX0 TX0 2, w ∈ tables_1 := by decide +kernel
theorem e_ws1 : ∀ w ∈ u_ws RX1 TX1 18, w ∈ tables_1 := by decide +kernel
theorem e_ws2 : ∀ w ∈ u_ws RX2 TX2 3, w ∈ tables_1 := by decide +kernel
theorem e_ws3 : ∀ w ∈ u_ws RX3 TX3 5, w ∈ tables_1 := by decide +kernel
theorem e_ws4 : ∀ w ∈ u_ws RX4 TX4 9, w ∈ tables_1 := by decide +kernel
theorem e_ws5 : ∀ w ∈ u_ws RX5 TX5 42, w ∈ tables_1 := by decide +kernel
theorem tb_r {w : Cond} (h : w ∈ tables_1) : w ∈ lw_tbl := List.mem_append_right _ h
theorem aoL_spec {args : Array Value} {first s : State} {o : Option Outcome} {idx : List Nat} {t : FieldType} (h : (Cond.arrayOver (.array t)).holds args first o s idx = true) : ∃ c k comp, s.vm.classes[c]? = some k ∧ k.kind = .array comp (.array t) ∧ s.vm.findClass ("[" ++ (FieldType.array t).toString) = some c := by
  simp only [Cond.holds, Cond.value, beq_iff_eq] at h
  cases hc : s.vm.findClass (FieldType.array t).toString with
  | none => simp [hc] at h
  | some comp =>
    simp only [hc, Option.bind_some, Option.bind_eq_some_iff, Option.map_eq_some_iff] at h
    obtain ⟨c, hi, k, hk, hb⟩ := h
    cases hkind : k.kind with
    | array component ty =>
      rw [hkind] at hb
      simp at hb
      exact ⟨c, k, component, hk, by rw [hkind, hb.1], hb.2⟩
    | _ => rw [hkind] at hb; simp at hb
theorem arr_of {s : State} {c : ClassId} {k : Class} {comp : ClassId} {ty : FieldType} (h1 : s.vm.classes[c]? = some k) (h2 : k.kind = .array comp ty) : ArrOfT s c ty := fun n z => ⟨fun k h => by (cases h), k, h1, comp, h2⟩
theorem e_ac1 : Cond.arrayClass .int ∈ tables_1 := by decide +kernel
theorem e_ac2 : Cond.arrayClass .long ∈ tables_1 := by decide +kernel
theorem e_ac3 : Cond.arrayOver (.object "OverTheBoards$Shelf") ∈ tables_1 := by decide +kernel
theorem e_ac4 : Cond.arrayOver (.array .long) ∈ tables_1 := by decide +kernel
theorem e_K {s : State} {A : Array Value} (hts : ∀ w ∈ lw_tbl, w.before A s = true) : ∃ (D : va_G) (C : Nat → ClassId), va_K D vwCl [(C 0, .int), (C 1, .long), (C 2, .object "OverTheBoards$Shelf"), (C 3, .array .long)] s := by
  obtain ⟨c0, i0, h0⟩ := u_known (C := RX0) (T := TX0) (N := 2) (n := 2) hts (fun w hw => tb_r (e_ws0 w hw)) (hts (.instantiable RX0 2) (List.mem_filter.mp isX0).1)
  obtain ⟨c1, i1, h1⟩ := u_known (C := RX1) (T := TX1) (N := 18) (n := 18) hts (fun w hw => tb_r (e_ws1 w hw)) (hts (.instantiable RX1 18) (List.mem_filter.mp isX1).1)
  obtain ⟨c2, i2, h2⟩ := u_known (C := RX2) (T := TX2) (N := 3) (n := 3) hts (fun w hw => tb_r (e_ws2 w hw)) (hts (.instantiable RX2 3) (List.mem_filter.mp isX2).1)
  obtain ⟨c3, i3, h3⟩ := u_known (C := RX3) (T := TX3) (N := 5) (n := 5) hts (fun w hw => tb_r (e_ws3 w hw)) (hts (.instantiable RX3 5) (List.mem_filter.mp isX3).1)
  obtain ⟨c4, i4, h4⟩ := u_known (C := RX4) (T := TX4) (N := 9) (n := 9) hts (fun w hw => tb_r (e_ws4 w hw)) (hts (.instantiable RX4 9) (List.mem_filter.mp isX4).1)
  obtain ⟨c5, i5, h5⟩ := u_known (C := RX5) (T := TX5) (N := 42) (n := 42) hts (fun w hw => tb_r (e_ws5 w hw)) (hts (.instantiable RX5 42) (List.mem_filter.mp isX5).1)
  obtain ⟨cI, kI, pI, q1, q2, q3⟩ := Cond.arrayClass_spec (hts _ (tb_r e_ac1))
  obtain ⟨cJ, kJ, pJ, j1, j2, j3⟩ := Cond.arrayClass_spec (hts _ (tb_r e_ac2))
  obtain ⟨pS, cS, kS', r1, r2, r3, r4, r5⟩ := Cond.arrayOver_spec (hts _ (tb_r e_ac3))
  obtain ⟨cL, kL', pL, l1, l2, l3⟩ := aoL_spec (hts _ (tb_r e_ac4))
  refine ⟨(fun k => match k with | 0 => c0 | 1 => c1 | 2 => c2 | 3 => c3 | 4 => c4 | _ => c5, fun k => match k with | 0 => i0 | 1 => i1 | 2 => i2 | 3 => i3 | 4 => i4 | _ => i5), fun k => match k with | 0 => cI | 1 => cJ | 2 => cS | _ => cL, ?_, ?_⟩
  · intro c q hq
    match c, hq with
    | 0, hq => cases hq; exact h0
    | 1, hq => cases hq; exact h1
    | 2, hq => cases hq; exact h2
    | 3, hq => cases hq; exact h3
    | 4, hq => cases hq; exact h4
    | 5, hq => cases hq; exact h5
    | k + 6, hq => cases hq
  · intro k q hq
    match k, hq with
    | 0, hq => cases hq; exact ⟨arr_of q2 q3, q1⟩
    | 1, hq => cases hq; exact ⟨arr_of j2 j3, j1⟩
    | 2, hq => cases hq; exact ⟨arr_of r3 r4, kS', pS, r3, r4, r1, r5⟩
    | 3, hq => cases hq; exact ⟨arr_of l1 l2, l3⟩
    | k + 4, hq => cases hq
def teS (i : Nat) : Term := .string "OverTheBoards$Tape" ([31, 41, 93, 95, 97, 99, 101].getD i 0)
abbrev teV (i : Nat) : Term := .field (teS i) "java/lang/String" "value" "[B"
def gN : List Cond := flatC (Jvm.Cond.and given_1 narrow_1)
theorem e_ex : ∀ i, i < 7 → Cond.exactly (teS i) "java/lang/String" ∈ gN := by decide +kernel
theorem e_co : ∀ i, i < 7 → Cond.eq (.field (teS i) "java/lang/String" "coder" "B") (.int 0) ∈ gN := by decide +kernel
theorem e_ar : ∀ i, i < 7 → Cond.arrayOf (teV i) .byte ∈ gN := by decide +kernel
theorem e_le : ∀ i, i < 7 → Cond.eq (.length (teV i)) (.int (Int32.ofNat (strLen.getD i 0))) ∈ gN := by decide +kernel
theorem e_el : ∀ i, i < 7 → ∀ j, j < strLen.getD i 0 → Cond.eq (.elem (teV i) (.int (Int32.ofNat j))) (.int ((strByt.getD i []).getD j 0)) ∈ gN := by decide +kernel
theorem e_ne : ∀ i, i < 7 → ∀ j, j < 7 → i ≠ j → (Cond.not (Cond.eq (teS i) (teS j)) ∈ gN ∨ Cond.not (Cond.eq (teS j) (teS i)) ∈ gN) := by decide +kernel
theorem e_tl : ∀ j, j < 5 → Cond.eq (.elem (.static "OverTheBoards$Tape" "LEASTS" "[I") (.int (Int32.ofNat j))) (.int (leastsV j)) ∈ gN := by decide +kernel
theorem e_tm : ∀ j, j < 5 → Cond.eq (.elem (.static "OverTheBoards$Tape" "MOSTS" "[I") (.int (Int32.ofNat j))) (.int (mostsV j)) ∈ gN := by decide +kernel
theorem e_tl1 : Cond.arrayOf (.static "OverTheBoards$Tape" "LEASTS" "[I") .int ∈ gN := by decide +kernel
theorem e_tm1 : Cond.arrayOf (.static "OverTheBoards$Tape" "MOSTS" "[I") .int ∈ gN := by decide +kernel
theorem e_tl2 : Cond.eq (.length (.static "OverTheBoards$Tape" "LEASTS" "[I")) (.int (Int32.ofNat 5)) ∈ gN := by decide +kernel
theorem e_tm2 : Cond.eq (.length (.static "OverTheBoards$Tape" "MOSTS" "[I")) (.int (Int32.ofNat 5)) ∈ gN := by decide +kernel
theorem e_cs : Cond.eq (.static "java/lang/String" "COMPACT_STRINGS" "Z") (.int 1) ∈ gN := by decide +kernel
theorem e_sf : Cond.isRef (.static "jdk/internal/util/Preconditions" "SIOOBE_FORMATTER" "Ljava/util/function/BiFunction;") ∈ gN := by decide +kernel
theorem e_y1 : Cond.laysStatic "OverTheBoards$Tape" "LEASTS" "[I" ∈ tables_1 := by decide +kernel
theorem e_y2 : Cond.laysStatic "OverTheBoards$Tape" "MOSTS" "[I" ∈ tables_1 := by decide +kernel
theorem e_y3 : Cond.laysStatic "java/lang/String" "COMPACT_STRINGS" "Z" ∈ tables_1 := by decide +kernel
theorem e_y4 : Cond.laysStatic "jdk/internal/util/Preconditions" "SIOOBE_FORMATTER" "Ljava/util/function/BiFunction;" ∈ tables_1 := by decide +kernel
theorem e_n1 : Cond.initialized "OverTheBoards$Tape" ∈ tables_1 := by decide +kernel
theorem e_n2 : Cond.initialized "java/lang/String" ∈ tables_1 := by decide +kernel
theorem e_n3 : Cond.initialized "jdk/internal/util/Preconditions" ∈ tables_1 := by decide +kernel
theorem e_sr0 : Cond.stringRef "OverTheBoards$Tape" 31 "player" ∈ tables_1 := by decide +kernel
theorem e_sr1 : Cond.stringRef "OverTheBoards$Tape" 41 "line" ∈ tables_1 := by decide +kernel
theorem e_sr2 : Cond.stringRef "OverTheBoards$Tape" 93 "on" ∈ tables_1 := by decide +kernel
theorem e_sr3 : Cond.stringRef "OverTheBoards$Tape" 95 "third" ∈ tables_1 := by decide +kernel
theorem e_sr4 : Cond.stringRef "OverTheBoards$Tape" 97 "half" ∈ tables_1 := by decide +kernel
theorem e_sr5 : Cond.stringRef "OverTheBoards$Tape" 99 "theirs" ∈ tables_1 := by decide +kernel
theorem e_sr6 : Cond.stringRef "OverTheBoards$Tape" 101 "skate" ∈ tables_1 := by decide +kernel
theorem e_sr7 : Cond.stringRef "OverTheBoardsModel" 206 "player" ∈ tables_1 := by decide +kernel
theorem e_se7 : Cond.eq (teS 0) (.string "OverTheBoardsModel" 206) ∈ gN := by decide +kernel
theorem e_sr8 : Cond.stringRef "OverTheBoardsModel" 212 "line" ∈ tables_1 := by decide +kernel
theorem e_se8 : Cond.eq (teS 1) (.string "OverTheBoardsModel" 212) ∈ gN := by decide +kernel
theorem e_sr9 : Cond.stringRef "OverTheBoardsModel" 216 "on" ∈ tables_1 := by decide +kernel
theorem e_se9 : Cond.eq (teS 2) (.string "OverTheBoardsModel" 216) ∈ gN := by decide +kernel
theorem e_sr10 : Cond.stringRef "OverTheBoardsModel" 222 "third" ∈ tables_1 := by decide +kernel
theorem e_se10 : Cond.eq (teS 3) (.string "OverTheBoardsModel" 222) ∈ gN := by decide +kernel
theorem e_sr11 : Cond.stringRef "OverTheBoardsModel" 226 "half" ∈ tables_1 := by decide +kernel
theorem e_se11 : Cond.eq (teS 4) (.string "OverTheBoardsModel" 226) ∈ gN := by decide +kernel
theorem e_sr12 : Cond.stringRef "OverTheBoardsModel" 227 "theirs" ∈ tables_1 := by decide +kernel
theorem e_se12 : Cond.eq (teS 5) (.string "OverTheBoardsModel" 227) ∈ gN := by decide +kernel
theorem e_sr13 : Cond.stringRef "OverTheBoardsModel" 228 "skate" ∈ tables_1 := by decide +kernel
theorem e_se13 : Cond.eq (teS 6) (.string "OverTheBoardsModel" 228) ∈ gN := by decide +kernel
theorem e_Kx (l : Launch) {s : State} {A : Array Value} (hts : ∀ w ∈ lw_tbl, w.before A s = true) (hgv : (Jvm.Cond.and given_1 narrow_1).before A s = true) : ∃ K : Kx, kL K = l ∧ kS K = s ∧ Cx K s := by
  obtain ⟨D, C, hK⟩ := e_K hts
  have hs : ∀ w ∈ gN, w.before A s = true := flat_of_before _ hgv
  have hA : ∀ a : Nat, a < s.heap.size → ¬ (fun q : Nat => s.heap.size ≤ q) a := fun a h => Nat.not_le.mpr h
  obtain ⟨adK, adV, hS, hE⟩ := vk_Sof (A := fun q : Nat => s.heap.size ≤ q) (tm := teS) (len := strLen) (byt := strByt) (N := 7) (by decide) (fun i hi => hs _ (e_ex i hi)) (fun i hi => hs _ (e_co i hi)) (fun i hi => hs _ (e_ar i hi)) (fun i hi => hs _ (e_le i hi)) (fun i hi j hj => hs _ (e_el i hi j hj)) (fun i j hi hj h => (e_ne i hi j hj h).imp (hs _) (hs _)) hA
  obtain ⟨t7, h7, hT7⟩ := va_Tof (tm := .static "OverTheBoards$Tape" "LEASTS" "[I") (ty := .int) (N := 5) (f := fun j => .int (leastsV j)) (by decide) (hs _ e_tl1) (va_eqt (hs _ e_tl2)) (fun j hj => va_eqt (hs _ (e_tl j hj))) hA
  obtain ⟨t8, h8, hT8⟩ := va_Tof (tm := .static "OverTheBoards$Tape" "MOSTS" "[I") (ty := .int) (N := 5) (f := fun j => .int (mostsV j)) (by decide) (hs _ e_tm1) (va_eqt (hs _ e_tm2)) (fun j hj => va_eqt (hs _ (e_tm j hj))) hA
  refine ⟨(l, s, D, C, adK, fun i => if i = 7 then t7 else if i = 8 then t8 else adV i), rfl, rfl, Vm.Alike.refl _, fun w hw => ?_, fun i q hq => ?_, hK, va_AO.of (hts _ (tb_r e_ac3)), hts _ (tb_r e_ac4), ⟨fun i hi => ?_, hS.2⟩, ⟨?_, ?_⟩, ⟨?_, ?_⟩, va_Zof (hts _ (tb_r e_y3)) (hts _ (tb_r e_n2)) (va_eqi (hs _ e_cs)) hA, va_Zqof (hts _ (tb_r e_y4)) (hts _ (tb_r e_n3)) (hs _ e_sf) hA⟩
  · have h := List.mem_filter.mp hw
    have h2 := hts w (tb_r h.1)
    have h3 := h.2
    cases w <;> first | exact va_Nw.of rfl h2 | cases h3
  · match i, hq with
    | 0, hq => cases hq; exact vk_R.of (hts _ (tb_r e_sr0)) (hE 0 (by decide))
    | 1, hq => cases hq; exact vk_R.of (hts _ (tb_r e_sr1)) (hE 1 (by decide))
    | 2, hq => cases hq; exact vk_R.of (hts _ (tb_r e_sr2)) (hE 2 (by decide))
    | 3, hq => cases hq; exact vk_R.of (hts _ (tb_r e_sr3)) (hE 3 (by decide))
    | 4, hq => cases hq; exact vk_R.of (hts _ (tb_r e_sr4)) (hE 4 (by decide))
    | 5, hq => cases hq; exact vk_R.of (hts _ (tb_r e_sr5)) (hE 5 (by decide))
    | 6, hq => cases hq; exact vk_R.of (hts _ (tb_r e_sr6)) (hE 6 (by decide))
    | 7, hq => cases hq; exact vk_R.of (hts _ (tb_r e_sr7)) (va_eqR (hs _ e_se7) (hE 0 (by decide)))
    | 8, hq => cases hq; exact vk_R.of (hts _ (tb_r e_sr8)) (va_eqR (hs _ e_se8) (hE 1 (by decide)))
    | 9, hq => cases hq; exact vk_R.of (hts _ (tb_r e_sr9)) (va_eqR (hs _ e_se9) (hE 2 (by decide)))
    | 10, hq => cases hq; exact vk_R.of (hts _ (tb_r e_sr10)) (va_eqR (hs _ e_se10) (hE 3 (by decide)))
    | 11, hq => cases hq; exact vk_R.of (hts _ (tb_r e_sr11)) (va_eqR (hs _ e_se11) (hE 4 (by decide)))
    | 12, hq => cases hq; exact vk_R.of (hts _ (tb_r e_sr12)) (va_eqR (hs _ e_se12) (hE 5 (by decide)))
    | 13, hq => cases hq; exact vk_R.of (hts _ (tb_r e_sr13)) (va_eqR (hs _ e_se13) (hE 6 (by decide)))
    | k + 14, hq => cases hq
  · have h := hS.1 i hi
    show va_O _ _ _ _ _ ∧ va_OF _ _ _ _ _ _ _ _ ∧ va_OF _ _ _ (.ref (if i = 7 then t7 else if i = 8 then t8 else adV i)) _ _ _ _ ∧ va_T .byte (if i = 7 then t7 else if i = 8 then t8 else adV i) _ _ _ _ _
    rw [if_neg (by omega), if_neg (by omega)]
    exact h
  · exact va_Zof (hts _ (tb_r e_y1)) (hts _ (tb_r e_n1)) h7 hA
  · exact hT7
  · exact va_Zof (hts _ (tb_r e_y2)) (hts _ (tb_r e_n1)) h8 hA
  · exact hT8
