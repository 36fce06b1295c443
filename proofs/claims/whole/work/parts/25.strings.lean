/-! what was there ahead of the law: texts, static arrays -/
theorem loK {K : Kx} {H : Heap} (h : Lo K H) : ∀ a : Nat, a < (kS K).heap.size → ¬ fr K a → H[a]? = (kS K).heap[a]? := fun a ha _ => h.2 a ha
section OLD
variable {K : Kx} {M M' : Md} {d d' mc ms : Nat} {Q Q' : Qx} {pc idx n a : Nat} {L : List (Option Value)} {st st0 as rest : List Value} {w : Wd} {sz cc ss : Nat}
theorem N.gets {C nm ds : String} {v : Value} (hd : decode M.2.1 pc = .ok (.getstatic idx, 3)) (hl : Cond.fieldLink M.1.cls idx C nm ds ∈ gT) (hZ : Kok K → va_Z C nm ds v (fr K) (kS K) (kS K).heap) (kk : N K M d mc ms Q (pc + 3) L (v :: st) w sz cc ss) : N K M d mc ms Q pc L st w sz cc ss := by
  intro p e s m args below meth c H locs ls C_ hW hF hL hl_
  have Cx_ := C_.2.2.2.2.2.2.2.2.1
  obtain ⟨cf, kf, fi, f, a, cell, h1, h2, h3, h4, h5, h6, h7, h8⟩ := ((hZ Cx_.2.2.2).moved Cx_.1).kept (loK hW.2.1)
  exact W.gets C_.1 C_.2.1 C_.2.2.2.2.2.1 (C_.2.2.2.2.2.2.2.1 _ (List.mem_cons_of_mem _ hl)) h1 h2 h3 h4 h5 (fun e => by rw [e] at h6; cases h6) h7 rfl hd (kk p e s m args below meth c H locs ls C_ hW hF hL hl_)
theorem N.getsQ {C nm ds : String} (hd : decode M.2.1 pc = .ok (.getstatic idx, 3)) (hl : Cond.fieldLink M.1.cls idx C nm ds ∈ gT) (hZ : Kok K → va_Zq C nm ds (fr K) (kS K) (kS K).heap) (k1 : N K M d mc ms Q (pc + 3) L (.null :: st) w sz cc ss) (k2 : ∀ t, N K M d mc ms Q (pc + 3) L (.ref t :: st) w sz cc ss) : N K M d mc ms Q pc L st w sz cc ss := by
  intro p e s m args below meth c H locs ls C_ hW hF hL hl_
  rcases hZ C_.2.2.2.2.2.2.2.2.1.2.2.2 with h | ⟨t, h⟩
  · exact N.gets hd hl (fun _ => h) k1 p e s m args below meth c H locs ls C_ hW hF hL hl_
  · exact N.gets hd hl (fun _ => h) (k2 t) p e s m args below meth c H locs ls C_ hW hF hL hl_
theorem N.gfS {nm ds : String} {v : Value} (hd : decode M.2.1 pc = .ok (.getfield idx, 3)) (hl : Cond.fieldLink M.1.cls idx "java/lang/String" nm ds ∈ gT) (hE : Kok K → va_OF "java/lang/String" nm ds v a (fr K) (kS K) (kS K).heap) (kk : N K M d mc ms Q (pc + 3) L (v :: st) w sz cc ss) : N K M d mc ms Q pc L (.ref a :: st) w sz cc ss := by
  intro p e s m args below meth c H locs ls C_ hW hF hL hl_
  have Cx_ := C_.2.2.2.2.2.2.2.2.1
  obtain ⟨cf, k, fi, f, cell, h1, h2, h3, h4, h5, h6⟩ := ((hE Cx_.2.2.2).moved Cx_.1).kept (loK hW.2.1)
  exact W.getf C_.1 C_.2.1 C_.2.2.2.2.2.1 (C_.2.2.2.2.2.2.2.1 _ (List.mem_cons_of_mem _ hl)) h1 h2 h3 h4 (v := v) h5 rfl rfl hd (kk p e s m args below meth c H locs ls C_ hW hF hL hl_)
theorem N.baldT {f : Nat → Value} {i : Int32} (hd : decode M.2.1 pc = .ok (.baload, 1)) (hT : Kok K → va_T .byte a n f (fr K) (kS K) (kS K).heap) (hi : vp_in i n) (kk : N K M d mc ms Q (pc + 1) L (f i.toNatClampNeg :: st) w sz cc ss) : N K M d mc ms Q pc L (.int i :: .ref a :: st) w sz cc ss := by
  intro p e s m args below meth c H locs ls C_ hW hF hL hl_
  have Cx_ := C_.2.2.2.2.2.2.2.2.1
  obtain ⟨cell, h1, h2, h3, h4, h5, h6, h7⟩ := ((hT Cx_.2.2.2).moved Cx_.1).kept (loK hW.2.1)
  have hlt : i.toNatClampNeg < n := Nat.not_le.mp fun q => hi (Or.inr q)
  refine W.bald (v := f i.toNatClampNeg) C_.1 C_.2.1 h1 h2 h3 (fun q => ?_) (h6 _ hlt) rfl rfl hd (kk p e s m args below meth c H locs ls C_ hW hF hL hl_)
  rcases q with q | q
  · exact hi (Or.inl q)
  · omega
theorem N.ialdT {f : Nat → Value} {i : Int32} (hd : decode M.2.1 pc = .ok (.iaload, 1)) (hT : Kok K → va_T .int a n f (fr K) (kS K) (kS K).heap) (hi : vp_in i n) (kk : N K M d mc ms Q (pc + 1) L (f i.toNatClampNeg :: st) w sz cc ss) : N K M d mc ms Q pc L (.int i :: .ref a :: st) w sz cc ss := by
  intro p e s m args below meth c H locs ls C_ hW hF hL hl_
  have Cx_ := C_.2.2.2.2.2.2.2.2.1
  obtain ⟨cell, h1, h2, h3, h4, h5, h6, h7⟩ := ((hT Cx_.2.2.2).moved Cx_.1).kept (loK hW.2.1)
  have hlt : i.toNatClampNeg < n := Nat.not_le.mp fun q => hi (Or.inr q)
  refine W.iald (v := f i.toNatClampNeg) C_.1 C_.2.1 h1 h2 h3 (fun q => ?_) (h6 _ hlt) rfl rfl hd (kk p e s m args below meth c H locs ls C_ hW hF hL hl_)
  rcases q with q | q
  · exact hi (Or.inl q)
  · omega
theorem N.alenT {ty : FieldType} {f : Nat → Value} (hd : decode M.2.1 pc = .ok (.arraylength, 1)) (hT : Kok K → va_T ty a n f (fr K) (kS K) (kS K).heap) (kk : N K M d mc ms Q (pc + 1) L (.int (nI n) :: st) w sz cc ss) : N K M d mc ms Q pc L (.ref a :: st) w sz cc ss := by
  intro p e s m args below meth c H locs ls C_ hW hF hL hl_
  have Cx_ := C_.2.2.2.2.2.2.2.2.1
  obtain ⟨cell, h1, h2, h3, h4, h5, h6, h7⟩ := ((hT Cx_.2.2.2).moved Cx_.1).kept (loK hW.2.1)
  exact W.alen (n := Int32.ofNat n) C_.1 C_.2.1 h1 h2 h5 rfl rfl hd (kk p e s m args below meth c H locs ls C_ hW hF hL hl_)
/-- a call of a text's method -/
def MT (n : Nat) (M' : Md) : Prop := MC n M' ∧ M'.1.cls = "java/lang/String" ∧ Cond.instanceMethod M'.1 ∈ gT ∧ Cond.selects M'.1.cls M'.1 M'.1 ∈ gT
theorem N.callT {j : Nat} (hd : decode M.2.1 pc = .ok (.invokevirtual idx, 3)) (hM : MT n M') (hk : Cond.methodLink M.1.cls idx M'.1 ∈ gT) (hS : Sp K M' d' 0 0 (.ref (kA K j) :: as) w sz Q') (hj : j < 7) (hst : st0 = as.reverse ++ .ref (kA K j) :: rest) (hn : as.length = n) (hr : (rest.map fun v => v.category).sum ≤ 8) (hdd : d' + 1 ≤ d) (hc : cc ≤ mc) (hs : ss ≤ ms)
    (kk : ∀ r w' sz', Q' r w' sz' → N K M d mc ms Q (pc + 3) L (r.toList ++ rest) w' sz' cc ss) : N K M d mc ms Q pc L st0 w sz cc ss := by
  intro p e s m args below meth c H locs ls C hW hF hL hl
  obtain ⟨⟨m1, m2, m3, m4⟩, hC1, m5, m6⟩ := hM
  have hts := C.2.2.2.2.2.2.2.1
  have ok : ∀ x ∈ gT, x.before args s = true := fun x hx => hts x (List.mem_cons_of_mem _ hx)
  have Cx_ := C.2.2.2.2.2.2.2.2.1
  have S : CallFix p m c M.2.1 M.2.2.1 s args (mws M) M.1.cls := ⟨C.1, C.2.1, C.2.2.2.2.1, C.2.2.2.2.2.1, hts⟩
  obtain ⟨cell, g1, g2, g3, g4⟩ := ((Cx_.2.2.2.2.2.2.1.1 j hj).1.moved Cx_.1).kept (loK hW.2.1)
  have hpre : PreV s H "java/lang/String" (kA K j) (Pc_ K (.ref (kA K j) :: as) w sz) as := ⟨Pc_blind, ⟨cell, g1, g2, g3⟩, fun U hU hWm => ⟨rfl, Cx_.warm hWm, by rw [hU]; exact hW⟩⟩
  rw [← hC1] at hpre
  exact N.ofRun (mc' := 0) (ms' := 0) C hF hL hl (va_runV S hS ⟨callB_of n hts (mws_good m1) rfl rfl rfl (ok _ m3) (ok _ hk) m4 (rm_ok hdd m2), ok _ m5, ok _ m6⟩ hpre rfl hn hl.1 hst (lv_room hr) hd ⟨hc, hs⟩) kk
end OLD
theorem t_length : MT 0 mJ0_length_8abf5 := ⟨vJ0_length_8abf5, rfl, gm2 133 (by decide +kernel) rfl, gm2 134 (by decide +kernel) rfl⟩
theorem t_coder : MT 0 mJ0_coder_7d493 := ⟨vJ0_coder_7d493, rfl, gm2 137 (by decide +kernel) rfl, gm2 138 (by decide +kernel) rfl⟩
theorem t_charAt : MT 1 mJ0_charAt_5068e := ⟨vJ0_charAt_5068e, rfl, gm2 143 (by decide +kernel) rfl, gm2 144 (by decide +kernel) rfl⟩
theorem t_isLatin1 : MT 0 mJ0_isLatin1_aae02 := ⟨vJ0_isLatin1_aae02, rfl, gm2 147 (by decide +kernel) rfl, gm2 148 (by decide +kernel) rfl⟩
theorem tkX3_length : Cond.methodLink RX3 53 yJ0_length_8abf5 ∈ gT := gm2 132 (by decide +kernel) rfl
theorem tkX3_charAt : Cond.methodLink RX3 59 yJ0_charAt_5068e ∈ gT := gm2 142 (by decide +kernel) rfl
theorem tkX5_182 : Cond.methodLink RX5 182 yJ0_length_8abf5 ∈ gT := gm5 138 (by decide +kernel) rfl
theorem tkX5_188 : Cond.methodLink RX5 188 yJ0_charAt_5068e ∈ gT := gm5 139 (by decide +kernel) rfl
theorem tkJ0_335 : Cond.methodLink RJ0 335 yJ0_coder_7d493 ∈ gT := gm2 136 (by decide +kernel) rfl
theorem tkJ0_492 : Cond.methodLink RJ0 492 yJ0_isLatin1_aae02 ∈ gT := gm2 146 (by decide +kernel) rfl
theorem tf9 : Cond.fieldLink "java/lang/String" 9 "java/lang/String" "value" "[B" ∈ gT := gm6 191 (by decide +kernel) rfl
theorem tf15 : Cond.fieldLink "java/lang/String" 15 "java/lang/String" "coder" "B" ∈ gT := gm6 192 (by decide +kernel) rfl
theorem tf38 : Cond.fieldLink "java/lang/String" 38 "java/lang/String" "COMPACT_STRINGS" "Z" ∈ gT := gm2 140 (by decide +kernel) rfl
theorem tf1053 : Cond.fieldLink "java/lang/String" 1053 "jdk/internal/util/Preconditions" "SIOOBE_FORMATTER" "Ljava/util/function/BiFunction;" ∈ gT := gm2 156 (by decide +kernel) rfl
theorem tfLE : Cond.fieldLink "OverTheBoards$Tape" 106 "OverTheBoards$Tape" "LEASTS" "[I" ∈ gT := gm2 214 (by decide +kernel) rfl
theorem tfMO : Cond.fieldLink "OverTheBoards$Tape" 109 "OverTheBoards$Tape" "MOSTS" "[I" ∈ gT := gm2 216 (by decide +kernel) rfl
def sLen (j : Nat) : Nat := strLen.getD j 0
def sByt (j k : Nat) : Int32 := (strByt.getD j []).getD k 0
theorem kkS {K : Kx} {j : Nat} (hj : j < 7) (h : Kok K) : va_OF "java/lang/String" "coder" "B" (.int 0) (kA K j) (fr K) (kS K) (kS K).heap ∧ va_OF "java/lang/String" "value" "[B" (.ref (kB K j)) (kA K j) (fr K) (kS K) (kS K).heap ∧ va_T .byte (kB K j) (sLen j) (fun k => .int (sByt j k)) (fr K) (kS K) (kS K).heap := (h.2.2.2.1.1 j hj).2
theorem kkC {K : Kx} (h : Kok K) : va_Z "java/lang/String" "COMPACT_STRINGS" "Z" (.int 1) (fr K) (kS K) (kS K).heap := h.2.2.2.2.2.2.1
theorem kkQ {K : Kx} (h : Kok K) : va_Zq "jdk/internal/util/Preconditions" "SIOOBE_FORMATTER" "Ljava/util/function/BiFunction;" (fr K) (kS K) (kS K).heap := h.2.2.2.2.2.2.2
theorem kkL {K : Kx} (h : Kok K) : va_Z "OverTheBoards$Tape" "LEASTS" "[I" (.ref (kB K 7)) (fr K) (kS K) (kS K).heap ∧ va_T .int (kB K 7) 5 (fun j => .int (leastsV j)) (fr K) (kS K) (kS K).heap := h.2.2.2.2.1
theorem kkM {K : Kx} (h : Kok K) : va_Z "OverTheBoards$Tape" "MOSTS" "[I" (.ref (kB K 8)) (fr K) (kS K) (kS K).heap ∧ va_T .int (kB K 8) 5 (fun j => .int (mostsV j)) (fr K) (kS K) (kS K).heap := h.2.2.2.2.2.1
theorem sLen7 : ∀ j, j < 7 → sLen j ≤ 6 := by decide
set_option maxRecDepth 100000 in
theorem s_J0_coder_7d493 {K : Kx} (w : Wd) (sz j : Nat) (hj : j < 7) : Sp K mJ0_coder_7d493 0 0 0 [.ref (kA K j)] w sz (Qi fun r w' sz' => r = 0 ∧ w' = w ∧ sz' = sz) := by
  refine Sp.ofNF [some (.ref (kA K j))] rfl rfl rfl (Nat.le_of_ble_eq_true rfl) ?_
  refine N.gets dJ0_coder_7d493_0 tf38 kkC ?_
  refine N.if_eq (tgt := 13) dJ0_coder_7d493_3 (by decide) (fun c3 => absurd c3 (by decide)) (fun c3 => ?_)
  refine N.aload0 dJ0_coder_7d493_6 ?_
  refine N.gfS dJ0_coder_7d493_7 tf15 (fun h => (kkS hj h).1) ?_
  refine N.goto (tgt := 14) dJ0_coder_7d493_10 (by decide) ?_
  exact N.zret dJ0_coder_7d493_14 rfl rfl (Nat.zero_le _) (Nat.zero_le _) ⟨_, rfl, ⟨rfl, rfl, rfl⟩⟩
set_option maxRecDepth 100000 in
theorem s_J0_isLatin1_aae02 {K : Kx} (w : Wd) (sz j : Nat) (hj : j < 7) : Sp K mJ0_isLatin1_aae02 0 0 0 [.ref (kA K j)] w sz (Qi fun r w' sz' => r = 1 ∧ w' = w ∧ sz' = sz) := by
  refine Sp.ofNF [some (.ref (kA K j))] rfl rfl rfl (Nat.le_of_ble_eq_true rfl) ?_
  refine N.gets dJ0_isLatin1_aae02_0 tf38 kkC ?_
  refine N.if_eq (tgt := 17) dJ0_isLatin1_aae02_3 (by decide) (fun c3 => absurd c3 (by decide)) (fun c3 => ?_)
  refine N.aload0 dJ0_isLatin1_aae02_6 ?_
  refine N.gfS dJ0_isLatin1_aae02_7 tf15 (fun h => (kkS hj h).1) ?_
  refine N.if_ne (tgt := 17) dJ0_isLatin1_aae02_10 (by decide) (fun c10 => absurd (by decide) c10) (fun c10 => ?_)
  refine N.iconst (v := 1) dJ0_isLatin1_aae02_13 (by decide) ?_
  refine N.goto (tgt := 18) dJ0_isLatin1_aae02_14 (by decide) ?_
  exact N.zret dJ0_isLatin1_aae02_18 rfl rfl (Nat.zero_le _) (Nat.zero_le _) ⟨_, rfl, ⟨rfl, rfl, rfl⟩⟩
set_option maxRecDepth 100000 in
theorem s_J0_length_8abf5 {K : Kx} (w : Wd) (sz j : Nat) (hj : j < 7) : Sp K mJ0_length_8abf5 1 0 0 [.ref (kA K j)] w sz (Qi fun r w' sz' => r = nI (sLen j) ∧ w' = w ∧ sz' = sz) := by
  refine Sp.ofNF [some (.ref (kA K j))] rfl rfl rfl (Nat.le_of_ble_eq_true rfl) ?_
  refine N.aload0 dJ0_length_8abf5_0 ?_
  refine N.gfS dJ0_length_8abf5_1 tf9 (fun h => (kkS hj h).2.1) ?_
  refine N.alenT dJ0_length_8abf5_4 (fun h => (kkS hj h).2.2) ?_
  refine N.aload0 dJ0_length_8abf5_5 ?_
  refine N.callT dJ0_length_8abf5_6 t_coder tkJ0_335 (s_J0_coder_7d493 _ _ _ hj) hj rfl rfl (Nat.le_of_ble_eq_true rfl) (Nat.le_of_ble_eq_true rfl) (Nat.zero_le _) (Nat.zero_le _) ?_
  rintro _ _ _ ⟨_, rfl, rfl, rfl, rfl⟩
  simp only [Option.toList, List.singleton_append]
  refine N.ishr dJ0_length_8abf5_9 ?_
  exact N.iret dJ0_length_8abf5_10 rfl (Nat.zero_le _) (Nat.zero_le _) ⟨_, rfl, ⟨sc_shr0 (Nat.lt_of_le_of_lt (sLen7 j hj) (by decide)), rfl, rfl⟩⟩
set_option maxRecDepth 100000 in
set_option maxRecDepth 100000 in
theorem s_checkIndexN {K : Kx} (w : Wd) (sz t : Nat) (i n : Int32) (h0 : ¬ i < 0) (h1 : i < n) : Sp K mJ3_checkIndex_8e157 0 0 0 [.int i, .int n, .null] w sz (Qi fun r w' sz' => r = i ∧ w' = w ∧ sz' = sz) := by
  refine Sp.ofNF [some (.int i), some (.int n), some (.null)] rfl rfl rfl (Nat.le_of_ble_eq_true rfl) ?_
  refine N.iload0 dJ3_checkIndex_8e157_0 ?_
  refine N.if_lt (tgt := 9) dJ3_checkIndex_8e157_1 (by decide) (fun c1 => absurd c1 h0) (fun c1 => ?_)
  refine N.iload0 dJ3_checkIndex_8e157_4 ?_
  refine N.iload1 dJ3_checkIndex_8e157_5 ?_
  refine N.icmp_lt (tgt := 16) dJ3_checkIndex_8e157_6 (by decide) (fun c6 => ?_) (fun c6 => absurd h1 c6)
  refine N.iload0 dJ3_checkIndex_8e157_16 ?_
  exact N.iret dJ3_checkIndex_8e157_17 rfl (Nat.zero_le _) (Nat.zero_le _) ⟨_, rfl, ⟨rfl, rfl, rfl⟩⟩
set_option maxRecDepth 100000 in
theorem s_checkIndexR {K : Kx} (w : Wd) (sz t : Nat) (i n : Int32) (h0 : ¬ i < 0) (h1 : i < n) : Sp K mJ3_checkIndex_8e157 0 0 0 [.int i, .int n, .ref t] w sz (Qi fun r w' sz' => r = i ∧ w' = w ∧ sz' = sz) := by
  refine Sp.ofNF [some (.int i), some (.int n), some (.ref t)] rfl rfl rfl (Nat.le_of_ble_eq_true rfl) ?_
  refine N.iload0 dJ3_checkIndex_8e157_0 ?_
  refine N.if_lt (tgt := 9) dJ3_checkIndex_8e157_1 (by decide) (fun c1 => absurd c1 h0) (fun c1 => ?_)
  refine N.iload0 dJ3_checkIndex_8e157_4 ?_
  refine N.iload1 dJ3_checkIndex_8e157_5 ?_
  refine N.icmp_lt (tgt := 16) dJ3_checkIndex_8e157_6 (by decide) (fun c6 => ?_) (fun c6 => absurd h1 c6)
  refine N.iload0 dJ3_checkIndex_8e157_16 ?_
  exact N.iret dJ3_checkIndex_8e157_17 rfl (Nat.zero_le _) (Nat.zero_le _) ⟨_, rfl, ⟨rfl, rfl, rfl⟩⟩
theorem s_J0_checkIndex_df160 {K : Kx} (w : Wd) (sz : Nat) (i n : Int32) (h0 : ¬ i < 0) (h1 : i < n) : Sp K mJ0_checkIndex_df160 1 0 0 [.int i, .int n] w sz (Qv fun w' sz' => w' = w ∧ sz' = sz) := by
  refine Sp.ofNF [some (.int i), some (.int n)] rfl rfl rfl (Nat.le_of_ble_eq_true rfl) ?_
  refine N.iload0 dJ0_checkIndex_df160_0 ?_
  refine N.iload1 dJ0_checkIndex_df160_1 ?_
  refine N.getsQ dJ0_checkIndex_df160_2 tf1053 kkQ ?_ (fun t => ?_)
  · refine N.si3 dJ0_checkIndex_df160_5 vJ3_checkIndex_8e157 lkJ0_1059 (s_checkIndexN _ _ 0 _ _ h0 h1) rfl (Nat.le_of_ble_eq_true rfl) (Nat.le_of_ble_eq_true rfl) (Nat.zero_le _) (Nat.zero_le _) ?_
    rintro _ _ _ ⟨rfl, rfl, rfl⟩
    refine N.pop dJ0_checkIndex_df160_8 rfl ?_
    exact N.vret dJ0_checkIndex_df160_9 rfl (Nat.zero_le _) (Nat.zero_le _) ⟨rfl, rfl, rfl⟩
  · refine N.si3 dJ0_checkIndex_df160_5 vJ3_checkIndex_8e157 lkJ0_1059 (s_checkIndexR _ _ t _ _ h0 h1) rfl (Nat.le_of_ble_eq_true rfl) (Nat.le_of_ble_eq_true rfl) (Nat.zero_le _) (Nat.zero_le _) ?_
    rintro _ _ _ ⟨rfl, rfl, rfl⟩
    refine N.pop dJ0_checkIndex_df160_8 rfl ?_
    exact N.vret dJ0_checkIndex_df160_9 rfl (Nat.zero_le _) (Nat.zero_le _) ⟨rfl, rfl, rfl⟩
theorem sIn {j : Nat} {k : Int32} (hj : j < 7) (hk : vp_in k (sLen j)) : k < nI (sLen j) := by
  have h1 : ¬ k < 0 := fun q => hk (Or.inl q)
  have h2 : k.toNatClampNeg < sLen j := Nat.not_le.mp fun q => hk (Or.inr q)
  have h7 := sLen7 j hj
  obtain ⟨m, hm, rfl⟩ := nI_of h1
  rw [nI_clamp hm] at h2
  exact nI_lt h2 (by omega)
def chF (j : Nat) (k : Int32) : Int32 := sByt j k.toNatClampNeg &&& 255
set_option maxRecDepth 100000 in
theorem s_J1_charAt_3b067 {K : Kx} (w : Wd) (sz j : Nat) (hj : j < 7) (k : Int32) (hk : vp_in k (sLen j)) : Sp K mJ1_charAt_3b067 2 0 0 [.ref (kB K j), .int k] w sz (Qi fun r w' sz' => r = chF j k ∧ w' = w ∧ sz' = sz) := by
  refine Sp.ofNF [some (.ref (kB K j)), some (.int k)] rfl rfl rfl (Nat.le_of_ble_eq_true rfl) ?_
  refine N.iload1 dJ1_charAt_3b067_0 ?_
  refine N.aload0 dJ1_charAt_3b067_1 ?_
  refine N.alenT dJ1_charAt_3b067_2 (fun h => (kkS hj h).2.2) ?_
  refine N.sv2 dJ1_charAt_3b067_3 vJ0_checkIndex_df160 lkJ1_9 (s_J0_checkIndex_df160 _ _ _ _ (fun q => hk (Or.inl q)) (sIn hj hk)) rfl (Nat.le_of_ble_eq_true rfl) (Nat.le_of_ble_eq_true rfl) (Nat.zero_le _) (Nat.zero_le _) ?_
  rintro _ _ ⟨rfl, rfl⟩
  refine N.aload0 dJ1_charAt_3b067_6 ?_
  refine N.iload1 dJ1_charAt_3b067_7 ?_
  refine N.baldT dJ1_charAt_3b067_8 (fun h => (kkS hj h).2.2) hk ?_
  refine N.sipush (v := 255) dJ1_charAt_3b067_9 (by decide) ?_
  refine N.iand dJ1_charAt_3b067_12 ?_
  refine N.i2c dJ1_charAt_3b067_13 ?_
  exact N.zret dJ1_charAt_3b067_14 rfl (by rw [sc_c2]; exact sc_nar _) (Nat.zero_le _) (Nat.zero_le _) ⟨_, rfl, ⟨sc_c2 _, rfl, rfl⟩⟩
set_option maxRecDepth 100000 in
theorem s_J0_charAt_5068e {K : Kx} (w : Wd) (sz j : Nat) (hj : j < 7) (k : Int32) (hk : vp_in k (sLen j)) : Sp K mJ0_charAt_5068e 3 0 0 [.ref (kA K j), .int k] w sz (Qi fun r w' sz' => r = chF j k ∧ w' = w ∧ sz' = sz) := by
  refine Sp.ofNF [some (.ref (kA K j)), some (.int k)] rfl rfl rfl (Nat.le_of_ble_eq_true rfl) ?_
  refine N.aload0 dJ0_charAt_5068e_0 ?_
  refine N.callT dJ0_charAt_5068e_1 t_isLatin1 tkJ0_492 (s_J0_isLatin1_aae02 _ _ _ hj) hj rfl rfl (Nat.le_of_ble_eq_true rfl) (Nat.le_of_ble_eq_true rfl) (Nat.zero_le _) (Nat.zero_le _) ?_
  rintro _ _ _ ⟨_, rfl, rfl, rfl, rfl⟩
  simp only [Option.toList, List.singleton_append]
  refine N.if_eq (tgt := 16) dJ0_charAt_5068e_4 (by decide) (fun c4 => absurd c4 (by decide)) (fun c4 => ?_)
  refine N.aload0 dJ0_charAt_5068e_7 ?_
  refine N.gfS dJ0_charAt_5068e_8 tf9 (fun h => (kkS hj h).2.1) ?_
  refine N.iload1 dJ0_charAt_5068e_11 ?_
  refine N.si2 dJ0_charAt_5068e_12 vJ1_charAt_3b067 lkJ0_495 (s_J1_charAt_3b067 _ _ _ hj _ hk) rfl (Nat.le_of_ble_eq_true rfl) (Nat.le_of_ble_eq_true rfl) (Nat.zero_le _) (Nat.zero_le _) ?_
  rintro _ _ _ ⟨rfl, rfl, rfl⟩
  exact N.zret dJ0_charAt_5068e_15 rfl (sc_nar _) (Nat.zero_le _) (Nat.zero_le _) ⟨_, rfl, ⟨rfl, rfl, rfl⟩⟩
