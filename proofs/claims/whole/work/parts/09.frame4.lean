def Qi (P : Int32 → Wd → Nat → Prop) : Qx := fun r w sz => ∃ x, r = some (.int x) ∧ P x w sz
def Ql (P : Int64 → Wd → Nat → Prop) : Qx := fun r w sz => ∃ x, r = some (.long x) ∧ P x w sz
def Qa (P : Nat → Wd → Nat → Prop) : Qx := fun r w sz => ∃ x, r = some (.ref x) ∧ P x w sz
def Qv (P : Wd → Nat → Prop) : Qx := fun r w sz => r = none ∧ P w sz
section FC
variable {K : Kx} {M M' : Md} {d mc ms d' mc' ms' : Nat} {Q : Qx} {pc idx a : Nat} {L : List (Option Value)} {rest : List Value} {w : Wd} {sz cc ss n : Nat}
theorem N.eqW {w' : Wd} {st : List Value} (h : w = w') (k : N K M d mc ms Q pc L st w' sz cc ss) : N K M d mc ms Q pc L st w sz cc ss := h ▸ k
theorem N.eqS {st st' : List Value} (h : st = st') (k : N K M d mc ms Q pc L st' w sz cc ss) : N K M d mc ms Q pc L st w sz cc ss := h ▸ k
theorem N.eqL {L' : List (Option Value)} {st : List Value} (h : L = L') (k : N K M d mc ms Q pc L' st w sz cc ss) : N K M d mc ms Q pc L st w sz cc ss := h ▸ k
theorem N.vi0 {ci : Nat} {fs : List Value} {P : Int32 → Wd → Nat → Prop} (hd : decode M.2.1 pc = .ok (.invokevirtual idx, 3)) (hM : MV ci n M') (hk : LK M.1.cls idx M'.1) (hS : Sp K M' d' 0 0 (.ref a :: []) w sz (Qi P)) (hw : w a = some (.inr (ci, fs))) (hn : 0 = n) (hr : (rest.map fun v => v.category).sum ≤ 8) (hdd : d' + 1 ≤ d) (hc : cc ≤ mc) (hs : ss ≤ ms) (kk : ∀ (x : Int32) (w' : Wd) (sz' : Nat), P x w' sz' → N K M d mc ms Q (pc + 3) L (.int x :: rest) w' sz' cc ss) : N K M d mc ms Q pc L (.ref a :: rest) w sz cc ss := by
  refine N.callV hd hk hM hS hw rfl hn hr hdd hc hs ?_
  rintro r w' sz' ⟨x, rfl, hP⟩; exact kk x w' sz' hP
theorem N.vi1 {ci : Nat} {fs : List Value} {a1 : Value} {P : Int32 → Wd → Nat → Prop} (hd : decode M.2.1 pc = .ok (.invokevirtual idx, 3)) (hM : MV ci n M') (hk : LK M.1.cls idx M'.1) (hS : Sp K M' d' 0 0 (.ref a :: [a1]) w sz (Qi P)) (hw : w a = some (.inr (ci, fs))) (hn : 1 = n) (hr : (rest.map fun v => v.category).sum ≤ 8) (hdd : d' + 1 ≤ d) (hc : cc ≤ mc) (hs : ss ≤ ms) (kk : ∀ (x : Int32) (w' : Wd) (sz' : Nat), P x w' sz' → N K M d mc ms Q (pc + 3) L (.int x :: rest) w' sz' cc ss) : N K M d mc ms Q pc L (a1 :: .ref a :: rest) w sz cc ss := by
  refine N.callV hd hk hM hS hw rfl hn hr hdd hc hs ?_
  rintro r w' sz' ⟨x, rfl, hP⟩; exact kk x w' sz' hP
theorem N.vi2 {ci : Nat} {fs : List Value} {a1 a2 : Value} {P : Int32 → Wd → Nat → Prop} (hd : decode M.2.1 pc = .ok (.invokevirtual idx, 3)) (hM : MV ci n M') (hk : LK M.1.cls idx M'.1) (hS : Sp K M' d' 0 0 (.ref a :: [a1, a2]) w sz (Qi P)) (hw : w a = some (.inr (ci, fs))) (hn : 2 = n) (hr : (rest.map fun v => v.category).sum ≤ 8) (hdd : d' + 1 ≤ d) (hc : cc ≤ mc) (hs : ss ≤ ms) (kk : ∀ (x : Int32) (w' : Wd) (sz' : Nat), P x w' sz' → N K M d mc ms Q (pc + 3) L (.int x :: rest) w' sz' cc ss) : N K M d mc ms Q pc L (a2 :: a1 :: .ref a :: rest) w sz cc ss := by
  refine N.callV hd hk hM hS hw rfl hn hr hdd hc hs ?_
  rintro r w' sz' ⟨x, rfl, hP⟩; exact kk x w' sz' hP
theorem N.vi3 {ci : Nat} {fs : List Value} {a1 a2 a3 : Value} {P : Int32 → Wd → Nat → Prop} (hd : decode M.2.1 pc = .ok (.invokevirtual idx, 3)) (hM : MV ci n M') (hk : LK M.1.cls idx M'.1) (hS : Sp K M' d' 0 0 (.ref a :: [a1, a2, a3]) w sz (Qi P)) (hw : w a = some (.inr (ci, fs))) (hn : 3 = n) (hr : (rest.map fun v => v.category).sum ≤ 8) (hdd : d' + 1 ≤ d) (hc : cc ≤ mc) (hs : ss ≤ ms) (kk : ∀ (x : Int32) (w' : Wd) (sz' : Nat), P x w' sz' → N K M d mc ms Q (pc + 3) L (.int x :: rest) w' sz' cc ss) : N K M d mc ms Q pc L (a3 :: a2 :: a1 :: .ref a :: rest) w sz cc ss := by
  refine N.callV hd hk hM hS hw rfl hn hr hdd hc hs ?_
  rintro r w' sz' ⟨x, rfl, hP⟩; exact kk x w' sz' hP
theorem N.vi4 {ci : Nat} {fs : List Value} {a1 a2 a3 a4 : Value} {P : Int32 → Wd → Nat → Prop} (hd : decode M.2.1 pc = .ok (.invokevirtual idx, 3)) (hM : MV ci n M') (hk : LK M.1.cls idx M'.1) (hS : Sp K M' d' 0 0 (.ref a :: [a1, a2, a3, a4]) w sz (Qi P)) (hw : w a = some (.inr (ci, fs))) (hn : 4 = n) (hr : (rest.map fun v => v.category).sum ≤ 8) (hdd : d' + 1 ≤ d) (hc : cc ≤ mc) (hs : ss ≤ ms) (kk : ∀ (x : Int32) (w' : Wd) (sz' : Nat), P x w' sz' → N K M d mc ms Q (pc + 3) L (.int x :: rest) w' sz' cc ss) : N K M d mc ms Q pc L (a4 :: a3 :: a2 :: a1 :: .ref a :: rest) w sz cc ss := by
  refine N.callV hd hk hM hS hw rfl hn hr hdd hc hs ?_
  rintro r w' sz' ⟨x, rfl, hP⟩; exact kk x w' sz' hP
theorem N.vi5 {ci : Nat} {fs : List Value} {a1 a2 a3 a4 a5 : Value} {P : Int32 → Wd → Nat → Prop} (hd : decode M.2.1 pc = .ok (.invokevirtual idx, 3)) (hM : MV ci n M') (hk : LK M.1.cls idx M'.1) (hS : Sp K M' d' 0 0 (.ref a :: [a1, a2, a3, a4, a5]) w sz (Qi P)) (hw : w a = some (.inr (ci, fs))) (hn : 5 = n) (hr : (rest.map fun v => v.category).sum ≤ 8) (hdd : d' + 1 ≤ d) (hc : cc ≤ mc) (hs : ss ≤ ms) (kk : ∀ (x : Int32) (w' : Wd) (sz' : Nat), P x w' sz' → N K M d mc ms Q (pc + 3) L (.int x :: rest) w' sz' cc ss) : N K M d mc ms Q pc L (a5 :: a4 :: a3 :: a2 :: a1 :: .ref a :: rest) w sz cc ss := by
  refine N.callV hd hk hM hS hw rfl hn hr hdd hc hs ?_
  rintro r w' sz' ⟨x, rfl, hP⟩; exact kk x w' sz' hP
theorem N.vl0 {ci : Nat} {fs : List Value} {P : Int64 → Wd → Nat → Prop} (hd : decode M.2.1 pc = .ok (.invokevirtual idx, 3)) (hM : MV ci n M') (hk : LK M.1.cls idx M'.1) (hS : Sp K M' d' 0 0 (.ref a :: []) w sz (Ql P)) (hw : w a = some (.inr (ci, fs))) (hn : 0 = n) (hr : (rest.map fun v => v.category).sum ≤ 8) (hdd : d' + 1 ≤ d) (hc : cc ≤ mc) (hs : ss ≤ ms) (kk : ∀ (x : Int64) (w' : Wd) (sz' : Nat), P x w' sz' → N K M d mc ms Q (pc + 3) L (.long x :: rest) w' sz' cc ss) : N K M d mc ms Q pc L (.ref a :: rest) w sz cc ss := by
  refine N.callV hd hk hM hS hw rfl hn hr hdd hc hs ?_
  rintro r w' sz' ⟨x, rfl, hP⟩; exact kk x w' sz' hP
theorem N.vl1 {ci : Nat} {fs : List Value} {a1 : Value} {P : Int64 → Wd → Nat → Prop} (hd : decode M.2.1 pc = .ok (.invokevirtual idx, 3)) (hM : MV ci n M') (hk : LK M.1.cls idx M'.1) (hS : Sp K M' d' 0 0 (.ref a :: [a1]) w sz (Ql P)) (hw : w a = some (.inr (ci, fs))) (hn : 1 = n) (hr : (rest.map fun v => v.category).sum ≤ 8) (hdd : d' + 1 ≤ d) (hc : cc ≤ mc) (hs : ss ≤ ms) (kk : ∀ (x : Int64) (w' : Wd) (sz' : Nat), P x w' sz' → N K M d mc ms Q (pc + 3) L (.long x :: rest) w' sz' cc ss) : N K M d mc ms Q pc L (a1 :: .ref a :: rest) w sz cc ss := by
  refine N.callV hd hk hM hS hw rfl hn hr hdd hc hs ?_
  rintro r w' sz' ⟨x, rfl, hP⟩; exact kk x w' sz' hP
theorem N.vl2 {ci : Nat} {fs : List Value} {a1 a2 : Value} {P : Int64 → Wd → Nat → Prop} (hd : decode M.2.1 pc = .ok (.invokevirtual idx, 3)) (hM : MV ci n M') (hk : LK M.1.cls idx M'.1) (hS : Sp K M' d' 0 0 (.ref a :: [a1, a2]) w sz (Ql P)) (hw : w a = some (.inr (ci, fs))) (hn : 2 = n) (hr : (rest.map fun v => v.category).sum ≤ 8) (hdd : d' + 1 ≤ d) (hc : cc ≤ mc) (hs : ss ≤ ms) (kk : ∀ (x : Int64) (w' : Wd) (sz' : Nat), P x w' sz' → N K M d mc ms Q (pc + 3) L (.long x :: rest) w' sz' cc ss) : N K M d mc ms Q pc L (a2 :: a1 :: .ref a :: rest) w sz cc ss := by
  refine N.callV hd hk hM hS hw rfl hn hr hdd hc hs ?_
  rintro r w' sz' ⟨x, rfl, hP⟩; exact kk x w' sz' hP
theorem N.vl3 {ci : Nat} {fs : List Value} {a1 a2 a3 : Value} {P : Int64 → Wd → Nat → Prop} (hd : decode M.2.1 pc = .ok (.invokevirtual idx, 3)) (hM : MV ci n M') (hk : LK M.1.cls idx M'.1) (hS : Sp K M' d' 0 0 (.ref a :: [a1, a2, a3]) w sz (Ql P)) (hw : w a = some (.inr (ci, fs))) (hn : 3 = n) (hr : (rest.map fun v => v.category).sum ≤ 8) (hdd : d' + 1 ≤ d) (hc : cc ≤ mc) (hs : ss ≤ ms) (kk : ∀ (x : Int64) (w' : Wd) (sz' : Nat), P x w' sz' → N K M d mc ms Q (pc + 3) L (.long x :: rest) w' sz' cc ss) : N K M d mc ms Q pc L (a3 :: a2 :: a1 :: .ref a :: rest) w sz cc ss := by
  refine N.callV hd hk hM hS hw rfl hn hr hdd hc hs ?_
  rintro r w' sz' ⟨x, rfl, hP⟩; exact kk x w' sz' hP
theorem N.vl4 {ci : Nat} {fs : List Value} {a1 a2 a3 a4 : Value} {P : Int64 → Wd → Nat → Prop} (hd : decode M.2.1 pc = .ok (.invokevirtual idx, 3)) (hM : MV ci n M') (hk : LK M.1.cls idx M'.1) (hS : Sp K M' d' 0 0 (.ref a :: [a1, a2, a3, a4]) w sz (Ql P)) (hw : w a = some (.inr (ci, fs))) (hn : 4 = n) (hr : (rest.map fun v => v.category).sum ≤ 8) (hdd : d' + 1 ≤ d) (hc : cc ≤ mc) (hs : ss ≤ ms) (kk : ∀ (x : Int64) (w' : Wd) (sz' : Nat), P x w' sz' → N K M d mc ms Q (pc + 3) L (.long x :: rest) w' sz' cc ss) : N K M d mc ms Q pc L (a4 :: a3 :: a2 :: a1 :: .ref a :: rest) w sz cc ss := by
  refine N.callV hd hk hM hS hw rfl hn hr hdd hc hs ?_
  rintro r w' sz' ⟨x, rfl, hP⟩; exact kk x w' sz' hP
theorem N.vl5 {ci : Nat} {fs : List Value} {a1 a2 a3 a4 a5 : Value} {P : Int64 → Wd → Nat → Prop} (hd : decode M.2.1 pc = .ok (.invokevirtual idx, 3)) (hM : MV ci n M') (hk : LK M.1.cls idx M'.1) (hS : Sp K M' d' 0 0 (.ref a :: [a1, a2, a3, a4, a5]) w sz (Ql P)) (hw : w a = some (.inr (ci, fs))) (hn : 5 = n) (hr : (rest.map fun v => v.category).sum ≤ 8) (hdd : d' + 1 ≤ d) (hc : cc ≤ mc) (hs : ss ≤ ms) (kk : ∀ (x : Int64) (w' : Wd) (sz' : Nat), P x w' sz' → N K M d mc ms Q (pc + 3) L (.long x :: rest) w' sz' cc ss) : N K M d mc ms Q pc L (a5 :: a4 :: a3 :: a2 :: a1 :: .ref a :: rest) w sz cc ss := by
  refine N.callV hd hk hM hS hw rfl hn hr hdd hc hs ?_
  rintro r w' sz' ⟨x, rfl, hP⟩; exact kk x w' sz' hP
theorem N.vv0 {ci : Nat} {fs : List Value} {P : Wd → Nat → Prop} (hd : decode M.2.1 pc = .ok (.invokevirtual idx, 3)) (hM : MV ci n M') (hk : LK M.1.cls idx M'.1) (hS : Sp K M' d' 0 0 (.ref a :: []) w sz (Qv P)) (hw : w a = some (.inr (ci, fs))) (hn : 0 = n) (hr : (rest.map fun v => v.category).sum ≤ 8) (hdd : d' + 1 ≤ d) (hc : cc ≤ mc) (hs : ss ≤ ms) (kk : ∀ (w' : Wd) (sz' : Nat), P w' sz' → N K M d mc ms Q (pc + 3) L rest w' sz' cc ss) : N K M d mc ms Q pc L (.ref a :: rest) w sz cc ss := by
  refine N.callV hd hk hM hS hw rfl hn hr hdd hc hs ?_
  rintro r w' sz' ⟨rfl, hP⟩; exact kk w' sz' hP
theorem N.vv1 {ci : Nat} {fs : List Value} {a1 : Value} {P : Wd → Nat → Prop} (hd : decode M.2.1 pc = .ok (.invokevirtual idx, 3)) (hM : MV ci n M') (hk : LK M.1.cls idx M'.1) (hS : Sp K M' d' 0 0 (.ref a :: [a1]) w sz (Qv P)) (hw : w a = some (.inr (ci, fs))) (hn : 1 = n) (hr : (rest.map fun v => v.category).sum ≤ 8) (hdd : d' + 1 ≤ d) (hc : cc ≤ mc) (hs : ss ≤ ms) (kk : ∀ (w' : Wd) (sz' : Nat), P w' sz' → N K M d mc ms Q (pc + 3) L rest w' sz' cc ss) : N K M d mc ms Q pc L (a1 :: .ref a :: rest) w sz cc ss := by
  refine N.callV hd hk hM hS hw rfl hn hr hdd hc hs ?_
  rintro r w' sz' ⟨rfl, hP⟩; exact kk w' sz' hP
theorem N.vv2 {ci : Nat} {fs : List Value} {a1 a2 : Value} {P : Wd → Nat → Prop} (hd : decode M.2.1 pc = .ok (.invokevirtual idx, 3)) (hM : MV ci n M') (hk : LK M.1.cls idx M'.1) (hS : Sp K M' d' 0 0 (.ref a :: [a1, a2]) w sz (Qv P)) (hw : w a = some (.inr (ci, fs))) (hn : 2 = n) (hr : (rest.map fun v => v.category).sum ≤ 8) (hdd : d' + 1 ≤ d) (hc : cc ≤ mc) (hs : ss ≤ ms) (kk : ∀ (w' : Wd) (sz' : Nat), P w' sz' → N K M d mc ms Q (pc + 3) L rest w' sz' cc ss) : N K M d mc ms Q pc L (a2 :: a1 :: .ref a :: rest) w sz cc ss := by
  refine N.callV hd hk hM hS hw rfl hn hr hdd hc hs ?_
  rintro r w' sz' ⟨rfl, hP⟩; exact kk w' sz' hP
theorem N.vv3 {ci : Nat} {fs : List Value} {a1 a2 a3 : Value} {P : Wd → Nat → Prop} (hd : decode M.2.1 pc = .ok (.invokevirtual idx, 3)) (hM : MV ci n M') (hk : LK M.1.cls idx M'.1) (hS : Sp K M' d' 0 0 (.ref a :: [a1, a2, a3]) w sz (Qv P)) (hw : w a = some (.inr (ci, fs))) (hn : 3 = n) (hr : (rest.map fun v => v.category).sum ≤ 8) (hdd : d' + 1 ≤ d) (hc : cc ≤ mc) (hs : ss ≤ ms) (kk : ∀ (w' : Wd) (sz' : Nat), P w' sz' → N K M d mc ms Q (pc + 3) L rest w' sz' cc ss) : N K M d mc ms Q pc L (a3 :: a2 :: a1 :: .ref a :: rest) w sz cc ss := by
  refine N.callV hd hk hM hS hw rfl hn hr hdd hc hs ?_
  rintro r w' sz' ⟨rfl, hP⟩; exact kk w' sz' hP
theorem N.vv4 {ci : Nat} {fs : List Value} {a1 a2 a3 a4 : Value} {P : Wd → Nat → Prop} (hd : decode M.2.1 pc = .ok (.invokevirtual idx, 3)) (hM : MV ci n M') (hk : LK M.1.cls idx M'.1) (hS : Sp K M' d' 0 0 (.ref a :: [a1, a2, a3, a4]) w sz (Qv P)) (hw : w a = some (.inr (ci, fs))) (hn : 4 = n) (hr : (rest.map fun v => v.category).sum ≤ 8) (hdd : d' + 1 ≤ d) (hc : cc ≤ mc) (hs : ss ≤ ms) (kk : ∀ (w' : Wd) (sz' : Nat), P w' sz' → N K M d mc ms Q (pc + 3) L rest w' sz' cc ss) : N K M d mc ms Q pc L (a4 :: a3 :: a2 :: a1 :: .ref a :: rest) w sz cc ss := by
  refine N.callV hd hk hM hS hw rfl hn hr hdd hc hs ?_
  rintro r w' sz' ⟨rfl, hP⟩; exact kk w' sz' hP
theorem N.vv5 {ci : Nat} {fs : List Value} {a1 a2 a3 a4 a5 : Value} {P : Wd → Nat → Prop} (hd : decode M.2.1 pc = .ok (.invokevirtual idx, 3)) (hM : MV ci n M') (hk : LK M.1.cls idx M'.1) (hS : Sp K M' d' 0 0 (.ref a :: [a1, a2, a3, a4, a5]) w sz (Qv P)) (hw : w a = some (.inr (ci, fs))) (hn : 5 = n) (hr : (rest.map fun v => v.category).sum ≤ 8) (hdd : d' + 1 ≤ d) (hc : cc ≤ mc) (hs : ss ≤ ms) (kk : ∀ (w' : Wd) (sz' : Nat), P w' sz' → N K M d mc ms Q (pc + 3) L rest w' sz' cc ss) : N K M d mc ms Q pc L (a5 :: a4 :: a3 :: a2 :: a1 :: .ref a :: rest) w sz cc ss := by
  refine N.callV hd hk hM hS hw rfl hn hr hdd hc hs ?_
  rintro r w' sz' ⟨rfl, hP⟩; exact kk w' sz' hP
theorem N.va0 {ci : Nat} {fs : List Value} {P : Nat → Wd → Nat → Prop} (hd : decode M.2.1 pc = .ok (.invokevirtual idx, 3)) (hM : MV ci n M') (hk : LK M.1.cls idx M'.1) (hS : Sp K M' d' 0 0 (.ref a :: []) w sz (Qa P)) (hw : w a = some (.inr (ci, fs))) (hn : 0 = n) (hr : (rest.map fun v => v.category).sum ≤ 8) (hdd : d' + 1 ≤ d) (hc : cc ≤ mc) (hs : ss ≤ ms) (kk : ∀ (x : Nat) (w' : Wd) (sz' : Nat), P x w' sz' → N K M d mc ms Q (pc + 3) L (.ref x :: rest) w' sz' cc ss) : N K M d mc ms Q pc L (.ref a :: rest) w sz cc ss := by
  refine N.callV hd hk hM hS hw rfl hn hr hdd hc hs ?_
  rintro r w' sz' ⟨x, rfl, hP⟩; exact kk x w' sz' hP
theorem N.va1 {ci : Nat} {fs : List Value} {a1 : Value} {P : Nat → Wd → Nat → Prop} (hd : decode M.2.1 pc = .ok (.invokevirtual idx, 3)) (hM : MV ci n M') (hk : LK M.1.cls idx M'.1) (hS : Sp K M' d' 0 0 (.ref a :: [a1]) w sz (Qa P)) (hw : w a = some (.inr (ci, fs))) (hn : 1 = n) (hr : (rest.map fun v => v.category).sum ≤ 8) (hdd : d' + 1 ≤ d) (hc : cc ≤ mc) (hs : ss ≤ ms) (kk : ∀ (x : Nat) (w' : Wd) (sz' : Nat), P x w' sz' → N K M d mc ms Q (pc + 3) L (.ref x :: rest) w' sz' cc ss) : N K M d mc ms Q pc L (a1 :: .ref a :: rest) w sz cc ss := by
  refine N.callV hd hk hM hS hw rfl hn hr hdd hc hs ?_
  rintro r w' sz' ⟨x, rfl, hP⟩; exact kk x w' sz' hP
theorem N.va2 {ci : Nat} {fs : List Value} {a1 a2 : Value} {P : Nat → Wd → Nat → Prop} (hd : decode M.2.1 pc = .ok (.invokevirtual idx, 3)) (hM : MV ci n M') (hk : LK M.1.cls idx M'.1) (hS : Sp K M' d' 0 0 (.ref a :: [a1, a2]) w sz (Qa P)) (hw : w a = some (.inr (ci, fs))) (hn : 2 = n) (hr : (rest.map fun v => v.category).sum ≤ 8) (hdd : d' + 1 ≤ d) (hc : cc ≤ mc) (hs : ss ≤ ms) (kk : ∀ (x : Nat) (w' : Wd) (sz' : Nat), P x w' sz' → N K M d mc ms Q (pc + 3) L (.ref x :: rest) w' sz' cc ss) : N K M d mc ms Q pc L (a2 :: a1 :: .ref a :: rest) w sz cc ss := by
  refine N.callV hd hk hM hS hw rfl hn hr hdd hc hs ?_
  rintro r w' sz' ⟨x, rfl, hP⟩; exact kk x w' sz' hP
theorem N.va3 {ci : Nat} {fs : List Value} {a1 a2 a3 : Value} {P : Nat → Wd → Nat → Prop} (hd : decode M.2.1 pc = .ok (.invokevirtual idx, 3)) (hM : MV ci n M') (hk : LK M.1.cls idx M'.1) (hS : Sp K M' d' 0 0 (.ref a :: [a1, a2, a3]) w sz (Qa P)) (hw : w a = some (.inr (ci, fs))) (hn : 3 = n) (hr : (rest.map fun v => v.category).sum ≤ 8) (hdd : d' + 1 ≤ d) (hc : cc ≤ mc) (hs : ss ≤ ms) (kk : ∀ (x : Nat) (w' : Wd) (sz' : Nat), P x w' sz' → N K M d mc ms Q (pc + 3) L (.ref x :: rest) w' sz' cc ss) : N K M d mc ms Q pc L (a3 :: a2 :: a1 :: .ref a :: rest) w sz cc ss := by
  refine N.callV hd hk hM hS hw rfl hn hr hdd hc hs ?_
  rintro r w' sz' ⟨x, rfl, hP⟩; exact kk x w' sz' hP
theorem N.va4 {ci : Nat} {fs : List Value} {a1 a2 a3 a4 : Value} {P : Nat → Wd → Nat → Prop} (hd : decode M.2.1 pc = .ok (.invokevirtual idx, 3)) (hM : MV ci n M') (hk : LK M.1.cls idx M'.1) (hS : Sp K M' d' 0 0 (.ref a :: [a1, a2, a3, a4]) w sz (Qa P)) (hw : w a = some (.inr (ci, fs))) (hn : 4 = n) (hr : (rest.map fun v => v.category).sum ≤ 8) (hdd : d' + 1 ≤ d) (hc : cc ≤ mc) (hs : ss ≤ ms) (kk : ∀ (x : Nat) (w' : Wd) (sz' : Nat), P x w' sz' → N K M d mc ms Q (pc + 3) L (.ref x :: rest) w' sz' cc ss) : N K M d mc ms Q pc L (a4 :: a3 :: a2 :: a1 :: .ref a :: rest) w sz cc ss := by
  refine N.callV hd hk hM hS hw rfl hn hr hdd hc hs ?_
  rintro r w' sz' ⟨x, rfl, hP⟩; exact kk x w' sz' hP
theorem N.va5 {ci : Nat} {fs : List Value} {a1 a2 a3 a4 a5 : Value} {P : Nat → Wd → Nat → Prop} (hd : decode M.2.1 pc = .ok (.invokevirtual idx, 3)) (hM : MV ci n M') (hk : LK M.1.cls idx M'.1) (hS : Sp K M' d' 0 0 (.ref a :: [a1, a2, a3, a4, a5]) w sz (Qa P)) (hw : w a = some (.inr (ci, fs))) (hn : 5 = n) (hr : (rest.map fun v => v.category).sum ≤ 8) (hdd : d' + 1 ≤ d) (hc : cc ≤ mc) (hs : ss ≤ ms) (kk : ∀ (x : Nat) (w' : Wd) (sz' : Nat), P x w' sz' → N K M d mc ms Q (pc + 3) L (.ref x :: rest) w' sz' cc ss) : N K M d mc ms Q pc L (a5 :: a4 :: a3 :: a2 :: a1 :: .ref a :: rest) w sz cc ss := by
  refine N.callV hd hk hM hS hw rfl hn hr hdd hc hs ?_
  rintro r w' sz' ⟨x, rfl, hP⟩; exact kk x w' sz' hP
theorem N.si0 {P : Int32 → Wd → Nat → Prop} (hd : decode M.2.1 pc = .ok (.invokestatic idx, 3)) (hM : MS n M') (hk : LK M.1.cls idx M'.1) (hS : Sp K M' d' 0 0 ([]) w sz (Qi P)) (hn : 0 = n) (hr : (rest.map fun v => v.category).sum ≤ 8) (hdd : d' + 1 ≤ d) (hc : cc ≤ mc) (hs : ss ≤ ms) (kk : ∀ (x : Int32) (w' : Wd) (sz' : Nat), P x w' sz' → N K M d mc ms Q (pc + 3) L (.int x :: rest) w' sz' cc ss) : N K M d mc ms Q pc L (rest) w sz cc ss := by
  refine N.callS hd hk hM hS rfl hn hr hdd hc hs ?_
  rintro r w' sz' ⟨x, rfl, hP⟩; exact kk x w' sz' hP
theorem N.si1 {a1 : Value} {P : Int32 → Wd → Nat → Prop} (hd : decode M.2.1 pc = .ok (.invokestatic idx, 3)) (hM : MS n M') (hk : LK M.1.cls idx M'.1) (hS : Sp K M' d' 0 0 ([a1]) w sz (Qi P)) (hn : 1 = n) (hr : (rest.map fun v => v.category).sum ≤ 8) (hdd : d' + 1 ≤ d) (hc : cc ≤ mc) (hs : ss ≤ ms) (kk : ∀ (x : Int32) (w' : Wd) (sz' : Nat), P x w' sz' → N K M d mc ms Q (pc + 3) L (.int x :: rest) w' sz' cc ss) : N K M d mc ms Q pc L (a1 :: rest) w sz cc ss := by
  refine N.callS hd hk hM hS rfl hn hr hdd hc hs ?_
  rintro r w' sz' ⟨x, rfl, hP⟩; exact kk x w' sz' hP
theorem N.si2 {a1 a2 : Value} {P : Int32 → Wd → Nat → Prop} (hd : decode M.2.1 pc = .ok (.invokestatic idx, 3)) (hM : MS n M') (hk : LK M.1.cls idx M'.1) (hS : Sp K M' d' 0 0 ([a1, a2]) w sz (Qi P)) (hn : 2 = n) (hr : (rest.map fun v => v.category).sum ≤ 8) (hdd : d' + 1 ≤ d) (hc : cc ≤ mc) (hs : ss ≤ ms) (kk : ∀ (x : Int32) (w' : Wd) (sz' : Nat), P x w' sz' → N K M d mc ms Q (pc + 3) L (.int x :: rest) w' sz' cc ss) : N K M d mc ms Q pc L (a2 :: a1 :: rest) w sz cc ss := by
  refine N.callS hd hk hM hS rfl hn hr hdd hc hs ?_
  rintro r w' sz' ⟨x, rfl, hP⟩; exact kk x w' sz' hP
theorem N.si3 {a1 a2 a3 : Value} {P : Int32 → Wd → Nat → Prop} (hd : decode M.2.1 pc = .ok (.invokestatic idx, 3)) (hM : MS n M') (hk : LK M.1.cls idx M'.1) (hS : Sp K M' d' 0 0 ([a1, a2, a3]) w sz (Qi P)) (hn : 3 = n) (hr : (rest.map fun v => v.category).sum ≤ 8) (hdd : d' + 1 ≤ d) (hc : cc ≤ mc) (hs : ss ≤ ms) (kk : ∀ (x : Int32) (w' : Wd) (sz' : Nat), P x w' sz' → N K M d mc ms Q (pc + 3) L (.int x :: rest) w' sz' cc ss) : N K M d mc ms Q pc L (a3 :: a2 :: a1 :: rest) w sz cc ss := by
  refine N.callS hd hk hM hS rfl hn hr hdd hc hs ?_
  rintro r w' sz' ⟨x, rfl, hP⟩; exact kk x w' sz' hP
theorem N.si4 {a1 a2 a3 a4 : Value} {P : Int32 → Wd → Nat → Prop} (hd : decode M.2.1 pc = .ok (.invokestatic idx, 3)) (hM : MS n M') (hk : LK M.1.cls idx M'.1) (hS : Sp K M' d' 0 0 ([a1, a2, a3, a4]) w sz (Qi P)) (hn : 4 = n) (hr : (rest.map fun v => v.category).sum ≤ 8) (hdd : d' + 1 ≤ d) (hc : cc ≤ mc) (hs : ss ≤ ms) (kk : ∀ (x : Int32) (w' : Wd) (sz' : Nat), P x w' sz' → N K M d mc ms Q (pc + 3) L (.int x :: rest) w' sz' cc ss) : N K M d mc ms Q pc L (a4 :: a3 :: a2 :: a1 :: rest) w sz cc ss := by
  refine N.callS hd hk hM hS rfl hn hr hdd hc hs ?_
  rintro r w' sz' ⟨x, rfl, hP⟩; exact kk x w' sz' hP
theorem N.si5 {a1 a2 a3 a4 a5 : Value} {P : Int32 → Wd → Nat → Prop} (hd : decode M.2.1 pc = .ok (.invokestatic idx, 3)) (hM : MS n M') (hk : LK M.1.cls idx M'.1) (hS : Sp K M' d' 0 0 ([a1, a2, a3, a4, a5]) w sz (Qi P)) (hn : 5 = n) (hr : (rest.map fun v => v.category).sum ≤ 8) (hdd : d' + 1 ≤ d) (hc : cc ≤ mc) (hs : ss ≤ ms) (kk : ∀ (x : Int32) (w' : Wd) (sz' : Nat), P x w' sz' → N K M d mc ms Q (pc + 3) L (.int x :: rest) w' sz' cc ss) : N K M d mc ms Q pc L (a5 :: a4 :: a3 :: a2 :: a1 :: rest) w sz cc ss := by
  refine N.callS hd hk hM hS rfl hn hr hdd hc hs ?_
  rintro r w' sz' ⟨x, rfl, hP⟩; exact kk x w' sz' hP
theorem N.sl0 {P : Int64 → Wd → Nat → Prop} (hd : decode M.2.1 pc = .ok (.invokestatic idx, 3)) (hM : MS n M') (hk : LK M.1.cls idx M'.1) (hS : Sp K M' d' 0 0 ([]) w sz (Ql P)) (hn : 0 = n) (hr : (rest.map fun v => v.category).sum ≤ 8) (hdd : d' + 1 ≤ d) (hc : cc ≤ mc) (hs : ss ≤ ms) (kk : ∀ (x : Int64) (w' : Wd) (sz' : Nat), P x w' sz' → N K M d mc ms Q (pc + 3) L (.long x :: rest) w' sz' cc ss) : N K M d mc ms Q pc L (rest) w sz cc ss := by
  refine N.callS hd hk hM hS rfl hn hr hdd hc hs ?_
  rintro r w' sz' ⟨x, rfl, hP⟩; exact kk x w' sz' hP
theorem N.sl1 {a1 : Value} {P : Int64 → Wd → Nat → Prop} (hd : decode M.2.1 pc = .ok (.invokestatic idx, 3)) (hM : MS n M') (hk : LK M.1.cls idx M'.1) (hS : Sp K M' d' 0 0 ([a1]) w sz (Ql P)) (hn : 1 = n) (hr : (rest.map fun v => v.category).sum ≤ 8) (hdd : d' + 1 ≤ d) (hc : cc ≤ mc) (hs : ss ≤ ms) (kk : ∀ (x : Int64) (w' : Wd) (sz' : Nat), P x w' sz' → N K M d mc ms Q (pc + 3) L (.long x :: rest) w' sz' cc ss) : N K M d mc ms Q pc L (a1 :: rest) w sz cc ss := by
  refine N.callS hd hk hM hS rfl hn hr hdd hc hs ?_
  rintro r w' sz' ⟨x, rfl, hP⟩; exact kk x w' sz' hP
theorem N.sl2 {a1 a2 : Value} {P : Int64 → Wd → Nat → Prop} (hd : decode M.2.1 pc = .ok (.invokestatic idx, 3)) (hM : MS n M') (hk : LK M.1.cls idx M'.1) (hS : Sp K M' d' 0 0 ([a1, a2]) w sz (Ql P)) (hn : 2 = n) (hr : (rest.map fun v => v.category).sum ≤ 8) (hdd : d' + 1 ≤ d) (hc : cc ≤ mc) (hs : ss ≤ ms) (kk : ∀ (x : Int64) (w' : Wd) (sz' : Nat), P x w' sz' → N K M d mc ms Q (pc + 3) L (.long x :: rest) w' sz' cc ss) : N K M d mc ms Q pc L (a2 :: a1 :: rest) w sz cc ss := by
  refine N.callS hd hk hM hS rfl hn hr hdd hc hs ?_
  rintro r w' sz' ⟨x, rfl, hP⟩; exact kk x w' sz' hP
theorem N.sl3 {a1 a2 a3 : Value} {P : Int64 → Wd → Nat → Prop} (hd : decode M.2.1 pc = .ok (.invokestatic idx, 3)) (hM : MS n M') (hk : LK M.1.cls idx M'.1) (hS : Sp K M' d' 0 0 ([a1, a2, a3]) w sz (Ql P)) (hn : 3 = n) (hr : (rest.map fun v => v.category).sum ≤ 8) (hdd : d' + 1 ≤ d) (hc : cc ≤ mc) (hs : ss ≤ ms) (kk : ∀ (x : Int64) (w' : Wd) (sz' : Nat), P x w' sz' → N K M d mc ms Q (pc + 3) L (.long x :: rest) w' sz' cc ss) : N K M d mc ms Q pc L (a3 :: a2 :: a1 :: rest) w sz cc ss := by
  refine N.callS hd hk hM hS rfl hn hr hdd hc hs ?_
  rintro r w' sz' ⟨x, rfl, hP⟩; exact kk x w' sz' hP
theorem N.sl4 {a1 a2 a3 a4 : Value} {P : Int64 → Wd → Nat → Prop} (hd : decode M.2.1 pc = .ok (.invokestatic idx, 3)) (hM : MS n M') (hk : LK M.1.cls idx M'.1) (hS : Sp K M' d' 0 0 ([a1, a2, a3, a4]) w sz (Ql P)) (hn : 4 = n) (hr : (rest.map fun v => v.category).sum ≤ 8) (hdd : d' + 1 ≤ d) (hc : cc ≤ mc) (hs : ss ≤ ms) (kk : ∀ (x : Int64) (w' : Wd) (sz' : Nat), P x w' sz' → N K M d mc ms Q (pc + 3) L (.long x :: rest) w' sz' cc ss) : N K M d mc ms Q pc L (a4 :: a3 :: a2 :: a1 :: rest) w sz cc ss := by
  refine N.callS hd hk hM hS rfl hn hr hdd hc hs ?_
  rintro r w' sz' ⟨x, rfl, hP⟩; exact kk x w' sz' hP
theorem N.sl5 {a1 a2 a3 a4 a5 : Value} {P : Int64 → Wd → Nat → Prop} (hd : decode M.2.1 pc = .ok (.invokestatic idx, 3)) (hM : MS n M') (hk : LK M.1.cls idx M'.1) (hS : Sp K M' d' 0 0 ([a1, a2, a3, a4, a5]) w sz (Ql P)) (hn : 5 = n) (hr : (rest.map fun v => v.category).sum ≤ 8) (hdd : d' + 1 ≤ d) (hc : cc ≤ mc) (hs : ss ≤ ms) (kk : ∀ (x : Int64) (w' : Wd) (sz' : Nat), P x w' sz' → N K M d mc ms Q (pc + 3) L (.long x :: rest) w' sz' cc ss) : N K M d mc ms Q pc L (a5 :: a4 :: a3 :: a2 :: a1 :: rest) w sz cc ss := by
  refine N.callS hd hk hM hS rfl hn hr hdd hc hs ?_
  rintro r w' sz' ⟨x, rfl, hP⟩; exact kk x w' sz' hP
theorem N.sv0 {P : Wd → Nat → Prop} (hd : decode M.2.1 pc = .ok (.invokestatic idx, 3)) (hM : MS n M') (hk : LK M.1.cls idx M'.1) (hS : Sp K M' d' 0 0 ([]) w sz (Qv P)) (hn : 0 = n) (hr : (rest.map fun v => v.category).sum ≤ 8) (hdd : d' + 1 ≤ d) (hc : cc ≤ mc) (hs : ss ≤ ms) (kk : ∀ (w' : Wd) (sz' : Nat), P w' sz' → N K M d mc ms Q (pc + 3) L rest w' sz' cc ss) : N K M d mc ms Q pc L (rest) w sz cc ss := by
  refine N.callS hd hk hM hS rfl hn hr hdd hc hs ?_
  rintro r w' sz' ⟨rfl, hP⟩; exact kk w' sz' hP
theorem N.sv1 {a1 : Value} {P : Wd → Nat → Prop} (hd : decode M.2.1 pc = .ok (.invokestatic idx, 3)) (hM : MS n M') (hk : LK M.1.cls idx M'.1) (hS : Sp K M' d' 0 0 ([a1]) w sz (Qv P)) (hn : 1 = n) (hr : (rest.map fun v => v.category).sum ≤ 8) (hdd : d' + 1 ≤ d) (hc : cc ≤ mc) (hs : ss ≤ ms) (kk : ∀ (w' : Wd) (sz' : Nat), P w' sz' → N K M d mc ms Q (pc + 3) L rest w' sz' cc ss) : N K M d mc ms Q pc L (a1 :: rest) w sz cc ss := by
  refine N.callS hd hk hM hS rfl hn hr hdd hc hs ?_
  rintro r w' sz' ⟨rfl, hP⟩; exact kk w' sz' hP
theorem N.sv2 {a1 a2 : Value} {P : Wd → Nat → Prop} (hd : decode M.2.1 pc = .ok (.invokestatic idx, 3)) (hM : MS n M') (hk : LK M.1.cls idx M'.1) (hS : Sp K M' d' 0 0 ([a1, a2]) w sz (Qv P)) (hn : 2 = n) (hr : (rest.map fun v => v.category).sum ≤ 8) (hdd : d' + 1 ≤ d) (hc : cc ≤ mc) (hs : ss ≤ ms) (kk : ∀ (w' : Wd) (sz' : Nat), P w' sz' → N K M d mc ms Q (pc + 3) L rest w' sz' cc ss) : N K M d mc ms Q pc L (a2 :: a1 :: rest) w sz cc ss := by
  refine N.callS hd hk hM hS rfl hn hr hdd hc hs ?_
  rintro r w' sz' ⟨rfl, hP⟩; exact kk w' sz' hP
theorem N.sv3 {a1 a2 a3 : Value} {P : Wd → Nat → Prop} (hd : decode M.2.1 pc = .ok (.invokestatic idx, 3)) (hM : MS n M') (hk : LK M.1.cls idx M'.1) (hS : Sp K M' d' 0 0 ([a1, a2, a3]) w sz (Qv P)) (hn : 3 = n) (hr : (rest.map fun v => v.category).sum ≤ 8) (hdd : d' + 1 ≤ d) (hc : cc ≤ mc) (hs : ss ≤ ms) (kk : ∀ (w' : Wd) (sz' : Nat), P w' sz' → N K M d mc ms Q (pc + 3) L rest w' sz' cc ss) : N K M d mc ms Q pc L (a3 :: a2 :: a1 :: rest) w sz cc ss := by
  refine N.callS hd hk hM hS rfl hn hr hdd hc hs ?_
  rintro r w' sz' ⟨rfl, hP⟩; exact kk w' sz' hP
theorem N.sv4 {a1 a2 a3 a4 : Value} {P : Wd → Nat → Prop} (hd : decode M.2.1 pc = .ok (.invokestatic idx, 3)) (hM : MS n M') (hk : LK M.1.cls idx M'.1) (hS : Sp K M' d' 0 0 ([a1, a2, a3, a4]) w sz (Qv P)) (hn : 4 = n) (hr : (rest.map fun v => v.category).sum ≤ 8) (hdd : d' + 1 ≤ d) (hc : cc ≤ mc) (hs : ss ≤ ms) (kk : ∀ (w' : Wd) (sz' : Nat), P w' sz' → N K M d mc ms Q (pc + 3) L rest w' sz' cc ss) : N K M d mc ms Q pc L (a4 :: a3 :: a2 :: a1 :: rest) w sz cc ss := by
  refine N.callS hd hk hM hS rfl hn hr hdd hc hs ?_
  rintro r w' sz' ⟨rfl, hP⟩; exact kk w' sz' hP
theorem N.sv5 {a1 a2 a3 a4 a5 : Value} {P : Wd → Nat → Prop} (hd : decode M.2.1 pc = .ok (.invokestatic idx, 3)) (hM : MS n M') (hk : LK M.1.cls idx M'.1) (hS : Sp K M' d' 0 0 ([a1, a2, a3, a4, a5]) w sz (Qv P)) (hn : 5 = n) (hr : (rest.map fun v => v.category).sum ≤ 8) (hdd : d' + 1 ≤ d) (hc : cc ≤ mc) (hs : ss ≤ ms) (kk : ∀ (w' : Wd) (sz' : Nat), P w' sz' → N K M d mc ms Q (pc + 3) L rest w' sz' cc ss) : N K M d mc ms Q pc L (a5 :: a4 :: a3 :: a2 :: a1 :: rest) w sz cc ss := by
  refine N.callS hd hk hM hS rfl hn hr hdd hc hs ?_
  rintro r w' sz' ⟨rfl, hP⟩; exact kk w' sz' hP
theorem N.sa0 {P : Nat → Wd → Nat → Prop} (hd : decode M.2.1 pc = .ok (.invokestatic idx, 3)) (hM : MS n M') (hk : LK M.1.cls idx M'.1) (hS : Sp K M' d' 0 0 ([]) w sz (Qa P)) (hn : 0 = n) (hr : (rest.map fun v => v.category).sum ≤ 8) (hdd : d' + 1 ≤ d) (hc : cc ≤ mc) (hs : ss ≤ ms) (kk : ∀ (x : Nat) (w' : Wd) (sz' : Nat), P x w' sz' → N K M d mc ms Q (pc + 3) L (.ref x :: rest) w' sz' cc ss) : N K M d mc ms Q pc L (rest) w sz cc ss := by
  refine N.callS hd hk hM hS rfl hn hr hdd hc hs ?_
  rintro r w' sz' ⟨x, rfl, hP⟩; exact kk x w' sz' hP
theorem N.sa1 {a1 : Value} {P : Nat → Wd → Nat → Prop} (hd : decode M.2.1 pc = .ok (.invokestatic idx, 3)) (hM : MS n M') (hk : LK M.1.cls idx M'.1) (hS : Sp K M' d' 0 0 ([a1]) w sz (Qa P)) (hn : 1 = n) (hr : (rest.map fun v => v.category).sum ≤ 8) (hdd : d' + 1 ≤ d) (hc : cc ≤ mc) (hs : ss ≤ ms) (kk : ∀ (x : Nat) (w' : Wd) (sz' : Nat), P x w' sz' → N K M d mc ms Q (pc + 3) L (.ref x :: rest) w' sz' cc ss) : N K M d mc ms Q pc L (a1 :: rest) w sz cc ss := by
  refine N.callS hd hk hM hS rfl hn hr hdd hc hs ?_
  rintro r w' sz' ⟨x, rfl, hP⟩; exact kk x w' sz' hP
theorem N.sa2 {a1 a2 : Value} {P : Nat → Wd → Nat → Prop} (hd : decode M.2.1 pc = .ok (.invokestatic idx, 3)) (hM : MS n M') (hk : LK M.1.cls idx M'.1) (hS : Sp K M' d' 0 0 ([a1, a2]) w sz (Qa P)) (hn : 2 = n) (hr : (rest.map fun v => v.category).sum ≤ 8) (hdd : d' + 1 ≤ d) (hc : cc ≤ mc) (hs : ss ≤ ms) (kk : ∀ (x : Nat) (w' : Wd) (sz' : Nat), P x w' sz' → N K M d mc ms Q (pc + 3) L (.ref x :: rest) w' sz' cc ss) : N K M d mc ms Q pc L (a2 :: a1 :: rest) w sz cc ss := by
  refine N.callS hd hk hM hS rfl hn hr hdd hc hs ?_
  rintro r w' sz' ⟨x, rfl, hP⟩; exact kk x w' sz' hP
theorem N.sa3 {a1 a2 a3 : Value} {P : Nat → Wd → Nat → Prop} (hd : decode M.2.1 pc = .ok (.invokestatic idx, 3)) (hM : MS n M') (hk : LK M.1.cls idx M'.1) (hS : Sp K M' d' 0 0 ([a1, a2, a3]) w sz (Qa P)) (hn : 3 = n) (hr : (rest.map fun v => v.category).sum ≤ 8) (hdd : d' + 1 ≤ d) (hc : cc ≤ mc) (hs : ss ≤ ms) (kk : ∀ (x : Nat) (w' : Wd) (sz' : Nat), P x w' sz' → N K M d mc ms Q (pc + 3) L (.ref x :: rest) w' sz' cc ss) : N K M d mc ms Q pc L (a3 :: a2 :: a1 :: rest) w sz cc ss := by
  refine N.callS hd hk hM hS rfl hn hr hdd hc hs ?_
  rintro r w' sz' ⟨x, rfl, hP⟩; exact kk x w' sz' hP
theorem N.sa4 {a1 a2 a3 a4 : Value} {P : Nat → Wd → Nat → Prop} (hd : decode M.2.1 pc = .ok (.invokestatic idx, 3)) (hM : MS n M') (hk : LK M.1.cls idx M'.1) (hS : Sp K M' d' 0 0 ([a1, a2, a3, a4]) w sz (Qa P)) (hn : 4 = n) (hr : (rest.map fun v => v.category).sum ≤ 8) (hdd : d' + 1 ≤ d) (hc : cc ≤ mc) (hs : ss ≤ ms) (kk : ∀ (x : Nat) (w' : Wd) (sz' : Nat), P x w' sz' → N K M d mc ms Q (pc + 3) L (.ref x :: rest) w' sz' cc ss) : N K M d mc ms Q pc L (a4 :: a3 :: a2 :: a1 :: rest) w sz cc ss := by
  refine N.callS hd hk hM hS rfl hn hr hdd hc hs ?_
  rintro r w' sz' ⟨x, rfl, hP⟩; exact kk x w' sz' hP
theorem N.sa5 {a1 a2 a3 a4 a5 : Value} {P : Nat → Wd → Nat → Prop} (hd : decode M.2.1 pc = .ok (.invokestatic idx, 3)) (hM : MS n M') (hk : LK M.1.cls idx M'.1) (hS : Sp K M' d' 0 0 ([a1, a2, a3, a4, a5]) w sz (Qa P)) (hn : 5 = n) (hr : (rest.map fun v => v.category).sum ≤ 8) (hdd : d' + 1 ≤ d) (hc : cc ≤ mc) (hs : ss ≤ ms) (kk : ∀ (x : Nat) (w' : Wd) (sz' : Nat), P x w' sz' → N K M d mc ms Q (pc + 3) L (.ref x :: rest) w' sz' cc ss) : N K M d mc ms Q pc L (a5 :: a4 :: a3 :: a2 :: a1 :: rest) w sz cc ss := by
  refine N.callS hd hk hM hS rfl hn hr hdd hc hs ?_
  rintro r w' sz' ⟨x, rfl, hP⟩; exact kk x w' sz' hP
theorem N.iv0 {P : Wd → Nat → Prop} (hd : decode M.2.1 pc = .ok (.invokespecial idx, 3)) (hM : MI n M') (hk : LK M.1.cls idx M'.1) (hS : Sp K M' d' 0 0 (.ref a :: []) w sz (Qv P)) (hn : 0 = n) (hr : (rest.map fun v => v.category).sum ≤ 8) (hdd : d' + 1 ≤ d) (hc : cc ≤ mc) (hs : ss ≤ ms) (kk : ∀ (w' : Wd) (sz' : Nat), P w' sz' → N K M d mc ms Q (pc + 3) L rest w' sz' cc ss) : N K M d mc ms Q pc L (.ref a :: rest) w sz cc ss := by
  refine N.callI hd hk hM hS rfl hn hr hdd hc hs ?_
  rintro r w' sz' ⟨rfl, hP⟩; exact kk w' sz' hP
theorem N.iv1 {a1 : Value} {P : Wd → Nat → Prop} (hd : decode M.2.1 pc = .ok (.invokespecial idx, 3)) (hM : MI n M') (hk : LK M.1.cls idx M'.1) (hS : Sp K M' d' 0 0 (.ref a :: [a1]) w sz (Qv P)) (hn : 1 = n) (hr : (rest.map fun v => v.category).sum ≤ 8) (hdd : d' + 1 ≤ d) (hc : cc ≤ mc) (hs : ss ≤ ms) (kk : ∀ (w' : Wd) (sz' : Nat), P w' sz' → N K M d mc ms Q (pc + 3) L rest w' sz' cc ss) : N K M d mc ms Q pc L (a1 :: .ref a :: rest) w sz cc ss := by
  refine N.callI hd hk hM hS rfl hn hr hdd hc hs ?_
  rintro r w' sz' ⟨rfl, hP⟩; exact kk w' sz' hP
theorem N.iv2 {a1 a2 : Value} {P : Wd → Nat → Prop} (hd : decode M.2.1 pc = .ok (.invokespecial idx, 3)) (hM : MI n M') (hk : LK M.1.cls idx M'.1) (hS : Sp K M' d' 0 0 (.ref a :: [a1, a2]) w sz (Qv P)) (hn : 2 = n) (hr : (rest.map fun v => v.category).sum ≤ 8) (hdd : d' + 1 ≤ d) (hc : cc ≤ mc) (hs : ss ≤ ms) (kk : ∀ (w' : Wd) (sz' : Nat), P w' sz' → N K M d mc ms Q (pc + 3) L rest w' sz' cc ss) : N K M d mc ms Q pc L (a2 :: a1 :: .ref a :: rest) w sz cc ss := by
  refine N.callI hd hk hM hS rfl hn hr hdd hc hs ?_
  rintro r w' sz' ⟨rfl, hP⟩; exact kk w' sz' hP
theorem N.iv3 {a1 a2 a3 : Value} {P : Wd → Nat → Prop} (hd : decode M.2.1 pc = .ok (.invokespecial idx, 3)) (hM : MI n M') (hk : LK M.1.cls idx M'.1) (hS : Sp K M' d' 0 0 (.ref a :: [a1, a2, a3]) w sz (Qv P)) (hn : 3 = n) (hr : (rest.map fun v => v.category).sum ≤ 8) (hdd : d' + 1 ≤ d) (hc : cc ≤ mc) (hs : ss ≤ ms) (kk : ∀ (w' : Wd) (sz' : Nat), P w' sz' → N K M d mc ms Q (pc + 3) L rest w' sz' cc ss) : N K M d mc ms Q pc L (a3 :: a2 :: a1 :: .ref a :: rest) w sz cc ss := by
  refine N.callI hd hk hM hS rfl hn hr hdd hc hs ?_
  rintro r w' sz' ⟨rfl, hP⟩; exact kk w' sz' hP
theorem N.iv4 {a1 a2 a3 a4 : Value} {P : Wd → Nat → Prop} (hd : decode M.2.1 pc = .ok (.invokespecial idx, 3)) (hM : MI n M') (hk : LK M.1.cls idx M'.1) (hS : Sp K M' d' 0 0 (.ref a :: [a1, a2, a3, a4]) w sz (Qv P)) (hn : 4 = n) (hr : (rest.map fun v => v.category).sum ≤ 8) (hdd : d' + 1 ≤ d) (hc : cc ≤ mc) (hs : ss ≤ ms) (kk : ∀ (w' : Wd) (sz' : Nat), P w' sz' → N K M d mc ms Q (pc + 3) L rest w' sz' cc ss) : N K M d mc ms Q pc L (a4 :: a3 :: a2 :: a1 :: .ref a :: rest) w sz cc ss := by
  refine N.callI hd hk hM hS rfl hn hr hdd hc hs ?_
  rintro r w' sz' ⟨rfl, hP⟩; exact kk w' sz' hP
theorem N.iv5 {a1 a2 a3 a4 a5 : Value} {P : Wd → Nat → Prop} (hd : decode M.2.1 pc = .ok (.invokespecial idx, 3)) (hM : MI n M') (hk : LK M.1.cls idx M'.1) (hS : Sp K M' d' 0 0 (.ref a :: [a1, a2, a3, a4, a5]) w sz (Qv P)) (hn : 5 = n) (hr : (rest.map fun v => v.category).sum ≤ 8) (hdd : d' + 1 ≤ d) (hc : cc ≤ mc) (hs : ss ≤ ms) (kk : ∀ (w' : Wd) (sz' : Nat), P w' sz' → N K M d mc ms Q (pc + 3) L rest w' sz' cc ss) : N K M d mc ms Q pc L (a5 :: a4 :: a3 :: a2 :: a1 :: .ref a :: rest) w sz cc ss := by
  refine N.callI hd hk hM hS rfl hn hr hdd hc hs ?_
  rintro r w' sz' ⟨rfl, hP⟩; exact kk w' sz' hP
theorem N.vi0A {ci : Nat} {fs : List Value} {P : Int32 → Wd → Nat → Prop} (hd : decode M.2.1 pc = .ok (.invokevirtual idx, 3)) (hM : MV ci n M') (hk : LK M.1.cls idx M'.1) (hS : Sp K M' d' mc' ms' (.ref a :: []) w sz (Qi P)) (hw : w a = some (.inr (ci, fs))) (hn : 0 = n) (hr : (rest.map fun v => v.category).sum ≤ 8) (hdd : d' + 1 ≤ d) (hc : cc + mc' ≤ mc) (hs : ss + ms' ≤ ms) (kk : ∀ (x : Int32) (w' : Wd) (sz' : Nat), P x w' sz' → N K M d mc ms Q (pc + 3) L (.int x :: rest) w' sz' (cc + mc') (ss + ms')) : N K M d mc ms Q pc L (.ref a :: rest) w sz cc ss := by
  refine N.callV hd hk hM hS hw rfl hn hr hdd hc hs ?_
  rintro r w' sz' ⟨x, rfl, hP⟩; exact kk x w' sz' hP
theorem N.vi1A {ci : Nat} {fs : List Value} {a1 : Value} {P : Int32 → Wd → Nat → Prop} (hd : decode M.2.1 pc = .ok (.invokevirtual idx, 3)) (hM : MV ci n M') (hk : LK M.1.cls idx M'.1) (hS : Sp K M' d' mc' ms' (.ref a :: [a1]) w sz (Qi P)) (hw : w a = some (.inr (ci, fs))) (hn : 1 = n) (hr : (rest.map fun v => v.category).sum ≤ 8) (hdd : d' + 1 ≤ d) (hc : cc + mc' ≤ mc) (hs : ss + ms' ≤ ms) (kk : ∀ (x : Int32) (w' : Wd) (sz' : Nat), P x w' sz' → N K M d mc ms Q (pc + 3) L (.int x :: rest) w' sz' (cc + mc') (ss + ms')) : N K M d mc ms Q pc L (a1 :: .ref a :: rest) w sz cc ss := by
  refine N.callV hd hk hM hS hw rfl hn hr hdd hc hs ?_
  rintro r w' sz' ⟨x, rfl, hP⟩; exact kk x w' sz' hP
theorem N.vi2A {ci : Nat} {fs : List Value} {a1 a2 : Value} {P : Int32 → Wd → Nat → Prop} (hd : decode M.2.1 pc = .ok (.invokevirtual idx, 3)) (hM : MV ci n M') (hk : LK M.1.cls idx M'.1) (hS : Sp K M' d' mc' ms' (.ref a :: [a1, a2]) w sz (Qi P)) (hw : w a = some (.inr (ci, fs))) (hn : 2 = n) (hr : (rest.map fun v => v.category).sum ≤ 8) (hdd : d' + 1 ≤ d) (hc : cc + mc' ≤ mc) (hs : ss + ms' ≤ ms) (kk : ∀ (x : Int32) (w' : Wd) (sz' : Nat), P x w' sz' → N K M d mc ms Q (pc + 3) L (.int x :: rest) w' sz' (cc + mc') (ss + ms')) : N K M d mc ms Q pc L (a2 :: a1 :: .ref a :: rest) w sz cc ss := by
  refine N.callV hd hk hM hS hw rfl hn hr hdd hc hs ?_
  rintro r w' sz' ⟨x, rfl, hP⟩; exact kk x w' sz' hP
theorem N.vi3A {ci : Nat} {fs : List Value} {a1 a2 a3 : Value} {P : Int32 → Wd → Nat → Prop} (hd : decode M.2.1 pc = .ok (.invokevirtual idx, 3)) (hM : MV ci n M') (hk : LK M.1.cls idx M'.1) (hS : Sp K M' d' mc' ms' (.ref a :: [a1, a2, a3]) w sz (Qi P)) (hw : w a = some (.inr (ci, fs))) (hn : 3 = n) (hr : (rest.map fun v => v.category).sum ≤ 8) (hdd : d' + 1 ≤ d) (hc : cc + mc' ≤ mc) (hs : ss + ms' ≤ ms) (kk : ∀ (x : Int32) (w' : Wd) (sz' : Nat), P x w' sz' → N K M d mc ms Q (pc + 3) L (.int x :: rest) w' sz' (cc + mc') (ss + ms')) : N K M d mc ms Q pc L (a3 :: a2 :: a1 :: .ref a :: rest) w sz cc ss := by
  refine N.callV hd hk hM hS hw rfl hn hr hdd hc hs ?_
  rintro r w' sz' ⟨x, rfl, hP⟩; exact kk x w' sz' hP
theorem N.vi4A {ci : Nat} {fs : List Value} {a1 a2 a3 a4 : Value} {P : Int32 → Wd → Nat → Prop} (hd : decode M.2.1 pc = .ok (.invokevirtual idx, 3)) (hM : MV ci n M') (hk : LK M.1.cls idx M'.1) (hS : Sp K M' d' mc' ms' (.ref a :: [a1, a2, a3, a4]) w sz (Qi P)) (hw : w a = some (.inr (ci, fs))) (hn : 4 = n) (hr : (rest.map fun v => v.category).sum ≤ 8) (hdd : d' + 1 ≤ d) (hc : cc + mc' ≤ mc) (hs : ss + ms' ≤ ms) (kk : ∀ (x : Int32) (w' : Wd) (sz' : Nat), P x w' sz' → N K M d mc ms Q (pc + 3) L (.int x :: rest) w' sz' (cc + mc') (ss + ms')) : N K M d mc ms Q pc L (a4 :: a3 :: a2 :: a1 :: .ref a :: rest) w sz cc ss := by
  refine N.callV hd hk hM hS hw rfl hn hr hdd hc hs ?_
  rintro r w' sz' ⟨x, rfl, hP⟩; exact kk x w' sz' hP
theorem N.vl0A {ci : Nat} {fs : List Value} {P : Int64 → Wd → Nat → Prop} (hd : decode M.2.1 pc = .ok (.invokevirtual idx, 3)) (hM : MV ci n M') (hk : LK M.1.cls idx M'.1) (hS : Sp K M' d' mc' ms' (.ref a :: []) w sz (Ql P)) (hw : w a = some (.inr (ci, fs))) (hn : 0 = n) (hr : (rest.map fun v => v.category).sum ≤ 8) (hdd : d' + 1 ≤ d) (hc : cc + mc' ≤ mc) (hs : ss + ms' ≤ ms) (kk : ∀ (x : Int64) (w' : Wd) (sz' : Nat), P x w' sz' → N K M d mc ms Q (pc + 3) L (.long x :: rest) w' sz' (cc + mc') (ss + ms')) : N K M d mc ms Q pc L (.ref a :: rest) w sz cc ss := by
  refine N.callV hd hk hM hS hw rfl hn hr hdd hc hs ?_
  rintro r w' sz' ⟨x, rfl, hP⟩; exact kk x w' sz' hP
theorem N.vl1A {ci : Nat} {fs : List Value} {a1 : Value} {P : Int64 → Wd → Nat → Prop} (hd : decode M.2.1 pc = .ok (.invokevirtual idx, 3)) (hM : MV ci n M') (hk : LK M.1.cls idx M'.1) (hS : Sp K M' d' mc' ms' (.ref a :: [a1]) w sz (Ql P)) (hw : w a = some (.inr (ci, fs))) (hn : 1 = n) (hr : (rest.map fun v => v.category).sum ≤ 8) (hdd : d' + 1 ≤ d) (hc : cc + mc' ≤ mc) (hs : ss + ms' ≤ ms) (kk : ∀ (x : Int64) (w' : Wd) (sz' : Nat), P x w' sz' → N K M d mc ms Q (pc + 3) L (.long x :: rest) w' sz' (cc + mc') (ss + ms')) : N K M d mc ms Q pc L (a1 :: .ref a :: rest) w sz cc ss := by
  refine N.callV hd hk hM hS hw rfl hn hr hdd hc hs ?_
  rintro r w' sz' ⟨x, rfl, hP⟩; exact kk x w' sz' hP
theorem N.vl2A {ci : Nat} {fs : List Value} {a1 a2 : Value} {P : Int64 → Wd → Nat → Prop} (hd : decode M.2.1 pc = .ok (.invokevirtual idx, 3)) (hM : MV ci n M') (hk : LK M.1.cls idx M'.1) (hS : Sp K M' d' mc' ms' (.ref a :: [a1, a2]) w sz (Ql P)) (hw : w a = some (.inr (ci, fs))) (hn : 2 = n) (hr : (rest.map fun v => v.category).sum ≤ 8) (hdd : d' + 1 ≤ d) (hc : cc + mc' ≤ mc) (hs : ss + ms' ≤ ms) (kk : ∀ (x : Int64) (w' : Wd) (sz' : Nat), P x w' sz' → N K M d mc ms Q (pc + 3) L (.long x :: rest) w' sz' (cc + mc') (ss + ms')) : N K M d mc ms Q pc L (a2 :: a1 :: .ref a :: rest) w sz cc ss := by
  refine N.callV hd hk hM hS hw rfl hn hr hdd hc hs ?_
  rintro r w' sz' ⟨x, rfl, hP⟩; exact kk x w' sz' hP
theorem N.vl3A {ci : Nat} {fs : List Value} {a1 a2 a3 : Value} {P : Int64 → Wd → Nat → Prop} (hd : decode M.2.1 pc = .ok (.invokevirtual idx, 3)) (hM : MV ci n M') (hk : LK M.1.cls idx M'.1) (hS : Sp K M' d' mc' ms' (.ref a :: [a1, a2, a3]) w sz (Ql P)) (hw : w a = some (.inr (ci, fs))) (hn : 3 = n) (hr : (rest.map fun v => v.category).sum ≤ 8) (hdd : d' + 1 ≤ d) (hc : cc + mc' ≤ mc) (hs : ss + ms' ≤ ms) (kk : ∀ (x : Int64) (w' : Wd) (sz' : Nat), P x w' sz' → N K M d mc ms Q (pc + 3) L (.long x :: rest) w' sz' (cc + mc') (ss + ms')) : N K M d mc ms Q pc L (a3 :: a2 :: a1 :: .ref a :: rest) w sz cc ss := by
  refine N.callV hd hk hM hS hw rfl hn hr hdd hc hs ?_
  rintro r w' sz' ⟨x, rfl, hP⟩; exact kk x w' sz' hP
theorem N.vl4A {ci : Nat} {fs : List Value} {a1 a2 a3 a4 : Value} {P : Int64 → Wd → Nat → Prop} (hd : decode M.2.1 pc = .ok (.invokevirtual idx, 3)) (hM : MV ci n M') (hk : LK M.1.cls idx M'.1) (hS : Sp K M' d' mc' ms' (.ref a :: [a1, a2, a3, a4]) w sz (Ql P)) (hw : w a = some (.inr (ci, fs))) (hn : 4 = n) (hr : (rest.map fun v => v.category).sum ≤ 8) (hdd : d' + 1 ≤ d) (hc : cc + mc' ≤ mc) (hs : ss + ms' ≤ ms) (kk : ∀ (x : Int64) (w' : Wd) (sz' : Nat), P x w' sz' → N K M d mc ms Q (pc + 3) L (.long x :: rest) w' sz' (cc + mc') (ss + ms')) : N K M d mc ms Q pc L (a4 :: a3 :: a2 :: a1 :: .ref a :: rest) w sz cc ss := by
  refine N.callV hd hk hM hS hw rfl hn hr hdd hc hs ?_
  rintro r w' sz' ⟨x, rfl, hP⟩; exact kk x w' sz' hP
theorem N.vv0A {ci : Nat} {fs : List Value} {P : Wd → Nat → Prop} (hd : decode M.2.1 pc = .ok (.invokevirtual idx, 3)) (hM : MV ci n M') (hk : LK M.1.cls idx M'.1) (hS : Sp K M' d' mc' ms' (.ref a :: []) w sz (Qv P)) (hw : w a = some (.inr (ci, fs))) (hn : 0 = n) (hr : (rest.map fun v => v.category).sum ≤ 8) (hdd : d' + 1 ≤ d) (hc : cc + mc' ≤ mc) (hs : ss + ms' ≤ ms) (kk : ∀ (w' : Wd) (sz' : Nat), P w' sz' → N K M d mc ms Q (pc + 3) L rest w' sz' (cc + mc') (ss + ms')) : N K M d mc ms Q pc L (.ref a :: rest) w sz cc ss := by
  refine N.callV hd hk hM hS hw rfl hn hr hdd hc hs ?_
  rintro r w' sz' ⟨rfl, hP⟩; exact kk w' sz' hP
theorem N.vv1A {ci : Nat} {fs : List Value} {a1 : Value} {P : Wd → Nat → Prop} (hd : decode M.2.1 pc = .ok (.invokevirtual idx, 3)) (hM : MV ci n M') (hk : LK M.1.cls idx M'.1) (hS : Sp K M' d' mc' ms' (.ref a :: [a1]) w sz (Qv P)) (hw : w a = some (.inr (ci, fs))) (hn : 1 = n) (hr : (rest.map fun v => v.category).sum ≤ 8) (hdd : d' + 1 ≤ d) (hc : cc + mc' ≤ mc) (hs : ss + ms' ≤ ms) (kk : ∀ (w' : Wd) (sz' : Nat), P w' sz' → N K M d mc ms Q (pc + 3) L rest w' sz' (cc + mc') (ss + ms')) : N K M d mc ms Q pc L (a1 :: .ref a :: rest) w sz cc ss := by
  refine N.callV hd hk hM hS hw rfl hn hr hdd hc hs ?_
  rintro r w' sz' ⟨rfl, hP⟩; exact kk w' sz' hP
theorem N.vv2A {ci : Nat} {fs : List Value} {a1 a2 : Value} {P : Wd → Nat → Prop} (hd : decode M.2.1 pc = .ok (.invokevirtual idx, 3)) (hM : MV ci n M') (hk : LK M.1.cls idx M'.1) (hS : Sp K M' d' mc' ms' (.ref a :: [a1, a2]) w sz (Qv P)) (hw : w a = some (.inr (ci, fs))) (hn : 2 = n) (hr : (rest.map fun v => v.category).sum ≤ 8) (hdd : d' + 1 ≤ d) (hc : cc + mc' ≤ mc) (hs : ss + ms' ≤ ms) (kk : ∀ (w' : Wd) (sz' : Nat), P w' sz' → N K M d mc ms Q (pc + 3) L rest w' sz' (cc + mc') (ss + ms')) : N K M d mc ms Q pc L (a2 :: a1 :: .ref a :: rest) w sz cc ss := by
  refine N.callV hd hk hM hS hw rfl hn hr hdd hc hs ?_
  rintro r w' sz' ⟨rfl, hP⟩; exact kk w' sz' hP
theorem N.vv3A {ci : Nat} {fs : List Value} {a1 a2 a3 : Value} {P : Wd → Nat → Prop} (hd : decode M.2.1 pc = .ok (.invokevirtual idx, 3)) (hM : MV ci n M') (hk : LK M.1.cls idx M'.1) (hS : Sp K M' d' mc' ms' (.ref a :: [a1, a2, a3]) w sz (Qv P)) (hw : w a = some (.inr (ci, fs))) (hn : 3 = n) (hr : (rest.map fun v => v.category).sum ≤ 8) (hdd : d' + 1 ≤ d) (hc : cc + mc' ≤ mc) (hs : ss + ms' ≤ ms) (kk : ∀ (w' : Wd) (sz' : Nat), P w' sz' → N K M d mc ms Q (pc + 3) L rest w' sz' (cc + mc') (ss + ms')) : N K M d mc ms Q pc L (a3 :: a2 :: a1 :: .ref a :: rest) w sz cc ss := by
  refine N.callV hd hk hM hS hw rfl hn hr hdd hc hs ?_
  rintro r w' sz' ⟨rfl, hP⟩; exact kk w' sz' hP
theorem N.vv4A {ci : Nat} {fs : List Value} {a1 a2 a3 a4 : Value} {P : Wd → Nat → Prop} (hd : decode M.2.1 pc = .ok (.invokevirtual idx, 3)) (hM : MV ci n M') (hk : LK M.1.cls idx M'.1) (hS : Sp K M' d' mc' ms' (.ref a :: [a1, a2, a3, a4]) w sz (Qv P)) (hw : w a = some (.inr (ci, fs))) (hn : 4 = n) (hr : (rest.map fun v => v.category).sum ≤ 8) (hdd : d' + 1 ≤ d) (hc : cc + mc' ≤ mc) (hs : ss + ms' ≤ ms) (kk : ∀ (w' : Wd) (sz' : Nat), P w' sz' → N K M d mc ms Q (pc + 3) L rest w' sz' (cc + mc') (ss + ms')) : N K M d mc ms Q pc L (a4 :: a3 :: a2 :: a1 :: .ref a :: rest) w sz cc ss := by
  refine N.callV hd hk hM hS hw rfl hn hr hdd hc hs ?_
  rintro r w' sz' ⟨rfl, hP⟩; exact kk w' sz' hP
theorem N.va0A {ci : Nat} {fs : List Value} {P : Nat → Wd → Nat → Prop} (hd : decode M.2.1 pc = .ok (.invokevirtual idx, 3)) (hM : MV ci n M') (hk : LK M.1.cls idx M'.1) (hS : Sp K M' d' mc' ms' (.ref a :: []) w sz (Qa P)) (hw : w a = some (.inr (ci, fs))) (hn : 0 = n) (hr : (rest.map fun v => v.category).sum ≤ 8) (hdd : d' + 1 ≤ d) (hc : cc + mc' ≤ mc) (hs : ss + ms' ≤ ms) (kk : ∀ (x : Nat) (w' : Wd) (sz' : Nat), P x w' sz' → N K M d mc ms Q (pc + 3) L (.ref x :: rest) w' sz' (cc + mc') (ss + ms')) : N K M d mc ms Q pc L (.ref a :: rest) w sz cc ss := by
  refine N.callV hd hk hM hS hw rfl hn hr hdd hc hs ?_
  rintro r w' sz' ⟨x, rfl, hP⟩; exact kk x w' sz' hP
theorem N.va1A {ci : Nat} {fs : List Value} {a1 : Value} {P : Nat → Wd → Nat → Prop} (hd : decode M.2.1 pc = .ok (.invokevirtual idx, 3)) (hM : MV ci n M') (hk : LK M.1.cls idx M'.1) (hS : Sp K M' d' mc' ms' (.ref a :: [a1]) w sz (Qa P)) (hw : w a = some (.inr (ci, fs))) (hn : 1 = n) (hr : (rest.map fun v => v.category).sum ≤ 8) (hdd : d' + 1 ≤ d) (hc : cc + mc' ≤ mc) (hs : ss + ms' ≤ ms) (kk : ∀ (x : Nat) (w' : Wd) (sz' : Nat), P x w' sz' → N K M d mc ms Q (pc + 3) L (.ref x :: rest) w' sz' (cc + mc') (ss + ms')) : N K M d mc ms Q pc L (a1 :: .ref a :: rest) w sz cc ss := by
  refine N.callV hd hk hM hS hw rfl hn hr hdd hc hs ?_
  rintro r w' sz' ⟨x, rfl, hP⟩; exact kk x w' sz' hP
theorem N.va2A {ci : Nat} {fs : List Value} {a1 a2 : Value} {P : Nat → Wd → Nat → Prop} (hd : decode M.2.1 pc = .ok (.invokevirtual idx, 3)) (hM : MV ci n M') (hk : LK M.1.cls idx M'.1) (hS : Sp K M' d' mc' ms' (.ref a :: [a1, a2]) w sz (Qa P)) (hw : w a = some (.inr (ci, fs))) (hn : 2 = n) (hr : (rest.map fun v => v.category).sum ≤ 8) (hdd : d' + 1 ≤ d) (hc : cc + mc' ≤ mc) (hs : ss + ms' ≤ ms) (kk : ∀ (x : Nat) (w' : Wd) (sz' : Nat), P x w' sz' → N K M d mc ms Q (pc + 3) L (.ref x :: rest) w' sz' (cc + mc') (ss + ms')) : N K M d mc ms Q pc L (a2 :: a1 :: .ref a :: rest) w sz cc ss := by
  refine N.callV hd hk hM hS hw rfl hn hr hdd hc hs ?_
  rintro r w' sz' ⟨x, rfl, hP⟩; exact kk x w' sz' hP
theorem N.va3A {ci : Nat} {fs : List Value} {a1 a2 a3 : Value} {P : Nat → Wd → Nat → Prop} (hd : decode M.2.1 pc = .ok (.invokevirtual idx, 3)) (hM : MV ci n M') (hk : LK M.1.cls idx M'.1) (hS : Sp K M' d' mc' ms' (.ref a :: [a1, a2, a3]) w sz (Qa P)) (hw : w a = some (.inr (ci, fs))) (hn : 3 = n) (hr : (rest.map fun v => v.category).sum ≤ 8) (hdd : d' + 1 ≤ d) (hc : cc + mc' ≤ mc) (hs : ss + ms' ≤ ms) (kk : ∀ (x : Nat) (w' : Wd) (sz' : Nat), P x w' sz' → N K M d mc ms Q (pc + 3) L (.ref x :: rest) w' sz' (cc + mc') (ss + ms')) : N K M d mc ms Q pc L (a3 :: a2 :: a1 :: .ref a :: rest) w sz cc ss := by
  refine N.callV hd hk hM hS hw rfl hn hr hdd hc hs ?_
  rintro r w' sz' ⟨x, rfl, hP⟩; exact kk x w' sz' hP
theorem N.va4A {ci : Nat} {fs : List Value} {a1 a2 a3 a4 : Value} {P : Nat → Wd → Nat → Prop} (hd : decode M.2.1 pc = .ok (.invokevirtual idx, 3)) (hM : MV ci n M') (hk : LK M.1.cls idx M'.1) (hS : Sp K M' d' mc' ms' (.ref a :: [a1, a2, a3, a4]) w sz (Qa P)) (hw : w a = some (.inr (ci, fs))) (hn : 4 = n) (hr : (rest.map fun v => v.category).sum ≤ 8) (hdd : d' + 1 ≤ d) (hc : cc + mc' ≤ mc) (hs : ss + ms' ≤ ms) (kk : ∀ (x : Nat) (w' : Wd) (sz' : Nat), P x w' sz' → N K M d mc ms Q (pc + 3) L (.ref x :: rest) w' sz' (cc + mc') (ss + ms')) : N K M d mc ms Q pc L (a4 :: a3 :: a2 :: a1 :: .ref a :: rest) w sz cc ss := by
  refine N.callV hd hk hM hS hw rfl hn hr hdd hc hs ?_
  rintro r w' sz' ⟨x, rfl, hP⟩; exact kk x w' sz' hP
theorem N.si0A {P : Int32 → Wd → Nat → Prop} (hd : decode M.2.1 pc = .ok (.invokestatic idx, 3)) (hM : MS n M') (hk : LK M.1.cls idx M'.1) (hS : Sp K M' d' mc' ms' ([]) w sz (Qi P)) (hn : 0 = n) (hr : (rest.map fun v => v.category).sum ≤ 8) (hdd : d' + 1 ≤ d) (hc : cc + mc' ≤ mc) (hs : ss + ms' ≤ ms) (kk : ∀ (x : Int32) (w' : Wd) (sz' : Nat), P x w' sz' → N K M d mc ms Q (pc + 3) L (.int x :: rest) w' sz' (cc + mc') (ss + ms')) : N K M d mc ms Q pc L (rest) w sz cc ss := by
  refine N.callS hd hk hM hS rfl hn hr hdd hc hs ?_
  rintro r w' sz' ⟨x, rfl, hP⟩; exact kk x w' sz' hP
theorem N.si1A {a1 : Value} {P : Int32 → Wd → Nat → Prop} (hd : decode M.2.1 pc = .ok (.invokestatic idx, 3)) (hM : MS n M') (hk : LK M.1.cls idx M'.1) (hS : Sp K M' d' mc' ms' ([a1]) w sz (Qi P)) (hn : 1 = n) (hr : (rest.map fun v => v.category).sum ≤ 8) (hdd : d' + 1 ≤ d) (hc : cc + mc' ≤ mc) (hs : ss + ms' ≤ ms) (kk : ∀ (x : Int32) (w' : Wd) (sz' : Nat), P x w' sz' → N K M d mc ms Q (pc + 3) L (.int x :: rest) w' sz' (cc + mc') (ss + ms')) : N K M d mc ms Q pc L (a1 :: rest) w sz cc ss := by
  refine N.callS hd hk hM hS rfl hn hr hdd hc hs ?_
  rintro r w' sz' ⟨x, rfl, hP⟩; exact kk x w' sz' hP
theorem N.si2A {a1 a2 : Value} {P : Int32 → Wd → Nat → Prop} (hd : decode M.2.1 pc = .ok (.invokestatic idx, 3)) (hM : MS n M') (hk : LK M.1.cls idx M'.1) (hS : Sp K M' d' mc' ms' ([a1, a2]) w sz (Qi P)) (hn : 2 = n) (hr : (rest.map fun v => v.category).sum ≤ 8) (hdd : d' + 1 ≤ d) (hc : cc + mc' ≤ mc) (hs : ss + ms' ≤ ms) (kk : ∀ (x : Int32) (w' : Wd) (sz' : Nat), P x w' sz' → N K M d mc ms Q (pc + 3) L (.int x :: rest) w' sz' (cc + mc') (ss + ms')) : N K M d mc ms Q pc L (a2 :: a1 :: rest) w sz cc ss := by
  refine N.callS hd hk hM hS rfl hn hr hdd hc hs ?_
  rintro r w' sz' ⟨x, rfl, hP⟩; exact kk x w' sz' hP
theorem N.si3A {a1 a2 a3 : Value} {P : Int32 → Wd → Nat → Prop} (hd : decode M.2.1 pc = .ok (.invokestatic idx, 3)) (hM : MS n M') (hk : LK M.1.cls idx M'.1) (hS : Sp K M' d' mc' ms' ([a1, a2, a3]) w sz (Qi P)) (hn : 3 = n) (hr : (rest.map fun v => v.category).sum ≤ 8) (hdd : d' + 1 ≤ d) (hc : cc + mc' ≤ mc) (hs : ss + ms' ≤ ms) (kk : ∀ (x : Int32) (w' : Wd) (sz' : Nat), P x w' sz' → N K M d mc ms Q (pc + 3) L (.int x :: rest) w' sz' (cc + mc') (ss + ms')) : N K M d mc ms Q pc L (a3 :: a2 :: a1 :: rest) w sz cc ss := by
  refine N.callS hd hk hM hS rfl hn hr hdd hc hs ?_
  rintro r w' sz' ⟨x, rfl, hP⟩; exact kk x w' sz' hP
theorem N.si4A {a1 a2 a3 a4 : Value} {P : Int32 → Wd → Nat → Prop} (hd : decode M.2.1 pc = .ok (.invokestatic idx, 3)) (hM : MS n M') (hk : LK M.1.cls idx M'.1) (hS : Sp K M' d' mc' ms' ([a1, a2, a3, a4]) w sz (Qi P)) (hn : 4 = n) (hr : (rest.map fun v => v.category).sum ≤ 8) (hdd : d' + 1 ≤ d) (hc : cc + mc' ≤ mc) (hs : ss + ms' ≤ ms) (kk : ∀ (x : Int32) (w' : Wd) (sz' : Nat), P x w' sz' → N K M d mc ms Q (pc + 3) L (.int x :: rest) w' sz' (cc + mc') (ss + ms')) : N K M d mc ms Q pc L (a4 :: a3 :: a2 :: a1 :: rest) w sz cc ss := by
  refine N.callS hd hk hM hS rfl hn hr hdd hc hs ?_
  rintro r w' sz' ⟨x, rfl, hP⟩; exact kk x w' sz' hP
theorem N.sl0A {P : Int64 → Wd → Nat → Prop} (hd : decode M.2.1 pc = .ok (.invokestatic idx, 3)) (hM : MS n M') (hk : LK M.1.cls idx M'.1) (hS : Sp K M' d' mc' ms' ([]) w sz (Ql P)) (hn : 0 = n) (hr : (rest.map fun v => v.category).sum ≤ 8) (hdd : d' + 1 ≤ d) (hc : cc + mc' ≤ mc) (hs : ss + ms' ≤ ms) (kk : ∀ (x : Int64) (w' : Wd) (sz' : Nat), P x w' sz' → N K M d mc ms Q (pc + 3) L (.long x :: rest) w' sz' (cc + mc') (ss + ms')) : N K M d mc ms Q pc L (rest) w sz cc ss := by
  refine N.callS hd hk hM hS rfl hn hr hdd hc hs ?_
  rintro r w' sz' ⟨x, rfl, hP⟩; exact kk x w' sz' hP
theorem N.sl1A {a1 : Value} {P : Int64 → Wd → Nat → Prop} (hd : decode M.2.1 pc = .ok (.invokestatic idx, 3)) (hM : MS n M') (hk : LK M.1.cls idx M'.1) (hS : Sp K M' d' mc' ms' ([a1]) w sz (Ql P)) (hn : 1 = n) (hr : (rest.map fun v => v.category).sum ≤ 8) (hdd : d' + 1 ≤ d) (hc : cc + mc' ≤ mc) (hs : ss + ms' ≤ ms) (kk : ∀ (x : Int64) (w' : Wd) (sz' : Nat), P x w' sz' → N K M d mc ms Q (pc + 3) L (.long x :: rest) w' sz' (cc + mc') (ss + ms')) : N K M d mc ms Q pc L (a1 :: rest) w sz cc ss := by
  refine N.callS hd hk hM hS rfl hn hr hdd hc hs ?_
  rintro r w' sz' ⟨x, rfl, hP⟩; exact kk x w' sz' hP
theorem N.sl2A {a1 a2 : Value} {P : Int64 → Wd → Nat → Prop} (hd : decode M.2.1 pc = .ok (.invokestatic idx, 3)) (hM : MS n M') (hk : LK M.1.cls idx M'.1) (hS : Sp K M' d' mc' ms' ([a1, a2]) w sz (Ql P)) (hn : 2 = n) (hr : (rest.map fun v => v.category).sum ≤ 8) (hdd : d' + 1 ≤ d) (hc : cc + mc' ≤ mc) (hs : ss + ms' ≤ ms) (kk : ∀ (x : Int64) (w' : Wd) (sz' : Nat), P x w' sz' → N K M d mc ms Q (pc + 3) L (.long x :: rest) w' sz' (cc + mc') (ss + ms')) : N K M d mc ms Q pc L (a2 :: a1 :: rest) w sz cc ss := by
  refine N.callS hd hk hM hS rfl hn hr hdd hc hs ?_
  rintro r w' sz' ⟨x, rfl, hP⟩; exact kk x w' sz' hP
theorem N.sl3A {a1 a2 a3 : Value} {P : Int64 → Wd → Nat → Prop} (hd : decode M.2.1 pc = .ok (.invokestatic idx, 3)) (hM : MS n M') (hk : LK M.1.cls idx M'.1) (hS : Sp K M' d' mc' ms' ([a1, a2, a3]) w sz (Ql P)) (hn : 3 = n) (hr : (rest.map fun v => v.category).sum ≤ 8) (hdd : d' + 1 ≤ d) (hc : cc + mc' ≤ mc) (hs : ss + ms' ≤ ms) (kk : ∀ (x : Int64) (w' : Wd) (sz' : Nat), P x w' sz' → N K M d mc ms Q (pc + 3) L (.long x :: rest) w' sz' (cc + mc') (ss + ms')) : N K M d mc ms Q pc L (a3 :: a2 :: a1 :: rest) w sz cc ss := by
  refine N.callS hd hk hM hS rfl hn hr hdd hc hs ?_
  rintro r w' sz' ⟨x, rfl, hP⟩; exact kk x w' sz' hP
theorem N.sl4A {a1 a2 a3 a4 : Value} {P : Int64 → Wd → Nat → Prop} (hd : decode M.2.1 pc = .ok (.invokestatic idx, 3)) (hM : MS n M') (hk : LK M.1.cls idx M'.1) (hS : Sp K M' d' mc' ms' ([a1, a2, a3, a4]) w sz (Ql P)) (hn : 4 = n) (hr : (rest.map fun v => v.category).sum ≤ 8) (hdd : d' + 1 ≤ d) (hc : cc + mc' ≤ mc) (hs : ss + ms' ≤ ms) (kk : ∀ (x : Int64) (w' : Wd) (sz' : Nat), P x w' sz' → N K M d mc ms Q (pc + 3) L (.long x :: rest) w' sz' (cc + mc') (ss + ms')) : N K M d mc ms Q pc L (a4 :: a3 :: a2 :: a1 :: rest) w sz cc ss := by
  refine N.callS hd hk hM hS rfl hn hr hdd hc hs ?_
  rintro r w' sz' ⟨x, rfl, hP⟩; exact kk x w' sz' hP
theorem N.sv0A {P : Wd → Nat → Prop} (hd : decode M.2.1 pc = .ok (.invokestatic idx, 3)) (hM : MS n M') (hk : LK M.1.cls idx M'.1) (hS : Sp K M' d' mc' ms' ([]) w sz (Qv P)) (hn : 0 = n) (hr : (rest.map fun v => v.category).sum ≤ 8) (hdd : d' + 1 ≤ d) (hc : cc + mc' ≤ mc) (hs : ss + ms' ≤ ms) (kk : ∀ (w' : Wd) (sz' : Nat), P w' sz' → N K M d mc ms Q (pc + 3) L rest w' sz' (cc + mc') (ss + ms')) : N K M d mc ms Q pc L (rest) w sz cc ss := by
  refine N.callS hd hk hM hS rfl hn hr hdd hc hs ?_
  rintro r w' sz' ⟨rfl, hP⟩; exact kk w' sz' hP
theorem N.sv1A {a1 : Value} {P : Wd → Nat → Prop} (hd : decode M.2.1 pc = .ok (.invokestatic idx, 3)) (hM : MS n M') (hk : LK M.1.cls idx M'.1) (hS : Sp K M' d' mc' ms' ([a1]) w sz (Qv P)) (hn : 1 = n) (hr : (rest.map fun v => v.category).sum ≤ 8) (hdd : d' + 1 ≤ d) (hc : cc + mc' ≤ mc) (hs : ss + ms' ≤ ms) (kk : ∀ (w' : Wd) (sz' : Nat), P w' sz' → N K M d mc ms Q (pc + 3) L rest w' sz' (cc + mc') (ss + ms')) : N K M d mc ms Q pc L (a1 :: rest) w sz cc ss := by
  refine N.callS hd hk hM hS rfl hn hr hdd hc hs ?_
  rintro r w' sz' ⟨rfl, hP⟩; exact kk w' sz' hP
theorem N.sv2A {a1 a2 : Value} {P : Wd → Nat → Prop} (hd : decode M.2.1 pc = .ok (.invokestatic idx, 3)) (hM : MS n M') (hk : LK M.1.cls idx M'.1) (hS : Sp K M' d' mc' ms' ([a1, a2]) w sz (Qv P)) (hn : 2 = n) (hr : (rest.map fun v => v.category).sum ≤ 8) (hdd : d' + 1 ≤ d) (hc : cc + mc' ≤ mc) (hs : ss + ms' ≤ ms) (kk : ∀ (w' : Wd) (sz' : Nat), P w' sz' → N K M d mc ms Q (pc + 3) L rest w' sz' (cc + mc') (ss + ms')) : N K M d mc ms Q pc L (a2 :: a1 :: rest) w sz cc ss := by
  refine N.callS hd hk hM hS rfl hn hr hdd hc hs ?_
  rintro r w' sz' ⟨rfl, hP⟩; exact kk w' sz' hP
theorem N.sv3A {a1 a2 a3 : Value} {P : Wd → Nat → Prop} (hd : decode M.2.1 pc = .ok (.invokestatic idx, 3)) (hM : MS n M') (hk : LK M.1.cls idx M'.1) (hS : Sp K M' d' mc' ms' ([a1, a2, a3]) w sz (Qv P)) (hn : 3 = n) (hr : (rest.map fun v => v.category).sum ≤ 8) (hdd : d' + 1 ≤ d) (hc : cc + mc' ≤ mc) (hs : ss + ms' ≤ ms) (kk : ∀ (w' : Wd) (sz' : Nat), P w' sz' → N K M d mc ms Q (pc + 3) L rest w' sz' (cc + mc') (ss + ms')) : N K M d mc ms Q pc L (a3 :: a2 :: a1 :: rest) w sz cc ss := by
  refine N.callS hd hk hM hS rfl hn hr hdd hc hs ?_
  rintro r w' sz' ⟨rfl, hP⟩; exact kk w' sz' hP
theorem N.sv4A {a1 a2 a3 a4 : Value} {P : Wd → Nat → Prop} (hd : decode M.2.1 pc = .ok (.invokestatic idx, 3)) (hM : MS n M') (hk : LK M.1.cls idx M'.1) (hS : Sp K M' d' mc' ms' ([a1, a2, a3, a4]) w sz (Qv P)) (hn : 4 = n) (hr : (rest.map fun v => v.category).sum ≤ 8) (hdd : d' + 1 ≤ d) (hc : cc + mc' ≤ mc) (hs : ss + ms' ≤ ms) (kk : ∀ (w' : Wd) (sz' : Nat), P w' sz' → N K M d mc ms Q (pc + 3) L rest w' sz' (cc + mc') (ss + ms')) : N K M d mc ms Q pc L (a4 :: a3 :: a2 :: a1 :: rest) w sz cc ss := by
  refine N.callS hd hk hM hS rfl hn hr hdd hc hs ?_
  rintro r w' sz' ⟨rfl, hP⟩; exact kk w' sz' hP
theorem N.sa0A {P : Nat → Wd → Nat → Prop} (hd : decode M.2.1 pc = .ok (.invokestatic idx, 3)) (hM : MS n M') (hk : LK M.1.cls idx M'.1) (hS : Sp K M' d' mc' ms' ([]) w sz (Qa P)) (hn : 0 = n) (hr : (rest.map fun v => v.category).sum ≤ 8) (hdd : d' + 1 ≤ d) (hc : cc + mc' ≤ mc) (hs : ss + ms' ≤ ms) (kk : ∀ (x : Nat) (w' : Wd) (sz' : Nat), P x w' sz' → N K M d mc ms Q (pc + 3) L (.ref x :: rest) w' sz' (cc + mc') (ss + ms')) : N K M d mc ms Q pc L (rest) w sz cc ss := by
  refine N.callS hd hk hM hS rfl hn hr hdd hc hs ?_
  rintro r w' sz' ⟨x, rfl, hP⟩; exact kk x w' sz' hP
theorem N.sa1A {a1 : Value} {P : Nat → Wd → Nat → Prop} (hd : decode M.2.1 pc = .ok (.invokestatic idx, 3)) (hM : MS n M') (hk : LK M.1.cls idx M'.1) (hS : Sp K M' d' mc' ms' ([a1]) w sz (Qa P)) (hn : 1 = n) (hr : (rest.map fun v => v.category).sum ≤ 8) (hdd : d' + 1 ≤ d) (hc : cc + mc' ≤ mc) (hs : ss + ms' ≤ ms) (kk : ∀ (x : Nat) (w' : Wd) (sz' : Nat), P x w' sz' → N K M d mc ms Q (pc + 3) L (.ref x :: rest) w' sz' (cc + mc') (ss + ms')) : N K M d mc ms Q pc L (a1 :: rest) w sz cc ss := by
  refine N.callS hd hk hM hS rfl hn hr hdd hc hs ?_
  rintro r w' sz' ⟨x, rfl, hP⟩; exact kk x w' sz' hP
theorem N.sa2A {a1 a2 : Value} {P : Nat → Wd → Nat → Prop} (hd : decode M.2.1 pc = .ok (.invokestatic idx, 3)) (hM : MS n M') (hk : LK M.1.cls idx M'.1) (hS : Sp K M' d' mc' ms' ([a1, a2]) w sz (Qa P)) (hn : 2 = n) (hr : (rest.map fun v => v.category).sum ≤ 8) (hdd : d' + 1 ≤ d) (hc : cc + mc' ≤ mc) (hs : ss + ms' ≤ ms) (kk : ∀ (x : Nat) (w' : Wd) (sz' : Nat), P x w' sz' → N K M d mc ms Q (pc + 3) L (.ref x :: rest) w' sz' (cc + mc') (ss + ms')) : N K M d mc ms Q pc L (a2 :: a1 :: rest) w sz cc ss := by
  refine N.callS hd hk hM hS rfl hn hr hdd hc hs ?_
  rintro r w' sz' ⟨x, rfl, hP⟩; exact kk x w' sz' hP
theorem N.sa3A {a1 a2 a3 : Value} {P : Nat → Wd → Nat → Prop} (hd : decode M.2.1 pc = .ok (.invokestatic idx, 3)) (hM : MS n M') (hk : LK M.1.cls idx M'.1) (hS : Sp K M' d' mc' ms' ([a1, a2, a3]) w sz (Qa P)) (hn : 3 = n) (hr : (rest.map fun v => v.category).sum ≤ 8) (hdd : d' + 1 ≤ d) (hc : cc + mc' ≤ mc) (hs : ss + ms' ≤ ms) (kk : ∀ (x : Nat) (w' : Wd) (sz' : Nat), P x w' sz' → N K M d mc ms Q (pc + 3) L (.ref x :: rest) w' sz' (cc + mc') (ss + ms')) : N K M d mc ms Q pc L (a3 :: a2 :: a1 :: rest) w sz cc ss := by
  refine N.callS hd hk hM hS rfl hn hr hdd hc hs ?_
  rintro r w' sz' ⟨x, rfl, hP⟩; exact kk x w' sz' hP
theorem N.sa4A {a1 a2 a3 a4 : Value} {P : Nat → Wd → Nat → Prop} (hd : decode M.2.1 pc = .ok (.invokestatic idx, 3)) (hM : MS n M') (hk : LK M.1.cls idx M'.1) (hS : Sp K M' d' mc' ms' ([a1, a2, a3, a4]) w sz (Qa P)) (hn : 4 = n) (hr : (rest.map fun v => v.category).sum ≤ 8) (hdd : d' + 1 ≤ d) (hc : cc + mc' ≤ mc) (hs : ss + ms' ≤ ms) (kk : ∀ (x : Nat) (w' : Wd) (sz' : Nat), P x w' sz' → N K M d mc ms Q (pc + 3) L (.ref x :: rest) w' sz' (cc + mc') (ss + ms')) : N K M d mc ms Q pc L (a4 :: a3 :: a2 :: a1 :: rest) w sz cc ss := by
  refine N.callS hd hk hM hS rfl hn hr hdd hc hs ?_
  rintro r w' sz' ⟨x, rfl, hP⟩; exact kk x w' sz' hP
theorem N.iv0A {P : Wd → Nat → Prop} (hd : decode M.2.1 pc = .ok (.invokespecial idx, 3)) (hM : MI n M') (hk : LK M.1.cls idx M'.1) (hS : Sp K M' d' mc' ms' (.ref a :: []) w sz (Qv P)) (hn : 0 = n) (hr : (rest.map fun v => v.category).sum ≤ 8) (hdd : d' + 1 ≤ d) (hc : cc + mc' ≤ mc) (hs : ss + ms' ≤ ms) (kk : ∀ (w' : Wd) (sz' : Nat), P w' sz' → N K M d mc ms Q (pc + 3) L rest w' sz' (cc + mc') (ss + ms')) : N K M d mc ms Q pc L (.ref a :: rest) w sz cc ss := by
  refine N.callI hd hk hM hS rfl hn hr hdd hc hs ?_
  rintro r w' sz' ⟨rfl, hP⟩; exact kk w' sz' hP
theorem N.iv1A {a1 : Value} {P : Wd → Nat → Prop} (hd : decode M.2.1 pc = .ok (.invokespecial idx, 3)) (hM : MI n M') (hk : LK M.1.cls idx M'.1) (hS : Sp K M' d' mc' ms' (.ref a :: [a1]) w sz (Qv P)) (hn : 1 = n) (hr : (rest.map fun v => v.category).sum ≤ 8) (hdd : d' + 1 ≤ d) (hc : cc + mc' ≤ mc) (hs : ss + ms' ≤ ms) (kk : ∀ (w' : Wd) (sz' : Nat), P w' sz' → N K M d mc ms Q (pc + 3) L rest w' sz' (cc + mc') (ss + ms')) : N K M d mc ms Q pc L (a1 :: .ref a :: rest) w sz cc ss := by
  refine N.callI hd hk hM hS rfl hn hr hdd hc hs ?_
  rintro r w' sz' ⟨rfl, hP⟩; exact kk w' sz' hP
theorem N.iv2A {a1 a2 : Value} {P : Wd → Nat → Prop} (hd : decode M.2.1 pc = .ok (.invokespecial idx, 3)) (hM : MI n M') (hk : LK M.1.cls idx M'.1) (hS : Sp K M' d' mc' ms' (.ref a :: [a1, a2]) w sz (Qv P)) (hn : 2 = n) (hr : (rest.map fun v => v.category).sum ≤ 8) (hdd : d' + 1 ≤ d) (hc : cc + mc' ≤ mc) (hs : ss + ms' ≤ ms) (kk : ∀ (w' : Wd) (sz' : Nat), P w' sz' → N K M d mc ms Q (pc + 3) L rest w' sz' (cc + mc') (ss + ms')) : N K M d mc ms Q pc L (a2 :: a1 :: .ref a :: rest) w sz cc ss := by
  refine N.callI hd hk hM hS rfl hn hr hdd hc hs ?_
  rintro r w' sz' ⟨rfl, hP⟩; exact kk w' sz' hP
theorem N.iv3A {a1 a2 a3 : Value} {P : Wd → Nat → Prop} (hd : decode M.2.1 pc = .ok (.invokespecial idx, 3)) (hM : MI n M') (hk : LK M.1.cls idx M'.1) (hS : Sp K M' d' mc' ms' (.ref a :: [a1, a2, a3]) w sz (Qv P)) (hn : 3 = n) (hr : (rest.map fun v => v.category).sum ≤ 8) (hdd : d' + 1 ≤ d) (hc : cc + mc' ≤ mc) (hs : ss + ms' ≤ ms) (kk : ∀ (w' : Wd) (sz' : Nat), P w' sz' → N K M d mc ms Q (pc + 3) L rest w' sz' (cc + mc') (ss + ms')) : N K M d mc ms Q pc L (a3 :: a2 :: a1 :: .ref a :: rest) w sz cc ss := by
  refine N.callI hd hk hM hS rfl hn hr hdd hc hs ?_
  rintro r w' sz' ⟨rfl, hP⟩; exact kk w' sz' hP
theorem N.iv4A {a1 a2 a3 a4 : Value} {P : Wd → Nat → Prop} (hd : decode M.2.1 pc = .ok (.invokespecial idx, 3)) (hM : MI n M') (hk : LK M.1.cls idx M'.1) (hS : Sp K M' d' mc' ms' (.ref a :: [a1, a2, a3, a4]) w sz (Qv P)) (hn : 4 = n) (hr : (rest.map fun v => v.category).sum ≤ 8) (hdd : d' + 1 ≤ d) (hc : cc + mc' ≤ mc) (hs : ss + ms' ≤ ms) (kk : ∀ (w' : Wd) (sz' : Nat), P w' sz' → N K M d mc ms Q (pc + 3) L rest w' sz' (cc + mc') (ss + ms')) : N K M d mc ms Q pc L (a4 :: a3 :: a2 :: a1 :: .ref a :: rest) w sz cc ss := by
  refine N.callI hd hk hM hS rfl hn hr hdd hc hs ?_
  rintro r w' sz' ⟨rfl, hP⟩; exact kk w' sz' hP
end FC
section FA
variable {K : Kx} {M : Md} {d mc ms : Nat} {Q : Qx} {pc : Nat} {L : List (Option Value)} {st : List Value} {w : Wd} {sz cc ss : Nat}
theorem N.new {idx ci n : Nat} {C : String} {T : u_T} (fs : List Value) (hd : decode M.2.1 pc = .ok (.new idx, 3)) (hc : vwCl[ci]? = some (C, T, n)) (hl_ : Cond.classLink M.1.cls idx C ∈ gT) (hi : Cond.instantiable C n ∈ gT) (hit : Cond.initialized C ∈ gT) (hfs : ∀ j, j < n → defaultValue (tyOf ci j) = vp_V fs j) (hcc : cc + 1 ≤ mc) (hss : ss + n ≤ ms) (kk : N K M d mc ms Q (pc + 3) L (.ref sz :: st) (upW w sz (.inr (ci, fs))) (sz + 1) (cc + 1) (ss + n)) : N K M d mc ms Q pc L st w sz cc ss := by
  intro p e s m args below meth c H locs ls C_ hW hF hL hl
  have hts := C_.2.2.2.2.2.2.2.1
  have ok : ∀ x ∈ gT, x.before args s = true := fun x hx => hts x (List.mem_cons_of_mem _ hx)
  have hKn := (Kok.k C_.2.2.2.2.2.2.2.2.1).1 ci _ hc
  refine W.newcK C_.1 C_.2.1 C_.2.2.2.2.2.1 (ok _ hl_) (ok _ hi) (ok _ hit) rfl hd hcc hss hKn.2.1 hW.1 fun H1 kC hkC e1 z1 o1 => ?_
  refine kk p e s m args below meth c H1 locs ls C_ (hW.push ⟨_, hc, (u_born (tyOf ci) hts (fun x hx => List.mem_cons_of_mem _ (clsW ci C T n hc x hx)) hKn hkC e1 (clsT ci C T n hc).1).to hfs⟩ z1 o1) hF hL hl
theorem N.newI {n : Int32} {k : Nat} (hd : decode M.2.1 pc = .ok (.newarray .int, 2)) (hn : ¬ n < 0) (hk : n.toNatClampNeg = k) (hb : k * 4 ≤ 536870912) (hcc : cc + 1 ≤ mc) (hss : ss + k ≤ ms) (kk : N K M d mc ms Q (pc + 2) L (.ref sz :: st) (upW w sz (.inl (kC K 0, k, .inl (fun _ => 0)))) (sz + 1) (cc + 1) (ss + k)) : N K M d mc ms Q pc L (.int n :: st) w sz cc ss := by
  intro p e s m args below meth c H locs ls C_ hW hF hL hl
  have hts := C_.2.2.2.2.2.2.2.1
  refine va_newaK (atype := .int) C_.1 C_.2.1 (hts _ (List.mem_cons_of_mem _ acI)) rfl hd rfl hn hk hb hcc hss hW.1 fun H1 cA e1 z1 o1 _ hf => ?_
  have hcA : kC K 0 = cA := Option.some.inj ((((Kok.k C_.2.2.2.2.2.2.2.2.1).2 0 _ rfl).2 : s.vm.findClass ("[" ++ FieldType.int.toString) = some (kC K 0)).symm.trans hf)
  refine kk p e s m args below meth c H1 locs ls C_ (hW.push ?_ z1 o1) hF hL hl
  show H1[sz]? = some (vp_cell _ _)
  rw [hcA, vp_cell_i]
  exact e1
theorem N.newJ {n : Int32} {k : Nat} (hd : decode M.2.1 pc = .ok (.newarray .long, 2)) (hn : ¬ n < 0) (hk : n.toNatClampNeg = k) (hb : k * 8 ≤ 536870912) (hcc : cc + 1 ≤ mc) (hss : ss + k ≤ ms) (kk : N K M d mc ms Q (pc + 2) L (.ref sz :: st) (upW w sz (.inl (kC K 1, k, .inr (.inl (fun _ => 0))))) (sz + 1) (cc + 1) (ss + k)) : N K M d mc ms Q pc L (.int n :: st) w sz cc ss := by
  intro p e s m args below meth c H locs ls C_ hW hF hL hl
  have hts := C_.2.2.2.2.2.2.2.1
  refine va_newaK (atype := .long) C_.1 C_.2.1 (hts _ (List.mem_cons_of_mem _ acJ)) rfl hd rfl hn hk hb hcc hss hW.1 fun H1 cA e1 z1 o1 _ hf => ?_
  have hcA : kC K 1 = cA := Option.some.inj ((((Kok.k C_.2.2.2.2.2.2.2.2.1).2 1 _ rfl).2 : s.vm.findClass ("[" ++ FieldType.long.toString) = some (kC K 1)).symm.trans hf)
  refine kk p e s m args below meth c H1 locs ls C_ (hW.push ?_ z1 o1) hF hL hl
  show H1[sz]? = some (vp_cell _ _)
  rw [hcA, vp_cell_l]
  exact e1
theorem N.anew {idx : Nat} {n : Int32} {k : Nat} (hd : decode M.2.1 pc = .ok (.anewarray idx, 3)) (hl_ : Cond.classLink M.1.cls idx "OverTheBoards$Shelf" ∈ gT) (hn : ¬ n < 0) (hk : n.toNatClampNeg = k) (hb : k * 4 ≤ 536870912) (hcc : cc + 1 ≤ mc) (hss : ss + k ≤ ms) (kk : N K M d mc ms Q (pc + 3) L (.ref sz :: st) (upW w sz (.inl (kC K 2, k, .inr (.inr (.inr (.inr (fun _ => none))))))) (sz + 1) (cc + 1) (ss + k)) : N K M d mc ms Q pc L (.int n :: st) w sz cc ss := by
  intro p e s m args below meth c H locs ls C_ hW hF hL hl
  have hts := C_.2.2.2.2.2.2.2.1
  have hCx := C_.2.2.2.2.2.2.2.2.1
  subst hk
  refine W.anew C_.1 C_.2.1 C_.2.2.2.2.2.1 (hts _ (List.mem_cons_of_mem _ hl_)) (va_AO.use (hCx.2.2.2.2.1.moved hCx.1)) rfl hd rfl hn hb hcc hss fun cA kA comp f1 f2 f3 f4 => ?_
  obtain ⟨kA', comp', _, _, _, g4⟩ := ((Kok.k hCx).2 2 _ rfl).2
  have hcA : kC K 2 = cA := Option.some.inj (g4.symm.trans f1)
  generalize hH1 : H.push ({ cls := cA, slots := Array.replicate n.toNatClampNeg .null, vm := .none } : Cell) = H1
  have z1 : H1.size = sz + 1 := by rw [← hH1, Array.size_push, hW.1]
  have e1 : H1[sz]? = some (arrV cA n.toNatClampNeg (fun _ => .null)) := by rw [← hH1, ← hW.1, Array.getElem?_push_size, ← arrV_new]
  have o1 : ∀ q : Nat, q < sz → H1[q]? = H[q]? := fun q hq => by rw [← hH1, Array.getElem?_push, if_neg (by rw [hW.1]; exact Nat.ne_of_lt hq)]
  rw [hW.1]
  refine kk p e s m args below meth c H1 locs ls C_ (hW.push ?_ z1 o1) hF hL hl
  show H1[sz]? = some (vp_cell _ _)
  rw [hcA, vp_cell_q]
  exact e1
theorem N.aast {a n v : Nat} {f : Nat → Option Nat} {i : Int32} {vs : List Value} (hd : decode M.2.1 pc = .ok (.aastore, 1)) (hw : w a = some (.inl (kC K 2, n, .inr (.inr (.inr (.inr f)))))) (hv : w v = some (.inr (2, vs))) (hi : vp_in i n) {w' : Wd} (hw' : upW w a (.inl (kC K 2, n, .inr (.inr (.inr (.inr (va_up f i.toNatClampNeg (some v))))))) = w') (kk : N K M d mc ms Q (pc + 1) L st w' sz cc ss) : N K M d mc ms Q pc L (.ref v :: .int i :: .ref a :: st) w sz cc ss := by
  intro p e s m args below meth c H locs ls C_ hW hF hL hl
  subst hw'
  have hK := Kok.k C_.2.2.2.2.2.2.2.2.1
  have hlt : i.toNatClampNeg < n := Nat.not_le.mp fun q => hi (Or.inr q)
  have h0 : ¬ i < 0 := fun q => hi (Or.inl q)
  obtain ⟨r', hr', cellV, g1, g2, g3, -⟩ := (hW.2.2 v _ hv).2
  have hcls := (hK.1 2 _ rfl).2
  obtain ⟨kA, comp, k1, k2, k3, -⟩ := (hK.2 2 _ rfl).2
  have hcomp : comp = (kD K).1 2 := Option.some.inj (k3.symm.trans hcls.1)
  subst hcomp
  obtain ⟨kC', hkC, -⟩ := hcls.2
  refine W.aast C_.1 C_.2.1 (hW.2.2 a _ hw).2 (fun q h => by cases h) (fun h => by cases h) k1 k2 rfl hkC ⟨h0, by show _ < (arrV _ _ _).slots.size; rw [arrV_size]; exact hlt⟩ g1 (fun q h => by rw [g3] at h; cases h) (by rw [g2]; exact hkC) (by rw [g2]; exact va_assign hcls) rfl rfl hd fun H1 e1 z oq => ?_
  refine kk p e s m args below meth c H1 _ ls C_ (hW.set hw ?_ z oq) (fr_app hF (hW.2.2 a _ hw).1) hL hl
  show H1[a]? = some (vp_cell _ _)
  rw [e1, vp_cell_q, vp_cell_q, arrV_store]
  congr 2
  funext q
  by_cases hq : q = i.toNatClampNeg
  · subst hq; simp [updV, va_up, va_rf]
  · simp [updV, va_up, hq]
theorem toI_nn {z : Int32} (hz : ¬ z < 0) : z.toInt = (z.toNatClampNeg : Int) := by
  have hz0 : (0 : Int) ≤ z.toInt := by
    have := Int32.not_lt.mp hz
    simpa using Int32.le_iff_toInt_le.mp this
  show z.toInt = ((z.toInt.toNat : Nat) : Int)
  omega
/-- System.arraycopy over two int rows -/
theorem N.acpI {idx a0 a n0 n1 : Nat} {f g : Nat → Int32} {sp dp n : Int32} (hd : decode M.2.1 pc = .ok (.invokestatic idx, 3)) (hk : Cond.methodLink M.1.cls idx arraycopyName ∈ gT) (hnat : Cond.native arraycopyName ∈ gT) (hsta : Cond.static arraycopyName ∈ gT) (hini : Cond.initialized "java/lang/System" ∈ gT)
    (h0 : w a0 = some (.inl (kC K 0, n0, .inl f))) (h1 : w a = some (.inl (kC K 0, n1, .inl g))) (p1 : ¬ sp < 0) (p2 : ¬ dp < 0) (p3 : ¬ n < 0) (p4 : sp.toNatClampNeg + n.toNatClampNeg ≤ n0) (p5 : dp.toNatClampNeg + n.toNatClampNeg ≤ n1) (hr : (st.map fun v => v.category).sum ≤ 8) (hdd : 1 ≤ d) (hnw : nativeFrameWords "java/lang/System" "arraycopy" 5 ≤ 20) {w' : Wd} (hw' : upW w a (.inl (kC K 0, n1, .inl (va_cpy f g sp.toNatClampNeg dp.toNatClampNeg n.toNatClampNeg))) = w')
    (kk : N K M d mc ms Q (pc + 3) L st w' sz cc ss) : N K M d mc ms Q pc L (.int n :: .int dp :: .ref a :: .int sp :: .ref a0 :: st) w sz cc ss := by
  intro p e s m args below meth c H locs ls C_ hW hF hL hl
  subst hw'
  intro T hT X
  have hts := C_.2.2.2.2.2.2.2.1
  have ok : ∀ x ∈ gT, x.before args s = true := fun x hx => hts x (List.mem_cons_of_mem _ hx)
  have hK := Kok.k C_.2.2.2.2.2.2.2.2.1
  have hc0 : H[a0]? = some (vp_cell (kC K 0) (n0, .inl f)) := (hW.2.2 a0 _ h0).2
  have hc1 : H[a]? = some (vp_cell (kC K 0) (n1, .inl g)) := (hW.2.2 a _ h1).2
  obtain ⟨-, k0, hk0, cm0, hkk0⟩ := (hK.2 0 _ rfl).1 n0 (fun j => .int (f j))
  obtain ⟨vm', X', step⟩ := X.arraycopy C_.1 C_.2.2.2.2.2.1 (ok _ hk) (ok _ hnat) (ok _ hsta) (ok _ hini) (src := a0) (dst := a) (cs := vp_cell (kC K 0) (n0, .inl f)) (cd := vp_cell (kC K 0) (n1, .inl g)) (srcPos := sp) (destPos := dp) (n := n) (by rw [hT]; exact hc0) (by rw [hT]; exact hc1)
    (fun _ h => by cases h) (fun _ h => by cases h) (fun h => by cases h) (fun h => by cases h) hk0 hk0 hkk0 hkk0 rfl p1 p2 p3
    (by rw [toI_nn p1, toI_nn p3]; show ¬ _ > ((arrV (kC K 0) n0 (fun j => .int (f j))).slots.size : Int); rw [arrV_size]; omega)
    (by rw [toI_nn p2, toI_nn p3]; show ¬ _ > ((arrV (kC K 0) n1 (fun j => .int (g j))).slots.size : Int); rw [arrV_size]; omega)
    (fun vm₁ _ i hi => by
      have e : (vp_cell (kC K 0) (n0, .inl f)).slots.getD (sp.toNatClampNeg + i) .null = .int (f (sp.toNatClampNeg + i)) := by
        show (arrV (kC K 0) n0 (fun j => .int (f j))).slots.getD _ _ = _
        rw [Array.getD_eq_getD_getElem?, arrV_read _ _ (by omega)]
        rfl
      rw [e]
      exact ⟨rfl, trivial⟩)
    (g := F0 m pc ls (.int n :: .int dp :: .ref a :: .int sp :: .ref a0 :: st)) rfl (by rw [C_.2.2.2.2.1]; exact hl.1) (rest := st) rfl (by rw [C_.2.1]; exact hd) hdd (by show 2 * 0 + _ + _ ≤ 40 * d; omega)
  have e1 : copied (vp_cell (kC K 0) (n0, .inl f)) (vp_cell (kC K 0) (n1, .inl g)) sp dp n = vp_cell (kC K 0) (n1, .inl (va_cpy f g sp.toNatClampNeg dp.toNatClampNeg n.toNatClampNeg)) := va_copied (fun z => .int z) _ _ f g p4
  rw [e1] at X' step
  have hlt : a < H.size := (Array.getElem?_eq_some_iff.mp hc1).1
  have hh : ((T.setVm vm').setCell a (vp_cell (kC K 0) (n1, .inl (va_cpy f g sp.toNatClampNeg dp.toNatClampNeg n.toNatClampNeg)))).heap = H.setIfInBounds a (vp_cell (kC K 0) (n1, .inl (va_cpy f g sp.toNatClampNeg dp.toNatClampNeg n.toNatClampNeg))) := by rw [← hT]; rfl
  obtain ⟨t, a1, b1⟩ := kk p e s m args below meth c _ _ ls C_ (hW.set h1 (show (H.setIfInBounds a (vp_cell (kC K 0) (n1, .inl (va_cpy f g sp.toNatClampNeg dp.toNatClampNeg n.toNatClampNeg))))[a]? = some _ by simp [Array.getElem?_setIfInBounds, hlt]) (by simp) (fun q hq => by simp [Array.getElem?_setIfInBounds, Ne.symm hq])) (fun q hq => by
      rcases List.mem_append.mp hq with h | h
      · exact hF q h
      · obtain ⟨z, -, hz⟩ := List.mem_map.mp h
        rw [← hz]
        exact (hW.2.2 a _ h1).1) hL hl _ hh X'
  exact ⟨t, step t a1, b1⟩
theorem N.acpL {idx a0 a n0 n1 : Nat} {f g : Nat → Int64} {sp dp n : Int32} (hd : decode M.2.1 pc = .ok (.invokestatic idx, 3)) (hk : Cond.methodLink M.1.cls idx arraycopyName ∈ gT) (hnat : Cond.native arraycopyName ∈ gT) (hsta : Cond.static arraycopyName ∈ gT) (hini : Cond.initialized "java/lang/System" ∈ gT)
    (h0 : w a0 = some (.inl (kC K 1, n0, .inr (.inl f)))) (h1 : w a = some (.inl (kC K 1, n1, .inr (.inl g)))) (p1 : ¬ sp < 0) (p2 : ¬ dp < 0) (p3 : ¬ n < 0) (p4 : sp.toNatClampNeg + n.toNatClampNeg ≤ n0) (p5 : dp.toNatClampNeg + n.toNatClampNeg ≤ n1) (hr : (st.map fun v => v.category).sum ≤ 8) (hdd : 1 ≤ d) (hnw : nativeFrameWords "java/lang/System" "arraycopy" 5 ≤ 20) {w' : Wd} (hw' : upW w a (.inl (kC K 1, n1, .inr (.inl (va_cpy f g sp.toNatClampNeg dp.toNatClampNeg n.toNatClampNeg)))) = w')
    (kk : N K M d mc ms Q (pc + 3) L st w' sz cc ss) : N K M d mc ms Q pc L (.int n :: .int dp :: .ref a :: .int sp :: .ref a0 :: st) w sz cc ss := by
  intro p e s m args below meth c H locs ls C_ hW hF hL hl
  subst hw'
  intro T hT X
  have hts := C_.2.2.2.2.2.2.2.1
  have ok : ∀ x ∈ gT, x.before args s = true := fun x hx => hts x (List.mem_cons_of_mem _ hx)
  have hK := Kok.k C_.2.2.2.2.2.2.2.2.1
  have hc0 : H[a0]? = some (vp_cell (kC K 1) (n0, .inr (.inl f))) := (hW.2.2 a0 _ h0).2
  have hc1 : H[a]? = some (vp_cell (kC K 1) (n1, .inr (.inl g))) := (hW.2.2 a _ h1).2
  obtain ⟨-, k0, hk0, cm0, hkk0⟩ := (hK.2 1 _ rfl).1 n0 (fun j => .long (f j))
  obtain ⟨vm', X', step⟩ := X.arraycopy C_.1 C_.2.2.2.2.2.1 (ok _ hk) (ok _ hnat) (ok _ hsta) (ok _ hini) (src := a0) (dst := a) (cs := vp_cell (kC K 1) (n0, .inr (.inl f))) (cd := vp_cell (kC K 1) (n1, .inr (.inl g))) (srcPos := sp) (destPos := dp) (n := n) (by rw [hT]; exact hc0) (by rw [hT]; exact hc1)
    (fun _ h => by cases h) (fun _ h => by cases h) (fun h => by cases h) (fun h => by cases h) hk0 hk0 hkk0 hkk0 rfl p1 p2 p3
    (by rw [toI_nn p1, toI_nn p3]; show ¬ _ > ((arrV (kC K 1) n0 (fun j => .long (f j))).slots.size : Int); rw [arrV_size]; omega)
    (by rw [toI_nn p2, toI_nn p3]; show ¬ _ > ((arrV (kC K 1) n1 (fun j => .long (g j))).slots.size : Int); rw [arrV_size]; omega)
    (fun vm₁ _ i hi => by
      have e : (vp_cell (kC K 1) (n0, .inr (.inl f))).slots.getD (sp.toNatClampNeg + i) .null = .long (f (sp.toNatClampNeg + i)) := by
        show (arrV (kC K 1) n0 (fun j => .long (f j))).slots.getD _ _ = _
        rw [Array.getD_eq_getD_getElem?, arrV_read _ _ (by omega)]
        rfl
      rw [e]
      exact ⟨rfl, trivial⟩)
    (g := F0 m pc ls (.int n :: .int dp :: .ref a :: .int sp :: .ref a0 :: st)) rfl (by rw [C_.2.2.2.2.1]; exact hl.1) (rest := st) rfl (by rw [C_.2.1]; exact hd) hdd (by show 2 * 0 + _ + _ ≤ 40 * d; omega)
  have e1 : copied (vp_cell (kC K 1) (n0, .inr (.inl f))) (vp_cell (kC K 1) (n1, .inr (.inl g))) sp dp n = vp_cell (kC K 1) (n1, .inr (.inl (va_cpy f g sp.toNatClampNeg dp.toNatClampNeg n.toNatClampNeg))) := va_copied (fun z => .long z) _ _ f g p4
  rw [e1] at X' step
  have hlt : a < H.size := (Array.getElem?_eq_some_iff.mp hc1).1
  have hh : ((T.setVm vm').setCell a (vp_cell (kC K 1) (n1, .inr (.inl (va_cpy f g sp.toNatClampNeg dp.toNatClampNeg n.toNatClampNeg))))).heap = H.setIfInBounds a (vp_cell (kC K 1) (n1, .inr (.inl (va_cpy f g sp.toNatClampNeg dp.toNatClampNeg n.toNatClampNeg)))) := by rw [← hT]; rfl
  obtain ⟨t, a1, b1⟩ := kk p e s m args below meth c _ _ ls C_ (hW.set h1 (show (H.setIfInBounds a (vp_cell (kC K 1) (n1, .inr (.inl (va_cpy f g sp.toNatClampNeg dp.toNatClampNeg n.toNatClampNeg)))))[a]? = some _ by simp [Array.getElem?_setIfInBounds, hlt]) (by simp) (fun q hq => by simp [Array.getElem?_setIfInBounds, Ne.symm hq])) (fun q hq => by
      rcases List.mem_append.mp hq with h | h
      · exact hF q h
      · obtain ⟨z, -, hz⟩ := List.mem_map.mp h
        rw [← hz]
        exact (hW.2.2 a _ h1).1) hL hl _ hh X'
  exact ⟨t, step t a1, b1⟩
end FA

