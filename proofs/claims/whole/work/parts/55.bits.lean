/-! MATHEMATICS: how many bits -/
def pcN (x : Nat) : Nat := x % 2 + x / 2 % 2 + x / 4 % 2 + x / 8 % 2 + x / 16 % 2 + x / 32 % 2 + x / 64 % 2 + x / 128 % 2 + x / 256 % 2 + x / 512 % 2
theorem bc_n : ∀ x, x < 1024 → bcF (nI x) = nI (pcN x) := by decide +kernel
theorem and1_n : ∀ x, x < 1024 → 0 < x → nI x &&& (nI x - 1) = nI (x &&& (x - 1)) := by decide +kernel
theorem pc_s : ∀ x, x < 1024 → 0 < x → pcN x = pcN (x &&& (x - 1)) + 1 := by decide +kernel
theorem bitsTo_n : ∀ n x, x < n → x < 1024 → bitsTo n (nI x) = nI (pcN x)
  | 0, x, h, _ => absurd h (by omega)
  | n + 1, x, h, h2 => by
    rw [bitsTo]
    by_cases c : x = 0
    · subst c; rw [if_pos nI_0]; rfl
    · have hl : x &&& (x - 1) ≤ x - 1 := Nat.and_le_right
      rw [if_neg (nI_ne0 (by omega) (by omega)), and1_n x h2 (by omega), bitsTo_n n _ (by omega) (by omega), nI_1, ← pc_s x h2 (by omega)]
theorem bits_n {x : Nat} (h : x < 1024) : bitsF (nI x) = nI (pcN x) := by
  rw [bitsF]; exact bitsTo_n _ x (by omega) h
theorem bits_bc {x : Nat} (h : x < 1024) : bitsF (nI x) = bcF (nI x) := by rw [bits_n h, bc_n x h]
theorem bit_n : ∀ p, p < 10 → ∀ x, x < 1024 → bitF (nI x) (nI p) = nI (x / 2 ^ p % 2) := by decide +kernel
theorem off_n : ∀ p, p < 10 → ∀ x, x < 1024 → offB (nI x) (nI p) = nI (x - x / 2 ^ p % 2 * 2 ^ p) ∧ pcN (x - x / 2 ^ p % 2 * 2 ^ p) + x / 2 ^ p % 2 = pcN x := by decide +kernel
theorem others_n {x p : Nat} (h : x < 1024) (hp : p < 10) : bitsF (offB (nI x) (nI p)) = bcF (nI x) - bitF (nI x) (nI p) := by
  obtain ⟨h1, h2⟩ := off_n p hp x h
  have h3 : x - x / 2 ^ p % 2 * 2 ^ p < 1024 := by omega
  rw [h1, bits_n h3, bc_n x h, bit_n p hp x h, ← h2, pk_sub (by omega), Nat.add_sub_cancel]
