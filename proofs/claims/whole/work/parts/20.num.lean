/-! ===== numbers and small sets ===== -/
def pc6 (s : Nat) : Nat := s % 2 + s / 2 % 2 + s / 4 % 2 + s / 8 % 2 + s / 16 % 2 + s / 32 % 2
set_option maxRecDepth 100000 in
theorem tOr : ∀ a, a < 64 → ∀ b, b < 64 → nI a ||| nI b = nI (a ||| b) := by decide +kernel
set_option maxRecDepth 100000 in
theorem tAn : ∀ a, a < 64 → ∀ b, b < 64 → nI a &&& (nI b ^^^ (-1)) = nI (a &&& (63 ^^^ b)) := by decide +kernel
set_option maxRecDepth 100000 in
theorem tPc : ∀ a, a < 64 → ∀ b, b < 64 → b ≠ 0 → b &&& a = 0 → pc6 a + 1 ≤ pc6 (a ||| b) := by decide +kernel
set_option maxRecDepth 100000 in
theorem tPcLe : ∀ P, P < 7 → ∀ a, a < 2 ^ P → pc6 a ≤ P ∧ (pc6 a = P → a = 2 ^ P - 1) := by decide +kernel
set_option maxRecDepth 100000 in
theorem tFull : ∀ P, P < 7 → ∀ s, s < 2 ^ P → s &&& (63 ^^^ (2 ^ P - 1)) = 0 := by decide +kernel
set_option maxRecDepth 100000 in
theorem tDis : ∀ s, s < 64 → ∀ a, a < 64 → (s &&& (63 ^^^ a)) &&& a = 0 := by decide +kernel
set_option maxRecDepth 100000 in
theorem tSh : ∀ p, p < 7 → (1 : Int32) <<< (nI p &&& 31) = nI (2 ^ p) := by decide +kernel
set_option maxRecDepth 100000 in
theorem tBit : ∀ s, s < 64 → ∀ p, p < 6 → (nI s &&& ((1 : Int32) <<< (nI p &&& 31)) = 0 ↔ (nI s >>> (nI p &&& 31)) &&& 1 = 0) := by decide +kernel
set_option maxRecDepth 100000 in
theorem tBc : ∀ s, s < 64 → fJ6_bitCount_0f7a4 100 (nI s) = some (nI (pc6 s)) := by decide +kernel
set_option maxRecDepth 100000 in
theorem tOnes : ∀ s, s < 64 → fX6_ones 100 (nI s) = some (nI (pc6 s)) := by decide +kernel
theorem pow_le64 {P : Nat} (h : P ≤ 6) : 2 ^ P ≤ 64 := by
  rcases (show P = 0 ∨ P = 1 ∨ P = 2 ∨ P = 3 ∨ P = 4 ∨ P = 5 ∨ P = 6 by omega) with rfl | rfl | rfl | rfl | rfl | rfl | rfl <;> decide
theorem and_1 (x : Int32) : x &&& 1 = 0 ∨ x &&& 1 = 1 := by
  obtain ⟨j, hj, e⟩ := pk_andE x (m := 1) 1 (by decide)
  rcases (show j = 0 ∨ j = 1 by omega) with rfl | rfl
  · left; rw [e]; rfl
  · right; rw [e]; rfl
theorem and_1n {x : Int32} : ¬ x &&& 1 = 0 ↔ x &&& 1 = 1 := by
  rcases and_1 x with h | h <;> rw [h] <;> decide
theorem cl {n : Nat} (h : n < 2147483648) : (nI n).toNatClampNeg = n := nI_clamp h
theorem inBn {n M : Nat} (h : n < M) (hM : M < 2147483648) : inB (nI n) M := vp_in_nI h hM
theorem ifB {α : Type} {n M : Nat} {a : Option α} (h : n < M) (hM : M < 2147483648) : (if inB (nI n) M then a else none) = a := if_pos (vp_in_nI h hM)
theorem leN {a b : Nat} (ha : a < 2147483648) (hb : b < 2147483648) : (nI a ≤ nI b) ↔ (a ≤ b) := nI_leI ha hb
theorem ltN {a b : Nat} (ha : a < 2147483648) (hb : b < 2147483648) : (nI a < nI b) ↔ (a < b) := nI_ltI ha hb
theorem eqN {a b : Nat} (ha : a < 2147483648) (hb : b < 2147483648) : (nI a = nI b) ↔ (a = b) := nI_eq ha hb
theorem m1N {a : Nat} (ha : a < 2147483648) : ¬ nI a = -1 := by
  intro h
  have h2 := congrArg Int32.toInt h
  rw [nI_toInt ha] at h2
  have : (-1 : Int32).toInt = -1 := by decide
  omega
theorem neg1_lt {a : Nat} (ha : a < 2147483648) : (-1 : Int32) < nI a := by
  rw [Int32.lt_iff_toInt_lt, nI_toInt ha]
  have : (-1 : Int32).toInt = -1 := by decide
  omega
theorem mul2 (p : Nat) : (2 : Int32) * nI p = nI (2 * p) := pk_mul 2 p
theorem mul3 (p : Nat) : (3 : Int32) * nI p = nI (3 * p) := pk_mul 3 p
theorem mul3r (p : Nat) : nI p * (3 : Int32) = nI (p * 3) := pk_mul p 3
theorem ad1 (p : Nat) : nI p + (1 : Int32) = nI (p + 1) := nI_add p 1
theorem ad2 (p : Nat) : nI p + (2 : Int32) = nI (p + 2) := nI_add p 2
theorem ad4 (p : Nat) : nI p + (4 : Int32) = nI (p + 4) := nI_add p 4
theorem mod3 {p : Nat} (h : p < 2147483648) : nI p - nI p / 3 * 3 = nI (p % 3) := pk_rem (d := 3) h (by omega) (by omega)
theorem div3 {p : Nat} (h : p < 2147483648) : nI p / 3 = nI (p / 3) := pk_div (d := 3) h (by omega) (by omega)
/-- an int between 0 and a small n -/
theorem inN (x : Int32) (n : Nat) (hn : n < 2147483648) : (∃ j, j < n ∧ x = nI j) ∨ (x < 0 ∨ nI n ≤ x) := by
  rcases pk_ix x (n := n) hn with h | h | h
  · exact Or.inr (Or.inl h)
  · exact Or.inr (Or.inr h)
  · exact Or.inl h
