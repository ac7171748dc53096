/-! ===== what class and reference hold alike of a hill: who tells whom ===== -/
def tellV (P : Nat) (kinds nexts : Nat → Int32) (p : Nat) : Int32 :=
  if kinds p = 1 then 0 else if nexts p = -1 then 0 else
  if (kinds p = 2 ∨ kinds p = 4) ∧ ¬ nI P ≤ nexts p + 1 ∧ ¬ nexts p + 1 = nI p then (1 <<< (nexts p &&& 31)) ||| (1 <<< ((nexts p + 1) &&& 31)) else 1 <<< (nexts p &&& 31)
def Rel (P : Nat) (σ : SC) (τ : SM) : Prop :=
  P ≤ 6 ∧ c_people σ = nI P ∧ m_people τ = nI P ∧ c_river σ = m_river τ ∧
  ∀ p, p < P → m_rows τ (2 * p) = c_kinds σ p ∧ m_rows τ (2 * p + 1) = c_nexts σ p ∧ c_lsts σ p = tellV P (c_kinds σ) (c_nexts σ) p ∧ (c_nexts σ p = -1 ∨ ∃ q, q < P ∧ c_nexts σ p = nI q)
section REL
variable {P : Nat} {σ : SC} {τ : SM}
theorem tellV_range {P p : Nat} {kinds nexts : Nat → Int32} (hP : P ≤ 6) (hn : nexts p = -1 ∨ ∃ q, q < P ∧ nexts p = nI q) : ∃ t, t < 2 ^ P ∧ tellV P kinds nexts p = nI t := by
  have h0 : 0 < 2 ^ P := Nat.two_pow_pos P
  have h64 := pow_le64 hP
  unfold tellV
  by_cases c1 : kinds p = 1
  · rw [if_pos c1]; exact ⟨0, h0, rfl⟩
  rw [if_neg c1]
  rcases hn with hn | ⟨q, hq, hn⟩
  · rw [if_pos hn]; exact ⟨0, h0, rfl⟩
  rw [if_neg (by rw [hn]; exact m1N (by omega))]
  rw [hn]
  have hq2 : 2 ^ q < 2 ^ P := Nat.pow_lt_pow_right (by omega) hq
  by_cases c2 : (kinds p = 2 ∨ kinds p = 4) ∧ ¬ nI P ≤ nI q + 1 ∧ ¬ nI q + 1 = nI p
  · rw [if_pos c2, ad1, tSh q (by omega)]
    have hq1 : q + 1 < P := by
      have := c2.2.1
      rw [ad1, leN (by omega) (by omega)] at this
      omega
    have hq3 : 2 ^ (q + 1) < 2 ^ P := Nat.pow_lt_pow_right (by omega) hq1
    rw [tSh (q + 1) (by omega), tOr _ (by omega) _ (by omega)]
    exact ⟨_, Nat.or_lt_two_pow hq2 hq3, rfl⟩
  · rw [if_neg c2, tSh q (by omega)]
    exact ⟨_, hq2, rfl⟩
theorem tellsOf_eq (R : Rel P σ τ) {p : Nat} (hp : p < P) : fX6_tellsOf 100 τ (nI p) = some (c_lsts σ p) := by
  obtain ⟨h6, -, hpe, -, hr⟩ := R
  obtain ⟨r1, r2, r3, r4⟩ := hr p hp
  rw [r3]
  unfold fX6_tellsOf tellV
  simp (disch := omega) only [mul2, ad1, ifB, cl, r1, r2, lb]
  by_cases c1 : c_kinds σ p = 1
  · rw [if_pos c1, if_pos c1]
  rw [if_neg c1, if_neg c1]
  by_cases c2 : c_nexts σ p = -1
  · rw [if_pos c2, if_pos c2]
  rw [if_neg c2, if_neg c2]
  simp only [fX6_tellsOf_47, fX6_tellsOf_52, hpe]
  by_cases c3 : c_kinds σ p = 2 <;> by_cases c4 : c_kinds σ p = 4 <;> by_cases c5 : nI P ≤ c_nexts σ p + 1 <;> by_cases c6 : c_nexts σ p + 1 = nI p <;> simp [c3, c4, c5, c6]
theorem lsts_range (R : Rel P σ τ) {p : Nat} (hp : p < P) : ∃ t, t < 2 ^ P ∧ c_lsts σ p = nI t := by
  obtain ⟨h6, -, -, -, hr⟩ := R
  obtain ⟨-, -, r3, r4⟩ := hr p hp
  rw [r3]
  exact tellV_range h6 r4
theorem listenersOf_eq {p : Nat} (hp : p < 6) : fX2_listenersOf 100 σ (nI p) = some (c_lsts σ p) := by
  unfold fX2_listenersOf
  rw [if_neg (nI_pos (by omega)), if_neg (show ¬ (6 : Int32) ≤ nI p from nI_ge (b := 6) hp (by omega)), ifB hp (by omega), cl (by omega)]
theorem kindOf_eq {p : Nat} (hp : p < 6) : fX0_kindOf 100 σ (nI p) = some (c_kinds σ p) := by
  unfold fX0_kindOf
  rw [if_neg (nI_pos (by omega)), if_neg (show ¬ (6 : Int32) ≤ nI p from nI_ge (b := 6) hp (by omega)), ifB hp (by omega), cl (by omega)]
theorem nextOf_eq {p : Nat} (hp : p < 6) : fX2_nextOf 100 σ (nI p) = some (c_nexts σ p) := by
  unfold fX2_nextOf
  rw [if_neg (nI_pos (by omega)), if_neg (show ¬ (6 : Int32) ≤ nI p from nI_ge (b := 6) hp (by omega)), ifB hp (by omega), cl (by omega)]
/-- whom any of a set tell, from person p on -/
def toldG (tl : Nat → Int32) (S : Int32) : Nat → Nat → Int32 → Int32
  | 0, _, acc => acc
  | d + 1, p, acc => toldG tl S d (p + 1) (if (S >>> (nI p &&& 31)) &&& 1 = 0 then acc else acc ||| tl p)
theorem hearers_loop (R : Rel P σ τ) (x1 x2 : Int32) : ∀ (d n p : Nat) (acc : Int32), p + d = P → d < n → fX4_hearers_5 100 n σ x1 x2 acc (nI p) = some (toldG (c_lsts σ) x2 d p acc &&& (x1 ^^^ (-1))) := by
  have h6 := R.1
  have hpe := R.2.1
  intro d
  induction d with
  | zero =>
    intro n p acc hp hn
    obtain ⟨n, rfl⟩ : ∃ k, n = k + 1 := ⟨n - 1, by omega⟩
    rw [fX4_hearers_5, hpe, if_pos (nI_le (by omega) (by omega))]
    rfl
  | succ d ih =>
    intro n p acc hp hn
    obtain ⟨n, rfl⟩ : ∃ k, n = k + 1 := ⟨n - 1, by omega⟩
    rw [fX4_hearers_5, hpe, if_neg (nI_ge (by omega) (by omega)), listenersOf_eq (by omega)]
    unfold fX5_isIn toldG
    by_cases c : (x2 >>> (nI p &&& 31)) &&& 1 = 0
    · simp only [c, if_true, bo, ad1]
      exact ih n (p + 1) acc (by omega) (by omega)
    · simp only [c, if_false, bo, ad1]
      rw [if_neg (by decide)]
      exact ih n (p + 1) _ (by omega) (by omega)
theorem hearers_eq (R : Rel P σ τ) (x1 x2 : Int32) : fX4_hearers 100 σ x1 x2 = some (toldG (c_lsts σ) x2 P 0 0 &&& (x1 ^^^ (-1))) :=
  hearers_loop R x1 x2 P 100 0 0 (by omega) (by have := R.1; omega)
theorem or_0 (x : Int32) : x ||| 0 = x := by simp
theorem toldBy_loop (R : Rel P σ τ) (x1 : Int32) : ∀ (d n p : Nat) (acc : Int32), p + d = P → d < n → fX6_toldBy_4 100 n τ x1 acc (nI p) = some (toldG (c_lsts σ) x1 d p acc) := by
  have h6 := R.1
  have hpe := R.2.2.1
  intro d
  induction d with
  | zero =>
    intro n p acc hp hn
    obtain ⟨n, rfl⟩ : ∃ k, n = k + 1 := ⟨n - 1, by omega⟩
    rw [fX6_toldBy_4, hpe, if_pos (nI_le (by omega) (by omega))]
    rfl
  | succ d ih =>
    intro n p acc hp hn
    obtain ⟨n, rfl⟩ : ∃ k, n = k + 1 := ⟨n - 1, by omega⟩
    rw [fX6_toldBy_4, hpe, if_neg (nI_ge (by omega) (by omega)), tellsOf_eq R (by omega)]
    unfold toldG
    rcases and_1 (x1 >>> (nI p &&& 31)) with c | c
    · rw [if_neg (by rw [c]; decide), if_pos c, or_0, ad1]
      exact ih n (p + 1) acc (by omega) (by omega)
    · rw [if_pos c, if_neg (by rw [c]; decide)]
      simp only [bo, ad1]
      exact ih n (p + 1) _ (by omega) (by omega)
theorem toldBy_eq (R : Rel P σ τ) (x1 : Int32) : fX6_toldBy 100 τ x1 = some (toldG (c_lsts σ) x1 P 0 0) :=
  toldBy_loop R x1 P 100 0 0 (by omega) (by have := R.1; omega)
theorem toldG_range (R : Rel P σ τ) (S : Int32) : ∀ (d p a : Nat), p + d = P → a < 2 ^ P → ∃ t, t < 2 ^ P ∧ toldG (c_lsts σ) S d p (nI a) = nI t := by
  have h64 := pow_le64 R.1
  intro d
  induction d with
  | zero => intro p a _ ha; exact ⟨a, ha, rfl⟩
  | succ d ih =>
    intro p a hp ha
    unfold toldG
    by_cases c : (S >>> (nI p &&& 31)) &&& 1 = 0
    · rw [if_pos c]; exact ih (p + 1) a (by omega) ha
    · rw [if_neg c]
      obtain ⟨t, ht, e⟩ := lsts_range R (p := p) (by omega)
      rw [e, tOr a (by omega) t (by omega)]
      exact ih (p + 1) _ (by omega) (Nat.or_lt_two_pow ha ht)
/-- as small sets -/
theorem told_nat (R : Rel P σ τ) : ∃ T : Nat → Nat, ∀ s, T s < 2 ^ P ∧ fX6_toldBy 100 τ (nI s) = some (nI (T s)) ∧ ∀ a, a < 64 → fX4_hearers 100 σ (nI a) (nI s) = some (nI (T s &&& (63 ^^^ a))) := by
  have h64 := pow_le64 R.1
  have h : ∀ s : Nat, ∃ t : Nat, t < 2 ^ P ∧ toldG (c_lsts σ) (nI s) P 0 0 = nI t := fun s => toldG_range R (nI s) P 0 0 (by omega) (Nat.two_pow_pos P)
  obtain ⟨T, hT⟩ := Classical.axiomOfChoice h
  refine ⟨T, fun s => ⟨(hT s).1, ?_, fun a ha => ?_⟩⟩
  · rw [toldBy_eq R, (hT s).2]
  · have := (hT s).1
    rw [hearers_eq R, (hT s).2, tAn _ (by omega) _ ha]
end REL
