/-! ===== count ===== -/
section CNT
variable {P : Nat} {σ : SC} {τ : SM}
theorem lenAll_loop (hN : NowI P σ τ) (h0 : P ≠ 0) : ∀ (d n m t : Nat) (acc : Int32), t + d = 3 → d < n → d < m → ∃ r, fX5_lengthOfAll_4 100 n σ acc (nI t) = some r ∧ fX6_lengthAll_4 100 m τ acc (nI t) = some r := by
  obtain ⟨hR, hPa, hrv⟩ := hN
  intro d
  induction d with
  | zero =>
    intro n m t acc ht hn hm
    obtain ⟨n, rfl⟩ : ∃ k, n = k + 1 := ⟨n - 1, by omega⟩
    obtain ⟨m, rfl⟩ : ∃ k, m = k + 1 := ⟨m - 1, by omega⟩
    have e : t = 3 := by omega
    subst e
    exact ⟨acc, by rw [fX5_lengthOfAll_4, if_pos (by decide)], by rw [fX6_lengthAll_4, if_pos (by decide)]⟩
  | succ d ih =>
    intro n m t acc ht hn hm
    obtain ⟨n, rfl⟩ : ∃ k, n = k + 1 := ⟨n - 1, by omega⟩
    obtain ⟨m, rfl⟩ : ∃ k, m = k + 1 := ⟨m - 1, by omega⟩
    have h3 : ¬ (3 : Int32) ≤ nI t := nI_ge (b := 3) (by omega) (by omega)
    obtain ⟨q1, q2, q3, q4, q5, q6⟩ := hPa.1 t (by omega)
    obtain ⟨v, v1, v2⟩ := lengthOf_eq hR (t := t) (by omega) q4 q6
    obtain ⟨r, e1, e2⟩ := ih n m (t + 1) (acc + v) (by omega) (by omega) (by omega)
    refine ⟨r, ?_, ?_⟩
    · rw [fX5_lengthOfAll_4, if_neg h3, v1]
      simp only [bo_s, ad1]
      exact e1
    · rw [fX6_lengthAll_4, if_neg h3, lacks_eq hR, if_neg h0]
      simp only [bo_s, e00, if_true]
      rw [v2]
      simp only [bo_s, ad1]
      exact e2
set_option maxRecDepth 100000 in
theorem tNeg : ∀ d, d < 10 → (if -(nI d) < 0 then (0 : Int32) else -(nI d)) = 0 := by decide +kernel
theorem len0 (hN : NowI 0 σ τ) {t : Nat} (ht : t < 3) : fX5_lengthOf 100 σ (nI t) = some 0 := by
  obtain ⟨hR, hPa, rv, hrv, erv⟩ := hN
  obtain ⟨q1, q2, ⟨de, hde, ede⟩, -⟩ := hPa.1 t ht
  unfold fX5_lengthOf
  simp (disch := omega) only [ifB, cl]
  have h1 : fX0_length 100 σ (c_heard σ t) (c_denied σ t) = some 0 := by
    unfold fX0_length
    rw [fX0_length_9, hR.2.1, if_pos (show nI 0 ≤ (0 : Int32) by decide), ede, tNeg de (by omega), erv, if_neg (nI_pos (by omega)), if_pos rfl]
  rw [h1]
  rfl
theorem lenAll0_loop (hN : NowI 0 σ τ) : ∀ (d n t : Nat), t + d = 3 → d < n → fX5_lengthOfAll_4 100 n σ 0 (nI t) = some 0 := by
  intro d
  induction d with
  | zero =>
    intro n t ht hn
    obtain ⟨n, rfl⟩ : ∃ k, n = k + 1 := ⟨n - 1, by omega⟩
    have e : t = 3 := by omega
    subst e
    rw [fX5_lengthOfAll_4, if_pos (by decide)]
  | succ d ih =>
    intro n t ht hn
    obtain ⟨n, rfl⟩ : ∃ k, n = k + 1 := ⟨n - 1, by omega⟩
    have h3 : ¬ (3 : Int32) ≤ nI t := nI_ge (b := 3) (by omega) (by omega)
    rw [fX5_lengthOfAll_4, if_neg h3, len0 hN (by omega)]
    simp only [bo_s, ad1]
    exact ih n (t + 1) (by omega) (by omega)
theorem lenAll_eq (hN : NowI P σ τ) : ∃ r, fX5_lengthOfAll 100 σ = some r ∧ fX6_lengthAll 100 τ = some r := by
  by_cases h0 : P = 0
  · subst h0
    refine ⟨0, lenAll0_loop hN 3 100 0 (by omega) (by omega), ?_⟩
    unfold fX6_lengthAll
    rw [fX6_lengthAll_4, if_neg (by decide), lacks_eq hN.1]
    rfl
  · exact lenAll_loop hN h0 3 100 100 0 0 (by omega) (by omega) (by omega)
def hsum (h : Nat → Nat) : Nat → Nat → Int32 → Int32
  | 0, _, acc => acc
  | d + 1, t, acc => hsum h d (t + 1) (acc + nI (pc6 (h t)))
theorem hear_loop {h : Nat → Nat} (hh : ∀ t, t < 3 → h t < 64 ∧ c_heard σ t = nI (h t)) : ∀ (d n t : Nat) (acc : Int32), t + d = 3 → d < n → fX2_hearings_4 100 n σ acc (nI t) = some (hsum h d t acc) := by
  intro d
  induction d with
  | zero =>
    intro n t acc ht hn
    obtain ⟨n, rfl⟩ : ∃ k, n = k + 1 := ⟨n - 1, by omega⟩
    have e : t = 3 := by omega
    subst e
    rw [fX2_hearings_4, if_pos (by decide)]
    rfl
  | succ d ih =>
    intro n t acc ht hn
    obtain ⟨n, rfl⟩ : ∃ k, n = k + 1 := ⟨n - 1, by omega⟩
    have h3 : ¬ (3 : Int32) ≤ nI t := nI_ge (b := 3) (by omega) (by omega)
    obtain ⟨q1, q2⟩ := hh t (by omega)
    rw [fX2_hearings_4, if_neg h3]
    simp (disch := omega) only [ifB, cl]
    rw [q2, tBc _ q1]
    simp only [bo_s, ad1]
    exact ih n (t + 1) _ (by omega) (by omega)
theorem hear_eq (hN : NowI P σ τ) : ∃ r, fX2_hearings 100 σ = some r ∧ fX6_heardAll 100 τ = some r := by
  obtain ⟨hR, hPa, -⟩ := hN
  have h64 := pow_le64 hR.1
  have h : ∀ t : Nat, ∃ x : Nat, t < 3 → x < 64 ∧ c_heard σ t = nI x := by
    intro t
    by_cases ht : t < 3
    · obtain ⟨⟨x, hx, ex⟩, -⟩ := hPa.1 t ht
      exact ⟨x, fun _ => ⟨by omega, ex⟩⟩
    · exact ⟨0, fun q => absurd q ht⟩
  obtain ⟨h, hh⟩ := Classical.axiomOfChoice h
  refine ⟨_, hear_loop hh 3 100 0 0 (by omega) (by omega), ?_⟩
  unfold fX6_heardAll
  have t0 : m_tunnels τ (0 : Int32).toNatClampNeg = nI (h 0) := ((hPa.1 0 (by omega)).2.2.2.1).trans (hh 0 (by omega)).2
  have t1 : m_tunnels τ (3 : Int32).toNatClampNeg = nI (h 1) := ((hPa.1 1 (by omega)).2.2.2.1).trans (hh 1 (by omega)).2
  have t2 : m_tunnels τ (6 : Int32).toNatClampNeg = nI (h 2) := ((hPa.1 2 (by omega)).2.2.2.1).trans (hh 2 (by omega)).2
  rw [t0, t1, t2, tOnes _ (hh 0 (by omega)).1, tOnes _ (hh 1 (by omega)).1, tOnes _ (hh 2 (by omega)).1]
  simp only [bo_s, hsum, Int32.zero_add]
end CNT
theorem count_eq {L P r : Nat} {σ : SC} {τ : SM} (hI : Inv1 L P r σ τ) (a1 : Int32) : ∃ (v : Int32), fX5_count 100 σ a1 = some v ∧ fX6_countOf 100 τ a1 = some v := by
  obtain ⟨hPg, hN, hC, hIm⟩ := hI
  obtain ⟨v3, x3, y3⟩ := lenAll_eq hN
  obtain ⟨v4, x4, y4⟩ := hear_eq hN
  obtain ⟨hR, ⟨h1, ⟨a, ha, ea, ea'⟩, h3, ⟨d, hd, ed, ed'⟩, h5⟩, hrv⟩ := hN
  unfold fX5_count fX6_countOf
  rw [x3, x4, y3, y4, hR.2.1, hR.2.2.1, hR.2.2.2.1, ed, ed', h5, ea, ea', hPg.2.1, hPg.2.2.1, hC.1, hC.2]
  simp only [bo_s]
  by_cases c0 : a1 = 0
  · exact ⟨_, if_pos c0, if_pos c0⟩
  rw [if_neg c0]
  by_cases c1 : a1 = 1
  · exact ⟨_, if_pos c1, if_pos c1⟩
  rw [if_neg c1]
  by_cases c2 : a1 = 2
  · exact ⟨_, if_pos c2, if_pos c2⟩
  rw [if_neg c2]
  by_cases c3 : a1 = 3
  · exact ⟨_, if_pos c3, if_pos c3⟩
  rw [if_neg c3]
  by_cases c4 : a1 = 4
  · exact ⟨_, if_pos c4, if_pos c4⟩
  rw [if_neg c4]
  by_cases c5 : a1 = 5
  · exact ⟨_, if_pos c5, if_pos c5⟩
  rw [if_neg c5]
  by_cases c6 : a1 = 6
  · exact ⟨_, if_pos c6, if_pos c6⟩
  rw [if_neg c6]
  by_cases c7 : a1 = 7
  · exact ⟨_, if_pos c7, if_pos c7⟩
  rw [if_neg c7]
  by_cases c8 : a1 = 8
  · exact ⟨_, if_pos c8, if_pos c8⟩
  exact ⟨_, if_neg c8, if_neg c8⟩
theorem op_count (k : Nat) (σ : SC) (τ : SM) (a1 : Int32) (_ : k + 4 ≤ 256) (h : Inv0 k σ τ) : ∃ (r : Int32), fX5_count 100 σ a1 = some r ∧ fX6_count 100 τ a1 = some r := by
  obtain ⟨L, P, r, hr, hI⟩ := h
  obtain ⟨v, e1, e2⟩ := count_eq hI a1
  refine ⟨v, e1, ?_⟩
  unfold fX6_count
  rw [e2]
  rfl
