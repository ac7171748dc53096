/-! ===== aim ===== -/
theorem bo_n {α β : Type} (a : α) (k : α → Option β) : bo (some a) k = k a := Eq.trans (Eq.refl _) (Eq.refl _)
section AIM
variable {P : Nat} {σ : SC} {τ : SM}
theorem aim_loop (R : Rel P σ τ) (len what : Int32) : ∀ (d n m s : Nat) (fewest few best : Int32), 1 ≤ s → s + d = 2 ^ P → d < n → d < m → ((best = -1 ∧ fewest = 0 ∧ few = nI (P + 1)) ∨ ∃ u, 1 ≤ u ∧ u < 2 ^ P ∧ best = nI u ∧ fewest = nI u ∧ few = nI (pc6 u)) →
    ∃ best' fewest', fX5_fewestToTell_15 100 n σ len fewest few (nI s) = some fewest' ∧ ((best' = -1 ∧ fewest' = 0) ∨ ∃ u, 1 ≤ u ∧ u < 2 ^ P ∧ best' = nI u ∧ fewest' = nI u) ∧ fX6_aimOf_5 100 m τ len what best (nI s) = (if best' = -1 then some best' else if what = 1 then some best' else bo (fX6_ones 100 best') (fun v => some v)) := by
  have h6 := R.1
  have h64 := pow_le64 h6
  intro d
  induction d with
  | zero =>
    intro n m s fewest few best hs1 hs hn hm hr
    obtain ⟨n, rfl⟩ : ∃ k, n = k + 1 := ⟨n - 1, by omega⟩
    obtain ⟨m, rfl⟩ : ∃ k, m = k + 1 := ⟨m - 1, by omega⟩
    have hle : nI (2 ^ P) ≤ nI s := nI_le (by omega) (by omega)
    refine ⟨best, fewest, ?_, ?_, ?_⟩
    · rw [fX5_fewestToTell_15, R.2.1, tSh P (by omega), if_pos hle]
    · rcases hr with ⟨h1, h2, -⟩ | ⟨u, h1, h2, h3, h4, -⟩
      · exact Or.inl ⟨h1, h2⟩
      · exact Or.inr ⟨u, h1, h2, h3, h4⟩
    · rw [fX6_aimOf_5, R.2.2.1, tSh P (by omega), if_pos hle]
  | succ d ih =>
    intro n m s fewest few best hs1 hs hn hm hr
    obtain ⟨n, rfl⟩ : ∃ k, n = k + 1 := ⟨n - 1, by omega⟩
    obtain ⟨m, rfl⟩ : ∃ k, m = k + 1 := ⟨m - 1, by omega⟩
    have hsP : s < 2 ^ P := by omega
    have hnle : ¬ nI (2 ^ P) ≤ nI s := nI_ge hsP (by omega)
    obtain ⟨e, x1, x2⟩ := ends_eq R hsP
    have hpc := pc_le h6 hsP
    have hpc64 : pc6 s < 100 := by omega
    rw [fX5_fewestToTell_15, R.2.1, tSh P (by omega), if_neg hnle, fX6_aimOf_5, R.2.2.1, tSh P (by omega), if_neg hnle, tBc s (by omega), x1, tOnes s (by omega)]
    unfold fX6_aimOf_33 fX6_aimOf_38
    rw [x2]
    generalize hO : fX6_ones 100 = O at ih ⊢
    simp only [bo_n, ad1, e10, e00, if_true, if_false]
    -- taking s, leaving it
    have take := fun (b f w : Int32) (q : e = len) => ih n m (s + 1) (nI s) (nI (pc6 s)) (nI s) (by omega) (by omega) (by omega) (by omega) (Or.inr ⟨s, hs1, hsP, rfl, rfl, rfl⟩)
    have leave := ih n m (s + 1) fewest few best (by omega) (by omega) (by omega) (by omega) hr
    rcases hr with ⟨rfl, rfl, rfl⟩ | ⟨u, u1, u2, rfl, rfl, rfl⟩
    · rw [if_neg (nI_ge (show pc6 s < P + 1 by omega) (by omega)), if_pos rfl]
      by_cases c : e = len
      · rw [if_pos c, if_pos c]; exact take 0 0 0 c
      · rw [if_neg c, if_neg c]; exact leave
    · have hpu := pc_le h6 u2
      have hob2 : O (nI u) = some (nI (pc6 u)) := by rw [← hO]; exact tOnes u (by omega)
      rw [if_neg (m1N (by omega)), hob2]
      simp only [bo_s]
      by_cases c : pc6 u ≤ pc6 s
      · have c' : nI (pc6 u) ≤ nI (pc6 s) := nI_le c (by omega)
        rw [if_pos c', if_pos c']; exact leave
      · have c' : ¬ nI (pc6 u) ≤ nI (pc6 s) := nI_ge (by omega) (by omega)
        rw [if_neg c', if_neg c']
        by_cases ce : e = len
        · rw [if_pos ce, if_pos ce]; exact take 0 0 0 ce
        · rw [if_neg ce, if_neg ce]; exact leave
theorem aim_eq (R : Rel P σ τ) (h0 : P ≠ 0) (len : Int32) (h1 : ¬ len < 1) (h2 : ¬ 12 < len) (what : Int32) (hw : what = 0 ∨ what = 1) : ∃ r, fX5_aim 100 σ len what = some r ∧ fX6_aimOf 100 τ len what = some r := by
  have h6 := R.1
  have h64 := pow_le64 h6
  have hp2 : 2 ≤ 2 ^ P := by
    have : 2 ^ 1 ≤ 2 ^ P := Nat.pow_le_pow_right (by omega) (by omega)
    omega
  obtain ⟨best, fewest, q1, q2, q3⟩ := aim_loop R len what (2 ^ P - 1) 100 100 1 0 (nI (P + 1)) (-1) (by omega) (by omega) (by omega) (by omega) (Or.inl ⟨rfl, rfl, rfl⟩)
  have q1' : fX5_fewestToTell 100 σ len = some fewest := by
    unfold fX5_fewestToTell
    rw [R.2.1, ad1]
    exact q1
  have q3' : fX6_aimOf 100 τ len what = (if best = -1 then some best else if what = 1 then some best else bo (fX6_ones 100 best) (fun v => some v)) := q3
  rw [q3']
  unfold fX5_aim
  rw [if_neg h1, if_neg h2, isThere_eq R, if_neg h0, q1']
  have hw1 : ¬ what < 0 := by rcases hw with rfl | rfl <;> decide
  have hw2 : what < 2 := by rcases hw with rfl | rfl <;> decide
  rw [if_neg hw1, if_pos hw2]
  simp only [bo_s, e10, if_false]
  rcases q2 with ⟨rfl, rfl⟩ | ⟨u, u1, u2, rfl, rfl⟩
  · exact ⟨-1, by rw [if_pos rfl], by rw [if_pos rfl]⟩
  · rw [if_neg (nI_ne0 (by omega) (by omega)), if_neg (m1N (by omega)), tBc u (by omega), tOnes u (by omega)]
    simp only [bo_s]
    rcases hw with rfl | rfl
    · exact ⟨nI (pc6 u), by rw [if_pos rfl], by rw [if_neg (by decide)]⟩
    · exact ⟨nI u, by rw [if_neg (by decide)], by rw [if_pos rfl]⟩
end AIM
theorem op_aim (k : Nat) (σ : SC) (τ : SM) (a1 a2 : Int32) (_ : k + 4 ≤ 256) (h : Inv0 k σ τ) : ∃ (r : Int32), fX5_aim 100 σ a1 a2 = some r ∧ fX6_aim 100 τ a1 a2 = some r := by
  obtain ⟨L, P, r, hr, hPg, hNow, hC, hI⟩ := h
  have hR := hNow.1
  unfold fX6_aim
  rw [in32 (a := 1) (b := 12) a1 1 12 rfl rfl, in32 (a := 0) (b := 1) a2 0 1 rfl rfl, lacks_eq hR]
  simp only [bo_s]
  by_cases c1 : a1 < 1
  · exact ⟨-102, by unfold fX5_aim; rw [if_pos c1], by rw [if_pos c1, if_pos rfl]⟩
  by_cases c2 : 12 < a1
  · exact ⟨-102, by unfold fX5_aim; rw [if_neg c1, if_pos c2], by rw [if_neg c1, if_pos c2, if_pos rfl]⟩
  rw [if_neg c1, if_neg c2]
  simp only [e10, if_false]
  by_cases c3 : a2 < 0
  · exact ⟨-102, by unfold fX5_aim; rw [if_neg c1, if_neg c2, if_pos c3], by rw [if_pos c3, if_pos rfl]⟩
  have e1 : (1 : Int32).toInt = 1 := by decide
  have e2 : (2 : Int32).toInt = 2 := by decide
  by_cases c4 : a2 < 2
  · have c5 : ¬ 1 < a2 := fun q => by rw [Int32.lt_iff_toInt_lt] at q c4; omega
    rw [if_neg c3, if_neg c5]
    simp only [e10, if_false]
    by_cases h0 : P = 0
    · refine ⟨-103, ?_, ?_⟩
      · unfold fX5_aim
        rw [if_neg c1, if_neg c2, if_neg c3, if_pos c4, isThere_eq hR, if_pos h0]
        rfl
      · rw [if_pos h0, if_neg (by decide)]
    · rw [if_neg h0, if_pos rfl]
      have hw : a2 = 0 ∨ a2 = 1 := by
        obtain ⟨j, hj, ej⟩ := nI_of2 (x := a2) (M := 1) (n := 1) (by decide) c3 (Int32.not_lt.mp c5)
        rcases (show j = 0 ∨ j = 1 by omega) with rfl | rfl
        · exact Or.inl ej
        · exact Or.inr ej
      obtain ⟨v, v1, v2⟩ := aim_eq hR h0 a1 c1 c2 a2 hw
      exact ⟨v, v1, by rw [v2]; rfl⟩
  · have c5 : 1 < a2 := by rw [Int32.lt_iff_toInt_lt] at c4 ⊢; omega
    refine ⟨-102, ?_, ?_⟩
    · unfold fX5_aim
      rw [if_neg c1, if_neg c2, if_neg c3, if_neg c4]
    · rw [if_neg c3, if_pos c5, if_pos rfl]
