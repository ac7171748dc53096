/-! ===== digest ===== -/
section DIGEST
variable {L P r : Nat} {σ : SC} {τ : SM}
theorem inv_hash (hI : Inv1 L P r σ τ) (h : Int64) : Inv1 L P r σ (sm_hash τ h) := by
  obtain ⟨hPg, hNow, hC, hIm⟩ := hI
  exact ⟨hPg, hNow, hC, hIm⟩
theorem say_eq (τ : SM) (h x : Int64) : fX6_say 100 (sm_hash τ h) x = some (sm_hash τ (31 * h + x)) := by
  unfold fX6_say
  rw [lb_n]
  rfl
theorem mixed_eq (h x : Int64) : fX5_mixed 100 h x = some (31 * h + x) := rfl
theorem dgCount_loop (hI : Inv1 L P r σ τ) : ∀ (d n m j : Nat) (h : Int64), j + d = 9 → d < n → d < m → ∃ v : Int64, fX5_digest_104 100 n σ h (nI j) = some (v, σ) ∧ fX6_digest_88 100 m (sm_hash τ h) (nI j) = some (v, sm_hash τ v) := by
  intro d
  induction d with
  | zero =>
    intro n m j h hj hn hm
    obtain ⟨n, rfl⟩ : ∃ k, n = k + 1 := ⟨n - 1, by omega⟩
    obtain ⟨m, rfl⟩ : ∃ k, m = k + 1 := ⟨m - 1, by omega⟩
    have e : j = 9 := by omega
    subst e
    have h9 : (9 : Int32) ≤ nI 9 := by decide
    refine ⟨h, ?_, ?_⟩
    · rw [fX5_digest_104, if_pos h9]
    · rw [fX6_digest_88, if_pos h9]
      rfl
  | succ d ih =>
    intro n m j h hj hn hm
    obtain ⟨n, rfl⟩ : ∃ k, n = k + 1 := ⟨n - 1, by omega⟩
    obtain ⟨m, rfl⟩ : ∃ k, m = k + 1 := ⟨m - 1, by omega⟩
    have h9 : ¬ (9 : Int32) ≤ nI j := nI_ge (b := 9) (by omega) (by omega)
    obtain ⟨w, w1, w2⟩ := count_eq (inv_hash hI h) (nI j)
    obtain ⟨v, x1, x2⟩ := ih n m (j + 1) (31 * h + w.toInt64) (by omega) (by omega) (by omega)
    refine ⟨v, ?_, ?_⟩
    · rw [fX5_digest_104, if_neg h9, w1, bo_n, mixed_eq, bo_n, ad1, x1]
    · rw [fX6_digest_88, if_neg h9, w2, bo_n, say_eq, bo_n, ad1, x2]
theorem dgLetters_loop (hI : Inv1 L P r σ τ) : ∀ (d n m j : Nat) (h : Int64), j + d = L → d < n → d < m → ∃ v : Int64, fX5_withLetters_5 100 n σ h (nI j) = some v ∧ fX6_digest_61 100 m (sm_hash τ h) (nI j) = fX6_digest_88 100 100 (sm_hash τ v) 0 := by
  obtain ⟨⟨hL, p1, p2, p3, p4⟩, -⟩ := hI
  have p2' : ∀ h, m_pageMany (sm_hash τ h) = nI L := fun h => p2
  have p3' : ∀ h, m_page (sm_hash τ h) = c_codes σ := fun h => p3.symm
  intro d
  induction d with
  | zero =>
    intro n m j h hj hn hm
    obtain ⟨n, rfl⟩ : ∃ k, n = k + 1 := ⟨n - 1, by omega⟩
    obtain ⟨m, rfl⟩ : ∃ k, m = k + 1 := ⟨m - 1, by omega⟩
    have e : j = L := by omega
    subst e
    have h9 : nI j ≤ nI j := nI_le (by omega) (by omega)
    refine ⟨h, ?_, ?_⟩
    · rw [fX5_withLetters_5, p1, if_pos h9]
    · rw [fX6_digest_61, p2', if_pos h9]
  | succ d ih =>
    intro n m j h hj hn hm
    obtain ⟨n, rfl⟩ : ∃ k, n = k + 1 := ⟨n - 1, by omega⟩
    obtain ⟨m, rfl⟩ : ∃ k, m = k + 1 := ⟨m - 1, by omega⟩
    have h9 : ¬ nI L ≤ nI j := nI_ge (by omega) (by omega)
    obtain ⟨v, x1, x2⟩ := ih n m (j + 1) (31 * h + (c_codes σ j).toInt64) (by omega) (by omega) (by omega)
    refine ⟨v, ?_, ?_⟩
    · rw [fX5_withLetters_5, p1, if_neg h9, codeAt_in hL p1 (by omega), bo_n, mixed_eq, bo_n, ad1, x1]
    · rw [fX6_digest_61, p2', if_neg h9, ifB (by omega) (by omega), p3', cl (by omega), say_eq, bo_n, ad1, x2]
theorem dg96 (hI : Inv1 L P r σ τ) (h : Int64) : ∃ v : Int64, fX5_digest_96 100 σ h = some (v, σ) ∧ fX6_digest_61 100 100 (sm_hash τ h) 0 = some (v, sm_hash τ v) := by
  have hL := hI.1.1
  obtain ⟨u, x1, x2⟩ := dgLetters_loop hI L 100 100 0 h (by omega) (by omega) (by omega)
  obtain ⟨v, y1, y2⟩ := dgCount_loop hI 9 100 100 0 u (by omega) (by omega) (by omega)
  rw [nI_0] at x1 x2 y1 y2
  refine ⟨v, ?_, ?_⟩
  · unfold fX5_digest_96 fX5_withLetters
    rw [x1, bo_n, y1]
  · rw [x2, y2]
theorem dgTun_in (hI : Inv1 L P r σ τ) (h0 : P ≠ 0) {t : Nat} (ht : t < 3) : ∀ (d n m j : Nat) (h : Int64), j + d = 5 → d < n → d < m → ∃ v : Int64, (∀ k, fX5_withTunnels_14 100 k n σ h (nI t) (nI j) = k σ v (nI (t + 1))) ∧ ∀ k, fX6_sayHill_9 100 k m (sm_hash τ h) (nI t) (nI j) = k (sm_hash τ v) (nI (t + 1)) := by
  intro d
  induction d with
  | zero =>
    intro n m j h hj hn hm
    obtain ⟨n, rfl⟩ : ∃ k, n = k + 1 := ⟨n - 1, by omega⟩
    obtain ⟨m, rfl⟩ : ∃ k, m = k + 1 := ⟨m - 1, by omega⟩
    have e : j = 5 := by omega
    subst e
    have h9 : (5 : Int32) ≤ nI 5 := by decide
    refine ⟨h, fun k => ?_, fun k => ?_⟩
    · rw [fX5_withTunnels_14, if_pos h9, ad1]
    · rw [fX6_sayHill_9, if_pos h9, ad1]
  | succ d ih =>
    intro n m j h hj hn hm
    obtain ⟨n, rfl⟩ : ∃ k, n = k + 1 := ⟨n - 1, by omega⟩
    obtain ⟨m, rfl⟩ : ∃ k, m = k + 1 := ⟨m - 1, by omega⟩
    have h9 : ¬ (5 : Int32) ≤ nI j := nI_ge (b := 5) (by omega) (by omega)
    obtain ⟨w, w1, w2⟩ := tunnel_eq (inv_hash hI h).2.1 h0 ht (nI j)
    obtain ⟨v, x1, x2⟩ := ih n m (j + 1) (31 * h + w.toInt64) (by omega) (by omega) (by omega)
    refine ⟨v, fun k => ?_, fun k => ?_⟩
    · rw [fX5_withTunnels_14, if_neg h9, w1, bo_n, mixed_eq, bo_n, ad1, x1]
    · rw [fX6_sayHill_9, if_neg h9, w2, bo_n, say_eq, bo_n, ad1, x2]
theorem dgTun_loop (hI : Inv1 L P r σ τ) (h0 : P ≠ 0) : ∀ (d n m t : Nat) (h : Int64), t + d = 3 → d < n → d < m → ∃ v : Int64, fX5_withTunnels_5 100 n σ h (nI t) = some v ∧ ∃ m', fX6_sayHill_2 100 m (sm_hash τ h) (nI t) = fX6_sayHill_2 100 (m' + 1) (sm_hash τ v) (nI 3) := by
  intro d
  induction d with
  | zero =>
    intro n m t h hj hn hm
    obtain ⟨n, rfl⟩ : ∃ k, n = k + 1 := ⟨n - 1, by omega⟩
    obtain ⟨m, rfl⟩ : ∃ k, m = k + 1 := ⟨m - 1, by omega⟩
    have e : t = 3 := by omega
    subst e
    have h9 : (3 : Int32) ≤ nI 3 := by decide
    refine ⟨h, ?_, m, rfl⟩
    rw [fX5_withTunnels_5, if_pos h9]
  | succ d ih =>
    intro n m t h hj hn hm
    obtain ⟨n, rfl⟩ : ∃ k, n = k + 1 := ⟨n - 1, by omega⟩
    obtain ⟨m, rfl⟩ : ∃ k, m = k + 1 := ⟨m - 1, by omega⟩
    have h9 : ¬ (3 : Int32) ≤ nI t := nI_ge (b := 3) (by omega) (by omega)
    obtain ⟨u, y1, y2⟩ := dgTun_in hI h0 (t := t) (by omega) 5 100 100 0 h (by omega) (by omega) (by omega)
    rw [nI_0] at y1 y2
    obtain ⟨v, x1, m', x2⟩ := ih n m (t + 1) u (by omega) (by omega) (by omega)
    refine ⟨v, ?_, m', ?_⟩
    · rw [fX5_withTunnels_5, if_neg h9, y1, x1]
    · rw [fX6_sayHill_2, if_neg h9, y2, x2]
theorem dgPer_in (hI : Inv1 L P r σ τ) {p : Nat} (hp : p < P) : ∀ (d n m j : Nat) (h : Int64), j + d = 6 → d < n → d < m → ∃ v : Int64, (∀ k, fX5_withPeople_20 100 k n σ h (nI p) (nI j) = k σ v (nI (p + 1))) ∧ ∀ k, fX6_digest_19 100 k m (sm_hash τ h) (nI p) (nI j) = k (sm_hash τ v) (nI (p + 1)) := by
  intro d
  induction d with
  | zero =>
    intro n m j h hj hn hm
    obtain ⟨n, rfl⟩ : ∃ k, n = k + 1 := ⟨n - 1, by omega⟩
    obtain ⟨m, rfl⟩ : ∃ k, m = k + 1 := ⟨m - 1, by omega⟩
    have e : j = 6 := by omega
    subst e
    have h9 : (6 : Int32) ≤ nI 6 := by decide
    refine ⟨h, fun k => ?_, fun k => ?_⟩
    · rw [fX5_withPeople_20, if_pos h9, ad1]
    · rw [fX6_digest_19, if_pos h9, ad1]
  | succ d ih =>
    intro n m j h hj hn hm
    obtain ⟨n, rfl⟩ : ∃ k, n = k + 1 := ⟨n - 1, by omega⟩
    obtain ⟨m, rfl⟩ : ∃ k, m = k + 1 := ⟨m - 1, by omega⟩
    have h9 : ¬ (6 : Int32) ≤ nI j := nI_ge (b := 6) (by omega) (by omega)
    obtain ⟨w, w1, w2⟩ := person_eq (inv_hash hI h).2.1 hp (nI j)
    obtain ⟨v, x1, x2⟩ := ih n m (j + 1) (31 * h + w.toInt64) (by omega) (by omega) (by omega)
    refine ⟨v, fun k => ?_, fun k => ?_⟩
    · rw [fX5_withPeople_20, if_neg h9, w1, bo_n, mixed_eq, bo_n, ad1, x1]
    · rw [fX6_digest_19, if_neg h9, w2, bo_n, say_eq, bo_n, ad1, x2]
theorem dgPer_loop (hI : Inv1 L P r σ τ) : ∀ (d n m p : Nat) (h : Int64), p + d = P → d < n → d < m → ∃ v : Int64, fX5_withPeople_5 100 n σ h (nI p) = some v ∧ ∃ m', fX6_digest_9 100 m (sm_hash τ h) (nI p) = fX6_digest_9 100 (m' + 1) (sm_hash τ v) (nI P) := by
  have h6 := hI.2.1.1.1
  have hpe := hI.2.1.1.2.1
  have hpm : ∀ h, m_people (sm_hash τ h) = nI P := fun h => hI.2.1.1.2.2.1
  intro d
  induction d with
  | zero =>
    intro n m t h hj hn hm
    obtain ⟨n, rfl⟩ : ∃ k, n = k + 1 := ⟨n - 1, by omega⟩
    obtain ⟨m, rfl⟩ : ∃ k, m = k + 1 := ⟨m - 1, by omega⟩
    have e : t = P := by omega
    subst e
    refine ⟨h, ?_, m, rfl⟩
    rw [fX5_withPeople_5, hpe, if_pos (nI_le (by omega) (by omega))]
  | succ d ih =>
    intro n m p h hj hn hm
    obtain ⟨n, rfl⟩ : ∃ k, n = k + 1 := ⟨n - 1, by omega⟩
    obtain ⟨m, rfl⟩ : ∃ k, m = k + 1 := ⟨m - 1, by omega⟩
    have h9 : ¬ nI P ≤ nI p := nI_ge (by omega) (by omega)
    obtain ⟨u, y1, y2⟩ := dgPer_in hI (p := p) (by omega) 6 100 100 0 h (by omega) (by omega) (by omega)
    rw [nI_0] at y1 y2
    obtain ⟨v, x1, m', x2⟩ := ih n m (p + 1) u (by omega) (by omega) (by omega)
    refine ⟨v, ?_, m', ?_⟩
    · rw [fX5_withPeople_5, hpe, if_neg h9, y1, x1]
    · rw [fX6_digest_9, hpm, if_neg h9, y2, x2]
theorem op_digest (k : Nat) (σ : SC) (τ : SM) (_ : k + 4 ≤ 256) (h : Inv0 k σ τ) : ∃ (r : Int64) (σ1 : SC) (τ1 : SM), fX5_digest 100 σ = some (r, σ1) ∧ fX6_digest 100 τ = some (r, τ1) ∧ Inv0 (k + 4) σ1 τ1 := by
  obtain ⟨L, P, r, hr, hI⟩ := h
  have hR := hI.2.1.1
  have h6 := hR.1
  have hpm : ∀ h, m_people (sm_hash τ h) = nI P := fun h => hR.2.2.1
  obtain ⟨a, a1, m', a2⟩ := dgPer_loop hI P 100 100 0 1069 (by omega) (by omega) (by omega)
  rw [nI_0] at a1 a2
  have hM : fX6_digest 100 τ = fX6_digest_9 100 (m' + 1) (sm_hash τ a) (nI P) := by
    unfold fX6_digest
    rw [lb_n, a2]
  rw [hM, fX6_digest_9, hpm, if_pos (nI_le (by omega) (by omega)), lacks_eq (inv_hash hI a).2.1.1, bo_n]
  unfold fX5_digest
  rw [isThere_eq hR, bo_n]
  by_cases h0 : P = 0
  · subst h0
    have ha : a = 1069 := by
      have : fX5_withPeople_5 100 100 σ 1069 0 = some 1069 := by
        rw [fX5_withPeople_5, hR.2.1, if_pos (by decide)]
      rw [this] at a1
      exact (Option.some.inj a1).symm
    subst ha
    obtain ⟨v, y1, y2⟩ := dg96 hI 1069
    rw [if_pos rfl, if_pos rfl, if_pos rfl, if_neg (show ¬ (1 : Int32) = 0 by decide), y1, y2]
    exact ⟨v, σ, sm_hash τ v, rfl, rfl, L, 0, r, by omega, inv_hash hI v⟩
  · rw [if_neg h0, if_neg h0, if_neg (show ¬ (1 : Int32) = 0 by decide), if_pos rfl]
    have hw : fX5_withPeople 100 σ 1069 = some a := a1
    rw [hw, bo_n]
    obtain ⟨b, b1, m2, b2⟩ := dgTun_loop hI h0 3 100 100 0 a (by omega) (by omega) (by omega)
    rw [nI_0] at b1 b2
    have hw2 : fX5_withTunnels 100 σ a = some b := b1
    have hs : fX6_sayHill 100 (sm_hash τ a) = fX6_sayHill_2 100 (m2 + 1) (sm_hash τ b) (nI 3) := b2
    rw [hw2, bo_n, hs, fX6_sayHill_2, if_pos (show (3 : Int32) ≤ nI 3 by decide)]
    obtain ⟨r1, c1, c2⟩ := aim_eq (inv_hash hI b).2.1.1 h0 3 (by decide) (by decide) 0 (Or.inl rfl)
    rw [c1, c2, bo_n, bo_n, mixed_eq, say_eq, bo_n, bo_n]
    generalize (31 * b + r1.toInt64) = h1
    obtain ⟨r2, c1, c2⟩ := aim_eq (inv_hash hI h1).2.1.1 h0 3 (by decide) (by decide) 1 (Or.inr rfl)
    rw [c1, c2, bo_n, bo_n, mixed_eq, say_eq, bo_n, bo_n]
    generalize (31 * h1 + r2.toInt64) = h2
    obtain ⟨r3, c1, c2⟩ := aim_eq (inv_hash hI h2).2.1.1 h0 7 (by decide) (by decide) 0 (Or.inl rfl)
    rw [c1, c2, bo_n, bo_n, mixed_eq, say_eq, bo_n, bo_n]
    generalize (31 * h2 + r3.toInt64) = h3
    obtain ⟨r4, c1, c2⟩ := aim_eq (inv_hash hI h3).2.1.1 h0 7 (by decide) (by decide) 1 (Or.inr rfl)
    rw [c1, c2, bo_n, bo_n, mixed_eq, say_eq, bo_n, bo_n]
    generalize (31 * h3 + r4.toInt64) = h4
    obtain ⟨u, hu, d1, d2⟩ := began_eq (inv_hash hI h4).2.1
    have hbg : fX5_began 100 σ = some (nI u) := by
      unfold fX5_began
      rw [isThere_eq hR, bo_n, if_neg h0, if_neg (show ¬ (1 : Int32) = 0 by decide), d1]
      try rfl
    rw [hbg, d2, bo_n, bo_n, mixed_eq, say_eq, bo_n, bo_n]
    generalize (31 * h4 + (nI u).toInt64) = h5
    obtain ⟨v, u2, f, g, e1, e2, e3⟩ := ask_eq (inv_hash hI h5).2.1
    have has : fX5_ask 100 σ = some (v, sc_left σ f) := by
      unfold fX5_ask
      rw [isThere_eq hR, bo_n, if_neg h0, if_neg (show ¬ (1 : Int32) = 0 by decide), e1, bo_n, e2]
      try rfl
    have hpp : sm_parts (sm_hash τ h5) g = sm_hash (sm_parts τ g) h5 := rfl
    rw [has, e3, bd_n, bd_n, mixed_eq, hpp, say_eq, bo_n, bo_n, bo_n]
    have hI2 : Inv1 L P r (sc_left σ f) (sm_parts τ g) := by
      obtain ⟨hPg, hNow, hC, hIm⟩ := hI
      exact ⟨hPg, hNow, hC, hIm⟩
    obtain ⟨w, y1, y2⟩ := dg96 hI2 (31 * h5 + v.toInt64)
    rw [y1, y2]
    exact ⟨w, sc_left σ f, sm_hash (sm_parts τ g) w, rfl, rfl, L, P, r, by omega, inv_hash hI2 w⟩
end DIGEST
