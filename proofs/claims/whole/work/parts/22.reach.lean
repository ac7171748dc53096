/-! ===== what is told on, to its end; lengths; days ===== -/
section REACH
variable {P : Nat} {σ : SC} {τ : SM}
theorem and_lt {a b n : Nat} (h : a < n) : a &&& b < n := Nat.lt_of_le_of_lt Nat.and_le_left h
theorem pc_le (hP : P ≤ 6) {a : Nat} (ha : a < 2 ^ P) : pc6 a ≤ P := (tPcLe P (by omega) a ha).1
theorem reach (R : Rel P σ τ) {T : Nat → Nat} (hT : ∀ s, T s < 2 ^ P ∧ fX6_toldBy 100 τ (nI s) = some (nI (T s)) ∧ ∀ a, a < 64 → fX4_hearers 100 σ (nI a) (nI s) = some (nI (T s &&& (63 ^^^ a)))) :
    ∀ (c all now n : Nat), all < 2 ^ P → now < 2 ^ P → P ≤ c + pc6 all → c + 2 ≤ n → ∃ r, r < 2 ^ P ∧ fX6_endBy_5 100 n τ (nI all) (nI now) = some (nI r) ∧
      ∀ (n1 day : Nat) (x3 : Int32), (now ≠ 0 → day ≤ pc6 all) → day ≤ P → P - day < n1 → fX4_lengthInTheEnd_9 100 n1 σ x3 (nI all) (nI now) (nI day) = fX4_lengthInTheEnd_49 100 σ x3 (nI r) := by
  have h6 := R.1
  have hpe := R.2.1
  have h64 := pow_le64 h6
  intro c
  induction c with
  | zero =>
    intro all now n ha hn hc hm
    have hpa := pc_le h6 ha
    refine ⟨all, ha, ?_, ?_⟩
    · obtain ⟨n, rfl⟩ : ∃ k, n = k + 2 := ⟨n - 2, by omega⟩
      rw [fX6_endBy_5]
      by_cases h0 : now = 0
      · rw [h0, if_pos nI_0]
      · rw [if_neg (nI_ne0 (by omega) (by omega)), (hT now).2.1]
        have hfull : all = 2 ^ P - 1 := (tPcLe P (by omega) all ha).2 (by omega)
        have hz : T now &&& (63 ^^^ all) = 0 := by rw [hfull]; exact tFull P (by omega) _ (hT now).1
        have := (hT now).1
        simp only [bo]
        rw [tAn _ (by omega) _ (by omega), hz, tOr _ (by omega) _ (by omega), Nat.or_zero, fX6_endBy_5, if_pos nI_0]
    · intro n1 day x3 hd hdP hn1
      obtain ⟨n1, rfl⟩ : ∃ k, n1 = k + 1 := ⟨n1 - 1, by omega⟩
      rw [fX4_lengthInTheEnd_9, hpe]
      by_cases h1 : P ≤ day
      · rw [if_pos (nI_le h1 (by omega))]
      rw [if_neg (nI_ge (by omega) (by omega))]
      by_cases h0 : now = 0
      · rw [h0, if_pos nI_0]
      · rw [if_neg (nI_ne0 (by omega) (by omega)), (hT now).2.2 all (by omega)]
        have hfull : all = 2 ^ P - 1 := (tPcLe P (by omega) all ha).2 (by omega)
        have hz : T now &&& (63 ^^^ all) = 0 := by rw [hfull]; exact tFull P (by omega) _ (hT now).1
        obtain ⟨n1, rfl⟩ : ∃ k, n1 = k + 1 := ⟨n1 - 1, by omega⟩
        simp only [bo]
        rw [hz, tOr _ (by omega) _ (by omega), Nat.or_zero, fX4_lengthInTheEnd_9, if_pos nI_0]
        split <;> rfl
  | succ c ih =>
    intro all now n ha hn hc hm
    have hpa := pc_le h6 ha
    have hTn := (hT now).1
    by_cases h0 : now = 0
    · refine ⟨all, ha, ?_, ?_⟩
      · obtain ⟨n, rfl⟩ : ∃ k, n = k + 1 := ⟨n - 1, by omega⟩
        rw [fX6_endBy_5, h0, if_pos nI_0]
      · intro n1 day x3 hd hdP hn1
        obtain ⟨n1, rfl⟩ : ∃ k, n1 = k + 1 := ⟨n1 - 1, by omega⟩
        rw [fX4_lengthInTheEnd_9, h0, if_pos nI_0]
        split <;> rfl
    have hnw : T now &&& (63 ^^^ all) < 2 ^ P := and_lt hTn
    have hal : all ||| (T now &&& (63 ^^^ all)) < 2 ^ P := Nat.or_lt_two_pow ha hnw
    have hdis : (T now &&& (63 ^^^ all)) &&& all = 0 := tDis _ (by omega) _ (by omega)
    by_cases hz : T now &&& (63 ^^^ all) = 0
    · refine ⟨all, ha, ?_, ?_⟩
      · obtain ⟨n, rfl⟩ : ∃ k, n = k + 2 := ⟨n - 2, by omega⟩
        rw [fX6_endBy_5, if_neg (nI_ne0 (by omega) (by omega)), (hT now).2.1]
        simp only [bo]
        rw [tAn _ (by omega) _ (by omega), hz, tOr _ (by omega) _ (by omega), Nat.or_zero, fX6_endBy_5, if_pos nI_0]
      · intro n1 day x3 hd hdP hn1
        obtain ⟨n1, rfl⟩ : ∃ k, n1 = k + 1 := ⟨n1 - 1, by omega⟩
        rw [fX4_lengthInTheEnd_9, hpe]
        by_cases h1 : P ≤ day
        · rw [if_pos (nI_le h1 (by omega))]
        rw [if_neg (nI_ge (by omega) (by omega)), if_neg (nI_ne0 (by omega) (by omega)), (hT now).2.2 all (by omega)]
        obtain ⟨n1, rfl⟩ : ∃ k, n1 = k + 1 := ⟨n1 - 1, by omega⟩
        simp only [bo]
        rw [hz, tOr _ (by omega) _ (by omega), Nat.or_zero, fX4_lengthInTheEnd_9, if_pos nI_0]
        split <;> rfl
    · have hup := tPc all (by omega) _ (by omega) hz hdis
      have hpn := pc_le h6 hal
      obtain ⟨r, hr, h1, h2⟩ := ih _ _ (n - 1) hal hnw (by omega) (by omega)
      refine ⟨r, hr, ?_, ?_⟩
      · obtain ⟨n, rfl⟩ : ∃ k, n = k + 1 := ⟨n - 1, by omega⟩
        rw [fX6_endBy_5, if_neg (nI_ne0 (by omega) (by omega)), (hT now).2.1]
        simp only [bo]
        rw [tAn _ (by omega) _ (by omega), tOr _ (by omega) _ (by omega)]
        exact h1
      · intro n1 day x3 hd hdP hn1
        obtain ⟨n1, rfl⟩ : ∃ k, n1 = k + 1 := ⟨n1 - 1, by omega⟩
        have hd1 := hd h0
        rw [fX4_lengthInTheEnd_9, hpe, if_neg (nI_ge (by omega) (by omega)), if_neg (nI_ne0 (by omega) (by omega)), (hT now).2.2 all (by omega)]
        simp only [bo]
        rw [tOr _ (by omega) _ (by omega), ad1]
        exact h2 n1 (day + 1) x3 (fun _ => by omega) (by omega) (by omega)
theorem yards_eq (k : Int32) : ∃ y, fX0_yardsBy 100 k = some y ∧ fX6_yardsBy 100 k = some y := by
  unfold fX0_yardsBy fX6_yardsBy
  by_cases c1 : k = 1
  · subst c1; exact ⟨-1, rfl, rfl⟩
  by_cases c2 : k = 2
  · subst c2; exact ⟨1, rfl, rfl⟩
  by_cases c3 : k = 3
  · subst c3; exact ⟨2, rfl, rfl⟩
  by_cases c4 : k = 4
  · subst c4; exact ⟨2, rfl, rfl⟩
  exact ⟨1, by simp [c1, c2, c3, c4], by simp [c1, c2, c3, c4]⟩
theorem len_end (r v : Int32) (x4 : Int32) : (if x4 = 0 then some (if r < v then r else v) else some v) = (if v ≤ r then some v else if x4 = 0 then some r else some v) := by
  by_cases c : v ≤ r
  · rw [if_pos c, if_neg (Int32.not_lt.mpr c)]; simp
  · rw [if_neg c, if_pos (Int32.not_le.mp c)]
theorem length_loop (R : Rel P σ τ) (x1 : Int32) : ∀ (d n m p : Nat) (x3 x4 : Int32), p + d = P → d < n → d < m → (x4 = 0 ∨ x4 = 1) → ∃ r, fX0_length_9 100 n σ x1 x3 x4 (nI p) = some r ∧ fX6_lengthBy_9 100 m τ x1 x3 x4 (nI p) = some r := by
  obtain ⟨h6, hpe, hpm, hriv, hr⟩ := R
  intro d
  induction d with
  | zero =>
    intro n m p x3 x4 hp hn hm hx
    obtain ⟨n, rfl⟩ : ∃ k, n = k + 1 := ⟨n - 1, by omega⟩
    obtain ⟨m, rfl⟩ : ∃ k, m = k + 1 := ⟨m - 1, by omega⟩
    rw [fX0_length_9, hpe, if_pos (nI_le (by omega) (by omega)), fX6_lengthBy_9, hpm, if_pos (nI_le (by omega) (by omega)), len_end, hriv]
    unfold fX6_lengthBy_104
    by_cases c : x3 < 0
    · rw [if_pos c, if_neg (Int32.not_le.mpr c)]
      by_cases c1 : (0 : Int32) ≤ m_river τ <;> by_cases c2 : x4 = 0 <;> simp [c1, c2]
    · rw [if_neg c, if_pos (Int32.not_lt.mp c)]
      by_cases c1 : x3 ≤ m_river τ <;> by_cases c2 : x4 = 0 <;> simp [c1, c2]
  | succ d ih =>
    intro n m p x3 x4 hp hn hm hx
    obtain ⟨n, rfl⟩ : ∃ k, n = k + 1 := ⟨n - 1, by omega⟩
    obtain ⟨m, rfl⟩ : ∃ k, m = k + 1 := ⟨m - 1, by omega⟩
    obtain ⟨r1, -⟩ := hr p (by omega)
    obtain ⟨y, y1, y2⟩ := yards_eq (c_kinds σ p)
    rw [fX0_length_9, hpe, if_neg (nI_ge (by omega) (by omega)), fX6_lengthBy_9, hpm, if_neg (nI_ge (by omega) (by omega)), kindOf_eq (by omega)]
    unfold fX5_isIn fX6_lengthBy_33 fX6_lengthBy_57
    simp (disch := omega) only [mul2, ifB, cl, r1, y2, bo, y1, ad1]
    rcases and_1 (x1 >>> (nI p &&& 31)) with c | c
    · have c' : ¬ (x1 >>> (nI p &&& 31)) &&& 1 = 1 := by rw [c]; decide
      rw [if_pos c, if_neg c']
      simp only [if_true]
      obtain ⟨r, e1, e2⟩ := ih n m (p + 1) x3 x4 (by omega) (by omega) (by omega) hx
      refine ⟨r, e1, ?_⟩
      rw [show x3 + 0 = x3 by simp]
      rcases hx with rfl | rfl
      · rw [if_pos rfl]; exact e2
      · rw [if_neg (by decide)]; exact e2
    · have c' : ¬ (x1 >>> (nI p &&& 31)) &&& 1 = 0 := by rw [c]; decide
      rw [if_neg c', if_pos c]
      simp only [show ¬ (1 : Int32) = 0 by decide, if_false]
      by_cases c4 : c_kinds σ p = 4
      · obtain ⟨r, e1, e2⟩ := ih n m (p + 1) (x3 + y) 1 (by omega) (by omega) (by omega) (Or.inr rfl)
        refine ⟨r, ?_, ?_⟩
        · rw [if_pos c4]
          rcases hx with rfl | rfl <;> exact e1
        · rw [if_pos c4]
          rcases hx with rfl | rfl
          · rw [if_pos rfl]; exact e2
          · rw [if_neg (by decide)]; exact e2
      · obtain ⟨r, e1, e2⟩ := ih n m (p + 1) (x3 + y) x4 (by omega) (by omega) (by omega) hx
        refine ⟨r, ?_, ?_⟩
        · rw [if_neg c4, or_0]; exact e1
        · rw [if_neg c4]
          rcases hx with rfl | rfl
          · rw [if_pos rfl]; exact e2
          · rw [if_neg (by decide)]; exact e2
theorem length_eq (R : Rel P σ τ) (x1 x2 : Int32) : ∃ r, fX0_length 100 σ x1 x2 = some r ∧ fX6_lengthBy 100 τ x1 x2 = some r :=
  length_loop R x1 P 100 100 0 (-x2) 0 (by omega) (by have := R.1; omega) (by have := R.1; omega) (Or.inl rfl)
/-- the length in the end, of small sets -/
theorem inEnd_eq (R : Rel P σ τ) {all now : Nat} (ha : all < 2 ^ P) (hn : now < 2 ^ P) (d : Int32) : ∃ r e, fX4_lengthInTheEnd 100 σ (nI all) (nI now) d = some r ∧ fX6_endBy 100 τ (nI all) (nI now) = some e ∧ fX6_lengthBy 100 τ e d = some r := by
  obtain ⟨T, hT⟩ := told_nat R
  have h6 := R.1
  obtain ⟨r, hr, h1, h2⟩ := reach R hT P all now 100 ha hn (by omega) (by omega)
  obtain ⟨v, v1, v2⟩ := length_eq R (nI r) d
  refine ⟨v, nI r, ?_, h1, v2⟩
  show fX4_lengthInTheEnd_9 100 100 σ d (nI all) (nI now) 0 = some v
  have h3 := h2 100 0 d (fun _ => by omega) (by omega) (by omega)
  rw [show (0 : Int32) = nI 0 from rfl, h3]
  unfold fX4_lengthInTheEnd_49
  rw [v1]; rfl
theorem ends_eq (R : Rel P σ τ) {s : Nat} (hs : s < 2 ^ P) : ∃ r, fX4_ends 100 σ (nI s) = some r ∧ fX6_endsOf 100 τ (nI s) = some r := by
  obtain ⟨r, e, h1, h2, h3⟩ := inEnd_eq R hs hs 0
  refine ⟨r, ?_, ?_⟩
  · unfold fX4_ends; rw [h1]; rfl
  · unfold fX6_endsOf; rw [h2]; simp only [bo]; rw [h3]
theorem day_loop (R : Rel P σ τ) {T : Nat → Nat} (hT : ∀ s, T s < 2 ^ P ∧ fX6_toldBy 100 τ (nI s) = some (nI (T s)) ∧ ∀ a, a < 64 → fX4_hearers 100 σ (nI a) (nI s) = some (nI (T s &&& (63 ^^^ a)))) (x : Int32) :
    ∀ (c all now n day n1 : Nat), all < 2 ^ P → now < 2 ^ P → P ≤ c + pc6 all → c + 2 ≤ n → (now ≠ 0 → day + 1 ≤ pc6 all) → day ≤ P → P - day < n1 →
      ∃ r, fX6_dayOf_10 100 n τ x (nI all) (nI now) (nI day) = some r ∧ fX4_dayHeard_10 100 n1 σ x (nI all) (nI now) (nI day) = some r ∧ (r = -1 ∨ ∃ j, j < P ∧ r = nI j) := by
  have h6 := R.1
  have hpe := R.2.1
  have h64 := pow_le64 h6
  intro c
  induction c with
  | zero =>
    intro all now n day n1 ha hn hc hm hd hdP hn1
    have hpa := pc_le h6 ha
    have hTn := (hT now).1
    obtain ⟨n, rfl⟩ : ∃ k, n = k + 2 := ⟨n - 2, by omega⟩
    obtain ⟨n1, rfl⟩ : ∃ k, n1 = k + 1 := ⟨n1 - 1, by omega⟩
    by_cases h0 : now = 0
    · refine ⟨-1, ?_, ?_, Or.inl rfl⟩
      · rw [fX6_dayOf_10, h0, if_pos nI_0, fX6_dayOf_47, if_pos nI_0]
      · rw [fX4_dayHeard_10, h0, if_pos nI_0]; split <;> rfl
    have hd1 := hd h0
    have hnz : ¬ nI now = 0 := nI_ne0 (by omega) (by omega)
    rcases and_1 (nI now >>> (x &&& 31)) with cb | cb
    · have hfull : all = 2 ^ P - 1 := (tPcLe P (by omega) all ha).2 (by omega)
      have hz : T now &&& (63 ^^^ all) = 0 := by rw [hfull]; exact tFull P (by omega) _ hTn
      obtain ⟨n1, rfl⟩ : ∃ k, n1 = k + 1 := ⟨n1 - 1, by omega⟩
      refine ⟨-1, ?_, ?_, Or.inl rfl⟩
      · rw [fX6_dayOf_10, if_neg hnz, if_pos cb, (hT now).2.1]
        simp only [bo]
        rw [tAn _ (by omega) _ (by omega), hz, fX6_dayOf_10, if_pos nI_0, fX6_dayOf_47, if_pos nI_0]
      · rw [fX4_dayHeard_10, hpe, if_neg (nI_ge (by omega) (by omega)), if_neg hnz, fX5_isIn, if_pos cb, (hT now).2.2 all (by omega)]
        simp only [bo, if_true]
        rw [hz, fX4_dayHeard_10, if_pos nI_0]
        split <;> rfl
    · refine ⟨nI day, ?_, ?_, Or.inr ⟨day, by omega, rfl⟩⟩
      · rw [fX6_dayOf_10, if_neg hnz, if_neg (by rw [cb]; decide), fX6_dayOf_47, if_neg hnz]
      · rw [fX4_dayHeard_10, hpe, if_neg (nI_ge (by omega) (by omega)), if_neg hnz, fX5_isIn, if_neg (by rw [cb]; decide)]
        simp only [bo]
        rw [if_neg (by decide)]
  | succ c ih =>
    intro all now n day n1 ha hn hc hm hd hdP hn1
    have hpa := pc_le h6 ha
    have hTn := (hT now).1
    obtain ⟨n, rfl⟩ : ∃ k, n = k + 2 := ⟨n - 2, by omega⟩
    obtain ⟨n1, rfl⟩ : ∃ k, n1 = k + 1 := ⟨n1 - 1, by omega⟩
    by_cases h0 : now = 0
    · refine ⟨-1, ?_, ?_, Or.inl rfl⟩
      · rw [fX6_dayOf_10, h0, if_pos nI_0, fX6_dayOf_47, if_pos nI_0]
      · rw [fX4_dayHeard_10, h0, if_pos nI_0]; split <;> rfl
    have hd1 := hd h0
    have hnz : ¬ nI now = 0 := nI_ne0 (by omega) (by omega)
    rcases and_1 (nI now >>> (x &&& 31)) with cb | cb
    · have hnw : T now &&& (63 ^^^ all) < 2 ^ P := and_lt hTn
      have hal : all ||| (T now &&& (63 ^^^ all)) < 2 ^ P := Nat.or_lt_two_pow ha hnw
      have hdis : (T now &&& (63 ^^^ all)) &&& all = 0 := tDis _ (by omega) _ (by omega)
      by_cases hz : T now &&& (63 ^^^ all) = 0
      · obtain ⟨n1, rfl⟩ : ∃ k, n1 = k + 1 := ⟨n1 - 1, by omega⟩
        refine ⟨-1, ?_, ?_, Or.inl rfl⟩
        · rw [fX6_dayOf_10, if_neg hnz, if_pos cb, (hT now).2.1]
          simp only [bo]
          rw [tAn _ (by omega) _ (by omega), hz, fX6_dayOf_10, if_pos nI_0, fX6_dayOf_47, if_pos nI_0]
        · rw [fX4_dayHeard_10, hpe, if_neg (nI_ge (by omega) (by omega)), if_neg hnz, fX5_isIn, if_pos cb, (hT now).2.2 all (by omega)]
          simp only [bo, if_true]
          rw [hz, fX4_dayHeard_10, if_pos nI_0]
          split <;> rfl
      · have hup := tPc all (by omega) _ (by omega) hz hdis
        have hpn := pc_le h6 hal
        obtain ⟨r, e1, e2, e3⟩ := ih _ _ (n + 1) (day + 1) n1 hal hnw (by omega) (by omega) (fun _ => by omega) (by omega) (by omega)
        refine ⟨r, ?_, ?_, e3⟩
        · rw [fX6_dayOf_10, if_neg hnz, if_pos cb, (hT now).2.1]
          simp only [bo]
          rw [tAn _ (by omega) _ (by omega), tOr _ (by omega) _ (by omega), ad1]
          exact e1
        · rw [fX4_dayHeard_10, hpe, if_neg (nI_ge (by omega) (by omega)), if_neg hnz, fX5_isIn, if_pos cb, (hT now).2.2 all (by omega)]
          simp only [bo, if_true]
          rw [tOr _ (by omega) _ (by omega), ad1]
          exact e2
    · refine ⟨nI day, ?_, ?_, Or.inr ⟨day, by omega, rfl⟩⟩
      · rw [fX6_dayOf_10, if_neg hnz, if_neg (by rw [cb]; decide), fX6_dayOf_47, if_neg hnz]
      · rw [fX4_dayHeard_10, hpe, if_neg (nI_ge (by omega) (by omega)), if_neg hnz, fX5_isIn, if_neg (by rw [cb]; decide)]
        simp only [bo]
        rw [if_neg (by decide)]
set_option maxRecDepth 100000 in
theorem tPow1 : ∀ p, p < 6 → pc6 (2 ^ p) = 1 ∧ 2 ^ p ≠ 0 := by decide +kernel
/-- on which day x hears it, if b alone began -/
theorem day_eq (R : Rel P σ τ) {b : Nat} (hb : b < P) (x : Int32) : ∃ r, fX6_dayOf 100 τ x (nI b) = some r ∧ fX4_dayHeard 100 σ (nI b) x = some r ∧ (r = -1 ∨ ∃ j, j < P ∧ r = nI j) := by
  obtain ⟨T, hT⟩ := told_nat R
  have h6 := R.1
  have hp : 2 ^ b < 2 ^ P := Nat.pow_lt_pow_right (by omega) hb
  have h1 := (tPow1 b (by omega)).1
  obtain ⟨r, e1, e2, e3⟩ := day_loop R hT x P (2 ^ b) (2 ^ b) 100 0 100 hp hp (by omega) (by omega) (fun _ => by omega) (by omega) (by omega)
  refine ⟨r, ?_, ?_, e3⟩
  · unfold fX6_dayOf; rw [tSh b (by omega)]; exact e1
  · unfold fX4_dayHeard; rw [tSh b (by omega)]; exact e2
theorem lasts_loop (R : Rel P σ τ) {b : Nat} (hb : b < P) : ∀ (d n m p : Nat) (x2 : Int32), p + d = P → d < n → d < m → ∃ r, fX4_lasts_4 100 n σ (nI b) x2 (nI p) = some r ∧ fX6_lastsOf_4 100 m τ (nI b) x2 (nI p) = some r := by
  have h6 := R.1
  intro d
  induction d with
  | zero =>
    intro n m p x2 hp hn hm
    obtain ⟨n, rfl⟩ : ∃ k, n = k + 1 := ⟨n - 1, by omega⟩
    obtain ⟨m, rfl⟩ : ∃ k, m = k + 1 := ⟨m - 1, by omega⟩
    exact ⟨x2, by rw [fX4_lasts_4, R.2.1, if_pos (nI_le (by omega) (by omega))], by rw [fX6_lastsOf_4, R.2.2.1, if_pos (nI_le (by omega) (by omega))]⟩
  | succ d ih =>
    intro n m p x2 hp hn hm
    obtain ⟨n, rfl⟩ : ∃ k, n = k + 1 := ⟨n - 1, by omega⟩
    obtain ⟨m, rfl⟩ : ∃ k, m = k + 1 := ⟨m - 1, by omega⟩
    obtain ⟨v, v1, v2, -⟩ := day_eq R hb (nI p)
    obtain ⟨r, e1, e2⟩ := ih n m (p + 1) (if x2 < v then v else x2) (by omega) (by omega) (by omega)
    refine ⟨r, ?_, ?_⟩
    · rw [fX4_lasts_4, R.2.1, if_neg (nI_ge (by omega) (by omega)), v2]
      simp only [bo, ad1]
      exact e1
    · rw [fX6_lastsOf_4, R.2.2.1, if_neg (nI_ge (by omega) (by omega)), v1]
      simp only [bo, ad1]
      by_cases c : v ≤ x2
      · rw [if_pos c]; rw [if_neg (Int32.not_lt.mpr c)] at e2; exact e2
      · rw [if_neg c]; rw [if_pos (Int32.not_le.mp c)] at e2; exact e2
theorem lasts_eq (R : Rel P σ τ) {b : Nat} (hb : b < P) : ∃ r, fX4_lasts 100 σ (nI b) = some r ∧ fX6_lastsOf 100 τ (nI b) = some r :=
  lasts_loop R hb P 100 100 0 0 (by omega) (by have := R.1; omega) (by have := R.1; omega)
end REACH
