/-! ===== markets, image, restore ===== -/
theorem lb_n {α β : Type} (a : α) (k : α → β) : lb a k = k a := Eq.trans (Eq.refl _) (Eq.refl _)
theorem seed_eq (x : Int32) : (((1103515245 * x.toInt64) + 12345) &&& 2147483647 : Int64).toInt32 = ((1103515245 * x) + 12345) &&& 2147483647 := by
  simp
section MKT
variable {P : Nat} {σ : SC} {τ : SM}
theorem mkt_loop (hR : Rel P σ τ) (h0 : P ≠ 0) {T : Nat} (hT : T ≤ 60) (what : Int32) : ∀ (d n m i : Nat) (drawn sum most : Int32), i + d = T → d < n → d < m → ∃ (v s1 : Int32), fX5_markets_57 100 n σ (nI T) what (nI P) drawn sum most (nI i) = some v ∧ fX6_markets_55 100 m (sm_seedNow τ drawn) (nI T) what sum most (nI i) = some (v, sm_seedNow τ s1) := by
  have h6 := hR.1
  intro d
  induction d with
  | zero =>
    intro n m i drawn sum most hi hn hm
    obtain ⟨n, rfl⟩ : ∃ k, n = k + 1 := ⟨n - 1, by omega⟩
    obtain ⟨m, rfl⟩ : ∃ k, m = k + 1 := ⟨m - 1, by omega⟩
    have hle : nI T ≤ nI i := nI_le (by omega) (by omega)
    rw [fX5_markets_57, if_pos hle, fX6_markets_55, if_pos hle, gs_m_seedNow_seedNow]
    by_cases c0 : what = 0
    · exact ⟨sum, drawn, by rw [if_pos c0], by rw [if_pos c0]⟩
    rw [if_neg c0, if_neg c0]
    by_cases c1 : what = 1
    · exact ⟨most, drawn, by rw [if_pos c1], by rw [if_pos c1]⟩
    exact ⟨drawn, drawn, by rw [if_neg c1], by rw [if_neg c1]⟩
  | succ d ih =>
    intro n m i drawn sum most hi hn hm
    obtain ⟨n, rfl⟩ : ∃ k, n = k + 1 := ⟨n - 1, by omega⟩
    obtain ⟨m, rfl⟩ : ∃ k, m = k + 1 := ⟨m - 1, by omega⟩
    have hnle : ¬ nI T ≤ nI i := nI_ge (by omega) (by omega)
    obtain ⟨j, hj, ej⟩ := pk_andE ((1103515245 * drawn) + 12345) (m := 2147483647) 31 (by decide)
    have hP0 : ¬ nI P = 0 := nI_ne0 (by omega) (by omega)
    have hix : nI j / 65536 - nI j / 65536 / nI P * nI P = nI (j / 65536 % P) := by
      rw [show nI j / 65536 = nI (j / 65536) from pk_div (d := 65536) hj (by omega) (by omega)]
      exact pk_rem (by have := Nat.div_le_self j 65536; omega) (by omega) (by omega)
    have hq : j / 65536 % P < P := Nat.mod_lt _ (by omega)
    have hR' : Rel P σ (sm_seedNow τ (nI j)) := hR
    obtain ⟨v, v1, v2⟩ := ends_eq hR' (s := 2 ^ (j / 65536 % P)) (Nat.pow_lt_pow_right (by omega) hq)
    obtain ⟨w, s1, e1, e2⟩ := ih n m (i + 1) (nI j) (sum + v) (if most < v then v else most) (by omega) (by omega) (by omega)
    refine ⟨w, s1, ?_, ?_⟩
    · rw [fX5_markets_57, if_neg hnle]
      unfold fX5_seedBehind
      rw [ej]
      simp only [bo_n]
      rw [if_pos hP0, hix, tSh _ (by omega), v1]
      simp only [bo_n, ad1]
      exact e1
    · rw [fX6_markets_55, if_neg hnle]
      unfold fX6_draw
      rw [gs_m_seedNow_seedNow, gs_m_people_seedNow, hR.2.2.1, seed_eq, ej]
      simp only [lb, ss_m_seedNow, gs_m_seedNow_seedNow]
      rw [if_pos hP0, hix]
      simp only [bd_n]
      rw [tSh _ (by omega), v2]
      simp only [bo_n, ad1]
      by_cases c : v ≤ most
      · rw [if_pos c]
        rw [if_neg (Int32.not_lt.mpr c)] at e2
        exact e2
      · rw [if_neg c]
        rw [if_pos (Int32.not_le.mp c)] at e2
        exact e2
end MKT
theorem op_markets (k : Nat) (σ : SC) (τ : SM) (a1 a2 a3 : Int32) (_ : k + 4 ≤ 256) (h : Inv0 k σ τ) : ∃ (r : Int32) (τ1 : SM), fX5_markets 100 σ a1 a2 a3 = some r ∧ fX6_markets 100 τ a1 a2 a3 = some (r, τ1) ∧ Inv0 (k + 4) σ τ1 := by
  have hm := inv_mono k σ τ h
  obtain ⟨L, P, r, hr, hPg, hNow, hC, hI⟩ := h
  have hR := hNow.1
  have h6 := hR.1
  unfold fX5_markets fX6_markets
  rw [in32 (a := 1) (b := 60) a1 1 60 rfl rfl, in32 (a := 0) (b := 2) a3 0 2 rfl rfl, lacks_eq hR, hR.2.1]
  simp only [bo_n]
  by_cases c1 : a1 < 1
  · exact ⟨-102, τ, by rw [if_pos c1], by rw [if_pos c1, if_pos rfl], hm⟩
  by_cases c2 : 60 < a1
  · exact ⟨-102, τ, by rw [if_neg c1, if_pos c2], by rw [if_neg c1, if_pos c2, if_pos rfl], hm⟩
  rw [if_neg c1, if_neg c2, if_neg c1, if_neg c2]
  simp only [e10, if_false]
  by_cases c3 : a2 < 0
  · exact ⟨-102, τ, by rw [if_pos c3], by rw [if_pos c3], hm⟩
  rw [if_neg c3, if_neg c3]
  by_cases c4 : a3 < 0
  · exact ⟨-102, τ, by rw [if_pos c4], by rw [if_pos c4, if_pos rfl], hm⟩
  rw [if_neg c4, if_neg c4]
  have e2 : (2 : Int32).toInt = 2 := by decide
  have e3 : (3 : Int32).toInt = 3 := by decide
  by_cases c5 : a3 < 3
  · have c6 : ¬ 2 < a3 := fun q => by rw [Int32.lt_iff_toInt_lt] at q c5; omega
    rw [if_pos c5, if_neg c6]
    simp only [e10, if_false]
    by_cases h0 : P = 0
    · subst h0
      exact ⟨-103, τ, by rw [if_neg (by decide)], by rw [if_pos rfl, if_neg (by decide)], hm⟩
    · rw [if_pos (show (1 : Int32) ≤ nI P from nI_le (a := 1) (by omega) (by omega)), if_neg h0, if_pos rfl]
      obtain ⟨T, hT, eT⟩ := nI_of2 (x := a1) (M := 60) (n := 60) (by decide) (fun q => c1 (Int32.lt_of_lt_of_le q (by decide))) (Int32.not_lt.mp c2)
      obtain ⟨v, s1, x1, x2⟩ := mkt_loop hR h0 hT a3 T 100 100 0 a2 0 0 (by omega) (by omega) (by omega)
      have z0 : nI 0 = 0 := nI_0
      rw [z0] at x1 x2
      rw [eT, lb_n]
      exact ⟨v, sm_seedNow τ s1, x1, x2, ⟨L, P, r, by omega, hPg, hNow, hC, hI⟩⟩
  · have c6 : 2 < a3 := by rw [Int32.lt_iff_toInt_lt] at c5 ⊢; omega
    exact ⟨-102, τ, by rw [if_neg c5], by rw [if_pos c6, if_pos rfl], hm⟩
theorem PastOK.congr {P : Nat} {heard last denied whom wday : Nat → Int32} {asked days changes : Int32} {tunnels askeds : Nat → Int32} {askedM daysM changesM : Int32} (h : PastOK P heard last denied whom wday asked days changes tunnels askeds askedM daysM changesM) {heard' last' denied' whom' wday' tunnels' askeds' : Nat → Int32} (e1 : ∀ t, t < 3 → heard' t = heard t) (e2 : ∀ t, t < 3 → last' t = last t) (e3 : ∀ t, t < 3 → denied' t = denied t) (e4 : ∀ i, i < 8 → whom' i = whom i) (e5 : ∀ i, i < 8 → wday' i = wday i) (e6 : ∀ j, j < 9 → tunnels' j = tunnels j) (e7 : ∀ j, j < 16 → askeds' j = askeds j) : PastOK P heard' last' denied' whom' wday' asked days changes tunnels' askeds' askedM daysM changesM := by
  obtain ⟨h1, h2, h3, h4, h5⟩ := h
  refine ⟨fun t ht => ?_, h2, fun i hi => ?_, h4, h5⟩
  · rw [e1 t ht, e2 t ht, e3 t ht, e6 _ (by omega), e6 _ (by omega), e6 _ (by omega)]
    exact h1 t ht
  · rw [e4 i hi, e5 i hi, e7 _ (by omega), e7 _ (by omega)]
    exact h3 i hi

theorem cp_2_6_loop : ∀ (d n j : Nat) (τ : SM), j + d = 12 → d < n → ∃ f : Nat → Int32, (∀ i, i < 12 → f i = if j ≤ i then m_rows τ i else m_keptRows τ i) ∧ fX6_copy_2_6_2 100 n τ (nI j) = some (sm_keptRows τ f) := by
  intro d
  induction d with
  | zero =>
    intro n j τ hj hn
    obtain ⟨n, rfl⟩ : ∃ k, n = k + 1 := ⟨n - 1, by omega⟩
    have e : j = 12 := by omega
    subst e
    refine ⟨m_keptRows τ, fun i hi => by rw [if_neg (by omega)], ?_⟩
    rw [fX6_copy_2_6_2, if_pos (by decide)]
    rfl
  | succ d ih =>
    intro n j τ hj hn
    obtain ⟨n, rfl⟩ : ∃ k, n = k + 1 := ⟨n - 1, by omega⟩
    have h7 : ¬ (12 : Int32) ≤ nI j := nI_ge (b := 12) (by omega) (by omega)
    obtain ⟨f, hf, ef⟩ := ih n (j + 1) (sm_keptRows τ (upd (m_keptRows τ) j (m_rows τ j))) (by omega) (by omega)
    refine ⟨f, fun i hi => ?_, ?_⟩
    · rw [hf i hi, gs_m_keptRows_keptRows, gs_m_rows_keptRows]
      by_cases c : i = j
      · subst c; rw [if_neg (by omega), pk_us, if_pos (by omega)]
      · rw [pk_un c]
        by_cases c2 : j ≤ i
        · rw [if_pos (by omega), if_pos c2]
        · rw [if_neg (by omega), if_neg c2]
    · rw [fX6_copy_2_6_2, if_neg h7]
      simp (disch := omega) only [ifB, cl, lb, ad1]
      rw [ef, ss_m_keptRows]
theorem cp_2_6 (τ : SM) : ∃ f : Nat → Int32, (∀ i, i < 12 → f i = m_rows τ i) ∧ fX6_copy_2_6 100 τ = some (sm_keptRows τ f) := by
  obtain ⟨f, h1, h2⟩ := cp_2_6_loop 12 100 0 τ (by omega) (by omega)
  exact ⟨f, fun i hi => by rw [h1 i hi, if_pos (by omega)], h2⟩
theorem cp_3_7_loop : ∀ (d n j : Nat) (τ : SM), j + d = 9 → d < n → ∃ f : Nat → Int32, (∀ i, i < 9 → f i = if j ≤ i then m_tunnels τ i else m_keptTunnels τ i) ∧ fX6_copy_3_7_2 100 n τ (nI j) = some (sm_keptTunnels τ f) := by
  intro d
  induction d with
  | zero =>
    intro n j τ hj hn
    obtain ⟨n, rfl⟩ : ∃ k, n = k + 1 := ⟨n - 1, by omega⟩
    have e : j = 9 := by omega
    subst e
    refine ⟨m_keptTunnels τ, fun i hi => by rw [if_neg (by omega)], ?_⟩
    rw [fX6_copy_3_7_2, if_pos (by decide)]
    rfl
  | succ d ih =>
    intro n j τ hj hn
    obtain ⟨n, rfl⟩ : ∃ k, n = k + 1 := ⟨n - 1, by omega⟩
    have h7 : ¬ (9 : Int32) ≤ nI j := nI_ge (b := 9) (by omega) (by omega)
    obtain ⟨f, hf, ef⟩ := ih n (j + 1) (sm_keptTunnels τ (upd (m_keptTunnels τ) j (m_tunnels τ j))) (by omega) (by omega)
    refine ⟨f, fun i hi => ?_, ?_⟩
    · rw [hf i hi, gs_m_keptTunnels_keptTunnels, gs_m_tunnels_keptTunnels]
      by_cases c : i = j
      · subst c; rw [if_neg (by omega), pk_us, if_pos (by omega)]
      · rw [pk_un c]
        by_cases c2 : j ≤ i
        · rw [if_pos (by omega), if_pos c2]
        · rw [if_neg (by omega), if_neg c2]
    · rw [fX6_copy_3_7_2, if_neg h7]
      simp (disch := omega) only [ifB, cl, lb, ad1]
      rw [ef, ss_m_keptTunnels]
theorem cp_3_7 (τ : SM) : ∃ f : Nat → Int32, (∀ i, i < 9 → f i = m_tunnels τ i) ∧ fX6_copy_3_7 100 τ = some (sm_keptTunnels τ f) := by
  obtain ⟨f, h1, h2⟩ := cp_3_7_loop 9 100 0 τ (by omega) (by omega)
  exact ⟨f, fun i hi => by rw [h1 i hi, if_pos (by omega)], h2⟩
theorem cp_4_8_loop : ∀ (d n j : Nat) (τ : SM), j + d = 16 → d < n → ∃ f : Nat → Int32, (∀ i, i < 16 → f i = if j ≤ i then m_askeds τ i else m_keptAskeds τ i) ∧ fX6_copy_4_8_2 100 n τ (nI j) = some (sm_keptAskeds τ f) := by
  intro d
  induction d with
  | zero =>
    intro n j τ hj hn
    obtain ⟨n, rfl⟩ : ∃ k, n = k + 1 := ⟨n - 1, by omega⟩
    have e : j = 16 := by omega
    subst e
    refine ⟨m_keptAskeds τ, fun i hi => by rw [if_neg (by omega)], ?_⟩
    rw [fX6_copy_4_8_2, if_pos (by decide)]
    rfl
  | succ d ih =>
    intro n j τ hj hn
    obtain ⟨n, rfl⟩ : ∃ k, n = k + 1 := ⟨n - 1, by omega⟩
    have h7 : ¬ (16 : Int32) ≤ nI j := nI_ge (b := 16) (by omega) (by omega)
    obtain ⟨f, hf, ef⟩ := ih n (j + 1) (sm_keptAskeds τ (upd (m_keptAskeds τ) j (m_askeds τ j))) (by omega) (by omega)
    refine ⟨f, fun i hi => ?_, ?_⟩
    · rw [hf i hi, gs_m_keptAskeds_keptAskeds, gs_m_askeds_keptAskeds]
      by_cases c : i = j
      · subst c; rw [if_neg (by omega), pk_us, if_pos (by omega)]
      · rw [pk_un c]
        by_cases c2 : j ≤ i
        · rw [if_pos (by omega), if_pos c2]
        · rw [if_neg (by omega), if_neg c2]
    · rw [fX6_copy_4_8_2, if_neg h7]
      simp (disch := omega) only [ifB, cl, lb, ad1]
      rw [ef, ss_m_keptAskeds]
theorem cp_4_8 (τ : SM) : ∃ f : Nat → Int32, (∀ i, i < 16 → f i = m_askeds τ i) ∧ fX6_copy_4_8 100 τ = some (sm_keptAskeds τ f) := by
  obtain ⟨f, h1, h2⟩ := cp_4_8_loop 16 100 0 τ (by omega) (by omega)
  exact ⟨f, fun i hi => by rw [h1 i hi, if_pos (by omega)], h2⟩
theorem cp_6_2_loop : ∀ (d n j : Nat) (τ : SM), j + d = 12 → d < n → ∃ f : Nat → Int32, (∀ i, i < 12 → f i = if j ≤ i then m_keptRows τ i else m_rows τ i) ∧ fX6_copy_6_2_2 100 n τ (nI j) = some (sm_rows τ f) := by
  intro d
  induction d with
  | zero =>
    intro n j τ hj hn
    obtain ⟨n, rfl⟩ : ∃ k, n = k + 1 := ⟨n - 1, by omega⟩
    have e : j = 12 := by omega
    subst e
    refine ⟨m_rows τ, fun i hi => by rw [if_neg (by omega)], ?_⟩
    rw [fX6_copy_6_2_2, if_pos (by decide)]
    rfl
  | succ d ih =>
    intro n j τ hj hn
    obtain ⟨n, rfl⟩ : ∃ k, n = k + 1 := ⟨n - 1, by omega⟩
    have h7 : ¬ (12 : Int32) ≤ nI j := nI_ge (b := 12) (by omega) (by omega)
    obtain ⟨f, hf, ef⟩ := ih n (j + 1) (sm_rows τ (upd (m_rows τ) j (m_keptRows τ j))) (by omega) (by omega)
    refine ⟨f, fun i hi => ?_, ?_⟩
    · rw [hf i hi, gs_m_rows_rows, gs_m_keptRows_rows]
      by_cases c : i = j
      · subst c; rw [if_neg (by omega), pk_us, if_pos (by omega)]
      · rw [pk_un c]
        by_cases c2 : j ≤ i
        · rw [if_pos (by omega), if_pos c2]
        · rw [if_neg (by omega), if_neg c2]
    · rw [fX6_copy_6_2_2, if_neg h7]
      simp (disch := omega) only [ifB, cl, lb, ad1]
      rw [ef, ss_m_rows]
theorem cp_6_2 (τ : SM) : ∃ f : Nat → Int32, (∀ i, i < 12 → f i = m_keptRows τ i) ∧ fX6_copy_6_2 100 τ = some (sm_rows τ f) := by
  obtain ⟨f, h1, h2⟩ := cp_6_2_loop 12 100 0 τ (by omega) (by omega)
  exact ⟨f, fun i hi => by rw [h1 i hi, if_pos (by omega)], h2⟩
theorem cp_7_3_loop : ∀ (d n j : Nat) (τ : SM), j + d = 9 → d < n → ∃ f : Nat → Int32, (∀ i, i < 9 → f i = if j ≤ i then m_keptTunnels τ i else m_tunnels τ i) ∧ fX6_copy_7_3_2 100 n τ (nI j) = some (sm_tunnels τ f) := by
  intro d
  induction d with
  | zero =>
    intro n j τ hj hn
    obtain ⟨n, rfl⟩ : ∃ k, n = k + 1 := ⟨n - 1, by omega⟩
    have e : j = 9 := by omega
    subst e
    refine ⟨m_tunnels τ, fun i hi => by rw [if_neg (by omega)], ?_⟩
    rw [fX6_copy_7_3_2, if_pos (by decide)]
    rfl
  | succ d ih =>
    intro n j τ hj hn
    obtain ⟨n, rfl⟩ : ∃ k, n = k + 1 := ⟨n - 1, by omega⟩
    have h7 : ¬ (9 : Int32) ≤ nI j := nI_ge (b := 9) (by omega) (by omega)
    obtain ⟨f, hf, ef⟩ := ih n (j + 1) (sm_tunnels τ (upd (m_tunnels τ) j (m_keptTunnels τ j))) (by omega) (by omega)
    refine ⟨f, fun i hi => ?_, ?_⟩
    · rw [hf i hi, gs_m_tunnels_tunnels, gs_m_keptTunnels_tunnels]
      by_cases c : i = j
      · subst c; rw [if_neg (by omega), pk_us, if_pos (by omega)]
      · rw [pk_un c]
        by_cases c2 : j ≤ i
        · rw [if_pos (by omega), if_pos c2]
        · rw [if_neg (by omega), if_neg c2]
    · rw [fX6_copy_7_3_2, if_neg h7]
      simp (disch := omega) only [ifB, cl, lb, ad1]
      rw [ef, ss_m_tunnels]
theorem cp_7_3 (τ : SM) : ∃ f : Nat → Int32, (∀ i, i < 9 → f i = m_keptTunnels τ i) ∧ fX6_copy_7_3 100 τ = some (sm_tunnels τ f) := by
  obtain ⟨f, h1, h2⟩ := cp_7_3_loop 9 100 0 τ (by omega) (by omega)
  exact ⟨f, fun i hi => by rw [h1 i hi, if_pos (by omega)], h2⟩
theorem cp_8_4_loop : ∀ (d n j : Nat) (τ : SM), j + d = 16 → d < n → ∃ f : Nat → Int32, (∀ i, i < 16 → f i = if j ≤ i then m_keptAskeds τ i else m_askeds τ i) ∧ fX6_copy_8_4_2 100 n τ (nI j) = some (sm_askeds τ f) := by
  intro d
  induction d with
  | zero =>
    intro n j τ hj hn
    obtain ⟨n, rfl⟩ : ∃ k, n = k + 1 := ⟨n - 1, by omega⟩
    have e : j = 16 := by omega
    subst e
    refine ⟨m_askeds τ, fun i hi => by rw [if_neg (by omega)], ?_⟩
    rw [fX6_copy_8_4_2, if_pos (by decide)]
    rfl
  | succ d ih =>
    intro n j τ hj hn
    obtain ⟨n, rfl⟩ : ∃ k, n = k + 1 := ⟨n - 1, by omega⟩
    have h7 : ¬ (16 : Int32) ≤ nI j := nI_ge (b := 16) (by omega) (by omega)
    obtain ⟨f, hf, ef⟩ := ih n (j + 1) (sm_askeds τ (upd (m_askeds τ) j (m_keptAskeds τ j))) (by omega) (by omega)
    refine ⟨f, fun i hi => ?_, ?_⟩
    · rw [hf i hi, gs_m_askeds_askeds, gs_m_keptAskeds_askeds]
      by_cases c : i = j
      · subst c; rw [if_neg (by omega), pk_us, if_pos (by omega)]
      · rw [pk_un c]
        by_cases c2 : j ≤ i
        · rw [if_pos (by omega), if_pos c2]
        · rw [if_neg (by omega), if_neg c2]
    · rw [fX6_copy_8_4_2, if_neg h7]
      simp (disch := omega) only [ifB, cl, lb, ad1]
      rw [ef, ss_m_askeds]
theorem cp_8_4 (τ : SM) : ∃ f : Nat → Int32, (∀ i, i < 16 → f i = m_keptAskeds τ i) ∧ fX6_copy_8_4 100 τ = some (sm_askeds τ f) := by
  obtain ⟨f, h1, h2⟩ := cp_8_4_loop 16 100 0 τ (by omega) (by omega)
  exact ⟨f, fun i hi => by rw [h1 i hi, if_pos (by omega)], h2⟩
theorem cpy_13_5 (σ : SC) : ∃ f0 f1 f2 f3 f4 f5 f6 : Nat → Int32, ((∀ i, i < 6 → f0 i = c_nexts σ i) ∧ (∀ i, i < 6 → f1 i = c_lsts σ i) ∧ (∀ i, i < 3 → f2 i = c_heard σ i) ∧ (∀ i, i < 3 → f3 i = c_last σ i) ∧ (∀ i, i < 3 → f4 i = c_denied σ i) ∧ (∀ i, i < 8 → f5 i = c_whom σ i) ∧ (∀ i, i < 8 → f6 i = c_wday σ i)) ∧ fX2_copy_13_5 100 σ = some (sc_kchanges (sc_kdays (sc_kasked (sc_kwday (sc_kwhom (sc_kdenied (sc_klast (sc_kheard (sc_klsts (sc_knexts σ f0) f1) f2) f3) f4) f5) f6) (c_asked σ)) (c_days σ)) (c_changes σ)) := by
  refine ⟨va_cpy (c_nexts σ) (c_knexts σ) (0 : Int32).toNatClampNeg (0 : Int32).toNatClampNeg (6 : Int32).toNatClampNeg, va_cpy (c_lsts σ) (c_klsts σ) (0 : Int32).toNatClampNeg (0 : Int32).toNatClampNeg (6 : Int32).toNatClampNeg, va_cpy (c_heard σ) (c_kheard σ) (0 : Int32).toNatClampNeg (0 : Int32).toNatClampNeg (3 : Int32).toNatClampNeg, va_cpy (c_last σ) (c_klast σ) (0 : Int32).toNatClampNeg (0 : Int32).toNatClampNeg (3 : Int32).toNatClampNeg, va_cpy (c_denied σ) (c_kdenied σ) (0 : Int32).toNatClampNeg (0 : Int32).toNatClampNeg (3 : Int32).toNatClampNeg, va_cpy (c_whom σ) (c_kwhom σ) (0 : Int32).toNatClampNeg (0 : Int32).toNatClampNeg (8 : Int32).toNatClampNeg, va_cpy (c_wday σ) (c_kwday σ) (0 : Int32).toNatClampNeg (0 : Int32).toNatClampNeg (8 : Int32).toNatClampNeg, ⟨fun i hi => (pk_cpy_in (Nat.zero_le i) (by show i < 0 + 6; omega)).trans (congrArg (c_nexts σ) (by show 0 + (i - 0) = i; omega)), fun i hi => (pk_cpy_in (Nat.zero_le i) (by show i < 0 + 6; omega)).trans (congrArg (c_lsts σ) (by show 0 + (i - 0) = i; omega)), fun i hi => (pk_cpy_in (Nat.zero_le i) (by show i < 0 + 3; omega)).trans (congrArg (c_heard σ) (by show 0 + (i - 0) = i; omega)), fun i hi => (pk_cpy_in (Nat.zero_le i) (by show i < 0 + 3; omega)).trans (congrArg (c_last σ) (by show 0 + (i - 0) = i; omega)), fun i hi => (pk_cpy_in (Nat.zero_le i) (by show i < 0 + 3; omega)).trans (congrArg (c_denied σ) (by show 0 + (i - 0) = i; omega)), fun i hi => (pk_cpy_in (Nat.zero_le i) (by show i < 0 + 8; omega)).trans (congrArg (c_whom σ) (by show 0 + (i - 0) = i; omega)), fun i hi => (pk_cpy_in (Nat.zero_le i) (by show i < 0 + 8; omega)).trans (congrArg (c_wday σ) (by show 0 + (i - 0) = i; omega))⟩, ?_⟩
  unfold fX2_copy_13_5
  simp only [lb, gs_c_klsts_knexts, gs_c_kheard_knexts, gs_c_kheard_klsts, gs_c_klast_knexts, gs_c_klast_klsts, gs_c_klast_kheard, gs_c_kdenied_knexts, gs_c_kdenied_klsts, gs_c_kdenied_kheard, gs_c_kdenied_klast, gs_c_kwhom_knexts, gs_c_kwhom_klsts, gs_c_kwhom_kheard, gs_c_kwhom_klast, gs_c_kwhom_kdenied, gs_c_kwday_knexts, gs_c_kwday_klsts, gs_c_kwday_kheard, gs_c_kwday_klast, gs_c_kwday_kdenied, gs_c_kwday_kwhom, gs_c_kasked_knexts, gs_c_kasked_klsts, gs_c_kasked_kheard, gs_c_kasked_klast, gs_c_kasked_kdenied, gs_c_kasked_kwhom, gs_c_kasked_kwday, gs_c_kdays_knexts, gs_c_kdays_klsts, gs_c_kdays_kheard, gs_c_kdays_klast, gs_c_kdays_kdenied, gs_c_kdays_kwhom, gs_c_kdays_kwday, gs_c_kdays_kasked, gs_c_kchanges_knexts, gs_c_kchanges_klsts, gs_c_kchanges_kheard, gs_c_kchanges_klast, gs_c_kchanges_kdenied, gs_c_kchanges_kwhom, gs_c_kchanges_kwday, gs_c_kchanges_kasked, gs_c_kchanges_kdays, gs_c_lsts_knexts, gs_c_heard_knexts, gs_c_heard_klsts, gs_c_last_knexts, gs_c_last_klsts, gs_c_last_kheard, gs_c_denied_knexts, gs_c_denied_klsts, gs_c_denied_kheard, gs_c_denied_klast, gs_c_whom_knexts, gs_c_whom_klsts, gs_c_whom_kheard, gs_c_whom_klast, gs_c_whom_kdenied, gs_c_wday_knexts, gs_c_wday_klsts, gs_c_wday_kheard, gs_c_wday_klast, gs_c_wday_kdenied, gs_c_wday_kwhom, gs_c_asked_knexts, gs_c_asked_klsts, gs_c_asked_kheard, gs_c_asked_klast, gs_c_asked_kdenied, gs_c_asked_kwhom, gs_c_asked_kwday, gs_c_days_knexts, gs_c_days_klsts, gs_c_days_kheard, gs_c_days_klast, gs_c_days_kdenied, gs_c_days_kwhom, gs_c_days_kwday, gs_c_days_kasked, gs_c_changes_knexts, gs_c_changes_klsts, gs_c_changes_kheard, gs_c_changes_klast, gs_c_changes_kdenied, gs_c_changes_kwhom, gs_c_changes_kwday, gs_c_changes_kasked, gs_c_changes_kdays]
theorem cpy_5_13 (σ : SC) : ∃ f0 f1 f2 f3 f4 f5 f6 : Nat → Int32, ((∀ i, i < 6 → f0 i = c_knexts σ i) ∧ (∀ i, i < 6 → f1 i = c_klsts σ i) ∧ (∀ i, i < 3 → f2 i = c_kheard σ i) ∧ (∀ i, i < 3 → f3 i = c_klast σ i) ∧ (∀ i, i < 3 → f4 i = c_kdenied σ i) ∧ (∀ i, i < 8 → f5 i = c_kwhom σ i) ∧ (∀ i, i < 8 → f6 i = c_kwday σ i)) ∧ fX2_copy_5_13 100 σ = some (sc_changes (sc_days (sc_asked (sc_wday (sc_whom (sc_denied (sc_last (sc_heard (sc_lsts (sc_nexts σ f0) f1) f2) f3) f4) f5) f6) (c_kasked σ)) (c_kdays σ)) (c_kchanges σ)) := by
  refine ⟨va_cpy (c_knexts σ) (c_nexts σ) (0 : Int32).toNatClampNeg (0 : Int32).toNatClampNeg (6 : Int32).toNatClampNeg, va_cpy (c_klsts σ) (c_lsts σ) (0 : Int32).toNatClampNeg (0 : Int32).toNatClampNeg (6 : Int32).toNatClampNeg, va_cpy (c_kheard σ) (c_heard σ) (0 : Int32).toNatClampNeg (0 : Int32).toNatClampNeg (3 : Int32).toNatClampNeg, va_cpy (c_klast σ) (c_last σ) (0 : Int32).toNatClampNeg (0 : Int32).toNatClampNeg (3 : Int32).toNatClampNeg, va_cpy (c_kdenied σ) (c_denied σ) (0 : Int32).toNatClampNeg (0 : Int32).toNatClampNeg (3 : Int32).toNatClampNeg, va_cpy (c_kwhom σ) (c_whom σ) (0 : Int32).toNatClampNeg (0 : Int32).toNatClampNeg (8 : Int32).toNatClampNeg, va_cpy (c_kwday σ) (c_wday σ) (0 : Int32).toNatClampNeg (0 : Int32).toNatClampNeg (8 : Int32).toNatClampNeg, ⟨fun i hi => (pk_cpy_in (Nat.zero_le i) (by show i < 0 + 6; omega)).trans (congrArg (c_knexts σ) (by show 0 + (i - 0) = i; omega)), fun i hi => (pk_cpy_in (Nat.zero_le i) (by show i < 0 + 6; omega)).trans (congrArg (c_klsts σ) (by show 0 + (i - 0) = i; omega)), fun i hi => (pk_cpy_in (Nat.zero_le i) (by show i < 0 + 3; omega)).trans (congrArg (c_kheard σ) (by show 0 + (i - 0) = i; omega)), fun i hi => (pk_cpy_in (Nat.zero_le i) (by show i < 0 + 3; omega)).trans (congrArg (c_klast σ) (by show 0 + (i - 0) = i; omega)), fun i hi => (pk_cpy_in (Nat.zero_le i) (by show i < 0 + 3; omega)).trans (congrArg (c_kdenied σ) (by show 0 + (i - 0) = i; omega)), fun i hi => (pk_cpy_in (Nat.zero_le i) (by show i < 0 + 8; omega)).trans (congrArg (c_kwhom σ) (by show 0 + (i - 0) = i; omega)), fun i hi => (pk_cpy_in (Nat.zero_le i) (by show i < 0 + 8; omega)).trans (congrArg (c_kwday σ) (by show 0 + (i - 0) = i; omega))⟩, ?_⟩
  unfold fX2_copy_5_13
  simp only [lb, gs_c_lsts_nexts, gs_c_heard_nexts, gs_c_heard_lsts, gs_c_last_nexts, gs_c_last_lsts, gs_c_last_heard, gs_c_denied_nexts, gs_c_denied_lsts, gs_c_denied_heard, gs_c_denied_last, gs_c_whom_nexts, gs_c_whom_lsts, gs_c_whom_heard, gs_c_whom_last, gs_c_whom_denied, gs_c_wday_nexts, gs_c_wday_lsts, gs_c_wday_heard, gs_c_wday_last, gs_c_wday_denied, gs_c_wday_whom, gs_c_asked_nexts, gs_c_asked_lsts, gs_c_asked_heard, gs_c_asked_last, gs_c_asked_denied, gs_c_asked_whom, gs_c_asked_wday, gs_c_days_nexts, gs_c_days_lsts, gs_c_days_heard, gs_c_days_last, gs_c_days_denied, gs_c_days_whom, gs_c_days_wday, gs_c_days_asked, gs_c_changes_nexts, gs_c_changes_lsts, gs_c_changes_heard, gs_c_changes_last, gs_c_changes_denied, gs_c_changes_whom, gs_c_changes_wday, gs_c_changes_asked, gs_c_changes_days, gs_c_klsts_nexts, gs_c_kheard_nexts, gs_c_kheard_lsts, gs_c_klast_nexts, gs_c_klast_lsts, gs_c_klast_heard, gs_c_kdenied_nexts, gs_c_kdenied_lsts, gs_c_kdenied_heard, gs_c_kdenied_last, gs_c_kwhom_nexts, gs_c_kwhom_lsts, gs_c_kwhom_heard, gs_c_kwhom_last, gs_c_kwhom_denied, gs_c_kwday_nexts, gs_c_kwday_lsts, gs_c_kwday_heard, gs_c_kwday_last, gs_c_kwday_denied, gs_c_kwday_whom, gs_c_kasked_nexts, gs_c_kasked_lsts, gs_c_kasked_heard, gs_c_kasked_last, gs_c_kasked_denied, gs_c_kasked_whom, gs_c_kasked_wday, gs_c_kdays_nexts, gs_c_kdays_lsts, gs_c_kdays_heard, gs_c_kdays_last, gs_c_kdays_denied, gs_c_kdays_whom, gs_c_kdays_wday, gs_c_kdays_asked, gs_c_kchanges_nexts, gs_c_kchanges_lsts, gs_c_kchanges_heard, gs_c_kchanges_last, gs_c_kchanges_denied, gs_c_kchanges_whom, gs_c_kchanges_wday, gs_c_kchanges_asked, gs_c_kchanges_days]
