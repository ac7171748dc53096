/-! ===== began, ask ===== -/
theorem bd_n {α β γ : Type} (a : α) (b : β) (k : α → β → Option γ) : bd (some (a, b)) k = k a b := Eq.trans (Eq.refl _) (Eq.refl _)
section ASK
variable {P : Nat} {σ : SC} {τ : SM}
theorem no_loop {a : Nat} (ha : a ≤ 8) (ea : m_askedMany τ = nI a) (k4 : SM → Int32 → Int32 → Option Int32) (x1 x2 : Int32) : ∀ (d m i : Nat), i + d = a → d < m → fX6_beganOf_17 100 k4 m τ x1 x2 0 (nI i) = k4 τ (x1 ||| 0) (x2 + 1) := by
  intro d
  induction d with
  | zero =>
    intro m i hi hm
    obtain ⟨m, rfl⟩ : ∃ k, m = k + 1 := ⟨m - 1, by omega⟩
    rw [fX6_beganOf_17, ea, if_pos (nI_le (by omega) (by omega)), if_pos rfl]
  | succ d ih =>
    intro m i hi hm
    obtain ⟨m, rfl⟩ : ∃ k, m = k + 1 := ⟨m - 1, by omega⟩
    rw [fX6_beganOf_17, ea, if_neg (nI_ge (by omega) (by omega)), if_pos rfl, ad1]
    exact ih m (i + 1) (by omega) (by omega)
theorem agree_loop (hN : NowI P σ τ) {a : Nat} (ha : a ≤ 8) (ea : c_asked σ = nI a) (ea' : m_askedMany τ = nI a) {b : Nat} (hb : b < P) (k4 : SM → Int32 → Int32 → Option Int32) (x1 : Int32) : ∀ (d n m i : Nat), i + d = a → d < n → d < m → ∃ v : Int32, fX3_agrees_2 100 n σ (nI b) (nI i) = some v ∧ (v = 0 ∨ v = 1) ∧ fX6_beganOf_17 100 k4 m τ x1 (nI b) 1 (nI i) = (if v = 0 then k4 τ (x1 ||| 0) (nI b + 1) else k4 τ (x1 ||| (1 <<< (nI b &&& 31))) (nI b + 1)) := by
  obtain ⟨hR, ⟨-, -, h3, -, -⟩, -⟩ := hN
  intro d
  induction d with
  | zero =>
    intro n m i hi hn hm
    obtain ⟨n, rfl⟩ : ∃ k, n = k + 1 := ⟨n - 1, by omega⟩
    obtain ⟨m, rfl⟩ : ∃ k, m = k + 1 := ⟨m - 1, by omega⟩
    have hle : nI a ≤ nI i := nI_le (by omega) (by omega)
    refine ⟨1, by rw [fX3_agrees_2, ea, if_pos hle], Or.inr rfl, ?_⟩
    rw [fX6_beganOf_17, ea', if_pos hle]
  | succ d ih =>
    intro n m i hi hn hm
    obtain ⟨n, rfl⟩ : ∃ k, n = k + 1 := ⟨n - 1, by omega⟩
    obtain ⟨m, rfl⟩ : ∃ k, m = k + 1 := ⟨m - 1, by omega⟩
    have hnle : ¬ nI a ≤ nI i := nI_ge (by omega) (by omega)
    have h8 : ¬ (8 : Int32) ≤ nI i := nI_ge (b := 8) (by omega) (by omega)
    obtain ⟨w1, w2⟩ := h3 i (by omega)
    obtain ⟨v, v1, v2, -⟩ := day_eq hR hb (c_whom σ i)
    rw [fX3_agrees_2, ea, if_neg hnle, if_neg h8, fX6_beganOf_17, ea', if_neg hnle, if_neg (show ¬ (1 : Int32) = 0 by decide)]
    simp (disch := omega) only [mul2, ifB, cl, ad1, w1, w2]
    rw [v1, v2]
    simp only [bo_n]
    by_cases c : v = c_wday σ i
    · rw [if_pos c, if_pos c]
      have := ih n m (i + 1) (by omega) (by omega) (by omega)
      rw [ad1] at this
      exact this
    · rw [if_neg c, if_neg c]
      refine ⟨0, rfl, Or.inl rfl, ?_⟩
      rw [no_loop ha ea' k4 x1 (nI b) d m (i + 1) (by omega) (by omega), if_pos rfl, ad1]
theorem began_loop (hN : NowI P σ τ) {a : Nat} (ha : a ≤ 8) (ea : c_asked σ = nI a) (ea' : m_askedMany τ = nI a) : ∀ (d n m p s : Nat), p + d = P → d < n → d < m → s < 2 ^ P → ∃ u, u < 2 ^ P ∧ fX3_beginners_4 100 n σ (nI s) (nI p) = some (nI u) ∧ fX6_beganOf_4 100 m τ (nI s) (nI p) = some (nI u) := by
  have hR := hN.1
  have h6 := hR.1
  have h64 := pow_le64 h6
  intro d
  induction d with
  | zero =>
    intro n m p s hp hn hm hs
    obtain ⟨n, rfl⟩ : ∃ k, n = k + 1 := ⟨n - 1, by omega⟩
    obtain ⟨m, rfl⟩ : ∃ k, m = k + 1 := ⟨m - 1, by omega⟩
    have hle : nI P ≤ nI p := nI_le (by omega) (by omega)
    exact ⟨s, hs, by rw [fX3_beginners_4, hR.2.1, if_pos hle], by rw [fX6_beganOf_4, hR.2.2.1, if_pos hle]⟩
  | succ d ih =>
    intro n m p s hp hn hm hs
    obtain ⟨n, rfl⟩ : ∃ k, n = k + 1 := ⟨n - 1, by omega⟩
    obtain ⟨m, rfl⟩ : ∃ k, m = k + 1 := ⟨m - 1, by omega⟩
    have hnle : ¬ nI P ≤ nI p := nI_ge (by omega) (by omega)
    obtain ⟨v, v1, v2, v3⟩ := agree_loop hN ha ea ea' (b := p) (by omega) (fX6_beganOf_4 100 m) (nI s) a 100 100 0 (by omega) (by omega) (by omega)
    have v1' : fX3_agrees 100 σ (nI p) = some v := v1
    have v3' : fX6_beganOf_17 100 (fX6_beganOf_4 100 m) 100 τ (nI s) (nI p) 1 0 = _ := v3
    rw [fX3_beginners_4, hR.2.1, if_neg hnle, v1', fX6_beganOf_4, hR.2.2.1, if_neg hnle, v3']
    simp only [bo_n, ad1]
    have hp2 : 2 ^ p < 2 ^ P := Nat.pow_lt_pow_right (by omega) (by omega)
    rcases v2 with rfl | rfl
    · rw [if_pos rfl, if_pos rfl, or_0]
      exact ih n m (p + 1) s (by omega) (by omega) (by omega) hs
    · rw [if_neg (show ¬ (1 : Int32) = 0 by decide), if_neg (show ¬ (1 : Int32) = 0 by decide), tSh p (by omega), tOr s (by omega) _ (by omega)]
      exact ih n m (p + 1) _ (by omega) (by omega) (by omega) (Nat.or_lt_two_pow hs hp2)
theorem began_eq (hN : NowI P σ τ) : ∃ u, u < 2 ^ P ∧ fX3_beginners 100 σ = some (nI u) ∧ fX6_beganOf 100 τ = some (nI u) := by
  obtain ⟨a, ha, ea, ea'⟩ := hN.2.1.2.1
  have h6 := hN.1.1
  exact began_loop hN ha ea ea' P 100 100 0 0 (by omega) (by omega) (by omega) (Nat.two_pow_pos P)
theorem zeroC_loop (x1 x2 : Int32) : ∀ (d n j : Nat) (σ : SC), j + d = 7 → d < n → ∃ f : Nat → Int32, (∀ i, i < 7 → f i = if j ≤ i then 0 else c_left σ i) ∧ fX3_leftAtWorst_2 100 n σ x1 x2 (nI j) = fX3_leftAtWorst_29 100 100 (sc_left σ f) x1 x2 0 0 := by
  intro d
  induction d with
  | zero =>
    intro n j σ hj hn
    obtain ⟨n, rfl⟩ : ∃ k, n = k + 1 := ⟨n - 1, by omega⟩
    have e : j = 7 := by omega
    subst e
    refine ⟨c_left σ, fun i hi => by rw [if_neg (by omega)], ?_⟩
    rw [fX3_leftAtWorst_2, if_pos (by decide)]
    have : sc_left σ (c_left σ) = σ := rfl
    rw [this]
  | succ d ih =>
    intro n j σ hj hn
    obtain ⟨n, rfl⟩ : ∃ k, n = k + 1 := ⟨n - 1, by omega⟩
    have h7 : ¬ (7 : Int32) ≤ nI j := nI_ge (b := 7) (by omega) (by omega)
    obtain ⟨f, hf, ef⟩ := ih n (j + 1) (sc_left σ (upd (c_left σ) j 0)) (by omega) (by omega)
    refine ⟨f, fun i hi => ?_, ?_⟩
    · rw [hf i hi, gs_c_left_left]
      by_cases c : i = j
      · subst c; rw [if_neg (by omega), pk_us, if_pos (by omega)]
      · rw [pk_un c]
        by_cases c2 : j ≤ i
        · rw [if_pos (by omega), if_pos c2]
        · rw [if_neg (by omega), if_neg c2]
    · rw [fX3_leftAtWorst_2, if_neg h7]
      simp (disch := omega) only [ifB, cl, lb, ad1]
      rw [ef, ss_c_left]
theorem zeroM_loop (k13 : SM → Int32 → Int32 → Int32 → Int32 → Option (Int32 × SM)) (x1 x2 x3 x4 : Int32) : ∀ (d n j : Nat) (τ : SM), j + d = 8 → d < n → ∃ g : Nat → Int32, (∀ i, i < 8 → g i = if j ≤ i then 0 else m_parts τ i) ∧ fX6_askOf_29 100 k13 n τ x1 x2 x3 x4 (nI j) = fX6_askOf_56 100 k13 100 (sm_parts τ g) x1 x2 x3 x4 0 0 := by
  intro d
  induction d with
  | zero =>
    intro n j τ hj hn
    obtain ⟨n, rfl⟩ : ∃ k, n = k + 1 := ⟨n - 1, by omega⟩
    have e : j = 8 := by omega
    subst e
    refine ⟨m_parts τ, fun i hi => by rw [if_neg (by omega)], ?_⟩
    rw [fX6_askOf_29, if_pos (by decide)]
    have : sm_parts τ (m_parts τ) = τ := rfl
    rw [this]
  | succ d ih =>
    intro n j τ hj hn
    obtain ⟨n, rfl⟩ : ∃ k, n = k + 1 := ⟨n - 1, by omega⟩
    have h7 : ¬ (8 : Int32) ≤ nI j := nI_ge (b := 8) (by omega) (by omega)
    obtain ⟨f, hf, ef⟩ := ih n (j + 1) (sm_parts τ (upd (m_parts τ) j 0)) (by omega) (by omega)
    refine ⟨f, fun i hi => ?_, ?_⟩
    · rw [hf i hi, gs_m_parts_parts]
      by_cases c : i = j
      · subst c; rw [if_neg (by omega), pk_us, if_pos (by omega)]
      · rw [pk_un c]
        by_cases c2 : j ≤ i
        · rw [if_pos (by omega), if_pos c2]
        · rw [if_neg (by omega), if_neg c2]
    · rw [fX6_askOf_29, if_neg h7]
      simp (disch := omega) only [ifB, cl, lb, ad1]
      rw [ef, ss_m_parts]
theorem worst_loop (hR : Rel P σ τ) (k13 : SM → Int32 → Int32 → Int32 → Int32 → Option (Int32 × SM)) (bits best least : Int32) {q : Nat} (hq : q < P) : ∀ (d n m p w : Nat) (f g : Nat → Int32), p + d = P → d < n → d < m → w ≤ p → (∀ i, i < 7 → ∃ c, c ≤ w ∧ f i = nI c ∧ g i = nI c) →
    ∃ (w' : Nat) (f' g' : Nat → Int32), w' ≤ P ∧ fX3_leftAtWorst_29 100 n (sc_left σ f) (nI q) bits (nI w) (nI p) = some (nI w', sc_left σ f') ∧
      fX6_askOf_56 100 k13 m (sm_parts τ g) bits best least (nI q) (nI w) (nI p) = (if least ≤ nI w' then fX6_askOf_137 100 k13 (sm_parts τ g') bits least (nI q) (nI w') best else fX6_askOf_137 100 k13 (sm_parts τ g') bits least (nI q) (nI w') (nI q)) := by
  have h6 := hR.1
  intro d
  induction d with
  | zero =>
    intro n m p w f g hp hn hm hw hfg
    obtain ⟨n, rfl⟩ : ∃ k, n = k + 1 := ⟨n - 1, by omega⟩
    obtain ⟨m, rfl⟩ : ∃ k, m = k + 1 := ⟨m - 1, by omega⟩
    have hle : nI P ≤ nI p := nI_le (by omega) (by omega)
    refine ⟨w, f, g, by omega, ?_, ?_⟩
    · rw [fX3_leftAtWorst_29, gs_c_people_left, hR.2.1, if_pos hle]
    · rw [fX6_askOf_56, gs_m_people_parts, hR.2.2.1, if_pos hle]
  | succ d ih =>
    intro n m p w f g hp hn hm hw hfg
    obtain ⟨n, rfl⟩ : ∃ k, n = k + 1 := ⟨n - 1, by omega⟩
    obtain ⟨m, rfl⟩ : ∃ k, m = k + 1 := ⟨m - 1, by omega⟩
    have hnle : ¬ nI P ≤ nI p := nI_ge (by omega) (by omega)
    have hR' : Rel P (sc_left σ f) (sm_parts τ g) := hR
    obtain ⟨v, v1, v2, v3⟩ := day_eq hR' (b := p) (by omega) (nI q)
    obtain ⟨j, hj, ej⟩ : ∃ j, j < 7 ∧ v + 1 = nI j := by
      rcases v3 with rfl | ⟨j, hj, rfl⟩
      · exact ⟨0, by omega, rfl⟩
      · exact ⟨j + 1, by omega, ad1 j⟩
    obtain ⟨c, hc, fc, gc⟩ := hfg j hj
    rw [fX3_leftAtWorst_29, gs_c_people_left, hR.2.1, if_neg hnle, fX6_askOf_56, gs_m_people_parts, hR.2.2.1, if_neg hnle, v1, v2]
    unfold fX5_isIn
    simp (disch := omega) only [bo_n, ej, ifB, cl, lb, gs_c_left_left, gs_m_parts_parts, ss_c_left, ss_m_parts, pk_us, fc, gc, ad1]
    rcases and_1 (bits >>> (nI p &&& 31)) with cb | cb
    · rw [if_pos cb, cb]
      simp only [bo_n, e00, if_true]
      rw [show nI c + 0 = nI c by simp, if_pos (nI_le hc (by omega))]
      have hg : ∀ i, i < 7 → ∃ c', c' ≤ w ∧ f i = nI c' ∧ upd g j (nI c) i = nI c' := by
        intro i hi
        by_cases hij : i = j
        · subst hij; exact ⟨c, hc, fc, pk_us⟩
        · rw [pk_un hij]; exact hfg i hi
      exact ih n m (p + 1) w f (upd g j (nI c)) (by omega) (by omega) (by omega) (by omega) hg
    · rw [if_neg (by rw [cb]; decide), cb]
      simp only [bo_n, e10, if_false]
      rw [if_neg (nI_pos (by omega)), if_neg (show ¬ (7 : Int32) ≤ nI j from nI_ge (b := 7) hj (by omega)), ad1]
      by_cases c2 : c + 1 ≤ w
      · rw [if_neg (nI_nlt c2 (by omega)), if_pos (nI_le c2 (by omega))]
        have hg : ∀ i, i < 7 → ∃ c', c' ≤ w ∧ upd f j (nI (c + 1)) i = nI c' ∧ upd g j (nI (c + 1)) i = nI c' := by
          intro i hi
          by_cases hij : i = j
          · subst hij; exact ⟨c + 1, c2, pk_us, pk_us⟩
          · rw [pk_un hij, pk_un hij]; exact hfg i hi
        exact ih n m (p + 1) w _ _ (by omega) (by omega) (by omega) (by omega) hg
      · have hcw : c = w := by omega
        subst hcw
        rw [if_pos (nI_lt (by omega) (by omega)), if_neg (nI_ge (by omega) (by omega))]
        have hg : ∀ i, i < 7 → ∃ c', c' ≤ c + 1 ∧ upd f j (nI (c + 1)) i = nI c' ∧ upd g j (nI (c + 1)) i = nI c' := by
          intro i hi
          by_cases hij : i = j
          · subst hij; exact ⟨c + 1, by omega, pk_us, pk_us⟩
          · rw [pk_un hij, pk_un hij]
            obtain ⟨c', h1, h2⟩ := hfg i hi
            exact ⟨c', by omega, h2⟩
        exact ih n m (p + 1) (c + 1) _ _ (by omega) (by omega) (by omega) (by omega) hg
theorem best_loop (hR : Rel P σ τ) {bits : Int32} (hb : ¬ bits = 0) : ∀ (d n m q a b : Nat) (best : Int32) (f g : Nat → Int32), q + d = P → d < n → d < m → a < 100 → b < 100 → (a = b ∨ (P < a ∧ P < b)) →
    ∃ (v : Int32) (f' g' : Nat → Int32), fX3_bestToAsk_21 100 n (sc_left σ f) bits best (nI a) (nI q) = some (v, sc_left σ f') ∧ fX6_askOf_13 100 m (sm_parts τ g) bits best (nI b) (nI q) = some (v, sm_parts τ g') := by
  have h6 := hR.1
  intro d
  induction d with
  | zero =>
    intro n m q a b best f g hq hn hm ha hb' hab
    obtain ⟨n, rfl⟩ : ∃ k, n = k + 1 := ⟨n - 1, by omega⟩
    obtain ⟨m, rfl⟩ : ∃ k, m = k + 1 := ⟨m - 1, by omega⟩
    have hle : nI P ≤ nI q := nI_le (by omega) (by omega)
    refine ⟨best, f, g, ?_, ?_⟩
    · rw [fX3_bestToAsk_21, gs_c_people_left, hR.2.1, if_pos hle]
    · rw [fX6_askOf_13, gs_m_people_parts, hR.2.2.1, if_pos hle]
  | succ d ih =>
    intro n m q a b best f g hq hn hm ha hb' hab
    obtain ⟨n, rfl⟩ : ∃ k, n = k + 1 := ⟨n - 1, by omega⟩
    obtain ⟨m, rfl⟩ : ∃ k, m = k + 1 := ⟨m - 1, by omega⟩
    have hnle : ¬ nI P ≤ nI q := nI_ge (by omega) (by omega)
    obtain ⟨f1, hf1, ef1⟩ := zeroC_loop (nI q) bits 7 100 0 (sc_left σ f) (by omega) (by omega)
    obtain ⟨g1, hg1, eg1⟩ := zeroM_loop (fX6_askOf_13 100 m) bits best (nI b) (nI q) 8 100 0 (sm_parts τ g) (by omega) (by omega)
    rw [ss_c_left] at ef1
    rw [ss_m_parts] at eg1
    obtain ⟨w, f2, g2, hw, e1, e2⟩ := worst_loop hR (fX6_askOf_13 100 m) bits best (nI b) (q := q) (by omega) P 100 100 0 0 f1 g1 (by omega) (by omega) (by omega) (by omega) (fun i hi => ⟨0, by omega, by rw [hf1 i hi, if_pos (by omega)]; rfl, by rw [hg1 i (by omega), if_pos (by omega)]; rfl⟩)
    have ec : fX3_leftAtWorst 100 (sc_left σ f) (nI q) bits = some (nI w, sc_left σ f2) := by
      unfold fX3_leftAtWorst
      exact ef1.trans e1
    have em : fX6_askOf_29 100 (fX6_askOf_13 100 m) 100 (sm_parts τ g) bits best (nI b) (nI q) 0 = _ := eg1.trans e2
    rw [fX3_bestToAsk_21, gs_c_people_left, hR.2.1, if_neg hnle, ec, fX6_askOf_13, gs_m_people_parts, hR.2.2.1, if_neg hnle, if_neg hb, em]
    unfold fX6_askOf_137
    simp only [bd_n, ad1]
    by_cases c : b ≤ w
    · have ca : a ≤ w := by omega
      have c1 : nI b ≤ nI w := nI_le c (by omega)
      have c2 : nI a ≤ nI w := nI_le ca (by omega)
      rw [if_pos c1, if_pos c2, if_pos c1]
      exact ih n m (q + 1) a b best f2 g2 (by omega) (by omega) (by omega) ha hb' hab
    · have ca : ¬ a ≤ w := by omega
      have c1 : ¬ nI b ≤ nI w := nI_ge (by omega) (by omega)
      have c2 : ¬ nI a ≤ nI w := nI_ge (by omega) (by omega)
      rw [if_neg c1, if_neg c2, if_neg c1]
      exact ih n m (q + 1) w w (nI q) f2 g2 (by omega) (by omega) (by omega) (by omega) (by omega) (Or.inl rfl)
/-- what ASK tells, and what it leaves: rows of work alone -/
theorem ask_eq (hN : NowI P σ τ) : ∃ (v : Int32) (u : Int32) (f g : Nat → Int32), fX3_beginners 100 σ = some u ∧ fX3_bestToAsk 100 σ u = some (v, sc_left σ f) ∧ fX6_askOf 100 τ = some (v, sm_parts τ g) := by
  obtain ⟨u, hu, e1, e2⟩ := began_eq hN
  have hR := hN.1
  have h6 := hR.1
  have h64 := pow_le64 h6
  unfold fX6_askOf fX3_bestToAsk
  rw [e2]
  simp only [bo_n]
  by_cases h0 : u = 0
  · subst h0
    refine ⟨-1, nI 0, c_left σ, m_parts τ, e1, ?_, ?_⟩
    · rw [if_pos nI_0]
      rfl
    · rw [fX6_askOf_13, if_pos nI_0]
      split <;> rfl
  · have hb : ¬ nI u = 0 := nI_ne0 (by omega) (by omega)
    obtain ⟨v, f, g, x1, x2⟩ := best_loop hR hb P 100 100 0 (P + 1) 7 (-1) (c_left σ) (m_parts τ) (by omega) (by omega) (by omega) (by omega) (by omega) (by omega)
    have s1 : sc_left σ (c_left σ) = σ := rfl
    have s2 : sm_parts τ (m_parts τ) = τ := rfl
    rw [s1] at x1
    rw [s2] at x2
    refine ⟨v, nI u, f, g, e1, ?_, x2⟩
    rw [if_neg hb, hR.2.1, ad1]
    exact x1
end ASK
theorem op_began (k : Nat) (σ : SC) (τ : SM) (_ : k + 4 ≤ 256) (h : Inv0 k σ τ) : ∃ (r : Int32), fX5_began 100 σ = some r ∧ fX6_began 100 τ = some r := by
  obtain ⟨L, P, r, hr, hPg, hNow, hC, hI⟩ := h
  obtain ⟨u, hu, e1, e2⟩ := began_eq hNow
  unfold fX5_began fX6_began
  rw [isThere_eq hNow.1, lacks_eq hNow.1, e1, e2]
  simp only [bo_n]
  by_cases h0 : P = 0
  · rw [if_pos h0, if_pos h0, if_pos rfl, if_neg (by decide)]
    exact ⟨-103, rfl, rfl⟩
  · rw [if_neg h0, if_neg h0, if_neg (by decide), if_pos rfl]
    exact ⟨nI u, rfl, rfl⟩
theorem op_ask (k : Nat) (σ : SC) (τ : SM) (_ : k + 4 ≤ 256) (h : Inv0 k σ τ) : ∃ (r : Int32) (σ1 : SC) (τ1 : SM), fX5_ask 100 σ = some (r, σ1) ∧ fX6_ask 100 τ = some (r, τ1) ∧ Inv0 (k + 4) σ1 τ1 := by
  have hm := inv_mono k σ τ h
  obtain ⟨L, P, r, hr, hPg, hNow, hC, hI⟩ := h
  obtain ⟨v, u, f, g, e1, e2, e3⟩ := ask_eq hNow
  unfold fX5_ask fX6_ask
  rw [isThere_eq hNow.1, lacks_eq hNow.1, e1, e3]
  simp only [bo_n, bd_n]
  by_cases h0 : P = 0
  · rw [if_pos h0, if_pos h0, if_pos rfl, if_neg (by decide)]
    exact ⟨-103, σ, τ, rfl, rfl, hm⟩
  · rw [if_neg h0, if_neg h0, if_neg (by decide), if_pos rfl, e2]
    exact ⟨v, sc_left σ f, sm_parts τ g, rfl, rfl, ⟨L, P, r, by omega, hPg, hNow, hC, hI⟩⟩
