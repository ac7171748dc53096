/-! ===== hill ===== -/
section HILL
variable {L P : Nat}
theorem read_loop (hL : L ≤ 22) (hPL : 3 * P ≤ L) (h6 : P ≤ 6) {kd : Nat → Int32} : ∀ (d n p : Nat) (σ : SC), p + d = P → d < n → c_plen σ = nI L → c_people σ = nI P → (∀ i, i < P → fX1_kindOfLetter 100 (c_codes σ (i * 3)) = some (kd i)) → ∃ f : Nat → Int32, (∀ i, i < P → f i = if p ≤ i then kd i else c_kinds σ i) ∧ fX0_read_23 100 n σ (nI p) = some (sc_kinds σ f) := by
  intro d
  induction d with
  | zero =>
    intro n p σ hp hn e1 e2 e3
    obtain ⟨n, rfl⟩ : ∃ k, n = k + 1 := ⟨n - 1, by omega⟩
    refine ⟨c_kinds σ, fun i hi => by rw [if_neg (by omega)], ?_⟩
    rw [fX0_read_23, e2, if_pos (nI_le (by omega) (by omega))]
    rfl
  | succ d ih =>
    intro n p σ hp hn e1 e2 e3
    obtain ⟨n, rfl⟩ : ∃ k, n = k + 1 := ⟨n - 1, by omega⟩
    obtain ⟨f, hf, ef⟩ := ih n (p + 1) (sc_kinds σ (upd (c_kinds σ) p (kd p))) (by omega) (by omega) e1 e2 e3
    have hkw : fX1_kindWritten 100 σ (nI p) = some (kd p) := by
      unfold fX1_kindWritten
      rw [mul3r, codeAt_in hL e1 (by omega)]
      simp only [bo_n]
      rw [e3 p (by omega)]
      simp only [bo_n]
    refine ⟨f, fun i hi => ?_, ?_⟩
    · rw [hf i hi, gs_c_kinds_kinds]
      by_cases c : i = p
      · subst c; rw [if_neg (by omega), pk_us, if_pos (by omega)]
      · rw [pk_un c]
        by_cases c2 : p ≤ i
        · rw [if_pos (by omega), if_pos c2]
        · rw [if_neg (by omega), if_neg c2]
    · rw [fX0_read_23, e2, if_neg (nI_ge (by omega) (by omega)), hkw]
      simp (disch := omega) only [bo_n, ifB, cl, lb_n, ad1]
      rw [ef, ss_c_kinds]
def begS (σ : SC) (c d e : Nat → Int32) : SC := sc_changes (sc_days (sc_asked (sc_denied (sc_last (sc_heard σ c) d) e) 0) 0) 0
theorem begS_over (σ : SC) (c1 d1 e1 c d e : Nat → Int32) : begS (sc_denied (sc_last (sc_heard σ c1) d1) e1) c d e = begS σ c d e := rfl
theorem begS_same (σ : SC) : begS σ (c_heard σ) (c_last σ) (c_denied σ) = sc_changes (sc_days (sc_asked σ 0) 0) 0 := rfl
theorem beg23_loop : ∀ (d n t : Nat) (σ : SC), t + d = 3 → d < n → ∃ c0 d0 e0 : Nat → Int32, (∀ i, i < 3 → t ≤ i → c0 i = 0 ∧ d0 i = 0 ∧ e0 i = 0) ∧ (∀ i, i < t → c0 i = c_heard σ i ∧ d0 i = c_last σ i ∧ e0 i = c_denied σ i) ∧ fX2_begin_23 100 n σ (nI t) = some (begS σ c0 d0 e0) := by
  intro d
  induction d with
  | zero =>
    intro n t σ ht hn
    obtain ⟨n, rfl⟩ : ∃ k, n = k + 1 := ⟨n - 1, by omega⟩
    have e : t = 3 := by omega
    subst e
    refine ⟨c_heard σ, c_last σ, c_denied σ, fun i h1 h2 => by omega, fun i _ => ⟨rfl, rfl, rfl⟩, ?_⟩
    rw [fX2_begin_23, if_pos (by decide), begS_same]
    simp only [lb_n]
  | succ d ih =>
    intro n t σ ht hn
    obtain ⟨n, rfl⟩ : ∃ k, n = k + 1 := ⟨n - 1, by omega⟩
    have h3 : ¬ (3 : Int32) ≤ nI t := nI_ge (b := 3) (by omega) (by omega)
    obtain ⟨c0, d0, e0, g1, g2, g3⟩ := ih n (t + 1) (sc_denied (sc_last (sc_heard σ (upd (c_heard σ) t 0)) (upd (c_last σ) t 0)) (upd (c_denied σ) t 0)) (by omega) (by omega)
    have gt := g2 t (by omega)
    simp only [gs_c_heard_denied, gs_c_heard_last, gs_c_heard_heard, gs_c_last_denied, gs_c_last_last, gs_c_denied_denied, pk_us] at gt
    refine ⟨c0, d0, e0, fun i h1 h2 => ?_, fun i hi => ?_, ?_⟩
    · by_cases c : i = t
      · subst c; exact gt
      · exact g1 i h1 (by omega)
    · have gi := g2 i (by omega)
      simp only [gs_c_heard_denied, gs_c_heard_last, gs_c_heard_heard, gs_c_last_denied, gs_c_last_last, gs_c_denied_denied] at gi
      rw [pk_un (by omega), pk_un (by omega), pk_un (by omega)] at gi
      exact gi
    · rw [fX2_begin_23, if_neg h3]
      simp (disch := omega) only [ifB, cl, lb_n, ad1, gs_c_last_heard, gs_c_denied_last, gs_c_denied_heard]
      rw [g3, begS_over]
theorem beg2_loop : ∀ (d n i : Nat) (σ : SC), i + d = 6 → d < n → ∃ a b : Nat → Int32, fX2_begin_2 100 n σ (nI i) = fX2_begin_23 100 100 (sc_lsts (sc_nexts σ a) b) 0 := by
  intro d
  induction d with
  | zero =>
    intro n i σ hi hn
    obtain ⟨n, rfl⟩ : ∃ k, n = k + 1 := ⟨n - 1, by omega⟩
    have e : i = 6 := by omega
    subst e
    refine ⟨c_nexts σ, c_lsts σ, ?_⟩
    rw [fX2_begin_2, if_pos (by decide)]
    have : sc_lsts (sc_nexts σ (c_nexts σ)) (c_lsts σ) = σ := rfl
    rw [this]
  | succ d ih =>
    intro n i σ hi hn
    obtain ⟨n, rfl⟩ : ∃ k, n = k + 1 := ⟨n - 1, by omega⟩
    obtain ⟨a, b, e⟩ := ih n (i + 1) (sc_lsts (sc_nexts σ (upd (c_nexts σ) i (-1))) (upd (c_lsts σ) i 0)) (by omega) (by omega)
    refine ⟨a, b, ?_⟩
    rw [fX2_begin_2, if_neg (show ¬ (6 : Int32) ≤ nI i from nI_ge (b := 6) (by omega) (by omega)), setNext_eq (by omega)]
    simp only [bo_n, ad1]
    rw [e]
    have : ∀ (x y : Nat → Int32), sc_lsts (sc_nexts (sc_lsts (sc_nexts σ x) y) a) b = sc_lsts (sc_nexts σ a) b := fun _ _ => rfl
    rw [this]
theorem begin_eq (σ : SC) : ∃ a b c0 d0 e0 : Nat → Int32, (∀ i, i < 3 → c0 i = 0 ∧ d0 i = 0 ∧ e0 i = 0) ∧ fX2_begin 100 σ = some (begS (sc_lsts (sc_nexts σ a) b) c0 d0 e0) := by
  obtain ⟨a, b, e1⟩ := beg2_loop 6 100 0 σ (by omega) (by omega)
  obtain ⟨c0, d0, e0, g1, -, g3⟩ := beg23_loop 3 100 0 (sc_lsts (sc_nexts σ a) b) (by omega) (by omega)
  rw [nI_0] at e1 g3
  refine ⟨a, b, c0, d0, e0, fun i hi => g1 i hi (by omega), ?_⟩
  unfold fX2_begin
  rw [e1, g3]
def exC (σ : SC) : SC := sc_plen (sc_readings (sc_hasImage σ 0) (c_readings σ + 1)) 0
def nxtV (P : Nat) (nx : Nat → Nat) (i : Nat) : Int32 := ptW i (if nx i < P then nI (nx i) else -1)
theorem nxtV_ok (nx : Nat → Nat) (i : Nat) : nxtV P nx i = -1 ∨ ∃ q, q < P ∧ nxtV P nx i = nI q := by
  unfold nxtV
  refine ptW_ok ?_
  by_cases c : nx i < P
  · rw [if_pos c]; exact Or.inr ⟨_, c, rfl⟩
  · rw [if_neg c]; exact Or.inl rfl
theorem hillC_loop (hL : L ≤ 22) (hPL : 3 * P ≤ L) (h6 : P ≤ 6) {nx : Nat → Nat} (hnx : ∀ i, i < P → nx i ≤ 9) : ∀ (d n p : Nat) (σ : SC), p + d = P → d < n → c_plen σ = nI L → c_people σ = nI P → (∀ i, i < P → c_codes σ (i * 3 + 1) = nI (nx i + 48)) → ∃ a b : Nat → Int32, (∀ i, i < P → (a i = if p ≤ i then nxtV P nx i else c_nexts σ i) ∧ b i = if p ≤ i then tellW P (c_kinds σ i) (nxtV P nx i) i else c_lsts σ i) ∧ fX5_hill_33 100 n σ (nI p) = some (nI P, exC (sc_lsts (sc_nexts σ a) b)) := by
  intro d
  induction d with
  | zero =>
    intro n p σ hp hn e1 e2 e3
    obtain ⟨n, rfl⟩ : ∃ k, n = k + 1 := ⟨n - 1, by omega⟩
    refine ⟨c_nexts σ, c_lsts σ, fun i hi => by rw [if_neg (by omega), if_neg (by omega)]; exact ⟨rfl, rfl⟩, ?_⟩
    rw [fX5_hill_33, e2, if_pos (nI_le (by omega) (by omega))]
    have : sc_lsts (sc_nexts σ (c_nexts σ)) (c_lsts σ) = σ := rfl
    rw [this]
    unfold fX1_clear
    simp only [lb_n, bo_n, gs_c_readings_hasImage]
    show some (c_people σ, _) = _
    rw [e2]
    rfl
  | succ d ih =>
    intro n p σ hp hn e1 e2 e3
    obtain ⟨n, rfl⟩ : ∃ k, n = k + 1 := ⟨n - 1, by omega⟩
    have hpP : p < P := by omega
    have h9 := hnx p hpP
    have hnw : fX1_nextWritten 100 σ (nI p) = some (nI (nx p)) := by
      unfold fX1_nextWritten
      rw [mul3r, ad1, codeAt_in hL e1 (by omega), e3 p hpP]
      simp only [bo_n]
      rw [show nI (nx p + 48) - 48 = nI (nx p) from pk_sub (b := 48) (by omega)]
    obtain ⟨a, b, hab, eab⟩ := ih n (p + 1) (ptS P σ p (nxtV P nx p)) (by omega) (by omega) e1 e2 e3
    refine ⟨a, b, fun i hi => ?_, ?_⟩
    · obtain ⟨h1, h2⟩ := hab i hi
      refine ⟨?_, ?_⟩
      · rw [h1]
        unfold ptS
        rw [gs_c_nexts_lsts, gs_c_nexts_nexts]
        by_cases c : i = p
        · subst c; rw [if_neg (by omega), pk_us, if_pos (by omega)]
        · rw [pk_un c]
          by_cases c2 : p ≤ i
          · rw [if_pos (by omega), if_pos c2]
          · rw [if_neg (by omega), if_neg c2]
      · rw [h2]
        unfold ptS
        rw [gs_c_kinds_lsts, gs_c_kinds_nexts, gs_c_lsts_lsts]
        by_cases c : i = p
        · subst c; rw [if_neg (by omega), pk_us, if_pos (by omega)]
        · rw [pk_un c]
          by_cases c2 : p ≤ i
          · rw [if_pos (by omega), if_pos c2]
          · rw [if_neg (by omega), if_neg c2]
    · have hover : sc_lsts (sc_nexts (ptS P σ p (nxtV P nx p)) a) b = sc_lsts (sc_nexts σ a) b := by
        unfold ptS
        generalize upd (c_nexts σ) p (nxtV P nx p) = x
        generalize upd (c_lsts σ) p (tellW P (c_kinds σ p) (nxtV P nx p) p) = y
        rfl
      rw [hover] at eab
      rw [fX5_hill_33, e2, if_neg (nI_ge (by omega) (by omega)), hnw]
      simp only [bo_n]
      unfold fX5_hill_71
      by_cases c : nx p < P
      · rw [hasP_yes h6 e2 c]
        simp only [bo_n, e10, if_false]
        have hv : nxtV P nx p = ptW p (nI (nx p)) := by unfold nxtV; rw [if_pos c]
        rw [point_eq h6 e2 hpP (Or.inr ⟨_, c, rfl⟩), ← hv]
        simp only [bo_n, ad1]
        exact eab
      · rw [hasP_no e2 (Or.inr (nI_le (by omega) (by omega)))]
        simp only [bo_n, e00, if_true]
        have hv : nxtV P nx p = ptW p (-1) := by unfold nxtV; rw [if_neg c]
        rw [point_eq h6 e2 hpP (Or.inl rfl), ← hv]
        simp only [bo_n, ad1]
        exact eab
theorem nxtM (h6 : P ≤ 6) {nx : Nat → Nat} {p : Nat} (hp : p < P) (h9 : nx p ≤ 9) : nxtV P nx p = (if nI (nx p) = nI p then -1 else if nI (nx p) < nI P then nI (nx p) else -1) := by
  unfold nxtV ptW
  by_cases c : nx p < P
  · rw [if_pos c]
    by_cases c2 : nI (nx p) = nI p
    · rw [if_pos c2, if_pos c2]
    · rw [if_neg c2, if_neg c2, if_pos (nI_lt c (by omega))]
  · rw [if_neg c, if_neg (fun q => m1N (a := p) (by omega) q.symm), if_neg (fun q => by have := (eqN (by omega) (by omega)).mp q; omega), if_neg (nI_nlt (by omega) (by omega))]
def exM (τ : SM) : Option (Int32 × SM) := (if inB ((m_endAt τ) + 1) 22 then (lb (sm_river τ ((m_page τ ((m_endAt τ) + 1).toNatClampNeg) - 48)) (fun σ139 => (fX6_hill_144 100 100 σ139 0))) else none)
theorem hillM_loop (h6 : P ≤ 6) {nx : Nat → Nat} {kd : Nat → Int32} (hnx : ∀ i, i < P → nx i ≤ 9) : ∀ (d n p : Nat) (τ : SM), p + d = P → d < n → m_people τ = nI P → (∀ i, i < P → m_page τ (3 * i + 1) = nI (nx i + 48)) → (∀ i, i < P → fX6_kindBy 100 (m_page τ (3 * i)) = some (kd i)) → ∃ f : Nat → Int32, (∀ i, i < P → (f (2 * i) = if p ≤ i then kd i else m_rows τ (2 * i)) ∧ f (2 * i + 1) = if p ≤ i then nxtV P nx i else m_rows τ (2 * i + 1)) ∧ fX6_hill_49 100 n τ (nI p) = exM (sm_rows τ f) := by
  intro d
  induction d with
  | zero =>
    intro n p τ hp hn e2 e3 e4
    obtain ⟨n, rfl⟩ : ∃ k, n = k + 1 := ⟨n - 1, by omega⟩
    refine ⟨m_rows τ, fun i hi => by rw [if_neg (by omega), if_neg (by omega)]; exact ⟨rfl, rfl⟩, ?_⟩
    rw [fX6_hill_49, e2, if_pos (nI_le (by omega) (by omega))]
    have : sm_rows τ (m_rows τ) = τ := rfl
    rw [this, exM]
  | succ d ih =>
    intro n p τ hp hn e2 e3 e4
    obtain ⟨n, rfl⟩ : ∃ k, n = k + 1 := ⟨n - 1, by omega⟩
    have hpP : p < P := by omega
    have h9 := hnx p hpP
    obtain ⟨f, hf, ef⟩ := ih n (p + 1) (sm_rows τ (upd (upd (m_rows τ) (2 * p) (kd p)) (2 * p + 1) (nxtV P nx p))) (by omega) (by omega) e2 e3 e4
    refine ⟨f, fun i hi => ?_, ?_⟩
    · obtain ⟨h1, h2⟩ := hf i hi
      refine ⟨?_, ?_⟩
      · rw [h1, gs_m_rows_rows]
        by_cases c : i = p
        · subst c; rw [if_neg (by omega), pk_un (by omega), pk_us, if_pos (by omega)]
        · rw [pk_un (by omega), pk_un (by omega)]
          by_cases c2 : p ≤ i
          · rw [if_pos (by omega), if_pos c2]
          · rw [if_neg (by omega), if_neg c2]
      · rw [h2, gs_m_rows_rows]
        by_cases c : i = p
        · subst c; rw [if_neg (by omega), pk_us, if_pos (by omega)]
        · rw [pk_un (by omega), pk_un (by omega)]
          by_cases c2 : p ≤ i
          · rw [if_pos (by omega), if_pos c2]
          · rw [if_neg (by omega), if_neg c2]
    · rw [ss_m_rows] at ef
      rw [fX6_hill_49, e2, if_neg (nI_ge (by omega) (by omega))]
      unfold fX6_hill_112 fX6_hill_117
      simp (disch := omega) only [mul3, mul2, ad1, ifB, cl, lb_n, e3 p hpP, e4 p hpP, bo_n, gs_m_people_rows, gs_m_rows_rows, ss_m_rows, e2]
      rw [show nI (nx p + 48) - 48 = nI (nx p) from pk_sub (b := 48) (by omega)]
      have hv := nxtM h6 hpP h9
      by_cases c1 : nI (nx p) = nI p
      · rw [if_pos c1] at hv ⊢
        rw [hv] at ef
        exact ef
      · rw [if_neg c1] at hv ⊢
        by_cases c2 : nI (nx p) < nI P
        · rw [if_pos c2] at hv ⊢
          rw [hv] at ef
          exact ef
        · rw [if_neg c2] at hv ⊢
          rw [hv] at ef
          exact ef
def exN (τ : SM) (g : Nat → Int32) : SM := sm_pageMany (sm_hillsRead (sm_askedMany (sm_changes (sm_days (sm_tunnels τ g) 0) 0) 0) (m_hillsRead τ + 1)) 0
theorem h144_loop : ∀ (d n j : Nat) (τ : SM), j + d = 9 → d < n → ∃ g : Nat → Int32, (∀ i, i < 9 → g i = if j ≤ i then 0 else m_tunnels τ i) ∧ fX6_hill_144 100 n τ (nI j) = some (m_people τ, exN τ g) := by
  intro d
  induction d with
  | zero =>
    intro n j τ hj hn
    obtain ⟨n, rfl⟩ : ∃ k, n = k + 1 := ⟨n - 1, by omega⟩
    have e : j = 9 := by omega
    subst e
    refine ⟨m_tunnels τ, fun i hi => by rw [if_neg (by omega)], ?_⟩
    rw [fX6_hill_144, if_pos (by decide)]
    have : sm_tunnels τ (m_tunnels τ) = τ := rfl
    unfold exN
    rw [this]
    simp only [lb_n, gs_m_people_pageMany, gs_m_people_hillsRead, gs_m_people_askedMany, gs_m_people_changes, gs_m_people_days, gs_m_hillsRead_askedMany, gs_m_hillsRead_changes, gs_m_hillsRead_days]
  | succ d ih =>
    intro n j τ hj hn
    obtain ⟨n, rfl⟩ : ∃ k, n = k + 1 := ⟨n - 1, by omega⟩
    obtain ⟨g, hg, eg⟩ := ih n (j + 1) (sm_tunnels τ (upd (m_tunnels τ) j 0)) (by omega) (by omega)
    refine ⟨g, fun i hi => ?_, ?_⟩
    · rw [hg i hi, gs_m_tunnels_tunnels]
      by_cases c : i = j
      · subst c; rw [if_neg (by omega), pk_us, if_pos (by omega)]
      · rw [pk_un c]
        by_cases c2 : j ≤ i
        · rw [if_pos (by omega), if_pos c2]
        · rw [if_neg (by omega), if_neg c2]
    · rw [fX6_hill_144, if_neg (show ¬ (9 : Int32) ≤ nI j from nI_ge (b := 9) (by omega) (by omega))]
      simp (disch := omega) only [ifB, cl, lb_n, ad1]
      rw [eg]
      unfold exN
      rw [ss_m_tunnels, gs_m_people_tunnels, gs_m_hillsRead_tunnels]
end HILL
