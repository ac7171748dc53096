/-! ===== hill, put together ===== -/
theorem codeAt_some (σ : SC) (x : Int32) : ∃ w, fX1_codeAt 100 σ x = some w := by
  unfold fX1_codeAt
  rcases (inN x 22 (by omega)).symm with h | ⟨j, hj, rfl⟩
  · by_cases c1 : x < 0
    · exact ⟨0, if_pos c1⟩
    · rw [if_neg c1]
      by_cases c2 : c_plen σ ≤ x
      · exact ⟨0, if_pos c2⟩
      · rw [if_neg c2]
        exact ⟨0, if_pos (show (22 : Int32) ≤ x from h.resolve_left c1)⟩
  · rw [if_neg (nI_pos (by omega))]
    by_cases c2 : c_plen σ ≤ nI j
    · exact ⟨0, if_pos c2⟩
    · rw [if_neg c2, if_neg (show ¬ (22 : Int32) ≤ nI j from nI_ge (b := 22) hj (by omega)), ifB hj (by omega)]
      exact ⟨_, rfl⟩
theorem op_hill (k : Nat) (σ : SC) (τ : SM) (hk : k + 4 ≤ 256) (h : Inv0 k σ τ) : ∃ (r : Int32) (σ1 : SC) (τ1 : SM), fX5_hill 100 σ = some (r, σ1) ∧ fX6_hill 100 τ = some (r, τ1) ∧ Inv0 (k + 4) σ1 τ1 := by
  obtain ⟨L, P0, r, hr, hPg, hNow, hC, hI⟩ := h
  obtain ⟨cd, hcd⟩ := hPg.num
  obtain ⟨v, e', hv, f1, f2, f3⟩ := fault_eq hcd
  obtain ⟨hL, p1, p2, p3, p4⟩ := id hcd
  have hno : Inv0 (k + 4) σ (sm_endAt τ e') := ⟨L, P0, r, by omega, hPg, hNow, hC, hI⟩
  have refuse : fX1_isHill 100 σ = some 0 → fX5_hill 100 σ = some (-103, σ) := by
    intro q
    unfold fX5_hill
    rw [q]
    rfl
  have notSemi : ∀ w, fX1_codeAt 100 σ (nI L - 2) = some w → ¬ w = 59 → fX1_isHill 100 σ = some 0 := by
    intro w hw hn
    unfold fX1_isHill
    rw [p1, hw]
    simp only [bo_n]
    rw [if_neg hn]
  by_cases hvL : ¬ v = L
  · obtain ⟨w, hw⟩ := codeAt_some σ (nI L - 2)
    have hz : fX1_isHill 100 σ = some 0 := by
      by_cases hn : w = 59
      · unfold fX1_isHill
        rw [p1, hw, f1]
        simp only [bo_n]
        rw [if_pos hn, if_neg (fun q => hvL ((eqN (by omega) (by omega)).mp q))]
      · exact notSemi w hw hn
    refine ⟨-103, σ, sm_endAt τ e', refuse hz, ?_, hno⟩
    unfold fX6_hill
    rw [f2]
    simp only [bd_n]
    rw [gs_m_pageMany_endAt, p2, if_pos (nI_lt (by omega) (by omega))]
  have hvL : v = L := Decidable.of_not_not hvL
  subst hvL
  obtain ⟨hdg, hS⟩ := f3 rfl
  have hnlt : ¬ nI v < nI v := nI_nlt (by omega) (by omega)
  rcases hS with ⟨rfl, hk17, hn⟩ | ⟨ee, rfl, e3, e5, e17, e59, hke, hn⟩
  · -- no ';' at all
    have hz : fX1_isHill 100 σ = some 0 := by
      rcases Nat.lt_or_ge v 2 with z | z
      · refine notSemi 0 (codeAt_neg ?_) (by decide)
        rcases (show v = 0 ∨ v = 1 by omega) with rfl | rfl <;> decide
      · obtain ⟨v', rfl⟩ : ∃ v', v = v' + 2 := ⟨v - 2, by omega⟩
        refine notSemi (nI (cd v')) ?_ (fun q => hn v' (by omega) ((eqN (b := 59) (by have := (p4 v' (by omega)).2.1; omega) (by omega)).mp q))
        rw [show nI (v' + 2) - 2 = nI v' from pk_sub (b := 2) (by omega), codeAt_in hL p1 (by omega), (p4 v' (by omega)).2.2]
    refine ⟨-103, σ, sm_endAt τ (-1), refuse hz, ?_, hno⟩
    unfold fX6_hill
    rw [f2]
    simp only [bd_n]
    rw [gs_m_pageMany_endAt, gs_m_endAt_endAt, p2, if_neg hnlt, if_pos rfl]
  rcases hke with rfl | ⟨rfl, r49, r57⟩
  · -- it ends with the ';'
    obtain ⟨e2, rfl⟩ : ∃ e2, ee = e2 + 1 := ⟨ee - 1, by omega⟩
    have hz : fX1_isHill 100 σ = some 0 := by
      refine notSemi (nI (cd e2)) ?_ (fun q => hn e2 (by omega) (by omega) ((eqN (b := 59) (by have := (p4 e2 (by omega)).2.1; omega) (by omega)).mp q))
      rw [show nI (e2 + 1 + 1) - 2 = nI e2 from pk_sub (b := 2) (a := e2 + 2) (by omega), codeAt_in hL p1 (by omega), (p4 e2 (by omega)).2.2]
    refine ⟨-103, σ, sm_endAt τ (nI (e2 + 1)), refuse hz, ?_, hno⟩
    unfold fX6_hill
    rw [f2]
    simp only [bd_n]
    rw [gs_m_pageMany_endAt, gs_m_endAt_endAt, p2, if_neg hnlt, if_neg (m1N (by omega)), ad2, if_neg (fun q => by have := (eqN (by omega) (by omega)).mp q; omega)]
  -- a hill
  obtain ⟨P, hP⟩ : ∃ P, P = (ee + 1) / 3 := ⟨_, rfl⟩
  have hP3 : ee + 1 = 3 * P := by omega
  have h6 : P ≤ 6 := by omega
  have hPL : 3 * P ≤ ee + 2 := by omega
  have hz : fX1_isHill 100 σ = some 1 := by
    unfold fX1_isHill
    rw [p1, show nI (ee + 2) - 2 = nI ee from pk_sub (b := 2) (by omega), codeAt_in hL p1 (by omega), (p4 ee (by omega)).2.2, e59, f1]
    simp only [bo_n]
    rw [if_pos (show nI 59 = 59 from rfl)]
    simp only [if_true]
  have hk0 : ∀ j : Nat, ∃ x : Int32, fX6_kindBy 100 (nI (cd j)) = some x := fun j => by
    obtain ⟨x, hx, -⟩ := kindBy_some (nI (cd j))
    exact ⟨x, hx⟩
  obtain ⟨kj, hkj⟩ := Classical.axiomOfChoice hk0
  obtain ⟨rv, erv⟩ : ∃ rv, rv = cd (ee + 1) - 48 := ⟨_, rfl⟩
  have hrv9 : rv ≤ 9 := by omega
  have hriv : nI (cd (ee + 1)) - 48 = nI rv := by rw [erv]; exact pk_sub (b := 48) (by omega)
  have hnx9 : ∀ i, i < P → cd (i * 3 + 1) - 48 ≤ 9 := fun i hi => by
    have := hdg (i * 3 + 1) (by omega) (by omega)
    omega
  have hnxe : ∀ i, i < P → c_codes σ (i * 3 + 1) = nI (cd (i * 3 + 1) - 48 + 48) := fun i hi => by
    have := hdg (i * 3 + 1) (by omega) (by omega)
    rw [(p4 (i * 3 + 1) (by omega)).2.2, show cd (i * 3 + 1) - 48 + 48 = cd (i * 3 + 1) by omega]
  -- the class
  have hkl : ∀ i, i < P → fX1_kindOfLetter 100 (c_codes σ (i * 3)) = some (kj (i * 3)) := fun i hi => by
    have h126 := (p4 (i * 3) (by omega)).2.1
    rw [(p4 (i * 3) (by omega)).2.2, tKind _ (by omega), hkj]
  obtain ⟨fk, hfk, efk⟩ := read_loop hL hPL h6 (kd := fun i => kj (i * 3)) P 100 0 (sc_river (sc_people σ (nI P)) (nI rv)) (by omega) (by omega) p1 rfl hkl
  rw [nI_0] at efk
  have hread : fX0_read 100 σ = some (sc_kinds (sc_river (sc_people σ (nI P)) (nI rv)) fk) := by
    unfold fX0_read fX1_peopleWritten fX1_riverWritten
    rw [p1, div3 (by omega), show (ee + 2) / 3 = P by omega]
    simp only [bo_n]
    rw [if_neg (show ¬ (6 : Int32) < nI P from nI_nlt (a := 6) (by omega) (by omega)), lb_n, show c_plen (sc_people σ (nI P)) = nI (ee + 2) from p1, show nI (ee + 2) - 1 = nI (ee + 1) from nI_pred (ee + 1), codeAt_in (L := ee + 2) hL (show c_plen (sc_people σ (nI P)) = nI (ee + 2) from p1) (by omega)]
    simp only [bo_n]
    rw [show c_codes (sc_people σ (nI P)) (ee + 1) = nI (cd (ee + 1)) from (p4 (ee + 1) (by omega)).2.2, hriv, lb_n]
    exact efk
  obtain ⟨a0, b0, c0, d0, e0, hz0, ebeg⟩ := begin_eq (sc_kinds (sc_river (sc_people σ (nI P)) (nI rv)) fk)
  obtain ⟨a, b, hab, eab⟩ := hillC_loop hL hPL h6 (nx := fun i => cd (i * 3 + 1) - 48) hnx9 P 100 0 (begS (sc_lsts (sc_nexts (sc_kinds (sc_river (sc_people σ (nI P)) (nI rv)) fk) a0) b0) c0 d0 e0) (by omega) (by omega) p1 rfl hnxe
  rw [nI_0] at eab
  -- the reference
  have hmp : ∀ j, j < ee + 2 → m_page τ j = nI (cd j) := fun j hj => by rw [← p3]; exact (p4 j hj).2.2
  obtain ⟨fm, hfm, efm⟩ := hillM_loop h6 (nx := fun i => cd (i * 3 + 1) - 48) (kd := fun i => kj (i * 3)) hnx9 P 100 0 (sm_people (sm_endAt τ (nI ee)) (nI P)) (by omega) (by omega) rfl
    (fun i hi => by
      show m_page τ (3 * i + 1) = _
      rw [← p3, show 3 * i + 1 = i * 3 + 1 by omega]
      exact hnxe i hi)
    (fun i hi => by
      show fX6_kindBy 100 (m_page τ (3 * i)) = _
      rw [hmp _ (by omega), show 3 * i = i * 3 by omega, hkj])
  rw [nI_0] at efm
  obtain ⟨g, hg, eg⟩ := h144_loop 9 100 0 (sm_river (sm_rows (sm_people (sm_endAt τ (nI ee)) (nI P)) fm) (nI rv)) (by omega) (by omega)
  rw [nI_0] at eg
  refine ⟨nI P, exC (sc_lsts (sc_nexts (begS (sc_lsts (sc_nexts (sc_kinds (sc_river (sc_people σ (nI P)) (nI rv)) fk) a0) b0) c0 d0 e0) a) b), exN (sm_river (sm_rows (sm_people (sm_endAt τ (nI ee)) (nI P)) fm) (nI rv)) g, ?_, ?_, ?_⟩
  · unfold fX5_hill
    rw [hz]
    simp only [bo_n, e10, if_false]
    rw [hread]
    simp only [bo_n]
    rw [ebeg]
    simp only [bo_n]
    exact eab
  · unfold fX6_hill
    rw [f2]
    simp only [bd_n]
    rw [gs_m_pageMany_endAt, gs_m_endAt_endAt, p2, if_neg hnlt, if_neg (m1N (by omega)), ad2, if_pos rfl, lb_n, ad1, div3 (by omega), ← hP, efm, exM]
    rw [show m_endAt (sm_rows (sm_people (sm_endAt τ (nI ee)) (nI P)) fm) = nI ee from rfl, ad1, ifB (by omega) (by omega), lb_n, cl (by omega), show m_page (sm_rows (sm_people (sm_endAt τ (nI ee)) (nI P)) fm) (ee + 1) = nI (cd (ee + 1)) from hmp _ (by omega), hriv, eg]
    rfl
  · obtain ⟨hR0, ⟨-, -, h3, -, -⟩, -⟩ := hNow
    refine ⟨0, P, r + 1, by omega, ⟨by omega, rfl, rfl, p3, fun j hj => by omega⟩, ⟨⟨h6, rfl, rfl, rfl, fun i hi => ?_⟩, ⟨fun t ht => ?_, ⟨0, by omega, rfl, rfl⟩, h3, ⟨0, by omega, rfl, rfl⟩, rfl⟩, ⟨rv, hrv9, rfl⟩⟩, ⟨?_, ?_⟩, Or.inl ⟨rfl, ?_⟩⟩
    · obtain ⟨x1, x2⟩ := hab i hi
      obtain ⟨y1, y2⟩ := hfm i hi
      have hk1 := hfk i hi
      rw [if_pos (by omega)] at x1 x2 y1 y2 hk1
      have x2' : b i = tellW P (fk i) (nxtV P (fun i => cd (i * 3 + 1) - 48) i) i := x2
      show fm (2 * i) = fk i ∧ fm (2 * i + 1) = a i ∧ b i = tellW P (fk i) (a i) i ∧ (a i = -1 ∨ ∃ q, q < P ∧ a i = nI q)
      rw [y1, y2, x1, x2', hk1]
      exact ⟨rfl, rfl, rfl, nxtV_ok _ i⟩
    · obtain ⟨z1, z2, z3⟩ := hz0 t ht
      have hg' : ∀ j, j < 9 → g j = 0 := fun j hj => by rw [hg j hj, if_pos (by omega)]
      show (∃ h, h < 2 ^ P ∧ c0 t = nI h) ∧ (∃ h, h < 2 ^ P ∧ d0 t = nI h) ∧ (∃ d, d ≤ 9 ∧ e0 t = nI d) ∧ g (3 * t) = c0 t ∧ g (3 * t + 1) = d0 t ∧ g (3 * t + 2) = e0 t
      rw [z1, z2, z3, hg' _ (by omega), hg' _ (by omega), hg' _ (by omega)]
      exact ⟨⟨0, Nat.two_pow_pos P, rfl⟩, ⟨0, Nat.two_pow_pos P, rfl⟩, ⟨0, by omega, rfl⟩, rfl, rfl, rfl⟩
    · show c_readings σ + 1 = nI (r + 1)
      rw [hC.1, ad1]
    · show m_hillsRead τ + 1 = nI (r + 1)
      rw [hC.2, ad1]
    · show m_keptHill τ = -1 ∨ ∃ r', r' < r + 1 ∧ m_keptHill τ = nI r'
      rcases hI with ⟨-, i2⟩ | ⟨-, i2, -⟩
      · rcases i2 with i2 | ⟨r', hr', i2⟩
        · exact Or.inl i2
        · exact Or.inr ⟨r', by omega, i2⟩
      · exact Or.inr ⟨r, by omega, i2⟩
