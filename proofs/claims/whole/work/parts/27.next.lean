/-! ===== next ===== -/
theorem op_next (k : Nat) (σ : SC) (τ : SM) (a1 a2 : Int32) (_ : k + 4 ≤ 256) (h : Inv0 k σ τ) : ∃ (r : Int32) (σ1 : SC) (τ1 : SM), fX5_next 100 σ a1 a2 = some (r, σ1) ∧ fX6_next 100 τ a1 a2 = some (r, τ1) ∧ Inv0 (k + 4) σ1 τ1 := by
  have hm := inv_mono k σ τ h
  obtain ⟨L, P, r, hr, hPg, hNow, hC, hI⟩ := h
  obtain ⟨hR, ⟨h1, h2, h3, h4, h5⟩, hrv⟩ := id hNow
  have h6 := hR.1
  unfold fX5_next fX6_next
  rcases (inN a1 P (by omega)).symm with hno | ⟨p, hp, rfl⟩
  · rw [has_no hR hno, isPerson_no hR hno]
    exact ⟨-101, σ, τ, rfl, rfl, hm⟩
  rw [has_yes hR hp, isPerson_yes hR hp]
  simp only [bo_s, e10, if_false]
  have key : (a2 = -1 ∨ ∃ q, q < P ∧ a2 = nI q) → ∃ (r : Int32) (σ1 : SC) (τ1 : SM), fX5_next_30 100 σ (nI p) a2 = some (r, σ1) ∧ fX6_next_24 100 τ (nI p) a2 = some (r, τ1) ∧ Inv0 (k + 4) σ1 τ1 := by
    intro ha
    have hw := ptW_ok (p := p) ha
    obtain ⟨r1, r2, -, -⟩ := hR.2.2.2.2 p hp
    refine ⟨c_nexts σ p, sc_changes (ptS P σ p (ptW p a2)) (c_changes σ + 1), sm_changes (sm_rows τ (upd (m_rows τ) (2 * p + 1) (ptW p a2))) (m_changes τ + 1), ?_, ?_, ⟨L, P, r, by omega, hPg, ⟨Rel.point hR hp hw, ⟨h1, h2, h3, h4, ?_⟩, hrv⟩, hC, hI⟩⟩
    · unfold fX5_next_30
      rw [nextOf_eq (by omega)]
      simp only [bo_s]
      rw [point_eq h6 hR.2.1 hp ha]
      simp only [bo_s, lb, ptS, gs_c_changes_lsts, gs_c_changes_nexts]
    · unfold fX6_next_24 fX6_next_54 ptW
      simp (disch := omega) only [mul2, ad1, ifB, cl, r2]
      by_cases c : a2 = nI p
      · rw [if_pos c, if_pos c]; simp only [lb, gs_m_changes_rows]
      · rw [if_neg c, if_neg c]; simp only [lb, gs_m_changes_rows]
    · rw [gs_c_changes_changes, gs_m_changes_changes, h5]
  by_cases c : a2 = -1
  · rw [if_pos c, if_pos c]
    exact key (Or.inl c)
  rw [if_neg c, if_neg c]
  rcases (inN a2 P (by omega)).symm with hno | hyes
  · rw [has_no hR hno, isPerson_no hR hno]
    exact ⟨-101, σ, τ, rfl, rfl, hm⟩
  · obtain ⟨q, hq, eq⟩ := id hyes
    rw [show fX0_has 100 σ a2 = some 1 by rw [eq]; exact has_yes hR hq, show fX6_isPerson 100 τ a2 = some 1 by rw [eq]; exact isPerson_yes hR hq]
    simp only [bo_s, e10, if_false]
    exact key (Or.inr hyes)
