theorem op_day (k : Nat) (σ : SC) (τ : SM) (_ : k + 4 ≤ 256) (h : Inv0 k σ τ) : ∃ (r : Int32) (σ1 : SC) (τ1 : SM), fX5_day 100 σ = some (r, σ1) ∧ fX6_day 100 τ = some (r, τ1) ∧ Inv0 (k + 4) σ1 τ1 := by
  have hm := inv_mono k σ τ h
  obtain ⟨L, P, r, hr, hPg, hNow, hC, hI⟩ := h
  obtain ⟨hR, ⟨h1, h2, h3, ⟨d, hd, ed, ed'⟩, h5⟩, hrv⟩ := id hNow
  unfold fX5_day fX6_day
  rw [isThere_eq hR, lacks_eq hR]
  by_cases h0 : P = 0
  · rw [if_pos h0, if_pos h0]
    exact ⟨-103, σ, τ, rfl, rfl, hm⟩
  rw [if_neg h0, if_neg h0]
  simp only [bo_s, e10, e00, if_true, if_false, ed, ed', lb, ad1]
  by_cases c : d = 99
  · subst c
    rw [if_neg (by decide), if_pos (show nI 99 = 99 from rfl)]
    exact ⟨-104, σ, τ, rfl, rfl, hm⟩
  rw [if_pos (show nI d < 99 from nI_lt (b := 99) (by omega) (by omega)), if_neg (show ¬ nI d = 99 from fun q => c ((eqN (b := 99) (by omega) (by omega)).mp q))]
  obtain ⟨v, σ1, τ1, e1, e2, e3⟩ := dayT_loop (L := L) (P := P) (r := r) 3 100 100 0 (sc_days σ (nI (d + 1))) (sm_days τ (nI (d + 1))) 0 (by omega) (by omega) (by omega) ⟨hPg, ⟨hR, ⟨h1, h2, h3, ⟨d + 1, by omega, rfl, rfl⟩, h5⟩, hrv⟩, hC, hI⟩
  exact ⟨v, σ1, τ1, e1, e2, ⟨L, P, r, by omega, e3⟩⟩
