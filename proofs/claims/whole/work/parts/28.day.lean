/-! ===== day ===== -/
/-- the days of the three tunnels -/
theorem dayT_loop {L P r : Nat} : ∀ (d n m t : Nat) (σ : SC) (τ : SM) (acc : Int32), t + d = 3 → d < n → d < m → Inv1 L P r σ τ → ∃ (v : Int32) (σ1 : SC) (τ1 : SM), fX5_day_45 100 n σ acc (nI t) = some (v, σ1) ∧ fX6_day_36 100 m τ acc (nI t) = some (v, τ1) ∧ Inv1 L P r σ1 τ1 := by
  intro d
  induction d with
  | zero =>
    intro n m t σ τ acc ht hn hm hI
    obtain ⟨n, rfl⟩ : ∃ k, n = k + 1 := ⟨n - 1, by omega⟩
    obtain ⟨m, rfl⟩ : ∃ k, m = k + 1 := ⟨m - 1, by omega⟩
    have e : t = 3 := by omega
    subst e
    exact ⟨acc, σ, τ, by rw [fX5_day_45, if_pos (by decide)], by rw [fX6_day_36, if_pos (by decide)], hI⟩
  | succ d ih =>
    intro n m t σ τ acc ht hn hm hI
    obtain ⟨n, rfl⟩ : ∃ k, n = k + 1 := ⟨n - 1, by omega⟩
    obtain ⟨m, rfl⟩ : ∃ k, m = k + 1 := ⟨m - 1, by omega⟩
    obtain ⟨hPg, ⟨hR, hPa, hrv⟩, hC, hIm⟩ := hI
    have h6 := hR.1
    have h64 := pow_le64 h6
    obtain ⟨⟨hd, hhd, ehd⟩, ⟨la, hla, ela⟩, hde, t0, t1, t2⟩ := hPa.1 t (by omega)
    obtain ⟨T, hT⟩ := told_nat hR
    have hTl := (hT la).1
    have hnw : T la &&& (63 ^^^ hd) < 2 ^ P := and_lt hTl
    have h3 : ¬ (3 : Int32) ≤ nI t := nI_ge (b := 3) (by omega) (by omega)
    obtain ⟨w, ew⟩ : ∃ w, w = T la &&& (63 ^^^ hd) := ⟨_, rfl⟩
    rw [← ew] at hnw
    have hxr := or_range h6 ⟨hd, hhd, ehd⟩ ⟨w, hnw, rfl⟩
    obtain ⟨σ1, eσ⟩ : ∃ z, z = sc_heard (sc_last σ (upd (c_last σ) t (nI w))) (upd (c_heard σ) t (c_heard σ t ||| nI w)) := ⟨_, rfl⟩
    obtain ⟨τ1, eτ⟩ : ∃ z, z = sm_tunnels τ (upd (upd (m_tunnels τ) (3 * t) (c_heard σ t ||| nI w)) (3 * t + 1) (nI w)) := ⟨_, rfl⟩
    have hPa1 : PastOK P (c_heard σ1) (c_last σ1) (c_denied σ1) (c_whom σ1) (c_wday σ1) (c_asked σ1) (c_days σ1) (c_changes σ1) (m_tunnels τ1) (m_askeds τ1) (m_askedMany τ1) (m_days τ1) (m_changes τ1) := by
      rw [eσ, eτ]
      refine PastOK.tun (t := t) hPa hxr ⟨w, hnw, rfl⟩ hde (fun j => rfl) (fun j => rfl) (fun j => ?_) (fun j => ?_)
      · show c_denied σ j = _
        by_cases hj : j = t
        · rw [if_pos hj, hj]
        · rw [if_neg hj]
      · show upd (upd (m_tunnels τ) (3 * t) _) (3 * t + 1) _ j = _
        rw [upd_eq, upd_eq]
        by_cases j1 : j = 3 * t
        · rw [if_pos j1, if_neg (by omega), if_pos j1]
        · rw [if_neg j1, if_neg j1]
          by_cases j2 : j = 3 * t + 1
          · rw [if_pos j2, if_pos j2]
          · rw [if_neg j2, if_neg j2]
            by_cases j3 : j = 3 * t + 2
            · rw [if_pos j3, j3, t2]
            · rw [if_neg j3]
    have hI1 : Inv1 L P r σ1 τ1 := ⟨by rw [eσ, eτ]; exact hPg, ⟨by rw [eσ, eτ]; exact hR, hPa1, by rw [eσ]; exact hrv⟩, by rw [eσ, eτ]; exact hC, by rw [eσ, eτ]; exact hIm⟩
    obtain ⟨v, σ2, τ2, e1, e2, e3⟩ := ih n m (t + 1) σ1 τ1 (acc + nI (pc6 w)) (by omega) (by omega) (by omega) hI1
    refine ⟨v, σ2, τ2, ?_, ?_, e3⟩
    · rw [fX5_day_45, if_neg h3]
      simp (disch := omega) only [cl, ifB, lb]
      rw [ehd, ela, (hT la).2.2 hd (by omega), ← ew]
      simp only [bo_s, gs_c_last_last, gs_c_heard_last, gs_c_last_heard, pk_us, ad1]
      rw [tBc w (by omega)]
      simp only [bo_s]
      rw [eσ] at e1
      exact e1
    · rw [fX6_day_36, if_neg h3]
      simp (disch := omega) only [mul3, ad1, ifB, cl, t1, t0, lb]
      rw [ela, (hT la).2.1]
      simp only [bo_s, gs_m_tunnels_tunnels, ss_m_tunnels]
      have g1 : nI (T la) &&& (c_heard σ t ^^^ -1) = nI w := by rw [ehd, tAn _ (by omega) _ (by omega), ew]
      rw [g1, tOnes w (by omega)]
      simp only [bo_s]
      rw [eτ] at e2
      exact e2
