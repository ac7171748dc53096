/-! ===== image, restore ===== -/
theorem tellV_W (P : Nat) (kinds nexts : Nat → Int32) (p : Nat) : tellV P kinds nexts p = tellW P (kinds p) (nexts p) p := rfl
theorem op_image (k : Nat) (σ : SC) (τ : SM) (_ : k + 4 ≤ 256) (hI0 : Inv0 k σ τ) : ∃ (r : Int32) (σ1 : SC) (τ1 : SM), fX5_image 100 σ = some (r, σ1) ∧ fX6_image 100 τ = some (r, τ1) ∧ Inv0 (k + 4) σ1 τ1 := by
  have hm := inv_mono k σ τ hI0
  obtain ⟨L, P, r, hr, hPg, hNow, hC, hI⟩ := hI0
  obtain ⟨hR, hPa, hrv⟩ := id hNow
  have h6 := hR.1
  obtain ⟨d, hd, ed, ed'⟩ := hPa.2.2.2.1
  obtain ⟨f0, f1, f2, f3, f4, f5, f6, ⟨q0, q1, q2, q3, q4, q5, q6⟩, ec⟩ := cpy_13_5 σ
  obtain ⟨f, hf, ef⟩ := cp_2_6 τ
  obtain ⟨g, hg, eg⟩ := cp_3_7 (sm_keptRows τ f)
  obtain ⟨h, hh, eh⟩ := cp_4_8 (sm_keptTunnels (sm_keptRows τ f) g)
  have hg' : ∀ i, i < 9 → g i = m_tunnels τ i := hg
  have hh' : ∀ i, i < 16 → h i = m_askeds τ i := hh
  unfold fX5_image fX6_image
  rw [isThere_eq hR, lacks_eq hR, ec, ef]
  simp only [bo_n]
  rw [eg]
  simp only [bo_n]
  rw [eh]
  simp only [bo_n]
  by_cases h0 : P = 0
  · rw [if_pos h0, if_pos h0, if_pos rfl, if_neg (by decide)]
    exact ⟨-103, σ, τ, rfl, rfl, hm⟩
  rw [if_neg h0, if_neg h0, if_neg (by decide), if_pos rfl]
  refine ⟨nI d, (sc_hasImage (sc_kchanges (sc_kdays (sc_kasked (sc_kwday (sc_kwhom (sc_kdenied (sc_klast (sc_kheard (sc_klsts (sc_knexts σ f0) f1) f2) f3) f4) f5) f6) (c_asked σ)) (c_days σ)) (c_changes σ)) 1), (sm_keptHill (sm_keptAsked (sm_keptChanges (sm_keptDays (sm_keptAskeds (sm_keptTunnels (sm_keptRows τ f) g) h) (m_days τ)) (m_changes τ)) (m_askedMany τ)) (m_hillsRead τ)), ?_, ?_, ⟨L, P, r, by omega, hPg, hNow, hC, Or.inr ⟨rfl, hC.2, fun p hp => ?_, ?_⟩⟩⟩
  · rw [lb_n]
    show some (c_days σ, _) = _
    rw [ed]
  · exact Eq.trans (b := some (m_days τ, (sm_keptHill (sm_keptAsked (sm_keptChanges (sm_keptDays (sm_keptAskeds (sm_keptTunnels (sm_keptRows τ f) g) h) (m_days τ)) (m_changes τ)) (m_askedMany τ)) (m_hillsRead τ)))) rfl (congrArg (fun z => some (z, (sm_keptHill (sm_keptAsked (sm_keptChanges (sm_keptDays (sm_keptAskeds (sm_keptTunnels (sm_keptRows τ f) g) h) (m_days τ)) (m_changes τ)) (m_askedMany τ)) (m_hillsRead τ)))) ed')
  · obtain ⟨r1, r2, r3, r4⟩ := hR.2.2.2.2 p hp
    show f (2 * p) = c_kinds σ p ∧ f (2 * p + 1) = f0 p ∧ f1 p = tellV P (c_kinds σ) f0 p ∧ (f0 p = -1 ∨ ∃ q, q < P ∧ f0 p = nI q)
    rw [hf _ (by omega), hf _ (by omega), tellV_W, q0 p (by omega), q1 p (by omega), ← tellV_W]
    exact ⟨r1, r2, r3, r4⟩
  · exact PastOK.congr hPa q2 q3 q4 q5 q6 hg' hh'
theorem op_restore (k : Nat) (σ : SC) (τ : SM) (_ : k + 4 ≤ 256) (hI0 : Inv0 k σ τ) : ∃ (r : Int32) (σ1 : SC) (τ1 : SM), fX5_restore 100 σ = some (r, σ1) ∧ fX6_restore 100 τ = some (r, τ1) ∧ Inv0 (k + 4) σ1 τ1 := by
  have hm := inv_mono k σ τ hI0
  obtain ⟨L, P, r, hr, hPg, hNow, hC, hI⟩ := hI0
  obtain ⟨hR, hPa, hrv⟩ := id hNow
  have h6 := hR.1
  unfold fX5_restore fX6_restore
  rw [hC.2]
  rcases hI with ⟨i1, i2⟩ | ⟨i1, i2, i3, i4⟩
  · have hne : ¬ m_keptHill τ = nI r := by
      rcases i2 with i2 | ⟨r', hr', i2⟩
      · rw [i2]; exact fun q => m1N (a := r) (by omega) q.symm
      · rw [i2]; exact fun q => by have := (eqN (by omega) (by omega)).mp q; omega
    rw [if_pos i1, if_neg hne]
    exact ⟨-103, σ, τ, rfl, rfl, hm⟩
  obtain ⟨d, hd, ed, ed'⟩ := i4.2.2.2.1
  obtain ⟨f0, f1, f2, f3, f4, f5, f6, ⟨q0, q1, q2, q3, q4, q5, q6⟩, ec⟩ := cpy_5_13 σ
  obtain ⟨f, hf, ef⟩ := cp_6_2 τ
  obtain ⟨g, hg, eg⟩ := cp_7_3 (sm_rows τ f)
  obtain ⟨h, hh, eh⟩ := cp_8_4 (sm_tunnels (sm_rows τ f) g)
  have hg' : ∀ i, i < 9 → g i = m_keptTunnels τ i := hg
  have hh' : ∀ i, i < 16 → h i = m_keptAskeds τ i := hh
  rw [if_neg (by rw [i1]; decide), if_pos i2, ec, ef]
  simp only [bo_n]
  rw [eg]
  simp only [bo_n]
  rw [eh]
  simp only [bo_n]
  refine ⟨nI d, (sc_changes (sc_days (sc_asked (sc_wday (sc_whom (sc_denied (sc_last (sc_heard (sc_lsts (sc_nexts σ f0) f1) f2) f3) f4) f5) f6) (c_kasked σ)) (c_kdays σ)) (c_kchanges σ)), (sm_askedMany (sm_changes (sm_days (sm_askeds (sm_tunnels (sm_rows τ f) g) h) (m_keptDays τ)) (m_keptChanges τ)) (m_keptAsked τ)), ?_, ?_, ⟨L, P, r, by omega, hPg, ⟨⟨h6, hR.2.1, hR.2.2.1, hR.2.2.2.1, fun p hp => ?_⟩, ?_, hrv⟩, hC, Or.inr ⟨i1, i2, i3, i4⟩⟩⟩
  · show some (c_kdays σ, _) = _
    rw [ed]
  · exact Eq.trans (b := some (m_keptDays τ, (sm_askedMany (sm_changes (sm_days (sm_askeds (sm_tunnels (sm_rows τ f) g) h) (m_keptDays τ)) (m_keptChanges τ)) (m_keptAsked τ)))) rfl (congrArg (fun z => some (z, (sm_askedMany (sm_changes (sm_days (sm_askeds (sm_tunnels (sm_rows τ f) g) h) (m_keptDays τ)) (m_keptChanges τ)) (m_keptAsked τ)))) ed')
  · obtain ⟨r1, r2, r3, r4⟩ := i3 p hp
    show f (2 * p) = c_kinds σ p ∧ f (2 * p + 1) = f0 p ∧ f1 p = tellV P (c_kinds σ) f0 p ∧ (f0 p = -1 ∨ ∃ q, q < P ∧ f0 p = nI q)
    rw [hf _ (by omega), hf _ (by omega), tellV_W, q0 p (by omega), q1 p (by omega), ← tellV_W]
    exact ⟨r1, r2, r3, r4⟩
  · exact PastOK.congr i4 q2 q3 q4 q5 q6 hg' hh'
