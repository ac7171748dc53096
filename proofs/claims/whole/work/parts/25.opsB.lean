/-! ===== the calls, second part ===== -/
theorem bo_s {α β : Type} (a : α) (k : α → Option β) : bo (some a) k = k a := rfl
theorem bd_s {α β γ : Type} (a : α) (b : β) (k : α → β → Option γ) : bd (some (a, b)) k = k a b := rfl
theorem PastOK.tun {P : Nat} {heard last denied whom wday : Nat → Int32} {asked days changes : Int32} {tunnels askeds : Nat → Int32} {askedM daysM changesM : Int32} (h : PastOK P heard last denied whom wday asked days changes tunnels askeds askedM daysM changesM) {t : Nat} {x y z : Int32} (hx : ∃ h, h < 2 ^ P ∧ x = nI h) (hy : ∃ h, h < 2 ^ P ∧ y = nI h) (hz : ∃ d, d ≤ 9 ∧ z = nI d) {heard' last' denied' tunnels' : Nat → Int32} (e1 : ∀ j, heard' j = if j = t then x else heard j) (e2 : ∀ j, last' j = if j = t then y else last j) (e3 : ∀ j, denied' j = if j = t then z else denied j) (e4 : ∀ j, tunnels' j = if j = 3 * t then x else if j = 3 * t + 1 then y else if j = 3 * t + 2 then z else tunnels j) : PastOK P heard' last' denied' whom wday asked days changes tunnels' askeds askedM daysM changesM := by
  refine ⟨fun u hu => ?_, h.2⟩
  by_cases hut : u = t
  · subst hut
    rw [e1, e2, e3, e4, e4, e4, if_pos rfl, if_pos rfl, if_pos rfl, if_pos rfl, if_neg (by omega), if_pos rfl, if_neg (by omega), if_neg (by omega), if_pos rfl]
    exact ⟨hx, hy, hz, rfl, rfl, rfl⟩
  · rw [e1, e2, e3, e4, e4, e4, if_neg hut, if_neg hut, if_neg hut, if_neg (by omega), if_neg (by omega), if_neg (by omega), if_neg (by omega), if_neg (by omega), if_neg (by omega), if_neg (by omega), if_neg (by omega), if_neg (by omega)]
    exact h.1 u hu
theorem upd_eq (f : Nat → Int32) (k : Nat) (x : Int32) (j : Nat) : upd f k x j = if j = k then x else f j := rfl
theorem or_range {P : Nat} (hP : P ≤ 6) {x y : Int32} (hx : ∃ h, h < 2 ^ P ∧ x = nI h) (hy : ∃ h, h < 2 ^ P ∧ y = nI h) : ∃ h, h < 2 ^ P ∧ x ||| y = nI h := by
  obtain ⟨a, ha, rfl⟩ := hx
  obtain ⟨b, hb, rfl⟩ := hy
  have := pow_le64 hP
  exact ⟨a ||| b, Nat.or_lt_two_pow ha hb, tOr a (by omega) b (by omega)⟩
theorem sh_range {P p : Nat} (hP : P ≤ 6) (hp : p < P) : ∃ h, h < 2 ^ P ∧ (1 : Int32) <<< (nI p &&& 31) = nI h := ⟨2 ^ p, Nat.pow_lt_pow_right (by omega) hp, tSh p (by omega)⟩
theorem op_tell (k : Nat) (σ : SC) (τ : SM) (a1 a2 : Int32) (_ : k + 4 ≤ 256) (h : Inv0 k σ τ) : ∃ (r : Int32) (σ1 : SC) (τ1 : SM), fX5_tell 100 σ a1 a2 = some (r, σ1) ∧ fX6_tell 100 τ a1 a2 = some (r, τ1) ∧ Inv0 (k + 4) σ1 τ1 := by
  have hm := inv_mono k σ τ h
  obtain ⟨L, P, r, hr, hPg, hNow, hC, hI⟩ := h
  obtain ⟨hR, hPa, hrv⟩ := id hNow
  have h6 := hR.1
  have h64 := pow_le64 h6
  unfold fX5_tell fX6_tell
  rcases (tun_cases P a1).symm with hno | ⟨h0, t, ht, rfl⟩
  · rw [isTunnelC_no hR hno, isTunnelM_no hR hno]
    exact ⟨-101, σ, τ, rfl, rfl, hm⟩
  rw [isTunnelC_yes hR h0 ht, isTunnelM_yes hR h0 ht]
  simp only [bo_s, e10, if_false]
  rcases (inN a2 P (by omega)).symm with hno | ⟨p, hp, rfl⟩
  · rw [has_no hR hno, isPerson_no hR hno]
    exact ⟨-101, σ, τ, rfl, rfl, hm⟩
  rw [has_yes hR hp, isPerson_yes hR hp]
  obtain ⟨⟨hd, hhd, ehd⟩, ⟨la, hla, ela⟩, hde, t0, t1, t2⟩ := hPa.1 t ht
  simp (disch := omega) only [bo_s, e10, if_false, mul3, ad1, ifB, cl, lb, t0, t1]
  have hbit := tBit hd (by omega) p (by omega)
  rw [← ehd] at hbit
  rcases and_1 (c_heard σ t >>> (nI p &&& 31)) with c | c
  · have c' : ¬ (c_heard σ t >>> (nI p &&& 31)) &&& 1 = 1 := by rw [c]; decide
    rw [if_pos (hbit.mpr c), if_neg c']
    have hxr := or_range h6 ⟨hd, hhd, ehd⟩ (sh_range h6 hp)
    have hyr := or_range h6 ⟨la, hla, ela⟩ (sh_range h6 hp)
    generalize hb : (1 : Int32) <<< (nI p &&& 31) = b at hxr hyr ⊢
    obtain ⟨σ1, eσ⟩ : ∃ z, z = sc_last (sc_heard σ (upd (c_heard σ) t (c_heard σ t ||| b))) (upd (c_last σ) t (c_last σ t ||| b)) := ⟨_, rfl⟩
    obtain ⟨τ1, eτ⟩ : ∃ z, z = sm_tunnels τ (upd (upd (m_tunnels τ) (3 * t) (c_heard σ t ||| b)) (3 * t + 1) (c_last σ t ||| b)) := ⟨_, rfl⟩
    have hPa1 : PastOK P (c_heard σ1) (c_last σ1) (c_denied σ1) (c_whom σ1) (c_wday σ1) (c_asked σ1) (c_days σ1) (c_changes σ1) (m_tunnels τ1) (m_askeds τ1) (m_askedMany τ1) (m_days τ1) (m_changes τ1) := by
      rw [eσ, eτ]
      refine PastOK.tun (t := t) hPa hxr hyr hde (fun j => rfl) (fun j => rfl) (fun j => ?_) (fun j => ?_)
      · show c_denied σ j = _
        by_cases hj : j = t
        · rw [if_pos hj, hj]
        · rw [if_neg hj]
      · show upd (upd (m_tunnels τ) (3 * t) _) (3 * t + 1) _ j = _
        rw [upd_eq, upd_eq]
        by_cases j1 : j = 3 * t
        · rw [if_pos j1, if_neg (by omega), if_pos j1]
        · rw [if_neg j1, if_neg j1]
          by_cases j2 : j = 3 * t + 1
          · rw [if_pos j2, if_pos j2]
          · rw [if_neg j2, if_neg j2]
            by_cases j3 : j = 3 * t + 2
            · rw [if_pos j3, j3, t2]
            · rw [if_neg j3]
    have hR1 : Rel P σ1 τ1 := by rw [eσ, eτ]; exact hR
    obtain ⟨q1, q2, q3, q4, q5, q6⟩ := hPa1.1 t ht
    obtain ⟨v, v1, v2⟩ := lengthOf_eq hR1 ht q4 q6
    refine ⟨v, σ1, τ1, ?_, ?_, ⟨L, P, r, by omega, by rw [eσ, eτ]; exact hPg, ⟨hR1, hPa1, by rw [eσ]; exact hrv⟩, by rw [eσ, eτ]; exact hC, by rw [eσ, eτ]; exact hI⟩⟩
    · show bo (fX5_lengthOf 100 (sc_last (sc_heard σ (upd (c_heard σ) t (c_heard σ t ||| b))) (upd (c_last σ) t (c_last σ t ||| b))) (nI t)) (fun a => some (a, sc_last (sc_heard σ (upd (c_heard σ) t (c_heard σ t ||| b))) (upd (c_last σ) t (c_last σ t ||| b)))) = _
      rw [← eσ, v1]; rfl
    · have e5 : m_tunnels (sm_tunnels τ (upd (m_tunnels τ) (3 * t) (c_heard σ t ||| b))) (3 * t + 1) = c_last σ t := by
        show upd (m_tunnels τ) (3 * t) _ (3 * t + 1) = _
        rw [pk_un (by omega), t1]
      rw [e5]
      show bo (fX6_lengthOf 100 (sm_tunnels τ (upd (upd (m_tunnels τ) (3 * t) (c_heard σ t ||| b)) (3 * t + 1) (c_last σ t ||| b))) (nI t)) (fun a => some (a, sm_tunnels τ (upd (upd (m_tunnels τ) (3 * t) (c_heard σ t ||| b)) (3 * t + 1) (c_last σ t ||| b)))) = _
      rw [← eτ, v2]; rfl
  · rw [if_neg (fun q => by rw [hbit.mp q] at c; exact absurd c (by decide)), if_pos c]
    exact ⟨-103, σ, τ, rfl, rfl, hm⟩
theorem op_deny (k : Nat) (σ : SC) (τ : SM) (a1 : Int32) (_ : k + 4 ≤ 256) (h : Inv0 k σ τ) : ∃ (r : Int32) (σ1 : SC) (τ1 : SM), fX5_deny 100 σ a1 = some (r, σ1) ∧ fX6_deny 100 τ a1 = some (r, τ1) ∧ Inv0 (k + 4) σ1 τ1 := by
  have hm := inv_mono k σ τ h
  obtain ⟨L, P, r, hr, hPg, hNow, hC, hI⟩ := h
  obtain ⟨hR, hPa, hrv⟩ := id hNow
  unfold fX5_deny fX6_deny
  rcases (tun_cases P a1).symm with hno | ⟨h0, t, ht, rfl⟩
  · rw [isTunnelC_no hR hno, isTunnelM_no hR hno]
    exact ⟨-101, σ, τ, rfl, rfl, hm⟩
  rw [isTunnelC_yes hR h0 ht, isTunnelM_yes hR h0 ht]
  obtain ⟨hhe, hla, ⟨de, hde, ede⟩, t0, t1, t2⟩ := hPa.1 t ht
  simp (disch := omega) only [bo_s, e10, if_false, mul3, ad2, ifB, cl, lb, t2, ede, ad1]
  by_cases c : de = 9
  · subst c
    rw [if_neg (by decide), if_pos (show nI 9 = 9 from rfl)]
    exact ⟨-104, σ, τ, rfl, rfl, hm⟩
  rw [if_pos (show nI de < 9 from nI_lt (b := 9) (by omega) (by omega)), if_neg (show ¬ nI de = 9 from fun q => c ((eqN (b := 9) (by omega) (by omega)).mp q))]
  obtain ⟨σ1, eσ⟩ : ∃ z, z = sc_denied σ (upd (c_denied σ) t (nI (de + 1))) := ⟨_, rfl⟩
  obtain ⟨τ1, eτ⟩ : ∃ z, z = sm_tunnels τ (upd (m_tunnels τ) (3 * t + 2) (nI (de + 1))) := ⟨_, rfl⟩
  have hPa1 : PastOK P (c_heard σ1) (c_last σ1) (c_denied σ1) (c_whom σ1) (c_wday σ1) (c_asked σ1) (c_days σ1) (c_changes σ1) (m_tunnels τ1) (m_askeds τ1) (m_askedMany τ1) (m_days τ1) (m_changes τ1) := by
    rw [eσ, eτ]
    refine PastOK.tun (t := t) hPa hhe hla ⟨de + 1, by omega, rfl⟩ (fun j => ?_) (fun j => ?_) (fun j => rfl) (fun j => ?_)
    · show c_heard σ j = _
      by_cases hj : j = t
      · rw [if_pos hj, hj]
      · rw [if_neg hj]
    · show c_last σ j = _
      by_cases hj : j = t
      · rw [if_pos hj, hj]
      · rw [if_neg hj]
    · show upd (m_tunnels τ) (3 * t + 2) _ j = _
      rw [upd_eq]
      by_cases j1 : j = 3 * t
      · rw [if_pos j1, if_neg (by omega), j1, t0]
      · rw [if_neg j1]
        by_cases j2 : j = 3 * t + 1
        · rw [if_pos j2, if_neg (by omega), j2, t1]
        · rw [if_neg j2]
  have hR1 : Rel P σ1 τ1 := by rw [eσ, eτ]; exact hR
  obtain ⟨q1, q2, q3, q4, q5, q6⟩ := hPa1.1 t ht
  obtain ⟨v, v1, v2⟩ := lengthOf_eq hR1 ht q4 q6
  refine ⟨v, σ1, τ1, by rw [← eσ, v1]; rfl, by rw [← eτ, v2]; rfl, ⟨L, P, r, by omega, by rw [eσ, eτ]; exact hPg, ⟨hR1, hPa1, by rw [eσ]; exact hrv⟩, by rw [eσ, eτ]; exact hC, by rw [eσ, eτ]; exact hI⟩⟩
theorem op_heard (k : Nat) (σ : SC) (τ : SM) (a1 a2 : Int32) (_ : k + 4 ≤ 256) (h : Inv0 k σ τ) : ∃ (r : Int32) (σ1 : SC) (τ1 : SM), fX5_heard 100 σ a1 a2 = some (r, σ1) ∧ fX6_heard 100 τ a1 a2 = some (r, τ1) ∧ Inv0 (k + 4) σ1 τ1 := by
  have hm := inv_mono k σ τ h
  obtain ⟨L, P, r, hr, hPg, hNow, hC, hI⟩ := h
  obtain ⟨hR, ⟨h1, ⟨a, ha, ea, ea'⟩, h3, h4, h5⟩, hrv⟩ := id hNow
  have h6 := hR.1
  unfold fX5_heard fX6_heard
  rcases (inN a1 P (by omega)).symm with hno | ⟨p, hp, rfl⟩
  · rw [has_no hR hno, isPerson_no hR hno]
    exact ⟨-101, σ, τ, rfl, rfl, hm⟩
  rw [has_yes hR hp, isPerson_yes hR hp, in32 (a := -1) (b := 9) a2 (-1) 9 rfl rfl]
  simp only [bo_s, e10, if_false, ea']
  have key : ∃ (r1 : Int32) (σ1 : SC) (τ1 : SM), fX5_heard_32 100 σ (nI p) a2 = some (r1, σ1) ∧ (if nI a = 8 then some ((-104 : Int32), τ) else if inB (2 * nI a) 16 then lb (sm_askeds τ (upd (m_askeds τ) (2 * nI a).toNatClampNeg (nI p))) (fun σ51 => if inB ((2 * m_askedMany σ51) + 1) 16 then lb (sm_askeds σ51 (upd (m_askeds σ51) ((2 * m_askedMany σ51) + 1).toNatClampNeg a2)) (fun σ65 => lb (sm_askedMany σ65 (m_askedMany σ65 + 1)) (fun σ73 => some (m_askedMany σ73, σ73))) else none) else none) = some (r1, τ1) ∧ Inv0 (k + 4) σ1 τ1 := by
    unfold fX5_heard_32 fX2_note
    by_cases c : a = 8
    · subst c
      refine ⟨-104, σ, τ, ?_, if_pos rfl, hm⟩
      rw [ea, if_neg (by decide), if_neg (by decide)]
      rfl
    refine ⟨nI (a + 1), sc_asked (sc_wday (sc_whom σ (upd (c_whom σ) a (nI p))) (upd (c_wday σ) a a2)) (nI (a + 1)), sm_askedMany (sm_askeds τ (upd (upd (m_askeds τ) (2 * a) (nI p)) (2 * a + 1) a2)) (nI (a + 1)), ?_, ?_, ⟨L, P, r, by omega, hPg, ⟨hR, ⟨h1, ⟨a + 1, by omega, rfl, rfl⟩, fun i hi => ?_, h4, h5⟩, hrv⟩, hC, hI⟩⟩
    · rw [ea, if_neg (nI_pos (by omega)), if_pos (show nI a < 8 from nI_lt (b := 8) (by omega) (by omega)), ifB (by omega) (by omega), cl (by omega)]
      simp only [lb]
      rw [show c_asked (sc_whom σ (upd (c_whom σ) a (nI p))) = nI a from ea, ifB (by omega) (by omega), cl (by omega)]
      show some (c_asked σ + 1, sc_asked (sc_wday (sc_whom σ (upd (c_whom σ) a (nI p))) (upd (c_wday σ) a a2)) (c_asked σ + 1)) = _
      rw [ea, ad1]
    · rw [if_neg (show ¬ nI a = 8 from fun q => c ((eqN (b := 8) (by omega) (by omega)).mp q)), mul2, ifB (by omega) (by omega), cl (by omega)]
      simp only [lb]
      rw [show m_askedMany (sm_askeds τ (upd (m_askeds τ) (2 * a) (nI p))) = nI a from ea', mul2, ad1, ifB (by omega) (by omega), cl (by omega)]
      show some (m_askedMany τ + 1, sm_askedMany (sm_askeds τ (upd (upd (m_askeds τ) (2 * a) (nI p)) (2 * a + 1) a2)) (m_askedMany τ + 1)) = _
      rw [ea', ad1]
    · show upd (upd (m_askeds τ) (2 * a) (nI p)) (2 * a + 1) a2 (2 * i) = upd (c_whom σ) a (nI p) i ∧ upd (upd (m_askeds τ) (2 * a) (nI p)) (2 * a + 1) a2 (2 * i + 1) = upd (c_wday σ) a a2 i
      obtain ⟨w1, w2⟩ := h3 i hi
      by_cases hia : i = a
      · subst hia
        rw [pk_un (by omega), pk_us, pk_us, pk_us, pk_us]
        exact ⟨rfl, rfl⟩
      · rw [pk_un (by omega), pk_un (by omega), pk_un hia, pk_un (by omega), pk_un (by omega), pk_un hia]
        exact ⟨w1, w2⟩
  obtain ⟨r1, σ1, τ1, k1, k2, k3⟩ := key
  have em1 : (-1 : Int32).toInt = -1 := by decide
  have e0 : (0 : Int32).toInt = 0 := by decide
  have e9 : (9 : Int32).toInt = 9 := by decide
  by_cases c1 : a2 = -1
  · refine ⟨r1, σ1, τ1, by rw [if_pos c1]; exact k1, ?_, k3⟩
    rw [c1, show (if (-1 : Int32) < -1 then (0 : Int32) else if 9 < (-1 : Int32) then 0 else 1) = 1 by decide]
    rw [c1] at k2
    simp only [e10, if_false]
    exact k2
  by_cases c2 : a2 < 0
  · refine ⟨-102, σ, τ, by rw [if_neg c1, if_pos c2], ?_, hm⟩
    have hlt : a2 < -1 := by
      refine Int32.lt_of_le_of_ne ?_ c1
      rw [Int32.le_iff_toInt_le]
      rw [Int32.lt_iff_toInt_lt] at c2
      omega
    rw [if_pos hlt]
    exact if_pos rfl
  have hnl : ¬ a2 < -1 := fun q => by rw [Int32.lt_iff_toInt_lt] at q c2; omega
  by_cases c3 : a2 ≤ 9
  · refine ⟨r1, σ1, τ1, by rw [if_neg c1, if_neg c2, if_pos c3]; exact k1, ?_, k3⟩
    rw [if_neg hnl, if_neg (Int32.not_lt.mpr c3)]
    simp only [e10, if_false]
    exact k2
  · refine ⟨-102, σ, τ, by rw [if_neg c1, if_neg c2, if_neg c3], ?_, hm⟩
    rw [if_neg hnl, if_pos (Int32.not_le.mp c3)]
    exact if_pos rfl
