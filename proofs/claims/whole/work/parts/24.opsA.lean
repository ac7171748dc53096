/-! ===== the calls, first part ===== -/
theorem e10 : ((1 : Int32) = 0) = False := eq_false (by decide)
theorem e00 : ((0 : Int32) = 0) = True := eq_self 0
abbrev Inv1 (L P r : Nat) (σ : SC) (τ : SM) : Prop := PageI L σ τ ∧ NowI P σ τ ∧ CntI r σ τ ∧ ImgI P r σ τ
theorem op_letter (k : Nat) (σ : SC) (τ : SM) (a1 : Int32) (_ : k + 4 ≤ 256) (h : Inv0 k σ τ) : ∃ (r : Int32) (σ1 : SC) (τ1 : SM), fX5_letter 100 σ a1 = some (r, σ1) ∧ fX6_letter 100 τ a1 = some (r, τ1) ∧ Inv0 (k + 4) σ1 τ1 := by
  have hm := inv_mono k σ τ h
  obtain ⟨L, P, r, hr, hPg, hNow, hC, hI⟩ := h
  obtain ⟨hL, e1, e2, e3, e4⟩ := id hPg
  unfold fX5_letter fX6_letter
  rw [in32 (a := 1) (b := 126) a1 1 126 rfl rfl]
  by_cases c1 : a1 < 1
  · exact ⟨-102, σ, τ, by simp [c1], by simp [c1, bo], hm⟩
  by_cases c2 : 126 < a1
  · exact ⟨-102, σ, τ, by simp [c1, Int32.not_le.mpr c2], by simp [c1, c2, bo], hm⟩
  have c2' : a1 ≤ 126 := Int32.not_lt.mp c2
  rw [if_neg c1, if_pos c2', if_neg c1, if_neg c2]
  simp only [bo]
  rw [if_neg (by decide), e2]
  by_cases c3 : L = 22
  · subst c3
    have h1 : fX1_put 100 σ a1 = some (0, σ) := by unfold fX1_put; rw [e1, if_neg (by decide), if_neg (by decide)]
    exact ⟨-104, σ, τ, by rw [h1]; rfl, if_pos (show nI 22 = 22 from rfl), hm⟩
  have h1 : fX1_put 100 σ a1 = some (1, sc_plen (sc_codes σ (upd (c_codes σ) L a1)) (nI (L + 1))) := by
    unfold fX1_put
    rw [e1, if_neg (nI_pos (by omega)), if_pos (show nI L < 22 from nI_lt (b := 22) (by omega) (by omega)), ifB (by omega) (by omega), cl (by omega)]
    show some (1, sc_plen (sc_codes σ (upd (c_codes σ) L a1)) (c_plen σ + 1)) = _
    rw [e1, ad1]
  refine ⟨nI (L + 1), sc_plen (sc_codes σ (upd (c_codes σ) L a1)) (nI (L + 1)), sm_pageMany (sm_page τ (upd (m_page τ) L a1)) (nI (L + 1)), by rw [h1]; rfl, ?_, ⟨L + 1, P, r, by omega, ⟨by omega, rfl, rfl, ?_, ?_⟩, hNow, hC, hI⟩⟩
  · rw [if_neg (show ¬ nI L = 22 from fun q => c3 ((eqN (b := 22) (by omega) (by omega)).mp q)), ifB (by omega) (by omega), cl (by omega)]
    show some (m_pageMany τ + 1, sm_pageMany (sm_page τ (upd (m_page τ) L a1)) (m_pageMany τ + 1)) = _
    rw [e2, ad1]
  · show upd (c_codes σ) L a1 = upd (m_page τ) L a1
    rw [e3]
  · intro j hj
    show ∃ c, 1 ≤ c ∧ c ≤ 126 ∧ upd (c_codes σ) L a1 j = nI c
    by_cases hjl : j = L
    · obtain ⟨c, hc, ec⟩ := nI_of2 (x := a1) (M := 126) (n := 126) (by decide) (fun q => c1 (Int32.lt_of_lt_of_le q (by decide))) c2'
      refine ⟨c, ?_, hc, by rw [hjl, pk_us, ec]⟩
      rcases Nat.eq_zero_or_pos c with z | z
      · subst z; exact absurd (by rw [ec]; decide) c1
      · exact z
    · rw [pk_un hjl]; exact e4 j (by omega)
theorem op_blank (k : Nat) (σ : SC) (τ : SM) (_ : k + 4 ≤ 256) (h : Inv0 k σ τ) : ∃ (r : Int32) (σ1 : SC) (τ1 : SM), fX5_blank 100 σ = some (r, σ1) ∧ fX6_blank 100 τ = some (r, τ1) ∧ Inv0 (k + 4) σ1 τ1 := by
  obtain ⟨L, P, r, hr, ⟨hL, e1, e2, e3, e4⟩, hNow, hC, hI⟩ := h
  refine ⟨nI L, sc_plen σ 0, sm_pageMany τ 0, ?_, ?_, ⟨0, P, r, by omega, ⟨by omega, rfl, rfl, e3, fun j hj => by omega⟩, hNow, hC, hI⟩⟩
  · show some (c_plen σ, sc_plen σ 0) = _; rw [e1]
  · show some (m_pageMany τ, sm_pageMany τ 0) = _; rw [e2]
theorem op_forget (k : Nat) (σ : SC) (τ : SM) (_ : k + 4 ≤ 256) (h : Inv0 k σ τ) : ∃ (r : Int32) (σ1 : SC) (τ1 : SM), fX5_forget 100 σ = some (r, σ1) ∧ fX6_forget 100 τ = some (r, τ1) ∧ Inv0 (k + 4) σ1 τ1 := by
  obtain ⟨L, P, r, hr, hPg, ⟨hR, ⟨h1, ⟨a, ha, ea, ea'⟩, h3, h4, h5⟩, hv⟩, hC, hI⟩ := h
  refine ⟨nI a, sc_asked σ 0, sm_askedMany τ 0, ?_, ?_, ⟨L, P, r, by omega, hPg, ⟨hR, ⟨h1, ⟨0, by omega, rfl, rfl⟩, h3, h4, h5⟩, hv⟩, hC, hI⟩⟩
  · show some (c_asked σ, sc_asked σ 0) = _; rw [ea]
  · show some (m_askedMany τ, sm_askedMany τ 0) = _; rw [ea']
theorem op_as (k : Nat) (σ : SC) (τ : SM) (a1 a2 : Int32) (_ : k + 4 ≤ 256) (h : Inv0 k σ τ) : ∃ (r : Int32), fX5_as 100 σ a1 a2 = some r ∧ fX6_as 100 τ a1 a2 = some r := by
  obtain ⟨L, P, r, hr, hPg, ⟨hR, -, -⟩, hC, hI⟩ := h
  have h6 := hR.1
  unfold fX5_as fX6_as
  rcases inN a1 P (by omega) with ⟨p, hp, rfl⟩ | hno
  · rw [has_yes hR hp, isPerson_yes hR hp, in32 (a := 0) (b := 4) a2 0 4 rfl rfl, kindOf_eq (by omega)]
    obtain ⟨r1, -⟩ := hR.2.2.2.2 p hp
    simp only [bo, e10, if_false]
    by_cases c1 : a2 < 0
    · exact ⟨-102, by rw [if_pos c1], by rw [if_pos c1, if_pos rfl]⟩
    rw [if_neg c1, if_neg c1]
    by_cases c2 : a2 < 5
    · have c3 : ¬ (4 : Int32) < a2 := by
        rw [Int32.lt_iff_toInt_lt] at c2 ⊢
        have e1 : (5 : Int32).toInt = 5 := by decide
        have e2 : (4 : Int32).toInt = 4 := by decide
        omega
      rw [if_pos c2, if_neg c3]
      simp (disch := omega) only [mul2, ifB, cl, r1, e10, if_false]
      unfold fX5_isOfKind fX6_as_54 fX6_as_58 fX6_as_59
      generalize c_kinds σ p = kd
      by_cases d1 : a2 = 0
      · exact ⟨nI p, by rw [if_pos d1]; rfl, by rw [if_pos d1]; rfl⟩
      by_cases d2 : a2 = kd
      · exact ⟨nI p, by rw [if_neg d1, if_pos d2]; rfl, by rw [if_neg d1, if_pos d2]; rfl⟩
      by_cases d3 : a2 = 2
      · by_cases d4 : kd = 4
        · exact ⟨nI p, by rw [if_neg d1, if_neg d2, if_pos d3, if_pos d4]; rfl, by rw [if_neg d1, if_neg d2, if_pos d3, if_pos d4]; rfl⟩
        · exact ⟨-1, by rw [if_neg d1, if_neg d2, if_pos d3, if_neg d4]; rfl, by rw [if_neg d1, if_neg d2, if_pos d3, if_neg d4]; rfl⟩
      · exact ⟨-1, by rw [if_neg d1, if_neg d2, if_neg d3]; rfl, by rw [if_neg d1, if_neg d2, if_neg d3]; rfl⟩
    · have c3 : (4 : Int32) < a2 := by
        rw [Int32.lt_iff_toInt_lt] at c2 ⊢
        have e1 : (5 : Int32).toInt = 5 := by decide
        have e2 : (4 : Int32).toInt = 4 := by decide
        omega
      exact ⟨-102, by rw [if_neg c2], by rw [if_pos c3, if_pos rfl]⟩
  · rw [has_no hR hno, isPerson_no hR hno]
    exact ⟨-101, rfl, rfl⟩
section TH
variable {P : Nat} {σ : SC} {τ : SM}
theorem thb_loop {p : Nat} (hp : p < 6) (hT : ∀ t, t < 3 → m_tunnels τ (3 * t) = c_heard σ t) : ∀ (d n m t : Nat) (acc : Int32), t + d = 3 → d < n → d < m → ∃ r, fX2_tunnelsHeardBy_4 100 n σ (nI p) acc (nI t) = some r ∧ fX6_tunnelsOf_4 100 m τ (nI p) acc (nI t) = some r := by
  intro d
  induction d with
  | zero =>
    intro n m t acc ht hn hm
    obtain ⟨n, rfl⟩ : ∃ k, n = k + 1 := ⟨n - 1, by omega⟩
    obtain ⟨m, rfl⟩ : ∃ k, m = k + 1 := ⟨m - 1, by omega⟩
    have e : t = 3 := by omega
    subst e
    exact ⟨acc, by rw [fX2_tunnelsHeardBy_4, if_pos (by decide)], by rw [fX6_tunnelsOf_4, if_pos (by decide)]⟩
  | succ d ih =>
    intro n m t acc ht hn hm
    obtain ⟨n, rfl⟩ : ∃ k, n = k + 1 := ⟨n - 1, by omega⟩
    obtain ⟨m, rfl⟩ : ∃ k, m = k + 1 := ⟨m - 1, by omega⟩
    have h3 : ¬ (3 : Int32) ≤ nI t := nI_ge (b := 3) (by omega) (by omega)
    rw [fX2_tunnelsHeardBy_4, if_neg h3, fX6_tunnelsOf_4, if_neg h3]
    simp (disch := omega) only [mul3, ifB, cl, hT t (by omega), lb, ad1]
    unfold fX5_isIn
    rcases and_1 (c_heard σ t >>> (nI p &&& 31)) with c | c
    · obtain ⟨r, e1, e2⟩ := ih n m (t + 1) acc (by omega) (by omega) (by omega)
      refine ⟨r, ?_, ?_⟩
      · rw [if_pos c]; simp only [bo, if_true]; exact e1
      · rw [c, show (0 : Int32) <<< (nI t &&& 31) = 0 by simp, or_0]; exact e2
    · obtain ⟨r, e1, e2⟩ := ih n m (t + 1) (acc ||| (1 <<< (nI t &&& 31))) (by omega) (by omega) (by omega)
      refine ⟨r, ?_, ?_⟩
      · rw [if_neg (by rw [c]; decide)]; simp only [bo]; rw [if_neg (by decide)]; exact e1
      · rw [c]; exact e2
/-- what is told of a person -/
theorem person_eq (hN : NowI P σ τ) {p : Nat} (hp : p < P) (w : Int32) : ∃ r, fX5_person 100 σ (nI p) w = some r ∧ fX6_tellPerson 100 τ (nI p) w = some r := by
  obtain ⟨hR, ⟨hT, -⟩, -⟩ := hN
  have h6 := hR.1
  obtain ⟨r1, r2, r3, r4⟩ := hR.2.2.2.2 p hp
  unfold fX5_person fX6_tellPerson
  rw [has_yes hR hp]
  simp only [bo, e10, if_false]
  by_cases c0 : w = 0
  · subst c0
    refine ⟨c_kinds σ p, by rw [if_pos rfl, kindOf_eq (by omega)], ?_⟩
    rw [if_pos rfl, mul2, show nI (2 * p) + 0 = nI (2 * p) by simp, ifB (by omega) (by omega), cl (by omega), r1]
  rw [if_neg c0, if_neg c0]
  by_cases c1 : w = 1
  · subst c1
    refine ⟨c_nexts σ p, by rw [if_pos rfl, nextOf_eq (by omega)], ?_⟩
    rw [if_pos rfl, mul2, ad1, ifB (by omega) (by omega), cl (by omega), r2]
  rw [if_neg c1, if_neg c1]
  by_cases c2 : w = 2
  · exact ⟨c_lsts σ p, by rw [if_pos c2, listenersOf_eq (by omega)], by rw [if_pos c2, tellsOf_eq hR hp]⟩
  rw [if_neg c2, if_neg c2]
  by_cases c3 : w = 3
  · obtain ⟨r, e1, e2⟩ := thb_loop (σ := σ) (τ := τ) (p := p) (by omega) (fun t ht => (hT t ht).2.2.2.1) 3 100 100 0 0 (by omega) (by omega) (by omega)
    refine ⟨r, ?_, ?_⟩
    · rw [if_pos c3, show fX2_tunnelsHeardBy 100 σ (nI p) = some r from e1]
    · rw [if_pos c3, show fX6_tunnelsOf 100 τ (nI p) = some r from e2]
  rw [if_neg c3, if_neg c3]
  by_cases c4 : w = 4
  · obtain ⟨r, e1, e2⟩ := ends_eq hR (s := 2 ^ p) (Nat.pow_lt_pow_right (by omega) hp)
    exact ⟨r, by rw [if_pos c4, tSh p (by omega), e1], by rw [if_pos c4, tSh p (by omega), e2]⟩
  rw [if_neg c4, if_neg c4]
  by_cases c5 : w = 5
  · obtain ⟨r, e1, e2⟩ := lasts_eq hR hp
    exact ⟨r, by rw [if_pos c5, e1], by rw [if_pos c5, e2]⟩
  exact ⟨-102, by rw [if_neg c5], by rw [if_neg c5]⟩
/-- what is told of a tunnel -/
theorem tunnel_eq (hN : NowI P σ τ) (h0 : P ≠ 0) {t : Nat} (ht : t < 3) (w : Int32) : ∃ r, fX5_tunnel 100 σ (nI t) w = some r ∧ fX6_tellTunnel 100 τ (nI t) w = some r := by
  obtain ⟨hR, ⟨hT, -⟩, -⟩ := hN
  obtain ⟨⟨h, hh, eh⟩, ⟨la, hla, ela⟩, ⟨de, hde, ede⟩, t0, t1, t2⟩ := hT t ht
  unfold fX5_tunnel fX6_tellTunnel
  rw [isTunnelC_yes hR h0 ht, in32 (a := 1) (b := 3) w 1 3 rfl rfl]
  simp (disch := omega) only [bo, e10, if_false, mul3, ad1, ad2, ifB, cl, t0, t1, t2]
  by_cases c0 : w = 0
  · subst c0
    obtain ⟨r, e1, e2⟩ := lengthOf_eq hR ht t0 t2
    exact ⟨r, by rw [if_pos rfl, e1], by rw [show (if (0 : Int32) < 1 then (0 : Int32) else if 3 < (0 : Int32) then 0 else 1) = 0 by decide, if_pos rfl, if_neg (by decide), if_pos rfl, e2]⟩
  by_cases c1 : w = 1
  · subst c1
    refine ⟨c_heard σ t, by rw [if_neg c0, if_pos rfl], ?_⟩
    rw [show (if (1 : Int32) < 1 then (0 : Int32) else if 3 < (1 : Int32) then 0 else 1) = 1 by decide]
    simp only [e10, if_false]
    rw [ad1, show nI (3 * t + 1) - 1 = nI (3 * t) from nI_pred (3 * t), ifB (by omega) (by omega), cl (by omega), t0]
  by_cases c2 : w = 2
  · subst c2
    refine ⟨c_last σ t, by rw [if_neg c0, if_neg c1, if_pos rfl], ?_⟩
    rw [show (if (2 : Int32) < 1 then (0 : Int32) else if 3 < (2 : Int32) then 0 else 1) = 1 by decide]
    simp only [e10, if_false]
    rw [ad2, show nI (3 * t + 2) - 1 = nI (3 * t + 1) from nI_pred (3 * t + 1), ifB (by omega) (by omega), cl (by omega), t1]
  by_cases c3 : w = 3
  · subst c3
    refine ⟨c_denied σ t, by rw [if_neg c0, if_neg c1, if_neg c2, if_pos rfl], ?_⟩
    rw [show (if (3 : Int32) < 1 then (0 : Int32) else if 3 < (3 : Int32) then 0 else 1) = 1 by decide]
    simp only [e10, if_false]
    rw [show nI (3 * t) + 3 = nI (3 * t + 3) from nI_add _ 3, show nI (3 * t + 3) - 1 = nI (3 * t + 2) from nI_pred (3 * t + 2), ifB (by omega) (by omega), cl (by omega), t2]
  have hv : (if w < 1 then (0 : Int32) else if 3 < w then 0 else 1) = 0 := by
    by_cases d1 : w < 1
    · rw [if_pos d1]
    · rw [if_neg d1, if_pos]
      refine Int32.not_le.mp (fun d2 => ?_)
      obtain ⟨j, hj, ej⟩ := nI_of2 (x := w) (M := 3) (n := 3) (by decide) (fun q => d1 (Int32.lt_of_lt_of_le q (by decide))) d2
      subst ej
      rcases (show j = 0 ∨ j = 1 ∨ j = 2 ∨ j = 3 by omega) with rfl | rfl | rfl | rfl
      · exact c0 rfl
      · exact c1 rfl
      · exact c2 rfl
      · exact c3 rfl
  rw [hv, if_pos rfl]
  by_cases c4 : w = 4
  · obtain ⟨r, e, e1, e2, e3⟩ := inEnd_eq hR hh hla (c_denied σ t)
    refine ⟨r, ?_, ?_⟩
    · rw [if_neg c0, if_neg c1, if_neg c2, if_neg c3, if_pos c4, eh, ela, e1]
    · rw [if_pos c4, eh, ela, e2]
      simp only []
      rw [e3]
  · exact ⟨-102, by rw [if_neg c0, if_neg c1, if_neg c2, if_neg c3, if_neg c4], by rw [if_neg c4, if_neg c0]⟩
end TH
theorem op_person (k : Nat) (σ : SC) (τ : SM) (a1 a2 : Int32) (_ : k + 4 ≤ 256) (h : Inv0 k σ τ) : ∃ (r : Int32), fX5_person 100 σ a1 a2 = some r ∧ fX6_person 100 τ a1 a2 = some r := by
  obtain ⟨L, P, r, hr, hPg, hNow, hC, hI⟩ := h
  have hR := hNow.1
  have h6 := hR.1
  rcases inN a1 P (by omega) with ⟨p, hp, rfl⟩ | hno
  · obtain ⟨r, e1, e2⟩ := person_eq hNow hp a2
    refine ⟨r, e1, ?_⟩
    unfold fX6_person
    rw [isPerson_yes hR hp]
    simp only [bo, e10, if_false]
    rw [e2]
  · unfold fX5_person fX6_person
    rw [has_no hR hno, isPerson_no hR hno]
    exact ⟨-101, rfl, rfl⟩
theorem op_tunnel (k : Nat) (σ : SC) (τ : SM) (a1 a2 : Int32) (_ : k + 4 ≤ 256) (h : Inv0 k σ τ) : ∃ (r : Int32), fX5_tunnel 100 σ a1 a2 = some r ∧ fX6_tunnel 100 τ a1 a2 = some r := by
  obtain ⟨L, P, r, hr, hPg, hNow, hC, hI⟩ := h
  have hR := hNow.1
  rcases tun_cases P a1 with ⟨h0, t, ht, rfl⟩ | hno
  · obtain ⟨r, e1, e2⟩ := tunnel_eq hNow h0 ht a2
    refine ⟨r, e1, ?_⟩
    unfold fX6_tunnel
    rw [isTunnelM_yes hR h0 ht]
    simp only [bo, e10, if_false]
    rw [e2]
  · unfold fX5_tunnel fX6_tunnel
    rw [isTunnelC_no hR hno, isTunnelM_no hR hno]
    exact ⟨-101, rfl, rfl⟩
