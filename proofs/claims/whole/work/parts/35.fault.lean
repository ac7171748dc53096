/-! ===== fault ===== -/
set_option maxRecDepth 100000 in
theorem tKind : ∀ c, c < 127 → fX1_kindOfLetter 100 (nI c) = fX6_kindBy 100 (nI c) := by decide +kernel
theorem kindBy_some (x : Int32) : ∃ v, fX6_kindBy 100 x = some v ∧ (v = -1 ∨ ¬ x = 59) := by
  unfold fX6_kindBy
  by_cases c1 : x = 109
  · exact ⟨0, if_pos c1, Or.inr (by rw [c1]; decide)⟩
  by_cases c2 : x = 115
  · exact ⟨1, by rw [if_neg c1, if_pos c2], Or.inr (by rw [c2]; decide)⟩
  by_cases c3 : x = 103
  · exact ⟨2, by rw [if_neg c1, if_neg c2, if_pos c3], Or.inr (by rw [c3]; decide)⟩
  by_cases c4 : x = 99
  · exact ⟨3, by rw [if_neg c1, if_neg c2, if_neg c3, if_pos c4], Or.inr (by rw [c4]; decide)⟩
  by_cases c5 : x = 112
  · exact ⟨4, by rw [if_neg c1, if_neg c2, if_neg c3, if_neg c4, if_pos c5], Or.inr (by rw [c5]; decide)⟩
  · exact ⟨-1, by rw [if_neg c1, if_neg c2, if_neg c3, if_neg c4, if_neg c5], Or.inl rfl⟩
/-- the page's letters as numbers -/
def PageN (L : Nat) (cd : Nat → Nat) (σ : SC) (τ : SM) : Prop := L ≤ 22 ∧ c_plen σ = nI L ∧ m_pageMany τ = nI L ∧ c_codes σ = m_page τ ∧ ∀ j, j < L → 1 ≤ cd j ∧ cd j ≤ 126 ∧ c_codes σ j = nI (cd j)
theorem PageI.num {L : Nat} {σ : SC} {τ : SM} (h : PageI L σ τ) : ∃ cd, PageN L cd σ τ := by
  obtain ⟨h1, h2, h3, h4, h5⟩ := h
  have h : ∀ j : Nat, ∃ c : Nat, j < L → 1 ≤ c ∧ c ≤ 126 ∧ c_codes σ j = nI c := by
    intro j
    by_cases hj : j < L
    · obtain ⟨c, hc⟩ := h5 j hj; exact ⟨c, fun _ => hc⟩
    · exact ⟨0, fun q => absurd q hj⟩
  obtain ⟨cd, hcd⟩ := Classical.axiomOfChoice h
  exact ⟨cd, h1, h2, h3, h4, hcd⟩
section FLT
variable {L : Nat} {cd : Nat → Nat} {σ : SC} {τ : SM}
theorem codeAt_in (hL : L ≤ 22) (hp : c_plen σ = nI L) {j : Nat} (hj : j < L) : fX1_codeAt 100 σ (nI j) = some (c_codes σ j) := by
  unfold fX1_codeAt
  rw [hp, if_neg (nI_pos (by omega)), if_neg (nI_ge hj (by omega)), if_neg (show ¬ (22 : Int32) ≤ nI j from nI_ge (b := 22) (by omega) (by omega)), ifB (by omega) (by omega), cl (by omega)]
theorem codeAt_neg {x : Int32} (h : x < 0) : fX1_codeAt 100 σ x = some 0 := by
  unfold fX1_codeAt
  rw [if_pos h]
/-- how far the scan is: all letters ahead of k fit; e: where the ';' was -/
def ScanI (cd : Nat → Nat) (k : Nat) (e : Int32) : Prop :=
  (∀ j, j < k → j % 3 = 1 → 48 ≤ cd j ∧ cd j ≤ 57) ∧
  ((e = -1 ∧ k ≤ 17 ∧ ∀ j, j < k → cd j ≠ 59) ∨ (∃ ee, e = nI ee ∧ ee % 3 = 2 ∧ 5 ≤ ee ∧ ee ≤ 17 ∧ cd ee = 59 ∧ (k = ee + 1 ∨ (k = ee + 2 ∧ 49 ≤ cd (ee + 1) ∧ cd (ee + 1) ≤ 57)) ∧ ∀ j, j < k → j ≠ ee → cd j ≠ 59))
theorem dig_eq {c lo hi : Nat} (hc : c ≤ 126) (h1 : lo ≤ 100) (h2 : hi ≤ 100) : (if nI c < nI lo then some (0 : Int32) else if nI hi < nI c then some 0 else some 1) = some (if lo ≤ c ∧ c ≤ hi then 1 else 0) := by
  by_cases a : c < lo
  · rw [if_pos (nI_lt a (by omega)), if_neg (by omega)]
  · rw [if_neg (nI_nlt (by omega) (by omega))]
    by_cases b : hi < c
    · rw [if_pos (nI_lt b (by omega)), if_neg (by omega)]
    · rw [if_neg (nI_nlt (by omega) (by omega)), if_pos (by omega)]
theorem dig2 {c lo hi : Nat} (hc : c ≤ 126) (h1 : lo ≤ 100) (h2 : hi ≤ 100) : (if nI c < nI lo then (0 : Int32) else if nI hi < nI c then 0 else 1) = (if lo ≤ c ∧ c ≤ hi then 1 else 0) := by
  by_cases a : c < lo
  · rw [if_pos (nI_lt a (by omega)), if_neg (by omega)]
  · rw [if_neg (nI_nlt (by omega) (by omega))]
    by_cases b : hi < c
    · rw [if_pos (nI_lt b (by omega)), if_neg (by omega)]
    · rw [if_neg (nI_nlt (by omega) (by omega)), if_pos (by omega)]
theorem good_eq (hP : PageN L cd σ τ) {k : Nat} (hk : k < L) {e : Int32} (hS : ScanI cd k e) : ∃ (v e' : Int32), fX1_fits 100 σ (nI k) = some v ∧ fX6_isGood 100 (sm_endAt τ e) (nI k) = some (v, sm_endAt τ e') ∧ (v = 0 ∨ (v = 1 ∧ ScanI cd (k + 1) e')) := by
  obtain ⟨hL, p1, p2, p3, p4⟩ := hP
  obtain ⟨c1, c126, ec⟩ := p4 k hk
  obtain ⟨hdg, hS⟩ := hS
  have em : m_page τ k = nI (cd k) := by rw [← p3]; exact ec
  have hfit := codeAt_in hL p1 hk
  unfold fX1_fits fX6_isGood
  rw [hfit, mod3 (by omega), div3 (by omega), gs_m_endAt_endAt, gs_m_page_endAt]
  simp (disch := omega) only [bo_n, ifB, cl, em, ec]
  rcases hS with ⟨rfl, hk17, hn⟩ | ⟨ee, rfl, e3, e5, e17, e59, hke, hn⟩
  · rw [if_pos (show (-1 : Int32) = -1 from rfl)]
    rcases (show k % 3 = 0 ∨ k % 3 = 1 ∨ k % 3 = 2 by omega) with h3 | h3 | h3
    · -- a kind's letter
      rw [h3, if_pos nI_0, if_neg (show ¬ nI 0 = 2 by decide), if_pos nI_0]
      have hca : ∃ w, fX1_codeAt 100 σ (nI k - 1) = some w ∧ ¬ w = 59 := by
        rcases Nat.eq_zero_or_pos k with z | z
        · subst z; exact ⟨0, codeAt_neg (by decide), by decide⟩
        · obtain ⟨k', rfl⟩ : ∃ k', k = k' + 1 := ⟨k - 1, by omega⟩
          refine ⟨c_codes σ k', by rw [nI_pred]; exact codeAt_in hL p1 (by omega), ?_⟩
          rw [(p4 k' (by omega)).2.2]
          exact fun q => hn k' (by omega) ((eqN (b := 59) (by have := (p4 k' (by omega)).2.1; omega) (by omega)).mp q)
      obtain ⟨w, w1, w2⟩ := hca
      obtain ⟨v, v1, v2⟩ := kindBy_some (nI (cd k))
      rw [w1, tKind _ (by omega), v1]
      simp only [bo_n]
      rw [if_neg w2]
      by_cases c : v = -1
      · exact ⟨0, -1, by rw [if_pos c], by rw [if_pos c], Or.inl rfl⟩
      · refine ⟨1, -1, by rw [if_neg c], by rw [if_neg c], Or.inr ⟨rfl, fun j hj hj3 => ?_, Or.inl ⟨rfl, by omega, fun j hj => ?_⟩⟩⟩
        · exact hdg j (by omega) hj3
        · by_cases hjk : j = k
          · subst hjk
            exact fun q => (v2.resolve_left c) (by rw [q]; rfl)
          · exact hn j (by omega)
    · -- a digit
      rw [h3, if_neg (show ¬ nI 1 = 0 by decide), if_pos (show nI 1 = 1 from rfl), if_neg (show ¬ nI 1 = 2 by decide), if_neg (show ¬ nI 1 = 0 by decide), in32 (a := 48) (b := 57) (nI (cd k)) 48 57 rfl rfl]
      have hca : ∃ w, fX1_codeAt 100 σ (nI k - 2) = some w ∧ ¬ w = 59 := by
        rcases Nat.lt_or_ge k 2 with z | z
        · have z1 : k = 1 := by omega
          subst z1; exact ⟨0, codeAt_neg (by decide), by decide⟩
        · obtain ⟨k', rfl⟩ : ∃ k', k = k' + 2 := ⟨k - 2, by omega⟩
          refine ⟨c_codes σ k', by rw [show nI (k' + 2) - 2 = nI k' from pk_sub (b := 2) (by omega)]; exact codeAt_in hL p1 (by omega), ?_⟩
          rw [(p4 k' (by omega)).2.2]
          exact fun q => hn k' (by omega) ((eqN (b := 59) (by have := (p4 k' (by omega)).2.1; omega) (by omega)).mp q)
      obtain ⟨w, w1, w2⟩ := hca
      rw [w1]
      simp only [bo_n]
      rw [if_neg w2]
      have hd := dig_eq (lo := 48) (hi := 57) c126 (by omega) (by omega)
      rw [show (if nI (cd k) < 48 then some (0 : Int32) else if 57 < nI (cd k) then some 0 else some 1) = some (if 48 ≤ cd k ∧ cd k ≤ 57 then 1 else 0) from hd]
      have hd2 : (if nI (cd k) < 48 then (0 : Int32) else if 57 < nI (cd k) then 0 else 1) = (if 48 ≤ cd k ∧ cd k ≤ 57 then 1 else 0) := dig2 (lo := 48) (hi := 57) c126 (by omega) (by omega)
      rw [hd2]
      by_cases c : 48 ≤ cd k ∧ cd k ≤ 57
      · rw [if_pos c]
        refine ⟨1, -1, rfl, by rw [if_pos (Or.inr rfl)], Or.inr ⟨rfl, fun j hj hj3 => ?_, Or.inl ⟨rfl, by omega, fun j hj => ?_⟩⟩⟩
        · by_cases hjk : j = k
          · subst hjk; exact c
          · exact hdg j (by omega) hj3
        · by_cases hjk : j = k
          · subst hjk; omega
          · exact hn j (by omega)
      · rw [if_neg c]
        exact ⟨0, -1, rfl, by rw [if_pos (Or.inl rfl)], Or.inl rfl⟩
    · -- a sign
      rw [h3, if_neg (show ¬ nI 2 = 0 by decide), if_neg (show ¬ nI 2 = 1 by decide), if_pos (show nI 2 = 2 from rfl)]
      unfold fX1_fits_130 fX6_isGood_70
      by_cases s1 : cd k = 59
      · have q1 : nI (cd k) = 59 := by rw [s1]; rfl
        have q2 : ¬ nI (cd k) = 44 := by rw [s1]; decide
        rw [if_neg q2, if_pos q1, if_pos q1, if_neg q2, ad1]
        by_cases k4 : k ≤ 4
        · rw [if_pos (show nI (k / 3 + 1) < 2 from nI_lt (b := 2) (by omega) (by omega)), if_pos (show nI k ≤ 4 from nI_le (b := 4) k4 (by omega))]
          exact ⟨0, -1, rfl, rfl, Or.inl rfl⟩
        · rw [if_neg (show ¬ nI (k / 3 + 1) < 2 from nI_nlt (b := 2) (by omega) (by omega)), if_neg (show ¬ nI k ≤ 4 from nI_ge (a := 4) (by omega) (by omega)), lb_n, ss_m_endAt]
          refine ⟨1, nI k, rfl, rfl, Or.inr ⟨rfl, fun j hj hj3 => ?_, Or.inr ⟨k, rfl, h3, by omega, by omega, s1, Or.inl rfl, fun j hj hjk => hn j (by omega)⟩⟩⟩
          exact hdg j (by omega) hj3
      · have q1 : ¬ nI (cd k) = 59 := fun q => s1 ((eqN (b := 59) (by omega) (by omega)).mp q)
        rw [if_neg q1, if_neg q1]
        by_cases s2 : cd k = 44
        · have q2 : nI (cd k) = 44 := by rw [s2]; rfl
          rw [if_pos q2, if_pos q2, ad1]
          by_cases k17 : 17 ≤ k
          · rw [if_neg (show ¬ nI (k / 3 + 1) < 6 from nI_nlt (b := 6) (by omega) (by omega)), if_pos (show (17 : Int32) ≤ nI k from nI_le (a := 17) k17 (by omega))]
            exact ⟨0, -1, rfl, rfl, Or.inl rfl⟩
          · rw [if_pos (show nI (k / 3 + 1) < 6 from nI_lt (b := 6) (by omega) (by omega)), if_neg (show ¬ (17 : Int32) ≤ nI k from nI_ge (b := 17) (by omega) (by omega))]
            refine ⟨1, -1, rfl, rfl, Or.inr ⟨rfl, fun j hj hj3 => hdg j (by omega) hj3, Or.inl ⟨rfl, by omega, fun j hj => ?_⟩⟩⟩
            by_cases hjk : j = k
            · subst hjk; exact s1
            · exact hn j (by omega)
        · have q2 : ¬ nI (cd k) = 44 := fun q => s2 ((eqN (b := 44) (by omega) (by omega)).mp q)
          rw [if_neg q2, if_neg q2]
          exact ⟨0, -1, rfl, rfl, Or.inl rfl⟩
  · rw [if_neg (m1N (by omega)), ad1 ee]
    rcases hke with rfl | ⟨rfl, -, -⟩
    · -- the river's digit
      have h3 : (ee + 1) % 3 = 0 := by omega
      rw [h3, if_pos nI_0, if_pos rfl, nI_pred, codeAt_in hL p1 (by omega), (p4 ee (by omega)).2.2, e59, in32 (a := 49) (b := 57) (nI (cd (ee + 1))) 49 57 rfl rfl]
      simp only [bo_n]
      rw [if_pos (show nI 59 = 59 from rfl)]
      have hd := dig_eq (lo := 49) (hi := 57) c126 (by omega) (by omega)
      rw [show (if nI (cd (ee + 1)) < 49 then some (0 : Int32) else if 57 < nI (cd (ee + 1)) then some 0 else some 1) = some (if 49 ≤ cd (ee + 1) ∧ cd (ee + 1) ≤ 57 then 1 else 0) from hd]
      have hd2 : (if nI (cd (ee + 1)) < 49 then (0 : Int32) else if 57 < nI (cd (ee + 1)) then 0 else 1) = (if 49 ≤ cd (ee + 1) ∧ cd (ee + 1) ≤ 57 then 1 else 0) := dig2 (lo := 49) (hi := 57) c126 (by omega) (by omega)
      rw [hd2]
      by_cases c : 49 ≤ cd (ee + 1) ∧ cd (ee + 1) ≤ 57
      · rw [if_pos c, if_neg (by decide)]
        refine ⟨1, nI ee, rfl, rfl, Or.inr ⟨rfl, fun j hj hj3 => ?_, Or.inr ⟨ee, rfl, e3, e5, e17, e59, Or.inr ⟨by omega, c⟩, fun j hj hje => ?_⟩⟩⟩
        · by_cases hjk : j = ee + 1
          · omega
          · exact hdg j (by omega) hj3
        · by_cases hjk : j = ee + 1
          · subst hjk; omega
          · exact hn j (by omega) hje
      · rw [if_neg c, if_pos rfl]
        exact ⟨0, nI ee, rfl, rfl, Or.inl rfl⟩
    · have h3 : (ee + 2) % 3 = 1 := by omega
      rw [h3, if_neg (show ¬ nI 1 = 0 by decide), if_pos (show nI 1 = 1 from rfl), if_neg (show ¬ nI (ee + 2) = nI (ee + 1) from fun q => by have := (eqN (by omega) (by omega)).mp q; omega), show nI (ee + 2) - 2 = nI ee from pk_sub (b := 2) (by omega), codeAt_in hL p1 (by omega), (p4 ee (by omega)).2.2, e59]
      simp only [bo_n]
      rw [if_pos (show nI 59 = 59 from rfl)]
      exact ⟨0, nI ee, rfl, rfl, Or.inl rfl⟩
theorem fault_loop (hP : PageN L cd σ τ) : ∀ (d n m k : Nat) (e : Int32), k + d = L → d < n → d < m → ScanI cd k e → ∃ (v : Nat) (e' : Int32), v ≤ L ∧ fX1_firstFault_2 100 n σ (nI k) = some (nI v) ∧ fX6_faultOf_7 100 m (sm_endAt τ e) (nI k) = some (nI v, sm_endAt τ e') ∧ (v = L → ScanI cd L e') := by
  obtain ⟨hL, p1, p2, p3, p4⟩ := id hP
  intro d
  induction d with
  | zero =>
    intro n m k e hk hn hm hS
    obtain ⟨n, rfl⟩ : ∃ k, n = k + 1 := ⟨n - 1, by omega⟩
    obtain ⟨m, rfl⟩ : ∃ k, m = k + 1 := ⟨m - 1, by omega⟩
    have e0 : k = L := by omega
    subst e0
    have hle : nI k ≤ nI k := nI_le (by omega) (by omega)
    refine ⟨k, e, by omega, ?_, ?_, fun _ => hS⟩
    · rw [fX1_firstFault_2, p1, if_pos hle]
    · rw [fX6_faultOf_7, gs_m_pageMany_endAt, p2, if_pos hle]
  | succ d ih =>
    intro n m k e hk hn hm hS
    obtain ⟨n, rfl⟩ : ∃ k, n = k + 1 := ⟨n - 1, by omega⟩
    obtain ⟨m, rfl⟩ : ∃ k, m = k + 1 := ⟨m - 1, by omega⟩
    have hnle : ¬ nI L ≤ nI k := nI_ge (by omega) (by omega)
    obtain ⟨v, e', x1, x2, x3⟩ := good_eq hP (by omega) hS
    rw [fX1_firstFault_2, p1, if_neg hnle, fX6_faultOf_7, gs_m_pageMany_endAt, p2, if_neg hnle, x1, x2]
    simp only [bo_n, bd_n, ad1]
    rcases x3 with rfl | ⟨rfl, x3⟩
    · rw [if_pos rfl, if_pos rfl]
      exact ⟨k, e', by omega, rfl, rfl, fun q => by omega⟩
    · rw [if_neg (show ¬ (1 : Int32) = 0 by decide), if_neg (show ¬ (1 : Int32) = 0 by decide)]
      exact ih n m (k + 1) e' (by omega) (by omega) (by omega) x3
theorem fault_eq (hP : PageN L cd σ τ) : ∃ (v : Nat) (e' : Int32), v ≤ L ∧ fX1_firstFault 100 σ = some (nI v) ∧ fX6_faultOf 100 τ = some (nI v, sm_endAt τ e') ∧ (v = L → ScanI cd L e') := by
  have hL := hP.1
  obtain ⟨v, e', h1, h2, h3, h4⟩ := fault_loop hP L 100 100 0 (-1) (by omega) (by omega) (by omega) ⟨fun j hj => by omega, Or.inl ⟨rfl, by omega, fun j hj => by omega⟩⟩
  rw [nI_0] at h2 h3
  refine ⟨v, e', h1, ?_, ?_, h4⟩
  · unfold fX1_firstFault; exact h2
  · unfold fX6_faultOf; rw [lb_n]; exact h3
end FLT
theorem op_fault (k : Nat) (σ : SC) (τ : SM) (_ : k + 4 ≤ 256) (h : Inv0 k σ τ) : ∃ (r : Int32) (τ1 : SM), fX5_fault 100 σ = some r ∧ fX6_fault 100 τ = some (r, τ1) ∧ Inv0 (k + 4) σ τ1 := by
  obtain ⟨L, P, r, hr, hPg, hNow, hC, hI⟩ := h
  obtain ⟨cd, hcd⟩ := hPg.num
  obtain ⟨v, e', h1, h2, h3, h4⟩ := fault_eq hcd
  refine ⟨nI v, sm_endAt τ e', ?_, ?_, ⟨L, P, r, by omega, hPg, hNow, hC, hI⟩⟩
  · unfold fX5_fault; rw [h2]; rfl
  · unfold fX6_fault; rw [h3]; rfl
