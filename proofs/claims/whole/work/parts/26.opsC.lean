/-! ===== the calls, third part: next, day, count, aim ===== -/
def tellW (P : Nat) (k z : Int32) (p : Nat) : Int32 :=
  if k = 1 then 0 else if z = -1 then 0 else
  if (k = 2 ∨ k = 4) ∧ ¬ nI P ≤ z + 1 ∧ ¬ z + 1 = nI p then (1 <<< (z &&& 31)) ||| (1 <<< ((z + 1) &&& 31)) else 1 <<< (z &&& 31)
theorem hasP_yes {P : Nat} {σ : SC} (h6 : P ≤ 6) (hpe : c_people σ = nI P) {p : Nat} (hp : p < P) : fX0_has 100 σ (nI p) = some 1 := by
  unfold fX0_has
  rw [hpe, if_neg (nI_pos (by omega)), if_neg (nI_ge (by omega) (by omega))]
theorem hasP_no {P : Nat} {σ : SC} (hpe : c_people σ = nI P) {x : Int32} (h : x < 0 ∨ nI P ≤ x) : fX0_has 100 σ x = some 0 := by
  unfold fX0_has
  rw [hpe]
  by_cases c : x < 0
  · rw [if_pos c]
  · rw [if_neg c, if_pos (h.resolve_left c)]
theorem listeners_eq {P : Nat} {σ : SC} (h6 : P ≤ 6) (hpe : c_people σ = nI P) {p : Nat} (hp : p < P) {z : Int32} (hz : z = -1 ∨ ∃ q, q < P ∧ z = nI q) : fX0_listeners 100 σ (nI p) z = some (tellW P (c_kinds σ p) z p) := by
  unfold fX0_listeners tellW
  rw [kindOf_eq (by omega)]
  simp only [bo_s]
  by_cases c1 : c_kinds σ p = 1
  · rw [if_pos c1, if_pos c1]
  rw [if_neg c1, if_neg c1]
  rcases hz with rfl | ⟨q, hq, rfl⟩
  · rw [hasP_no hpe (Or.inl (by decide)), if_pos rfl]
    rfl
  rw [hasP_yes h6 hpe hq, if_neg (m1N (by omega)), ad1]
  simp only [bo_s, e10, if_false]
  unfold fX5_isOfKind fX0_listeners_53 fX0_listeners_54
  rw [if_neg (show ¬ (2 : Int32) = 0 by decide)]
  generalize c_kinds σ p = kd at c1 ⊢
  by_cases c2 : kd = 2 ∨ kd = 4
  · have hk : (if (2 : Int32) = kd then some (1 : Int32) else if (2 : Int32) = 2 then if kd = 4 then some 1 else some 0 else some 0) = some 1 := by
      rcases c2 with rfl | rfl <;> rfl
    rw [hk]
    simp only [bo_s, e10, e00, if_false, if_true]
    by_cases c3 : q + 1 < P
    · have c3' : ¬ nI P ≤ nI (q + 1) := nI_ge c3 (by omega)
      rw [hasP_yes h6 hpe c3]
      simp only [bo_s, e10, if_false]
      by_cases c4 : nI (q + 1) = nI p
      · rw [if_pos c4, if_neg (show ¬ ((kd = 2 ∨ kd = 4) ∧ ¬ nI P ≤ nI (q + 1) ∧ ¬ nI (q + 1) = nI p) from fun h => h.2.2 c4)]
      · rw [if_neg c4, if_pos (show (kd = 2 ∨ kd = 4) ∧ ¬ nI P ≤ nI (q + 1) ∧ ¬ nI (q + 1) = nI p from ⟨c2, c3', c4⟩)]
    · have c3' : nI P ≤ nI (q + 1) := nI_le (by omega) (by omega)
      rw [hasP_no hpe (Or.inr c3')]
      simp only [bo_s, e00, if_true]
      rw [if_neg (show ¬ ((kd = 2 ∨ kd = 4) ∧ ¬ nI P ≤ nI (q + 1) ∧ ¬ nI (q + 1) = nI p) from fun h => h.2.1 c3')]
  · have hk : (if (2 : Int32) = kd then some (1 : Int32) else if (2 : Int32) = 2 then if kd = 4 then some 1 else some 0 else some 0) = some 0 := by
      rw [if_neg (fun q => c2 (Or.inl q.symm)), if_pos rfl, if_neg (fun q => c2 (Or.inr q))]
    rw [hk]
    simp only [bo_s, e00, if_true]
    rw [if_neg (show ¬ ((kd = 2 ∨ kd = 4) ∧ ¬ nI P ≤ nI (q + 1) ∧ ¬ nI (q + 1) = nI p) from fun h => c2 h.1)]
theorem setNext_eq {σ : SC} {p : Nat} (hp : p < 6) (z v : Int32) : fX2_setNext 100 σ (nI p) z v = some (sc_lsts (sc_nexts σ (upd (c_nexts σ) p z)) (upd (c_lsts σ) p v)) := by
  unfold fX2_setNext
  have h1 : ¬ (6 : Int32) ≤ nI p := nI_ge (b := 6) hp (by omega)
  rw [if_neg (nI_pos (by omega)), if_neg h1, if_neg h1]
  simp (disch := omega) only [ifB, cl, lb, gs_c_lsts_nexts]
def ptW (p : Nat) (z : Int32) : Int32 := if z = nI p then -1 else z
theorem ptW_ok {P p : Nat} {z : Int32} (hz : z = -1 ∨ ∃ q, q < P ∧ z = nI q) : ptW p z = -1 ∨ ∃ q, q < P ∧ ptW p z = nI q := by
  unfold ptW
  by_cases c : z = nI p
  · rw [if_pos c]; exact Or.inl rfl
  · rw [if_neg c]; exact hz
def ptS (P : Nat) (σ : SC) (p : Nat) (w : Int32) : SC := sc_lsts (sc_nexts σ (upd (c_nexts σ) p w)) (upd (c_lsts σ) p (tellW P (c_kinds σ p) w p))
theorem point_eq {P : Nat} {σ : SC} (h6 : P ≤ 6) (hpe : c_people σ = nI P) {p : Nat} (hp : p < P) {z : Int32} (hz : z = -1 ∨ ∃ q, q < P ∧ z = nI q) : fX5_point 100 σ (nI p) z = some (ptS P σ p (ptW p z)) := by
  unfold fX5_point ptW ptS
  by_cases c : z = nI p
  · rw [if_pos c, if_pos c]
    unfold fX5_point_10
    rw [listeners_eq h6 hpe hp (Or.inl rfl)]
    simp only [bo_s]
    rw [setNext_eq (by omega)]
    simp only [bo_s]
  · rw [if_neg c, if_neg c]
    unfold fX5_point_10
    rw [listeners_eq h6 hpe hp hz]
    simp only [bo_s]
    rw [setNext_eq (by omega)]
    simp only [bo_s]
theorem Rel.point {P : Nat} {σ : SC} {τ : SM} (R : Rel P σ τ) {p : Nat} (_ : p < P) {w : Int32} (hw : w = -1 ∨ ∃ q, q < P ∧ w = nI q) : Rel P (ptS P σ p w) (sm_rows τ (upd (m_rows τ) (2 * p + 1) w)) := by
  obtain ⟨h6, h1, h2, h3, h4⟩ := R
  refine ⟨h6, h1, h2, h3, fun i hi => ?_⟩
  obtain ⟨r1, r2, r3, r4⟩ := h4 i hi
  show upd (m_rows τ) (2 * p + 1) w (2 * i) = c_kinds σ i ∧ upd (m_rows τ) (2 * p + 1) w (2 * i + 1) = upd (c_nexts σ) p w i ∧ upd (c_lsts σ) p (tellW P (c_kinds σ p) w p) i = tellW P (c_kinds σ i) (upd (c_nexts σ) p w i) i ∧ (upd (c_nexts σ) p w i = -1 ∨ ∃ q, q < P ∧ upd (c_nexts σ) p w i = nI q)
  by_cases hip : i = p
  · subst hip
    rw [pk_un (by omega), pk_us, pk_us, pk_us]
    exact ⟨r1, rfl, rfl, hw⟩
  · rw [pk_un (by omega), pk_un (by omega), pk_un hip, pk_un hip]
    exact ⟨r1, r2, r3, r4⟩
