/-! ===== the invariant ===== -/
def PageI (L : Nat) (σ : SC) (τ : SM) : Prop := L ≤ 22 ∧ c_plen σ = nI L ∧ m_pageMany τ = nI L ∧ c_codes σ = m_page τ ∧ ∀ j, j < L → ∃ c, 1 ≤ c ∧ c ≤ 126 ∧ c_codes σ j = nI c
def PastOK (P : Nat) (heard last denied whom wday : Nat → Int32) (asked days changes : Int32) (tunnels askeds : Nat → Int32) (askedM daysM changesM : Int32) : Prop :=
  (∀ t, t < 3 → (∃ h, h < 2 ^ P ∧ heard t = nI h) ∧ (∃ h, h < 2 ^ P ∧ last t = nI h) ∧ (∃ d, d ≤ 9 ∧ denied t = nI d) ∧ tunnels (3 * t) = heard t ∧ tunnels (3 * t + 1) = last t ∧ tunnels (3 * t + 2) = denied t) ∧
  (∃ a, a ≤ 8 ∧ asked = nI a ∧ askedM = nI a) ∧ (∀ i, i < 8 → askeds (2 * i) = whom i ∧ askeds (2 * i + 1) = wday i) ∧ (∃ d, d ≤ 99 ∧ days = nI d ∧ daysM = nI d) ∧ changes = changesM
def NowI (P : Nat) (σ : SC) (τ : SM) : Prop := Rel P σ τ ∧ PastOK P (c_heard σ) (c_last σ) (c_denied σ) (c_whom σ) (c_wday σ) (c_asked σ) (c_days σ) (c_changes σ) (m_tunnels τ) (m_askeds τ) (m_askedMany τ) (m_days τ) (m_changes τ) ∧ ∃ rv, rv ≤ 9 ∧ c_river σ = nI rv
def KeptI (P : Nat) (σ : SC) (τ : SM) : Prop := (∀ p, p < P → m_keptRows τ (2 * p) = c_kinds σ p ∧ m_keptRows τ (2 * p + 1) = c_knexts σ p ∧ c_klsts σ p = tellV P (c_kinds σ) (c_knexts σ) p ∧ (c_knexts σ p = -1 ∨ ∃ q, q < P ∧ c_knexts σ p = nI q)) ∧
  PastOK P (c_kheard σ) (c_klast σ) (c_kdenied σ) (c_kwhom σ) (c_kwday σ) (c_kasked σ) (c_kdays σ) (c_kchanges σ) (m_keptTunnels τ) (m_keptAskeds τ) (m_keptAsked τ) (m_keptDays τ) (m_keptChanges τ)
def CntI (r : Nat) (σ : SC) (τ : SM) : Prop := c_readings σ = nI r ∧ m_hillsRead τ = nI r
def ImgI (P r : Nat) (σ : SC) (τ : SM) : Prop := (c_hasImage σ = 0 ∧ (m_keptHill τ = -1 ∨ ∃ r', r' < r ∧ m_keptHill τ = nI r')) ∨ (c_hasImage σ = 1 ∧ m_keptHill τ = nI r ∧ KeptI P σ τ)
def Inv0 (k : Nat) (σ : SC) (τ : SM) : Prop := ∃ L P r, r ≤ k ∧ PageI L σ τ ∧ NowI P σ τ ∧ CntI r σ τ ∧ ImgI P r σ τ
theorem inv_mono (k : Nat) (σ : SC) (τ : SM) (h : Inv0 k σ τ) : Inv0 (k + 4) σ τ := by
  obtain ⟨L, P, r, h1, h2⟩ := h
  exact ⟨L, P, r, by omega, h2⟩
theorem inv00 : Inv0 0 σ00 τ00 := by
  refine ⟨0, 0, 0, by omega, ⟨by omega, rfl, rfl, rfl, fun j h => by omega⟩, ⟨⟨by omega, rfl, rfl, rfl, fun p h => by omega⟩, ⟨fun t _ => ⟨⟨0, by decide, rfl⟩, ⟨0, by decide, rfl⟩, ⟨0, by omega, rfl⟩, rfl, rfl, rfl⟩, ⟨0, by omega, rfl, rfl⟩, fun i _ => ⟨rfl, rfl⟩, ⟨0, by omega, rfl, rfl⟩, rfl⟩, 0, by omega, rfl⟩, ⟨rfl, rfl⟩, Or.inl ⟨rfl, Or.inl rfl⟩⟩
/-! ===== 'in' of the reference ===== -/
theorem cmp_lt (x y : Int64) : lg_cmp x y < 0 ↔ x < y := by
  unfold lg_cmp
  by_cases h1 : x > y
  · rw [if_pos h1]
    exact ⟨fun h => absurd h (by decide), fun h => absurd h (Int64.not_lt.mpr (Int64.le_of_lt h1))⟩
  · rw [if_neg h1]
    by_cases h2 : x = y
    · rw [if_pos h2]
      exact ⟨fun h => absurd h (by decide), fun h => absurd h (by rw [h2]; exact Int64.lt_irrefl)⟩
    · rw [if_neg h2]
      exact ⟨fun _ => Int64.lt_of_le_of_ne (Int64.not_lt.mp h1) h2, fun _ => by decide⟩
theorem cmp_gt (x y : Int64) : 0 < lg_cmp x y ↔ y < x := by
  unfold lg_cmp
  by_cases h1 : x > y
  · rw [if_pos h1]
    exact ⟨fun _ => h1, fun _ => by decide⟩
  · rw [if_neg h1]
    by_cases h2 : x = y
    · rw [if_pos h2]
      exact ⟨fun h => absurd h (by decide), fun h => absurd h h1⟩
    · rw [if_neg h2]
      exact ⟨fun h => absurd h (by decide), fun h => absurd h h1⟩
theorem to64_lt (x y : Int32) : x.toInt64 < y.toInt64 ↔ x < y := by
  rw [Int64.lt_iff_toInt_lt, Int32.lt_iff_toInt_lt, Int32.toInt_toInt64, Int32.toInt_toInt64]
theorem in32 (x lo hi : Int32) {a b : Int64} (ha : lo.toInt64 = a) (hb : hi.toInt64 = b) : fX6_in 100 x.toInt64 a b = some (if x < lo then 0 else if hi < x then 0 else 1) := by
  subst ha; subst hb
  unfold fX6_in
  simp only [cmp_lt, cmp_gt, to64_lt]
  by_cases h1 : x < lo
  · simp [h1]
  · by_cases h2 : hi < x <;> simp [h1, h2]
section BASIC
variable {P : Nat} {σ : SC} {τ : SM}
theorem has_yes (R : Rel P σ τ) {p : Nat} (hp : p < P) : fX0_has 100 σ (nI p) = some 1 := by
  have := R.1
  unfold fX0_has
  rw [R.2.1, if_neg (nI_pos (by omega)), if_neg (nI_ge (by omega) (by omega))]
theorem has_no (R : Rel P σ τ) {x : Int32} (h : x < 0 ∨ nI P ≤ x) : fX0_has 100 σ x = some 0 := by
  unfold fX0_has
  rw [R.2.1]
  by_cases c : x < 0
  · rw [if_pos c]
  · rw [if_neg c, if_pos (h.resolve_left c)]
theorem isPerson_gen (R : Rel P σ τ) (x : Int32) : fX6_isPerson 100 τ x = some (if x < 0 then 0 else if nI P ≤ x then 0 else 1) := by
  have h6 := R.1
  unfold fX6_isPerson
  rw [R.2.2.1, in32 (a := 0) x 0 (nI P - 1) rfl rfl]
  have e : (nI P - 1 < x) ↔ nI P ≤ x := by
    rw [Int32.lt_iff_toInt_lt, Int32.le_iff_toInt_le, show (nI P - 1 : Int32) = nI P - nI 1 from rfl, pk_sub_toInt (by omega) (by omega), nI_toInt (by omega)]
    omega
  simp only [e, bo]
  by_cases h1 : x < 0
  · simp [h1]
  · by_cases h2 : nI P ≤ x <;> simp [h1, h2]
theorem isPerson_yes (R : Rel P σ τ) {p : Nat} (hp : p < P) : fX6_isPerson 100 τ (nI p) = some 1 := by
  have := R.1
  rw [isPerson_gen R, if_neg (nI_pos (by omega)), if_neg (nI_ge (by omega) (by omega))]
theorem isPerson_no (R : Rel P σ τ) {x : Int32} (h : x < 0 ∨ nI P ≤ x) : fX6_isPerson 100 τ x = some 0 := by
  rw [isPerson_gen R]
  by_cases c : x < 0
  · rw [if_pos c]
  · rw [if_neg c, if_pos (h.resolve_left c)]
theorem isThere_eq (R : Rel P σ τ) : fX0_isThere 100 σ = some (if P = 0 then 0 else 1) := by
  have := R.1
  unfold fX0_isThere
  rw [R.2.1]
  by_cases h : P = 0
  · subst h; rfl
  · rw [if_neg (nI_nle (by omega) (by omega)), if_neg h]
theorem lacks_eq (R : Rel P σ τ) : fX6_lacks 100 τ = some (if P = 0 then 1 else 0) := by
  have := R.1
  unfold fX6_lacks
  rw [R.2.2.1]
  by_cases h : P = 0
  · subst h; rfl
  · rw [if_neg (nI_ne0 (by omega) (by omega)), if_neg h]
/-- a tunnel's number, if there is a hill -/
def isT (P : Nat) (x : Int32) : Prop := P ≠ 0 ∧ ∃ t, t < 3 ∧ x = nI t
theorem tun_cases (P : Nat) (x : Int32) : isT P x ∨ (P = 0 ∨ x < 0 ∨ (3 : Int32) ≤ x) := by
  by_cases h : P = 0
  · exact Or.inr (Or.inl h)
  · rcases inN x 3 (by omega) with h1 | h1
    · exact Or.inl ⟨h, h1⟩
    · exact Or.inr (Or.inr h1)
theorem isTunnelC_yes (R : Rel P σ τ) (h0 : P ≠ 0) {t : Nat} (ht : t < 3) : fX5_isTunnel 100 σ (nI t) = some 1 := by
  unfold fX5_isTunnel
  rw [isThere_eq R, if_neg h0]
  simp only [bo]
  rw [if_neg (by decide), if_neg (nI_pos (by omega)), if_neg (show ¬ (3 : Int32) ≤ nI t from nI_ge (b := 3) ht (by omega))]
theorem isTunnelC_no (R : Rel P σ τ) {x : Int32} (h : P = 0 ∨ x < 0 ∨ (3 : Int32) ≤ x) : fX5_isTunnel 100 σ x = some 0 := by
  unfold fX5_isTunnel
  rw [isThere_eq R]
  simp only [bo]
  by_cases h0 : P = 0
  · rw [if_pos h0, if_pos rfl]
  · rw [if_neg h0, if_neg (by decide)]
    by_cases h1 : x < 0
    · rw [if_pos h1]
    · rw [if_neg h1, if_pos ((h.resolve_left h0).resolve_left h1)]
theorem isTunnelM_yes (R : Rel P σ τ) (h0 : P ≠ 0) {t : Nat} (ht : t < 3) : fX6_isTunnel 100 τ (nI t) = some 1 := by
  unfold fX6_isTunnel
  rw [lacks_eq R, if_neg h0, in32 (a := 0) (b := 2) (nI t) 0 2 rfl rfl, if_neg (nI_pos (by omega)), if_neg (show ¬ (2 : Int32) < nI t from nI_nlt (b := t) (a := 2) (by omega) (by omega))]
  rfl
theorem lt3 {x : Int32} (h : (3 : Int32) ≤ x) : (2 : Int32) < x := by
  rw [Int32.lt_iff_toInt_lt]
  rw [Int32.le_iff_toInt_le] at h
  have e1 : (3 : Int32).toInt = 3 := by decide
  have e2 : (2 : Int32).toInt = 2 := by decide
  omega
theorem isTunnelM_no (R : Rel P σ τ) {x : Int32} (h : P = 0 ∨ x < 0 ∨ (3 : Int32) ≤ x) : fX6_isTunnel 100 τ x = some 0 := by
  unfold fX6_isTunnel
  rw [lacks_eq R]
  simp only [bo]
  by_cases h0 : P = 0
  · rw [if_pos h0, if_neg (by decide)]
  · rw [if_neg h0, if_pos rfl, in32 (a := 0) (b := 2) x 0 2 rfl rfl]
    by_cases h1 : x < 0
    · rw [if_pos h1]; rfl
    · rw [if_neg h1, if_pos (lt3 ((h.resolve_left h0).resolve_left h1))]; rfl
theorem lengthOf_eq (R : Rel P σ τ) {t : Nat} (ht : t < 3) (h1 : m_tunnels τ (3 * t) = c_heard σ t) (h2 : m_tunnels τ (3 * t + 2) = c_denied σ t) : ∃ r, fX5_lengthOf 100 σ (nI t) = some r ∧ fX6_lengthOf 100 τ (nI t) = some r := by
  obtain ⟨r, e1, e2⟩ := length_eq R (c_heard σ t) (c_denied σ t)
  refine ⟨r, ?_, ?_⟩
  · unfold fX5_lengthOf
    simp (disch := omega) only [ifB, cl]
    rw [e1]; rfl
  · unfold fX6_lengthOf
    simp (disch := omega) only [mul3, ad2, ifB, cl, h1, h2]
    rw [e2]; rfl
end BASIC
