theorem vPl {D : va_G} {cl : List vw_C} {a b : va_W} {H : Heap} (h : va_P D cl (a ++ b) H) : va_P D cl a H := fun k q hk => h k q (by rw [List.getElem?_append_left (List.getElem?_eq_some_iff.mp hk).1]; exact hk)
theorem vPr {D : va_G} {cl : List vw_C} {a b : va_W} {H : Heap} (h : va_P D cl (a ++ b) H) : va_P D cl b H := fun k q hk => h (a.length + k) q (by rw [List.getElem?_append_right (by omega), show a.length + k - a.length = k by omega]; exact hk)
theorem DD.of {A : Nat → Prop} {w1 w2 : va_W} (h : va_D A (w1 ++ w2)) : DD A w1 w2 := by
  have hl : ∀ (k : Nat) (q : Nat × va_E), w1[k]? = some q → (w1 ++ w2)[k]? = some q := fun k q hk => by rw [List.getElem?_append_left (List.getElem?_eq_some_iff.mp hk).1]; exact hk
  have hr : ∀ (k : Nat) (q : Nat × va_E), w2[k]? = some q → (w1 ++ w2)[w1.length + k]? = some q := fun k q hk => by rw [List.getElem?_append_right (by omega), show w1.length + k - w1.length = k by omega]; exact hk
  refine ⟨h.by id (fun k q hk => hl k q hk) (fun i j _ _ e => e), h.by (fun k => w1.length + k) (fun k q hk => hr k q hk) (fun i j _ _ e => by simpa using e), fun i j p q hp hq e => ?_⟩
  have h1 := h.1 i (w1.length + j) p q (hl i p hp) (hr j q hq) e
  have h2 := (List.getElem?_eq_some_iff.mp hp).1
  omega
set_option maxHeartbeats 8000000 in
set_option maxRecDepth 100000 in
theorem whole_start {p : Program} {e : Env} {s : State} {m : MethodId} {below : List Frame} {meth : Method} {c : Code} (l : Launch) (hflags : l.flags = flags0) {b L : Nat} {xs : Nat → Int32} (hL : L ≤ 256) (C0 : lw_At p s m meth c b L xs) : W p l e room_1 s m #[Value.ref b] below meth c s.heap [] 0 0 (lw_Z below #[Value.ref b] s) (entryFrame m ([Value.ref b] : List Value).toArray 4) := by
  obtain ⟨hx, hb, hr, hml, hown, hts, hX, hbl, hlocks, hgv⟩ := id C0
  have hA : ∀ q : Nat, s.heap.size ≤ q → (fun q : Nat => s.heap.size ≤ q) q := fun _ h => h
  have hnA : ∀ a : Nat, a < s.heap.size → ¬ (fun q : Nat => s.heap.size ≤ q) a := fun a h => Nat.not_le.mpr h
  have hw : ∀ w ∈ wsA, w.before #[Value.ref b] s = true := fun w h => hts w (List.mem_filter.mp h).1
  obtain ⟨c0, iS0, hKn0⟩ := u_known (C := RX0) (T := TX0) (N := 3) (n := 3) hw in_X0 (hw _ mB_X0)
  obtain ⟨c1, iS1, hKn1⟩ := u_known (C := RX1) (T := TX1) (N := 2) (n := 2) hw in_X1 (hw _ mB_X1)
  obtain ⟨c2, iS2, hKn2⟩ := u_known (C := RX2) (T := TX2) (N := 10) (n := 10) hw in_X2 (hw _ mB_X2)
  obtain ⟨c3, iS3, hKn3⟩ := u_known (C := RX3) (T := TX3) (N := 4) (n := 4) hw in_X3 (hw _ mB_X3)
  obtain ⟨c4, iS4, hKn4⟩ := u_known (C := RX4) (T := TX4) (N := 2) (n := 2) hw in_X4 (hw _ mB_X4)
  obtain ⟨c5, iS5, hKn5⟩ := u_known (C := RX5) (T := TX5) (N := 8) (n := 8) hw in_X5 (hw _ mB_X5)
  obtain ⟨c6, iS6, hKn6⟩ := u_known (C := RX6) (T := TX6) (N := 22) (n := 22) hw in_X6 (hw _ mB_X6)
  obtain ⟨dC, dI, hKc⟩ : ∃ (dC : Nat → ClassId) (dI : Nat → Nat → Nat), ∀ (k : Nat) (q : vw_C), vwCl[k]? = some q → u_Kn s q.1 q.2.1 q.2.2 (dC k) (dI k) := by
    refine ⟨fun k => if k = 0 then c0 else if k = 1 then c1 else if k = 2 then c2 else if k = 3 then c3 else if k = 4 then c4 else if k = 5 then c5 else c6, fun k => if k = 0 then iS0 else if k = 1 then iS1 else if k = 2 then iS2 else if k = 3 then iS3 else if k = 4 then iS4 else if k = 5 then iS5 else iS6, ?_⟩
    intro k q hq
    match k, hq with
    | 0, hq => cases hq; exact hKn0
    | 1, hq => cases hq; exact hKn1
    | 2, hq => cases hq; exact hKn2
    | 3, hq => cases hq; exact hKn3
    | 4, hq => cases hq; exact hKn4
    | 5, hq => cases hq; exact hKn5
    | 6, hq => cases hq; exact hKn6
    | k + 7, hq => simp [vwCl] at hq
  obtain ⟨cA, kA, comp, hfA, hkA, hkindA⟩ := Cond.arrayClass_spec (hw _ mA_int)
  have hS : va_S (fun q : Nat => s.heap.size ≤ q) s.heap s.heap [] := va_S.rf
  have hK : va_K (dC, dI) vwCl [(cA, .int)] s := ⟨hKc, fun k q h => by
    have hz : k < 1 := (List.getElem?_eq_some_iff.mp h).1
    rw [show k = 0 by omega] at h
    cases h
    exact ⟨fun n z => ⟨fun k h => (by cases h), kA, hkA, comp, hkindA⟩, hfA⟩⟩
  have hP : va_P (dC, dI) vwCl [] s.heap := fun k q h => by simp at h
  have hD : va_D (fun q : Nat => s.heap.size ≤ q) [] := ⟨fun i j p q h => by simp at h, fun k q h => by simp at h⟩
  have hN : NW s := ⟨fun q hq => va_Nw.of rfl (hts _ (nwF_in q hq)), fun q hq => va_Nw.of rfl (hts _ (nwM_in q hq))⟩
  have hs := flat_of_before _ hgv
  obtain ⟨kv, hW⟩ : ∃ kv : Nat × Nat, SW kv (fun q : Nat => s.heap.size ≤ q) s s.heap := by
    obtain ⟨adK, adV, h1, h2⟩ := vk_Sof (args := #[Value.ref b]) (s := s) (N := 1) (tm := fun _ => .string "DugBySaid$Page" 34) (len := [5]) (byt := [[109, 115, 103, 99, 112]]) (A := fun q : Nat => s.heap.size ≤ q)
      (fun i hi => by rw [show i = 0 by omega]; decide)
      (fun i hi => hs _ (by decide +kernel))
      (fun i hi => hs _ (by decide +kernel))
      (fun i hi => hs _ (by decide +kernel))
      (fun i hi => by rw [show i = 0 by omega]; exact hs _ (by decide +kernel))
      (fun i hi j hj => by
        rw [show i = 0 by omega] at hj ⊢
        have hj5 : j < 5 := hj
        rcases (show j = 0 ∨ j = 1 ∨ j = 2 ∨ j = 3 ∨ j = 4 by omega) with rfl | rfl | rfl | rfl | rfl <;> exact hs _ (by decide +kernel))
      (fun i j hi hj hij => by omega) hnA
    refine ⟨(adK 0, adV 0), vk_R.of (hts _ (tb1 (List.mem_of_getElem? (i := 197) rfl))) (h2 0 (by decide)), ⟨fun i hi => ?_, fun i j hi hj _ => by omega⟩, va_Zof (hts _ (tb1 (List.mem_of_getElem? (i := 211) rfl))) (hw _ mN_J0) (va_eqi (hs _ (by decide +kernel))) hnA⟩
    have := h1.1 0 (by decide)
    rw [show i = 0 by omega]
    exact this
  have hl := lv_entry ([.ref b]) (n := 4) (Nat.le_of_ble_eq_true rfl)
  rw [lg_entry_eq]
  generalize (lg_sl ([.ref b]) ++ List.replicate (4 - (lg_sl ([.ref b])).length) Slot.unset).toArray = ls at hl ⊢
  have hl : lv_has ls 4 [(0, .ref b)] := hl
  have CF : CallFix p m c code 4 s #[Value.ref b] wsA R_law := ⟨hx, hb, hml, hown, hw⟩
  refine va_new (pc := 0) (ci := 5) (fs := [.null, .null, .null, .null, .null, .null, .int 0, .int 0]) (C := RX5) (T := TX5) (N := 8) hx hb hw in_X5 tyX5 tyX5_ok hown (hw _ mQ_L_7) (hw _ mB_X5) (hw _ mN_X5) hK hP hD hS hA rfl (fun j hj => by rcases (show j = 0 ∨ j = 1 ∨ j = 2 ∨ j = 3 ∨ j = 4 ∨ j = 5 ∨ j = 6 ∨ j = 7 by omega) with rfl | rfl | rfl | rfl | rfl | rfl | rfl | rfl <;> rfl) (Nat.le_of_ble_eq_true rfl) (Nat.le_of_ble_eq_true rfl) dL_law_0 (fun q0 H hP hD hS => ?_)
  have hP : va_P (dC, dI) vwCl [(q0, .inr (5, [.null, .null, .null, .null, .null, .null, .int 0, .int 0]))] H := hP
  have hD : va_D (fun q : Nat => s.heap.size ≤ q) [(q0, .inr (5, [.null, .null, .null, .null, .null, .null, .int 0, .int 0]))] := hD
  refine lv_dup (pc := 3) hx hb dL_law_3 rfl ?_
  refine cI (pc := 4) (n := 0) (rest := [.ref q0]) (wr := []) CF (fun _ h => h) (tX5_init q0) hK hP hD hS hA hN hW mL_L_9 ⟨mI_X5_init, mN_X5, mC_X5_init⟩ rfl (by decide +kernel) [0] [] rfl rfl rfl rfl (by decide) rfl rfl ⟨by decide, by decide⟩ hl.1 (Nat.le_of_ble_eq_true rfl) ⟨Nat.le_of_ble_eq_true rfl, Nat.le_of_ble_eq_true rfl⟩ dL_law_4 (fun u4 H locs hP hD hS => ?_)
  have hP : va_P (dC, dI) vwCl [(q0, .inr (5, [.ref (u4 0), .ref (u4 2), .ref (u4 4), .ref (u4 12), .ref (u4 20), .ref (u4 21), .int 0, .int 0])), ((u4 0), .inr (1, [.ref (u4 1), .int 0])), ((u4 1), .inl (cA, 22, .inl (fun _ => 0))), ((u4 2), .inr (0, [.ref (u4 3), .int 0, .int 0])), ((u4 3), .inl (cA, 6, .inl (fun _ => 0))), ((u4 4), .inr (2, [.ref (u4 5), .ref (u4 6), .ref (u4 7), .ref (u4 8), .ref (u4 9), .ref (u4 10), .ref (u4 11), .int 0, .int 0, .int 0])), ((u4 5), .inl (cA, 6, .inl (fun _ => 0))), ((u4 6), .inl (cA, 6, .inl (fun _ => 0))), ((u4 7), .inl (cA, 3, .inl (fun _ => 0))), ((u4 8), .inl (cA, 3, .inl (fun _ => 0))), ((u4 9), .inl (cA, 3, .inl (fun _ => 0))), ((u4 10), .inl (cA, 8, .inl (fun _ => 0))), ((u4 11), .inl (cA, 8, .inl (fun _ => 0))), ((u4 12), .inr (2, [.ref (u4 13), .ref (u4 14), .ref (u4 15), .ref (u4 16), .ref (u4 17), .ref (u4 18), .ref (u4 19), .int 0, .int 0, .int 0])), ((u4 13), .inl (cA, 6, .inl (fun _ => 0))), ((u4 14), .inl (cA, 6, .inl (fun _ => 0))), ((u4 15), .inl (cA, 3, .inl (fun _ => 0))), ((u4 16), .inl (cA, 3, .inl (fun _ => 0))), ((u4 17), .inl (cA, 3, .inl (fun _ => 0))), ((u4 18), .inl (cA, 8, .inl (fun _ => 0))), ((u4 19), .inl (cA, 8, .inl (fun _ => 0))), ((u4 20), .inr (4, [.ref (u4 2), .ref (u4 4)])), ((u4 21), .inr (3, [.ref (u4 2), .ref (u4 4), .ref (u4 20), .ref (u4 22)])), ((u4 22), .inl (cA, 7, .inl (fun _ => 0)))] H := hP
  have hD : va_D (fun q : Nat => s.heap.size ≤ q) [(q0, .inr (5, [.ref (u4 0), .ref (u4 2), .ref (u4 4), .ref (u4 12), .ref (u4 20), .ref (u4 21), .int 0, .int 0])), ((u4 0), .inr (1, [.ref (u4 1), .int 0])), ((u4 1), .inl (cA, 22, .inl (fun _ => 0))), ((u4 2), .inr (0, [.ref (u4 3), .int 0, .int 0])), ((u4 3), .inl (cA, 6, .inl (fun _ => 0))), ((u4 4), .inr (2, [.ref (u4 5), .ref (u4 6), .ref (u4 7), .ref (u4 8), .ref (u4 9), .ref (u4 10), .ref (u4 11), .int 0, .int 0, .int 0])), ((u4 5), .inl (cA, 6, .inl (fun _ => 0))), ((u4 6), .inl (cA, 6, .inl (fun _ => 0))), ((u4 7), .inl (cA, 3, .inl (fun _ => 0))), ((u4 8), .inl (cA, 3, .inl (fun _ => 0))), ((u4 9), .inl (cA, 3, .inl (fun _ => 0))), ((u4 10), .inl (cA, 8, .inl (fun _ => 0))), ((u4 11), .inl (cA, 8, .inl (fun _ => 0))), ((u4 12), .inr (2, [.ref (u4 13), .ref (u4 14), .ref (u4 15), .ref (u4 16), .ref (u4 17), .ref (u4 18), .ref (u4 19), .int 0, .int 0, .int 0])), ((u4 13), .inl (cA, 6, .inl (fun _ => 0))), ((u4 14), .inl (cA, 6, .inl (fun _ => 0))), ((u4 15), .inl (cA, 3, .inl (fun _ => 0))), ((u4 16), .inl (cA, 3, .inl (fun _ => 0))), ((u4 17), .inl (cA, 3, .inl (fun _ => 0))), ((u4 18), .inl (cA, 8, .inl (fun _ => 0))), ((u4 19), .inl (cA, 8, .inl (fun _ => 0))), ((u4 20), .inr (4, [.ref (u4 2), .ref (u4 4)])), ((u4 21), .inr (3, [.ref (u4 2), .ref (u4 4), .ref (u4 20), .ref (u4 22)])), ((u4 22), .inl (cA, 7, .inl (fun _ => 0)))] := hD
  refine lv_astore_n (pc := 7) (lv' := [(1, .ref q0), (0, .ref b)]) hx hb dL_law_7 rfl hl (by decide) rfl (fun ls hl => ?_)
  refine va_new (pc := 8) (ci := 6) (fs := [.null, .int 0, .int 0, .int 0, .int 0, .int 0, .int 0, .int 0, .null, .null, .int 0, .null, .null, .int 0, .int 0, .int 0, .int 0, .int 0, .null, .null, .null, .long 0]) (C := RX6) (T := TX6) (N := 22) hx hb hw in_X6 tyX6 tyX6_ok hown (hw _ mQ_L_10) (hw _ mB_X6) (hw _ mN_X6) hK hP hD hS hA rfl (fun j hj => by rcases (show j = 0 ∨ j = 1 ∨ j = 2 ∨ j = 3 ∨ j = 4 ∨ j = 5 ∨ j = 6 ∨ j = 7 ∨ j = 8 ∨ j = 9 ∨ j = 10 ∨ j = 11 ∨ j = 12 ∨ j = 13 ∨ j = 14 ∨ j = 15 ∨ j = 16 ∨ j = 17 ∨ j = 18 ∨ j = 19 ∨ j = 20 ∨ j = 21 by omega) with rfl | rfl | rfl | rfl | rfl | rfl | rfl | rfl | rfl | rfl | rfl | rfl | rfl | rfl | rfl | rfl | rfl | rfl | rfl | rfl | rfl | rfl <;> rfl) (Nat.le_of_ble_eq_true rfl) (Nat.le_of_ble_eq_true rfl) dL_law_8 (fun q8 H hP hD hS => ?_)
  have hP : va_P (dC, dI) vwCl [(q0, .inr (5, [.ref (u4 0), .ref (u4 2), .ref (u4 4), .ref (u4 12), .ref (u4 20), .ref (u4 21), .int 0, .int 0])), ((u4 0), .inr (1, [.ref (u4 1), .int 0])), ((u4 1), .inl (cA, 22, .inl (fun _ => 0))), ((u4 2), .inr (0, [.ref (u4 3), .int 0, .int 0])), ((u4 3), .inl (cA, 6, .inl (fun _ => 0))), ((u4 4), .inr (2, [.ref (u4 5), .ref (u4 6), .ref (u4 7), .ref (u4 8), .ref (u4 9), .ref (u4 10), .ref (u4 11), .int 0, .int 0, .int 0])), ((u4 5), .inl (cA, 6, .inl (fun _ => 0))), ((u4 6), .inl (cA, 6, .inl (fun _ => 0))), ((u4 7), .inl (cA, 3, .inl (fun _ => 0))), ((u4 8), .inl (cA, 3, .inl (fun _ => 0))), ((u4 9), .inl (cA, 3, .inl (fun _ => 0))), ((u4 10), .inl (cA, 8, .inl (fun _ => 0))), ((u4 11), .inl (cA, 8, .inl (fun _ => 0))), ((u4 12), .inr (2, [.ref (u4 13), .ref (u4 14), .ref (u4 15), .ref (u4 16), .ref (u4 17), .ref (u4 18), .ref (u4 19), .int 0, .int 0, .int 0])), ((u4 13), .inl (cA, 6, .inl (fun _ => 0))), ((u4 14), .inl (cA, 6, .inl (fun _ => 0))), ((u4 15), .inl (cA, 3, .inl (fun _ => 0))), ((u4 16), .inl (cA, 3, .inl (fun _ => 0))), ((u4 17), .inl (cA, 3, .inl (fun _ => 0))), ((u4 18), .inl (cA, 8, .inl (fun _ => 0))), ((u4 19), .inl (cA, 8, .inl (fun _ => 0))), ((u4 20), .inr (4, [.ref (u4 2), .ref (u4 4)])), ((u4 21), .inr (3, [.ref (u4 2), .ref (u4 4), .ref (u4 20), .ref (u4 22)])), ((u4 22), .inl (cA, 7, .inl (fun _ => 0))), (q8, .inr (6, [.null, .int 0, .int 0, .int 0, .int 0, .int 0, .int 0, .int 0, .null, .null, .int 0, .null, .null, .int 0, .int 0, .int 0, .int 0, .int 0, .null, .null, .null, .long 0]))] H := hP
  have hD : va_D (fun q : Nat => s.heap.size ≤ q) [(q0, .inr (5, [.ref (u4 0), .ref (u4 2), .ref (u4 4), .ref (u4 12), .ref (u4 20), .ref (u4 21), .int 0, .int 0])), ((u4 0), .inr (1, [.ref (u4 1), .int 0])), ((u4 1), .inl (cA, 22, .inl (fun _ => 0))), ((u4 2), .inr (0, [.ref (u4 3), .int 0, .int 0])), ((u4 3), .inl (cA, 6, .inl (fun _ => 0))), ((u4 4), .inr (2, [.ref (u4 5), .ref (u4 6), .ref (u4 7), .ref (u4 8), .ref (u4 9), .ref (u4 10), .ref (u4 11), .int 0, .int 0, .int 0])), ((u4 5), .inl (cA, 6, .inl (fun _ => 0))), ((u4 6), .inl (cA, 6, .inl (fun _ => 0))), ((u4 7), .inl (cA, 3, .inl (fun _ => 0))), ((u4 8), .inl (cA, 3, .inl (fun _ => 0))), ((u4 9), .inl (cA, 3, .inl (fun _ => 0))), ((u4 10), .inl (cA, 8, .inl (fun _ => 0))), ((u4 11), .inl (cA, 8, .inl (fun _ => 0))), ((u4 12), .inr (2, [.ref (u4 13), .ref (u4 14), .ref (u4 15), .ref (u4 16), .ref (u4 17), .ref (u4 18), .ref (u4 19), .int 0, .int 0, .int 0])), ((u4 13), .inl (cA, 6, .inl (fun _ => 0))), ((u4 14), .inl (cA, 6, .inl (fun _ => 0))), ((u4 15), .inl (cA, 3, .inl (fun _ => 0))), ((u4 16), .inl (cA, 3, .inl (fun _ => 0))), ((u4 17), .inl (cA, 3, .inl (fun _ => 0))), ((u4 18), .inl (cA, 8, .inl (fun _ => 0))), ((u4 19), .inl (cA, 8, .inl (fun _ => 0))), ((u4 20), .inr (4, [.ref (u4 2), .ref (u4 4)])), ((u4 21), .inr (3, [.ref (u4 2), .ref (u4 4), .ref (u4 20), .ref (u4 22)])), ((u4 22), .inl (cA, 7, .inl (fun _ => 0))), (q8, .inr (6, [.null, .int 0, .int 0, .int 0, .int 0, .int 0, .int 0, .int 0, .null, .null, .int 0, .null, .null, .int 0, .int 0, .int 0, .int 0, .int 0, .null, .null, .null, .long 0]))] := hD
  refine lv_dup (pc := 11) hx hb dL_law_11 rfl ?_
  refine cI (pc := 12) (n := 0) (rest := [.ref q8]) (wr := [(q0, .inr (5, [.ref (u4 0), .ref (u4 2), .ref (u4 4), .ref (u4 12), .ref (u4 20), .ref (u4 21), .int 0, .int 0])), ((u4 0), .inr (1, [.ref (u4 1), .int 0])), ((u4 1), .inl (cA, 22, .inl (fun _ => 0))), ((u4 2), .inr (0, [.ref (u4 3), .int 0, .int 0])), ((u4 3), .inl (cA, 6, .inl (fun _ => 0))), ((u4 4), .inr (2, [.ref (u4 5), .ref (u4 6), .ref (u4 7), .ref (u4 8), .ref (u4 9), .ref (u4 10), .ref (u4 11), .int 0, .int 0, .int 0])), ((u4 5), .inl (cA, 6, .inl (fun _ => 0))), ((u4 6), .inl (cA, 6, .inl (fun _ => 0))), ((u4 7), .inl (cA, 3, .inl (fun _ => 0))), ((u4 8), .inl (cA, 3, .inl (fun _ => 0))), ((u4 9), .inl (cA, 3, .inl (fun _ => 0))), ((u4 10), .inl (cA, 8, .inl (fun _ => 0))), ((u4 11), .inl (cA, 8, .inl (fun _ => 0))), ((u4 12), .inr (2, [.ref (u4 13), .ref (u4 14), .ref (u4 15), .ref (u4 16), .ref (u4 17), .ref (u4 18), .ref (u4 19), .int 0, .int 0, .int 0])), ((u4 13), .inl (cA, 6, .inl (fun _ => 0))), ((u4 14), .inl (cA, 6, .inl (fun _ => 0))), ((u4 15), .inl (cA, 3, .inl (fun _ => 0))), ((u4 16), .inl (cA, 3, .inl (fun _ => 0))), ((u4 17), .inl (cA, 3, .inl (fun _ => 0))), ((u4 18), .inl (cA, 8, .inl (fun _ => 0))), ((u4 19), .inl (cA, 8, .inl (fun _ => 0))), ((u4 20), .inr (4, [.ref (u4 2), .ref (u4 4)])), ((u4 21), .inr (3, [.ref (u4 2), .ref (u4 4), .ref (u4 20), .ref (u4 22)])), ((u4 22), .inl (cA, 7, .inl (fun _ => 0)))]) CF (fun _ h => h) (tX6_init q8) hK hP hD hS hA hN hW mL_L_12 ⟨mI_X6_init, mN_X6, mC_X6_init⟩ rfl (by decide +kernel) [24] [0, 1, 2, 3, 4, 5, 6, 7, 8, 9, 10, 11, 12, 13, 14, 15, 16, 17, 18, 19, 20, 21, 22, 23] rfl rfl rfl rfl (by decide) rfl rfl ⟨by decide, by decide⟩ hl.1 (Nat.le_of_ble_eq_true rfl) ⟨Nat.le_of_ble_eq_true rfl, Nat.le_of_ble_eq_true rfl⟩ dL_law_12 (fun u12 H locs hP hD hS => ?_)
  have hP : va_P (dC, dI) vwCl (wC (fun k => ([q0, (u4 0), (u4 1), (u4 2), (u4 3), (u4 4), (u4 5), (u4 6), (u4 7), (u4 8), (u4 9), (u4 10), (u4 11), (u4 12), (u4 13), (u4 14), (u4 15), (u4 16), (u4 17), (u4 18), (u4 19), (u4 20), (u4 21), (u4 22)] : List Nat).getD k 0) cA σ00 ++ wM (fun k => ([q8, (u12 0), (u12 1), (u12 2), (u12 3), (u12 4), (u12 5), (u12 6), (u12 7)] : List Nat).getD k 0) cA τ00) H := hP
  have hD : va_D (fun q : Nat => s.heap.size ≤ q) (wC (fun k => ([q0, (u4 0), (u4 1), (u4 2), (u4 3), (u4 4), (u4 5), (u4 6), (u4 7), (u4 8), (u4 9), (u4 10), (u4 11), (u4 12), (u4 13), (u4 14), (u4 15), (u4 16), (u4 17), (u4 18), (u4 19), (u4 20), (u4 21), (u4 22)] : List Nat).getD k 0) cA σ00 ++ wM (fun k => ([q8, (u12 0), (u12 1), (u12 2), (u12 3), (u12 4), (u12 5), (u12 6), (u12 7)] : List Nat).getD k 0) cA τ00) := hD
  refine lv_astore_n (pc := 15) (lv' := [(2, .ref q8), (1, .ref q0), (0, .ref b)]) hx hb dL_law_15 rfl hl (by decide) rfl (fun ls hl => ?_)
  refine lv_iconst (pc := 16) (v := 0) hx hb dL_law_16 (by decide) ?_
  refine lv_istore_n (pc := 17) (lv' := [(3, .int 0), (2, .ref q8), (1, .ref q0), (0, .ref b)]) hx hb dL_law_17 rfl hl (by decide) rfl (fun ls hl => ?_)
  have hP1 : va_P (dC, dI) vwCl (wC (fun k => ([q0, (u4 0), (u4 1), (u4 2), (u4 3), (u4 4), (u4 5), (u4 6), (u4 7), (u4 8), (u4 9), (u4 10), (u4 11), (u4 12), (u4 13), (u4 14), (u4 15), (u4 16), (u4 17), (u4 18), (u4 19), (u4 20), (u4 21), (u4 22)] : List Nat).getD k 0) cA σ00) H := vPl hP
  have hP2 : va_P (dC, dI) vwCl (wM (fun k => ([q8, (u12 0), (u12 1), (u12 2), (u12 3), (u12 4), (u12 5), (u12 6), (u12 7)] : List Nat).getD k 0) cA τ00) H := vPr hP
  exact law_loop hL C0 lawOK hK hN hW (L + 9) 0 σ00 τ00 _ _ _ (by omega) (by omega) inv00 hP1 hP2 (DD.of hD) hS (lv_sub hl [3, 2, 1, 0] rfl)
set_option maxHeartbeats 4000000 in
theorem lw_walk (l : Launch) (hflags : l.flags = flags0) (b : Addr) (xs : List Int32) : MetFree l x (headSpec (Jvm.Cond.code x code maxLocals ret :: tables_1) room_1) (lw_P b xs) (fun _ _ _ _ _ => True) lw_Q := by
  refine MetFree.of_bodyS (code := code) (maxLocals := maxLocals) (ret := ret) (by decide) ?_ ?_
  · intro args s m h hn
    obtain ⟨meth, c, h1, h2, h3, h4, h5, h6, -, -⟩ := Cond.code_spec hn (atoms_spec (ws := Jvm.Cond.code x code maxLocals ret :: tables_1) h _ List.mem_cons_self)
    exact ⟨meth, c, h1, h2, h3, h4, h5, h6⟩
  · intro p e s m args below meth c s₁ B hml0 hP _
    obtain ⟨rfl, hx, hbd, hgv⟩ := hP
    obtain ⟨scr, harrAt, hlist, hof, hsmall⟩ := hx
    obtain ⟨hcb, hkn, -, -⟩ := State.arrayAt?_spec harrAt
    have hown : s.vm.findClass R_law = some m.cls := findClass_of_methodNamed B.named
    have hts0 : ∀ c ∈ (Jvm.Cond.code x code maxLocals ret :: tables_1), c.before #[Value.ref b] s = true := atoms_spec (ws := Jvm.Cond.code x code maxLocals ret :: tables_1) B.pre
    have hts : ∀ w ∈ lw_tbl, w.before #[Value.ref b] s = true := k2_hts_sels lw_privs (fun w hw => hts0 w (List.mem_cons_of_mem _ hw)) lw_privs_ok
    have hml : c.maxLocals = 4 := B.maxLocals_eq (hts0 _ List.mem_cons_self)
    have X₀ : Stand p l e room_1 s m #[Value.ref b] below meth c s₁ [] 0 0 := Stand.of_body B
    have hh0 : s₁.heap = s.heap := by rw [B.state]; rfl
    have hsz : scr.slots.size = xs.length := by rw [← Array.length_toList, hlist, List.length_map]
    have hval : ∀ j : Nat, j < xs.length → scr.slots[j]? = some (.int (xs.getD j 0)) := fun j hj => by
      rw [← Array.getElem?_toList, hlist]
      simp [hj]
    have hbl : b < s.heap.size := (Array.getElem?_eq_some_iff.mp hcb).1
    have hX : va_X b xs.length (fun j => xs.getD j 0) s s.heap := ⟨scr, hcb, hof, hkn, hsz, hval⟩
    have K : W p l e room_1 s m #[Value.ref b] below meth c s₁.heap [] 0 0 (lw_Z below #[Value.ref b] s) (entryFrame m ([Value.ref b] : List Value).toArray 4) := by
      rw [hh0]
      exact whole_start l hflags hbd ⟨B.exec, B.bytes, B.returns, hml, hown, hts, hX, hbl, B.notSynchronized, hgv⟩
    obtain ⟨t, a1, o, b1, b2, b3⟩ := K s₁ rfl X₀
    exact ⟨t, o, a1, b1, b2, b3⟩
theorem lw_pre_spec {args : Array Value} {s : State} (h : (Jvm.Cond.and given_1 narrow_1).before args s = true) (hr : rest_1_c.before args s = true) : ∃ (b : Addr) (xs : List Int32), lw_P b xs args s := by
  have hs := flat_of_before _ h
  have hq := flat_of_before _ hr
  have hc : (Cond.count 1).before args s = true := hs _ (by decide +kernel)
  have harr : (Cond.arrayOf (.arg 0) .int).before args s = true := hs _ (by decide +kernel)
  have hle : (Cond.le (.length (.arg 0)) (.int 256)).before args s = true := hs _ (by decide +kernel)
  have hlen : (Cond.isInt (.length (.arg 0))).before args s = true := hq _ (by decide +kernel)
  have hall : (Cond.all (.arg 0) (.isInt (.elem (.arg 0) (.index 0)))).before args s = true := hq _ (by decide +kernel)
  obtain ⟨b, xs, hb, hx⟩ := State.ints_of_pre rfl harr hlen hall
  have hsm : xs.length < 2 ^ 31 := hx.choose_spec.2.2.2
  have hev : (Term.length (.arg 0)).eval args s none [] s = some (.int xs.length.toInt32) := hx.length_eval hb
  have hv := Cond.le_ints hev (show (Term.int 256).eval args s none [] s = some (.int 256) from rfl)
  have hd : xs.length.toInt32 ≤ 256 := by
    simpa [Cond.before, Cond.holds, hv] using hle
  have hN : xs.length ≤ 256 := (Int32.ofNat_le_ofNat hsm (by decide)).mp (show Int32.ofNat xs.length ≤ Int32.ofNat 256 from hd)
  exact ⟨b, xs, Cond.one_arg hc (show args[0]? = some (.ref b) from hb), hx, hN, h⟩
theorem lw_comes (l : Launch) (hflags : l.flags = flags0) : Comes l x (Jvm.Cond.code x code maxLocals ret :: tables_1) room_1 (fun tb e args s => Calls_1 tb e args s ∧ rest_1 tb e args s ∧ Pre_1 tb e args s)
    (fun _ _ args s o t => lw_Q args s o t) := by
  intro p e ha hc hk s m args below hf hfit hheap happ hpre
  obtain ⟨b, xs, hP⟩ := lw_pre_spec hpre.2.2 hpre.2.1
  obtain ⟨k, o, h1, h2, h3, hQ⟩ := lw_walk l hflags b xs p e ha hc hk s m args below hf ((Spec.applies_iff_loose hf).mp happ).1 hP trivial
  exact ⟨k, o, h1, h2, h3, hQ⟩
theorem lw_frame {s t : State} {o : Outcome} {args : Array Value} (h : Framed s o t [] 33 274) :
    Framed s o t (fieldLocs frame_1_writes args s ++ arrayLocs frame_1_arrays args s ++ staticLocs frame_1_statics s) 33 274 := h
theorem lw_limb (L : Cond) (hL : ∀ (args : Array Value) (s t : State), L.after args s (.returned (some (.int 1))) t = true) :
    ArmFor flags0 classFile x code maxLocals ret World_1 tables_1 room_1 Calls_1 rest_1 Pre_1
      (fun tb e a s o t => postC L tb e a s o t ∧ Framed s o t (fieldLocs frame_1_writes a s ++ arrayLocs frame_1_arrays a s ++ staticLocs frame_1_statics s) 33 274) := by
  intro l hflags _ _ p e ha hc hk s m args below hf hfit hheap happ hpre
  obtain ⟨k, o, h1, h2, h3, rfl, hF⟩ := lw_comes l hflags p e ha hc hk s m args below hf hfit hheap happ hpre
  exact ⟨k, _, h1, h2, h3, hL args s _, lw_frame hF⟩
theorem i_vc : Claimed_1_1 ∧ Claimed_1_2 := ⟨lw_limb limb_1_1 (fun args s t => by simp [limb_1_1, Cond.after, Cond.holds, Cond.value]), lw_limb limb_1_2 (fun args s t => Cond.after_iff.mpr (by
  first | (rw [show limb_1_2 = Cond.eq .result (.int 1) from rfl, Cond.eq_ints (x := 1) (y := 1) rfl rfl]; simp; done) | (simp [limb_1_2, Cond.value, Term.eval]; done)))⟩
