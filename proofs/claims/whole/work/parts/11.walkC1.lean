set_option maxHeartbeats 4000000 in
set_option maxRecDepth 100000 in
theorem tX0_has {l : Launch} {kv : Nat × Nat} {D : va_G} {N : Nat} {ad : Nat → Nat} {cA : ClassId} {σ : SC} {x1 : Int32} {rF : Int32} (hf : fX0_has N σ x1 = some rF) : Ct l kv D [(cA, .int)] yX0_has cX0_has 2 (some .boolean) 0 0 (wC ad cA σ) (wC ad cA σ) [.ref (ad 3), .int x1] (some (.int rF)) := by
  refine Ct.ofW (by decide) (Nat.le_of_ble_eq_true rfl) ?_
  intro p e s m below meth c A args CF hr hlk hA hP hK hD hN hW hS ls hl
  have hx := CF.1
  have hb := CF.2.1
  have hml := CF.2.2.1
  have hown := CF.2.2.2.1
  have hw : ∀ w ∈ wsA, w.before args s = true := fun w h => CF.2.2.2.2 w (List.mem_cons_of_mem _ h)
  have hl : lv_has ls 2 [(0, .ref (ad 3)), (1, .int x1)] := hl
  unfold fX0_has at hf
  refine lv_iload_n (pc := 0) hx hb dX0_has_0 rfl (lv_at hl 1 rfl) ?_
  refine lv_if_lt (pc := 1) (tgt := 16) hx hb dX0_has_1 (by decide) (fun c1 => ?_) (fun c1 => ?_)
  · have hf := zz_t c1 hf
    refine lv_iconst (pc := 16) (v := 0) hx hb dX0_has_16 (by decide) ?_
    exact retZ hx hb hr hlk rfl hf hP hD hS dX0_has_17
  · have hf := zz_f c1 hf
    refine lv_iload_n (pc := 4) hx hb dX0_has_4 rfl (lv_at hl 1 rfl) ?_
    refine lv_aload_n (pc := 5) hx hb dX0_has_5 rfl (lv_at hl 0 rfl) ?_
    refine gc_3_people (pc := 6) CF hK hP mF_X0_15 dX0_has_6 ?_
    refine lv_icmp_ge (pc := 9) (tgt := 16) hx hb dX0_has_9 (by decide) (fun c9 => ?_) (fun c9 => ?_)
    · have hf := zz_t c9 hf
      refine lv_iconst (pc := 16) (v := 0) hx hb dX0_has_16 (by decide) ?_
      exact retZ hx hb hr hlk rfl hf hP hD hS dX0_has_17
    · have hf := zz_f c9 hf
      refine lv_iconst (pc := 12) (v := 1) hx hb dX0_has_12 (by decide) ?_
      refine lv_goto (pc := 13) (tgt := 17) hx hb dX0_has_13 (by decide) ?_
      exact retZ hx hb hr hlk rfl hf hP hD hS dX0_has_17
set_option maxHeartbeats 4000000 in
set_option maxRecDepth 100000 in
theorem tX0_kindOf {l : Launch} {kv : Nat × Nat} {D : va_G} {N : Nat} {ad : Nat → Nat} {cA : ClassId} {σ : SC} {x1 : Int32} {rF : Int32} (hf : fX0_kindOf N σ x1 = some rF) : Ct l kv D [(cA, .int)] yX0_kindOf cX0_kindOf 2 (some .int) 0 0 (wC ad cA σ) (wC ad cA σ) [.ref (ad 3), .int x1] (some (.int rF)) := by
  refine Ct.ofW (by decide) (Nat.le_of_ble_eq_true rfl) ?_
  intro p e s m below meth c A args CF hr hlk hA hP hK hD hN hW hS ls hl
  have hx := CF.1
  have hb := CF.2.1
  have hml := CF.2.2.1
  have hown := CF.2.2.2.1
  have hw : ∀ w ∈ wsA, w.before args s = true := fun w h => CF.2.2.2.2 w (List.mem_cons_of_mem _ h)
  have hl : lv_has ls 2 [(0, .ref (ad 3)), (1, .int x1)] := hl
  unfold fX0_kindOf at hf
  refine lv_iload_n (pc := 0) hx hb dX0_kindOf_0 rfl (lv_at hl 1 rfl) ?_
  refine lv_if_lt (pc := 1) (tgt := 22) hx hb dX0_kindOf_1 (by decide) (fun c1 => ?_) (fun c1 => ?_)
  · have hf := zz_t c1 hf
    refine lv_iconst (pc := 22) (v := 0) hx hb dX0_kindOf_22 (by decide) ?_
    exact retI hx hb hr hlk hf hP hD hS dX0_kindOf_23
  · have hf := zz_f c1 hf
    refine lv_iload_n (pc := 4) hx hb dX0_kindOf_4 rfl (lv_at hl 1 rfl) ?_
    refine lv_aload_n (pc := 5) hx hb dX0_kindOf_5 rfl (lv_at hl 0 rfl) ?_
    refine gc_3_kinds (pc := 6) CF hK hP mF_X0_9 dX0_kindOf_6 ?_
    refine nc_kinds (pc := 9) hx hb hK hP dX0_kindOf_9 ?_
    refine lv_icmp_ge (pc := 10) (tgt := 22) hx hb dX0_kindOf_10 (by decide) (fun c10 => ?_) (fun c10 => ?_)
    · have hf := zz_t c10 hf
      refine lv_iconst (pc := 22) (v := 0) hx hb dX0_kindOf_22 (by decide) ?_
      exact retI hx hb hr hlk hf hP hD hS dX0_kindOf_23
    · have hf := zz_f c10 hf
      refine lv_aload_n (pc := 13) hx hb dX0_kindOf_13 rfl (lv_at hl 0 rfl) ?_
      refine gc_3_kinds (pc := 14) CF hK hP mF_X0_9 dX0_kindOf_14 ?_
      refine lv_iload_n (pc := 17) hx hb dX0_kindOf_17 rfl (lv_at hl 1 rfl) ?_
      obtain ⟨c18, hf⟩ := zz_k hf
      refine lc_kinds (pc := 18) hx hb hK hP c18 dX0_kindOf_18 ?_
      refine lv_goto (pc := 19) (tgt := 23) hx hb dX0_kindOf_19 (by decide) ?_
      exact retI hx hb hr hlk hf hP hD hS dX0_kindOf_23
set_option maxHeartbeats 4000000 in
set_option maxRecDepth 100000 in
theorem tX5_isOfKind {l : Launch} {kv : Nat × Nat} {D : va_G} {N : Nat} {tys : List (ClassId × FieldType)} {ws : va_W} {x0 : Int32} {x1 : Int32} {rF : Int32} (hf : fX5_isOfKind N x0 x1 = some rF) : Ct l kv D tys yX5_isOfKind cX5_isOfKind 2 (some .boolean) 0 0 ws ws [.int x0, .int x1] (some (.int rF)) := by
  refine Ct.ofW (by decide) (Nat.le_of_ble_eq_true rfl) ?_
  intro p e s m below meth c A args CF hr hlk hA hP hK hD hN hW hS ls hl
  have hx := CF.1
  have hb := CF.2.1
  have hml := CF.2.2.1
  have hown := CF.2.2.2.1
  have hw : ∀ w ∈ wsA, w.before args s = true := fun w h => CF.2.2.2.2 w (List.mem_cons_of_mem _ h)
  have hl : lv_has ls 2 [(0, .int x0), (1, .int x1)] := hl
  unfold fX5_isOfKind at hf
  refine lv_iload_n (pc := 0) hx hb dX5_isOfKind_0 rfl (lv_at hl 1 rfl) ?_
  refine lv_if_eq (pc := 1) (tgt := 19) hx hb dX5_isOfKind_1 (by decide) (fun c1 => ?_) (fun c1 => ?_)
  · have hf := zz_t c1 hf
    refine lv_iconst (pc := 19) (v := 1) hx hb dX5_isOfKind_19 (by decide) ?_
    refine lv_goto (pc := 20) (tgt := 24) hx hb dX5_isOfKind_20 (by decide) ?_
    exact retZ hx hb hr hlk rfl hf hP hD hS dX5_isOfKind_24
  · have hf := zz_f c1 hf
    refine lv_iload_n (pc := 4) hx hb dX5_isOfKind_4 rfl (lv_at hl 1 rfl) ?_
    refine lv_iload_n (pc := 5) hx hb dX5_isOfKind_5 rfl (lv_at hl 0 rfl) ?_
    refine lv_icmp_eq (pc := 6) (tgt := 19) hx hb dX5_isOfKind_6 (by decide) (fun c6 => ?_) (fun c6 => ?_)
    · have hf := zz_t c6 hf
      refine lv_iconst (pc := 19) (v := 1) hx hb dX5_isOfKind_19 (by decide) ?_
      refine lv_goto (pc := 20) (tgt := 24) hx hb dX5_isOfKind_20 (by decide) ?_
      exact retZ hx hb hr hlk rfl hf hP hD hS dX5_isOfKind_24
    · have hf := zz_f c6 hf
      refine lv_iload_n (pc := 9) hx hb dX5_isOfKind_9 rfl (lv_at hl 1 rfl) ?_
      refine lv_iconst (pc := 10) (v := 2) hx hb dX5_isOfKind_10 (by decide) ?_
      refine lv_icmp_ne (pc := 11) (tgt := 23) hx hb dX5_isOfKind_11 (by decide) (fun c11 => ?_) (fun c11 => ?_)
      · have hf := zz_f c11 hf
        refine lv_iconst (pc := 23) (v := 0) hx hb dX5_isOfKind_23 (by decide) ?_
        exact retZ hx hb hr hlk rfl hf hP hD hS dX5_isOfKind_24
      · have hf := zz_t c11 hf
        refine lv_iload_n (pc := 14) hx hb dX5_isOfKind_14 rfl (lv_at hl 0 rfl) ?_
        refine lv_iconst (pc := 15) (v := 4) hx hb dX5_isOfKind_15 (by decide) ?_
        refine lv_icmp_ne (pc := 16) (tgt := 23) hx hb dX5_isOfKind_16 (by decide) (fun c16 => ?_) (fun c16 => ?_)
        · have hf := zz_f c16 hf
          refine lv_iconst (pc := 23) (v := 0) hx hb dX5_isOfKind_23 (by decide) ?_
          exact retZ hx hb hr hlk rfl hf hP hD hS dX5_isOfKind_24
        · have hf := zz_t c16 hf
          refine lv_iconst (pc := 19) (v := 1) hx hb dX5_isOfKind_19 (by decide) ?_
          refine lv_goto (pc := 20) (tgt := 24) hx hb dX5_isOfKind_20 (by decide) ?_
          exact retZ hx hb hr hlk rfl hf hP hD hS dX5_isOfKind_24
set_option maxHeartbeats 4000000 in
set_option maxRecDepth 100000 in
theorem tX0_listeners {l : Launch} {kv : Nat × Nat} {D : va_G} {N : Nat} {ad : Nat → Nat} {cA : ClassId} {σ : SC} {x1 : Int32} {x2 : Int32} {rF : Int32} (hf : fX0_listeners N σ x1 x2 = some rF) : Ct l kv D [(cA, .int)] yX0_listeners cX0_listeners 6 (some .int) 1 21 (wC ad cA σ) (wC ad cA σ) [.ref (ad 3), .int x1, .int x2] (some (.int rF)) := by
  refine Ct.ofW (by decide) (Nat.le_of_ble_eq_true rfl) ?_
  intro p e s m below meth c A args CF hr hlk hA hP hK hD hN hW hS ls hl
  have hx := CF.1
  have hb := CF.2.1
  have hml := CF.2.2.1
  have hown := CF.2.2.2.1
  have hw : ∀ w ∈ wsA, w.before args s = true := fun w h => CF.2.2.2.2 w (List.mem_cons_of_mem _ h)
  have hl : lv_has ls 6 [(0, .ref (ad 3)), (1, .int x1), (2, .int x2)] := hl
  unfold fX0_listeners at hf
  have J54 : ∀ (x2 : Int32) (x4 : Int32) (z0 : Int32) (H : Heap) (locs : List Loc) (ls : Array Slot), va_P D vwCl (wC ad cA σ) H → va_D A (wC ad cA σ) → va_S A s.heap H locs → lv_has ls 6 [(2, .int x2), (4, .int x4)] → fX0_listeners_54 N σ x2 x4 z0 = some rF → G p l e 1 21 s m args below meth c D A (wC ad cA σ) (some (.int rF)) H locs (F0 m 54 ls [.int z0]) := by
    intro x2 x4 z0 H locs ls hP hD hS hl hf
    unfold fX0_listeners_54 at hf
    refine lv_istore (pc := 54) (lv' := [(5, .int z0), (2, .int x2), (4, .int x4)]) hx hb dX0_listeners_54 hl (by decide) rfl (fun ls hl => ?_)
    refine lv_iload (pc := 56) hx hb dX0_listeners_56 (lv_at hl 0 rfl) ?_
    refine lv_if_eq (pc := 58) (tgt := 72) hx hb dX0_listeners_58 (by decide) (fun c58 => ?_) (fun c58 => ?_)
    · have hf := zz_t c58 hf
      refine lv_iconst (pc := 72) (v := 1) hx hb dX0_listeners_72 (by decide) ?_
      refine lv_iload_n (pc := 73) hx hb dX0_listeners_73 rfl (lv_at hl 1 rfl) ?_
      refine lv_ishl (pc := 74) hx hb dX0_listeners_74 ?_
      exact retI hx hb hr hlk hf hP hD hS dX0_listeners_75
    · have hf := zz_f c58 hf
      refine lv_iconst (pc := 61) (v := 1) hx hb dX0_listeners_61 (by decide) ?_
      refine lv_iload_n (pc := 62) hx hb dX0_listeners_62 rfl (lv_at hl 1 rfl) ?_
      refine lv_ishl (pc := 63) hx hb dX0_listeners_63 ?_
      refine lv_iconst (pc := 64) (v := 1) hx hb dX0_listeners_64 (by decide) ?_
      refine lv_iload (pc := 65) hx hb dX0_listeners_65 (lv_at hl 2 rfl) ?_
      refine lv_ishl (pc := 67) hx hb dX0_listeners_67 ?_
      refine lv_ior (pc := 68) hx hb dX0_listeners_68 ?_
      refine lv_goto (pc := 69) (tgt := 75) hx hb dX0_listeners_69 (by decide) ?_
      exact retI hx hb hr hlk hf hP hD hS dX0_listeners_75
  have J53 : ∀ (x2 : Int32) (x4 : Int32) (H : Heap) (locs : List Loc) (ls : Array Slot), va_P D vwCl (wC ad cA σ) H → va_D A (wC ad cA σ) → va_S A s.heap H locs → lv_has ls 6 [(2, .int x2), (4, .int x4)] → fX0_listeners_53 N σ x2 x4 = some rF → G p l e 1 21 s m args below meth c D A (wC ad cA σ) (some (.int rF)) H locs (F0 m 53 ls []) := by
    intro x2 x4 H locs ls hP hD hS hl hf
    unfold fX0_listeners_53 at hf
    refine lv_iconst (pc := 53) (v := 0) hx hb dX0_listeners_53 (by decide) ?_
    exact J54 x2 x4 0 _ _ _ hP hD hS (lv_sub hl [0, 1] rfl) hf
  refine lv_aload_n (pc := 0) hx hb dX0_listeners_0 rfl (lv_at hl 0 rfl) ?_
  refine lv_iload_n (pc := 1) hx hb dX0_listeners_1 rfl (lv_at hl 1 rfl) ?_
  obtain ⟨v2, h2, hf⟩ := zz_o hf
  refine cV (pc := 2) (rest := []) (st1 := [.int v2]) (q0 := 3) CF (tX0_kindOf h2) hK hP hD hS hA hN hW mL_X0_41 kX0_kindOf nX0_kindOf rfl rfl rfl rfl ⟨by decide, by decide⟩ hl.1 (Nat.le_of_ble_eq_true rfl) ⟨Nat.le_refl _, Nat.le_refl _⟩ rfl dX0_listeners_2 (fun H locs hP hD hS => ?_)
  refine lv_istore_n (pc := 5) (lv' := [(3, .int v2), (0, .ref (ad 3)), (1, .int x1), (2, .int x2)]) hx hb dX0_listeners_5 rfl hl (by decide) rfl (fun ls hl => ?_)
  refine lv_iload_n (pc := 6) hx hb dX0_listeners_6 rfl (lv_at hl 0 rfl) ?_
  refine lv_iconst (pc := 7) (v := 1) hx hb dX0_listeners_7 (by decide) ?_
  refine lv_icmp_eq (pc := 8) (tgt := 19) hx hb dX0_listeners_8 (by decide) (fun c8 => ?_) (fun c8 => ?_)
  · have hf := zz_t c8 hf
    refine lv_iconst (pc := 19) (v := 0) hx hb dX0_listeners_19 (by decide) ?_
    exact retI hx hb hr hlk hf hP hD hS dX0_listeners_20
  · have hf := zz_f c8 hf
    refine lv_aload_n (pc := 11) hx hb dX0_listeners_11 rfl (lv_at hl 1 rfl) ?_
    refine lv_iload_n (pc := 12) hx hb dX0_listeners_12 rfl (lv_at hl 3 rfl) ?_
    obtain ⟨v13, h13, hf⟩ := zz_o hf
    refine cV (pc := 13) (rest := []) (st1 := [.int v13]) (q0 := 3) CF (tX0_has h13) hK hP hD hS hA hN hW mL_X0_44 kX0_has nX0_has rfl rfl rfl rfl ⟨by decide, by decide⟩ hl.1 (Nat.le_of_ble_eq_true rfl) ⟨Nat.le_refl _, Nat.le_refl _⟩ rfl dX0_listeners_13 (fun H locs hP hD hS => ?_)
    refine lv_if_ne (pc := 16) (tgt := 21) hx hb dX0_listeners_16 (by decide) (fun c16 => ?_) (fun c16 => ?_)
    · have hf := zz_f c16 hf
      refine lv_iload_n (pc := 21) hx hb dX0_listeners_21 rfl (lv_at hl 3 rfl) ?_
      refine lv_iconst (pc := 22) (v := 1) hx hb dX0_listeners_22 (by decide) ?_
      refine lv_iadd (pc := 23) hx hb dX0_listeners_23 ?_
      refine lv_istore (pc := 24) (lv' := [(4, .int (x2 + 1)), (3, .int v2), (0, .ref (ad 3)), (1, .int x1), (2, .int x2)]) hx hb dX0_listeners_24 hl (by decide) rfl (fun ls hl => ?_)
      refine lv_iload_n (pc := 26) hx hb dX0_listeners_26 rfl (lv_at hl 1 rfl) ?_
      refine lv_iconst (pc := 27) (v := 2) hx hb dX0_listeners_27 (by decide) ?_
      obtain ⟨v28, h28, hf⟩ := zz_o hf
      refine cSN (pc := 28) (rest := []) (st1 := [.int v28]) CF (tX5_isOfKind h28) hK hP hD hS hA hN hW (nm 0) kX5_isOfKind nX5_isOfKind rfl rfl ⟨by decide, by decide⟩ hl.1 (Nat.le_of_ble_eq_true rfl) ⟨Nat.le_refl _, Nat.le_refl _⟩ rfl dX0_listeners_28 (fun H locs hP hD hS => ?_)
      refine lv_if_eq (pc := 31) (tgt := 53) hx hb dX0_listeners_31 (by decide) (fun c31 => ?_) (fun c31 => ?_)
      · have hf := zz_t c31 hf
        exact J53 x2 (x2 + 1) _ _ _ hP hD hS (lv_sub hl [4, 0] rfl) hf
      · have hf := zz_f c31 hf
        refine lv_aload_n (pc := 34) hx hb dX0_listeners_34 rfl (lv_at hl 2 rfl) ?_
        refine lv_iload (pc := 35) hx hb dX0_listeners_35 (lv_at hl 0 rfl) ?_
        obtain ⟨v37, h37, hf⟩ := zz_o hf
        refine cV (pc := 37) (rest := []) (st1 := [.int v37]) (q0 := 3) CF (tX0_has h37) hK hP hD hS hA hN hW mL_X0_44 kX0_has nX0_has rfl rfl rfl rfl ⟨by decide, by decide⟩ hl.1 (Nat.le_of_ble_eq_true rfl) ⟨Nat.le_refl _, Nat.le_refl _⟩ rfl dX0_listeners_37 (fun H locs hP hD hS => ?_)
        refine lv_if_eq (pc := 40) (tgt := 53) hx hb dX0_listeners_40 (by decide) (fun c40 => ?_) (fun c40 => ?_)
        · have hf := zz_t c40 hf
          exact J53 x2 (x2 + 1) _ _ _ hP hD hS (lv_sub hl [4, 0] rfl) hf
        · have hf := zz_f c40 hf
          refine lv_iload (pc := 43) hx hb dX0_listeners_43 (lv_at hl 0 rfl) ?_
          refine lv_iload_n (pc := 45) hx hb dX0_listeners_45 rfl (lv_at hl 3 rfl) ?_
          refine lv_icmp_eq (pc := 46) (tgt := 53) hx hb dX0_listeners_46 (by decide) (fun c46 => ?_) (fun c46 => ?_)
          · have hf := zz_t c46 hf
            exact J53 x2 (x2 + 1) _ _ _ hP hD hS (lv_sub hl [4, 0] rfl) hf
          · have hf := zz_f c46 hf
            refine lv_iconst (pc := 49) (v := 1) hx hb dX0_listeners_49 (by decide) ?_
            refine lv_goto (pc := 50) (tgt := 54) hx hb dX0_listeners_50 (by decide) ?_
            exact J54 x2 (x2 + 1) 1 _ _ _ hP hD hS (lv_sub hl [4, 0] rfl) hf
    · have hf := zz_t c16 hf
      refine lv_iconst (pc := 19) (v := 0) hx hb dX0_listeners_19 (by decide) ?_
      exact retI hx hb hr hlk hf hP hD hS dX0_listeners_20
set_option maxHeartbeats 4000000 in
set_option maxRecDepth 100000 in
theorem tX5_point {l : Launch} {kv : Nat × Nat} {D : va_G} {N : Nat} {ad : Nat → Nat} {cA : ClassId} {σ : SC} {x1 : Int32} {x2 : Int32} {σF : SC} (hf : fX5_point N σ x1 x2 = some σF) : Ct l kv D [(cA, .int)] yX5_point cX5_point 4 none 2 46 (wC ad cA σ) (wC ad cA σF) [.ref (ad 0), .int x1, .int x2] (none) := by
  refine Ct.ofW (by decide) (Nat.le_of_ble_eq_true rfl) ?_
  intro p e s m below meth c A args CF hr hlk hA hP hK hD hN hW hS ls hl
  have hx := CF.1
  have hb := CF.2.1
  have hml := CF.2.2.1
  have hown := CF.2.2.2.1
  have hw : ∀ w ∈ wsA, w.before args s = true := fun w h => CF.2.2.2.2 w (List.mem_cons_of_mem _ h)
  have hl : lv_has ls 4 [(0, .ref (ad 0)), (1, .int x1), (2, .int x2)] := hl
  unfold fX5_point at hf
  have J10 : ∀ (σ : SC) (x1 : Int32) (z0 : Int32) (H : Heap) (locs : List Loc) (ls : Array Slot), va_P D vwCl (wC ad cA σ) H → va_D A (wC ad cA σ) → va_S A s.heap H locs → lv_has ls 4 [(0, .ref (ad 0)), (1, .int x1)] → fX5_point_10 N σ x1 z0 = some σF → G p l e 2 46 s m args below meth c D A (wC ad cA σF) (none) H locs (F0 m 10 ls [.int z0]) := by
    intro σ x1 z0 H locs ls hP hD hS hl hf
    unfold fX5_point_10 at hf
    refine lv_istore_n (pc := 10) (lv' := [(3, .int z0), (0, .ref (ad 0)), (1, .int x1)]) hx hb dX5_point_10 rfl hl (by decide) rfl (fun ls hl => ?_)
    refine lv_aload_n (pc := 11) hx hb dX5_point_11 rfl (lv_at hl 1 rfl) ?_
    refine gc_0_now (pc := 12) CF hK hP mF_X5_26 dX5_point_12 ?_
    refine lv_iload_n (pc := 15) hx hb dX5_point_15 rfl (lv_at hl 2 rfl) ?_
    refine lv_iload_n (pc := 16) hx hb dX5_point_16 rfl (lv_at hl 0 rfl) ?_
    refine lv_aload_n (pc := 17) hx hb dX5_point_17 rfl (lv_at hl 1 rfl) ?_
    refine gc_0_ground (pc := 18) CF hK hP mF_X5_19 dX5_point_18 ?_
    refine lv_iload_n (pc := 21) hx hb dX5_point_21 rfl (lv_at hl 2 rfl) ?_
    refine lv_iload_n (pc := 22) hx hb dX5_point_22 rfl (lv_at hl 0 rfl) ?_
    obtain ⟨v23, h23, hf⟩ := zz_o hf
    refine cV (pc := 23) (rest := [.int z0, .int x1, .ref (ad 5)]) (st1 := [.int v23, .int z0, .int x1, .ref (ad 5)]) (q0 := 3) CF (tX0_listeners h23) hK hP hD hS hA hN hW mL_X5_123 kX0_listeners nX0_listeners rfl rfl rfl rfl ⟨by decide, by decide⟩ hl.1 (Nat.le_of_ble_eq_true rfl) ⟨Nat.le_refl _, Nat.le_refl _⟩ rfl dX5_point_23 (fun H locs hP hD hS => ?_)
    obtain ⟨σ26, h26, hf⟩ := zz_o hf
    refine cV (pc := 26) (rest := []) (st1 := []) (q0 := 5) CF (tX2_setNext h26) hK hP hD hS hA hN hW mL_X5_127 kX2_setNext nX2_setNext rfl rfl rfl rfl ⟨by decide, by decide⟩ hl.1 (Nat.le_of_ble_eq_true rfl) ⟨Nat.le_refl _, Nat.le_refl _⟩ rfl dX5_point_26 (fun H locs hP hD hS => ?_)
    exact retVw (wf := wC ad cA) hx hb hr hlk hf hP hD hS dX5_point_29
  refine lv_iload_n (pc := 0) hx hb dX5_point_0 rfl (lv_at hl 2 rfl) ?_
  refine lv_iload_n (pc := 1) hx hb dX5_point_1 rfl (lv_at hl 1 rfl) ?_
  refine lv_icmp_ne (pc := 2) (tgt := 9) hx hb dX5_point_2 (by decide) (fun c2 => ?_) (fun c2 => ?_)
  · have hf := zz_f c2 hf
    refine lv_iload_n (pc := 9) hx hb dX5_point_9 rfl (lv_at hl 2 rfl) ?_
    exact J10 σ x1 x2 _ _ _ hP hD hS (lv_sub hl [0, 1] rfl) hf
  · have hf := zz_t c2 hf
    refine lv_iconst (pc := 5) (v := (-1)) hx hb dX5_point_5 (by decide) ?_
    refine lv_goto (pc := 6) (tgt := 10) hx hb dX5_point_6 (by decide) ?_
    exact J10 σ x1 (-1) _ _ _ hP hD hS (lv_sub hl [0, 1] rfl) hf
set_option maxHeartbeats 4000000 in
set_option maxRecDepth 100000 in
theorem tX5_hill {l : Launch} {kv : Nat × Nat} {D : va_G} {N : Nat} {ad : Nat → Nat} {cA : ClassId} {σ : SC} {rF : Int32} {σF : SC} (hf : fX5_hill N σ = some (rF, σF)) : Ct l kv D [(cA, .int)] yX5_hill cX5_hill 3 (some .int) 8 175 (wC ad cA σ) (wC ad cA σF) [.ref (ad 0)] (some (.int rF)) := by
  refine Ct.ofW (by decide) (Nat.le_of_ble_eq_true rfl) ?_
  intro p e s m below meth c A args CF hr hlk hA hP hK hD hN hW hS ls hl
  have hx := CF.1
  have hb := CF.2.1
  have hml := CF.2.2.1
  have hown := CF.2.2.2.1
  have hw : ∀ w ∈ wsA, w.before args s = true := fun w h => CF.2.2.2.2 w (List.mem_cons_of_mem _ h)
  have hl : lv_has ls 3 [(0, .ref (ad 0))] := hl
  unfold fX5_hill at hf
  have L33 : ∀ (n33 : Nat) (σ : SC) (x1 : Int32) (H : Heap) (locs : List Loc) (ls : Array Slot), va_P D vwCl (wC ad cA σ) H → va_D A (wC ad cA σ) → va_S A s.heap H locs → lv_has ls 3 [(0, .ref (ad 0)), (1, .int x1)] → fX5_hill_33 N n33 σ x1 = some (rF, σF) → G p l e 8 175 s m args below meth c D A (wC ad cA σF) (some (.int rF)) H locs (F0 m 33 ls []) := by
    intro n33
    induction n33 with
    | zero => intro σ x1 H locs ls hP hD hS hl hf; exact absurd hf (by simp [fX5_hill_33])
    | succ n33 ih33 =>
      have J71 : ∀ (σ : SC) (x1 : Int32) (z0 : Int32) (z1 : Int32) (H : Heap) (locs : List Loc) (ls : Array Slot), va_P D vwCl (wC ad cA σ) H → va_D A (wC ad cA σ) → va_S A s.heap H locs → lv_has ls 3 [(0, .ref (ad 0)), (1, .int x1)] → fX5_hill_71 N (fX5_hill_33 N n33) σ x1 z0 z1 = some (rF, σF) → G p l e 8 175 s m args below meth c D A (wC ad cA σF) (some (.int rF)) H locs (F0 m 71 ls [.int z0, .int z1, .ref (ad 0)]) := by
        intro σ x1 z0 z1 H locs ls hP hD hS hl hf
        unfold fX5_hill_71 at hf
        obtain ⟨σ71, h71, hf⟩ := zz_o hf
        refine cV (pc := 71) (rest := []) (st1 := []) (q0 := 0) CF (tX5_point h71) hK hP hD hS hA hN hW mL_X5_94 kX5_point nX5_point rfl rfl rfl rfl ⟨by decide, by decide⟩ hl.1 (Nat.le_of_ble_eq_true rfl) ⟨Nat.le_refl _, Nat.le_refl _⟩ rfl dX5_hill_71 (fun H locs hP hD hS => ?_)
        refine lv_iinc (pc := 74) (v := (x1 + 1)) (lv' := [(1, .int (x1 + 1)), (0, .ref (ad 0))]) hx hb dX5_hill_74 hl (k := 1) rfl rfl (by decide) rfl (fun ls hl => ?_)
        refine lv_goto (pc := 77) (tgt := 33) hx hb dX5_hill_77 (by decide) ?_
        exact ih33 σ71 (x1 + 1) _ _ _ hP hD hS (lv_sub hl [1, 0] rfl) hf
      intro σ x1 H locs ls hP hD hS hl hf
      rw [fX5_hill_33] at hf
      refine lv_iload_n (pc := 33) hx hb dX5_hill_33 rfl (lv_at hl 1 rfl) ?_
      refine lv_aload_n (pc := 34) hx hb dX5_hill_34 rfl (lv_at hl 0 rfl) ?_
      refine gc_0_ground (pc := 35) CF hK hP mF_X5_19 dX5_hill_35 ?_
      refine gcN_3_people (pc := 38) CF hK hP hN (nf 3) dX5_hill_38 ?_
      refine lv_icmp_ge (pc := 41) (tgt := 80) hx hb dX5_hill_41 (by decide) (fun c41 => ?_) (fun c41 => ?_)
      · have hf := zz_t c41 hf
        refine lv_aload_n (pc := 80) hx hb dX5_hill_80 rfl (lv_at hl 0 rfl) ?_
        refine lv_iconst (pc := 81) (v := 0) hx hb dX5_hill_81 (by decide) ?_
        refine pc_0_hasImage (pc := 82) CF hK hP hD hS ⟨rfl, rfl⟩ mF_X5_51 dX5_hill_82 (fun H locs hP hD hS => ?_)
        obtain ⟨σ82, hP, hD, hf⟩ := zz_g (w := wC ad cA) hP hD hf
        refine lv_aload_n (pc := 85) hx hb dX5_hill_85 rfl (lv_at hl 0 rfl) ?_
        refine lv_dup (pc := 86) hx hb dX5_hill_86 rfl ?_
        refine gc_0_readings (pc := 87) CF hK hP mF_X5_55 dX5_hill_87 ?_
        refine lv_iconst (pc := 90) (v := 1) hx hb dX5_hill_90 (by decide) ?_
        refine lv_iadd (pc := 91) hx hb dX5_hill_91 ?_
        refine pc_0_readings (pc := 92) CF hK hP hD hS mF_X5_55 dX5_hill_92 (fun H locs hP hD hS => ?_)
        obtain ⟨σ92, hP, hD, hf⟩ := zz_g (w := wC ad cA) hP hD hf
        refine lv_aload_n (pc := 95) hx hb dX5_hill_95 rfl (lv_at hl 0 rfl) ?_
        refine gc_0_page (pc := 96) CF hK hP mF_X5_10 dX5_hill_96 ?_
        obtain ⟨σ99, h99, hf⟩ := zz_o hf
        refine cV (pc := 99) (rest := []) (st1 := []) (q0 := 1) CF (tX1_clear h99) hK hP hD hS hA hN hW mL_X5_66 kX1_clear nX1_clear rfl rfl rfl rfl ⟨by decide, by decide⟩ hl.1 (Nat.le_of_ble_eq_true rfl) ⟨Nat.le_refl _, Nat.le_refl _⟩ rfl dX5_hill_99 (fun H locs hP hD hS => ?_)
        refine lv_aload_n (pc := 102) hx hb dX5_hill_102 rfl (lv_at hl 0 rfl) ?_
        refine gc_0_ground (pc := 103) CF hK hP mF_X5_19 dX5_hill_103 ?_
        refine gcN_3_people (pc := 106) CF hK hP hN (nf 3) dX5_hill_106 ?_
        exact retIw (wf := wC ad cA) hx hb hr hlk hf hP hD hS dX5_hill_109
      · have hf := zz_f c41 hf
        refine lv_aload_n (pc := 44) hx hb dX5_hill_44 rfl (lv_at hl 0 rfl) ?_
        refine gc_0_page (pc := 45) CF hK hP mF_X5_10 dX5_hill_45 ?_
        refine lv_iload_n (pc := 48) hx hb dX5_hill_48 rfl (lv_at hl 1 rfl) ?_
        obtain ⟨v49, h49, hf⟩ := zz_o hf
        refine cV (pc := 49) (rest := []) (st1 := [.int v49]) (q0 := 1) CF (tX1_nextWritten h49) hK hP hD hS hA hN hW mL_X5_87 kX1_nextWritten nX1_nextWritten rfl rfl rfl rfl ⟨by decide, by decide⟩ hl.1 (Nat.le_of_ble_eq_true rfl) ⟨Nat.le_refl _, Nat.le_refl _⟩ rfl dX5_hill_49 (fun H locs hP hD hS => ?_)
        refine lv_istore_n (pc := 52) (lv' := [(2, .int v49), (0, .ref (ad 0)), (1, .int x1)]) hx hb dX5_hill_52 rfl hl (by decide) rfl (fun ls hl => ?_)
        refine lv_aload_n (pc := 53) hx hb dX5_hill_53 rfl (lv_at hl 1 rfl) ?_
        refine lv_iload_n (pc := 54) hx hb dX5_hill_54 rfl (lv_at hl 2 rfl) ?_
        refine lv_aload_n (pc := 55) hx hb dX5_hill_55 rfl (lv_at hl 1 rfl) ?_
        refine gc_0_ground (pc := 56) CF hK hP mF_X5_19 dX5_hill_56 ?_
        refine lv_iload_n (pc := 59) hx hb dX5_hill_59 rfl (lv_at hl 0 rfl) ?_
        obtain ⟨v60, h60, hf⟩ := zz_o hf
        refine cV (pc := 60) (rest := [.int x1, .ref (ad 0)]) (st1 := [.int v60, .int x1, .ref (ad 0)]) (q0 := 3) CF (tX0_has h60) hK hP hD hS hA hN hW mL_X5_91 kX0_has nX0_has rfl rfl rfl rfl ⟨by decide, by decide⟩ hl.1 (Nat.le_of_ble_eq_true rfl) ⟨Nat.le_refl _, Nat.le_refl _⟩ rfl dX5_hill_60 (fun H locs hP hD hS => ?_)
        refine lv_if_eq (pc := 63) (tgt := 70) hx hb dX5_hill_63 (by decide) (fun c63 => ?_) (fun c63 => ?_)
        · have hf := zz_t c63 hf
          refine lv_iconst (pc := 70) (v := (-1)) hx hb dX5_hill_70 (by decide) ?_
          exact J71 σ x1 (-1) x1 _ _ _ hP hD hS (lv_sub hl [1, 2] rfl) hf
        · have hf := zz_f c63 hf
          refine lv_iload_n (pc := 66) hx hb dX5_hill_66 rfl (lv_at hl 0 rfl) ?_
          refine lv_goto (pc := 67) (tgt := 71) hx hb dX5_hill_67 (by decide) ?_
          exact J71 σ x1 v49 x1 _ _ _ hP hD hS (lv_sub hl [1, 2] rfl) hf
  refine lv_aload_n (pc := 0) hx hb dX5_hill_0 rfl (lv_at hl 0 rfl) ?_
  refine gc_0_page (pc := 1) CF hK hP mF_X5_10 dX5_hill_1 ?_
  obtain ⟨v4, h4, hf⟩ := zz_o hf
  refine cV (pc := 4) (rest := []) (st1 := [.int v4]) (q0 := 1) CF (tX1_isHill h4) hK hP hD hS hA hN hW mL_X5_73 kX1_isHill nX1_isHill rfl rfl rfl rfl ⟨by decide, by decide⟩ hl.1 (Nat.le_of_ble_eq_true rfl) ⟨Nat.le_refl _, Nat.le_refl _⟩ rfl dX5_hill_4 (fun H locs hP hD hS => ?_)
  refine lv_if_ne (pc := 7) (tgt := 13) hx hb dX5_hill_7 (by decide) (fun c7 => ?_) (fun c7 => ?_)
  · have hf := zz_f c7 hf
    refine lv_aload_n (pc := 13) hx hb dX5_hill_13 rfl (lv_at hl 0 rfl) ?_
    refine gc_0_ground (pc := 14) CF hK hP mF_X5_19 dX5_hill_14 ?_
    refine lv_aload_n (pc := 17) hx hb dX5_hill_17 rfl (lv_at hl 0 rfl) ?_
    refine gc_0_page (pc := 18) CF hK hP mF_X5_10 dX5_hill_18 ?_
    obtain ⟨σ21, h21, hf⟩ := zz_o hf
    refine cV (pc := 21) (rest := []) (st1 := []) (q0 := 3) CF (tX0_read h21) hK hP hD hS hA hN hW mL_X5_77 kX0_read nX0_read rfl rfl rfl rfl ⟨by decide, by decide⟩ hl.1 (Nat.le_of_ble_eq_true rfl) ⟨Nat.le_refl _, Nat.le_refl _⟩ rfl dX5_hill_21 (fun H locs hP hD hS => ?_)
    refine lv_aload_n (pc := 24) hx hb dX5_hill_24 rfl (lv_at hl 0 rfl) ?_
    refine gc_0_now (pc := 25) CF hK hP mF_X5_26 dX5_hill_25 ?_
    obtain ⟨σ28, h28, hf⟩ := zz_o hf
    refine cV (pc := 28) (rest := []) (st1 := []) (q0 := 5) CF (tX2_begin h28) hK hP hD hS hA hN hW mL_X5_81 kX2_begin nX2_begin rfl rfl rfl rfl ⟨by decide, by decide⟩ hl.1 (Nat.le_of_ble_eq_true rfl) ⟨Nat.le_refl _, Nat.le_refl _⟩ rfl dX5_hill_28 (fun H locs hP hD hS => ?_)
    refine lv_iconst (pc := 31) (v := 0) hx hb dX5_hill_31 (by decide) ?_
    refine lv_istore_n (pc := 32) (lv' := [(1, .int 0), (0, .ref (ad 0))]) hx hb dX5_hill_32 rfl hl (by decide) rfl (fun ls hl => ?_)
    exact L33 N σ28 0 _ _ _ hP hD hS (lv_sub hl [1, 0] rfl) hf
  · have hf := zz_t c7 hf
    refine lv_bipush (pc := 10) (v := (-103)) hx hb dX5_hill_10 (by decide) ?_
    exact retIw (wf := wC ad cA) hx hb hr hlk hf hP hD hS dX5_hill_12
set_option maxHeartbeats 4000000 in
set_option maxRecDepth 100000 in
theorem tX2_nextOf {l : Launch} {kv : Nat × Nat} {D : va_G} {N : Nat} {ad : Nat → Nat} {cA : ClassId} {σ : SC} {x1 : Int32} {rF : Int32} (hf : fX2_nextOf N σ x1 = some rF) : Ct l kv D [(cA, .int)] yX2_nextOf cX2_nextOf 2 (some .int) 0 0 (wC ad cA σ) (wC ad cA σ) [.ref (ad 5), .int x1] (some (.int rF)) := by
  refine Ct.ofW (by decide) (Nat.le_of_ble_eq_true rfl) ?_
  intro p e s m below meth c A args CF hr hlk hA hP hK hD hN hW hS ls hl
  have hx := CF.1
  have hb := CF.2.1
  have hml := CF.2.2.1
  have hown := CF.2.2.2.1
  have hw : ∀ w ∈ wsA, w.before args s = true := fun w h => CF.2.2.2.2 w (List.mem_cons_of_mem _ h)
  have hl : lv_has ls 2 [(0, .ref (ad 5)), (1, .int x1)] := hl
  unfold fX2_nextOf at hf
  refine lv_iload_n (pc := 0) hx hb dX2_nextOf_0 rfl (lv_at hl 1 rfl) ?_
  refine lv_if_lt (pc := 1) (tgt := 22) hx hb dX2_nextOf_1 (by decide) (fun c1 => ?_) (fun c1 => ?_)
  · have hf := zz_t c1 hf
    refine lv_iconst (pc := 22) (v := (-1)) hx hb dX2_nextOf_22 (by decide) ?_
    exact retI hx hb hr hlk hf hP hD hS dX2_nextOf_23
  · have hf := zz_f c1 hf
    refine lv_iload_n (pc := 4) hx hb dX2_nextOf_4 rfl (lv_at hl 1 rfl) ?_
    refine lv_aload_n (pc := 5) hx hb dX2_nextOf_5 rfl (lv_at hl 0 rfl) ?_
    refine gc_5_nexts (pc := 6) CF hK hP mF_X2_9 dX2_nextOf_6 ?_
    refine nc_nexts (pc := 9) hx hb hK hP dX2_nextOf_9 ?_
    refine lv_icmp_ge (pc := 10) (tgt := 22) hx hb dX2_nextOf_10 (by decide) (fun c10 => ?_) (fun c10 => ?_)
    · have hf := zz_t c10 hf
      refine lv_iconst (pc := 22) (v := (-1)) hx hb dX2_nextOf_22 (by decide) ?_
      exact retI hx hb hr hlk hf hP hD hS dX2_nextOf_23
    · have hf := zz_f c10 hf
      refine lv_aload_n (pc := 13) hx hb dX2_nextOf_13 rfl (lv_at hl 0 rfl) ?_
      refine gc_5_nexts (pc := 14) CF hK hP mF_X2_9 dX2_nextOf_14 ?_
      refine lv_iload_n (pc := 17) hx hb dX2_nextOf_17 rfl (lv_at hl 1 rfl) ?_
      obtain ⟨c18, hf⟩ := zz_k hf
      refine lc_nexts (pc := 18) hx hb hK hP c18 dX2_nextOf_18 ?_
      refine lv_goto (pc := 19) (tgt := 23) hx hb dX2_nextOf_19 (by decide) ?_
      exact retI hx hb hr hlk hf hP hD hS dX2_nextOf_23
set_option maxHeartbeats 4000000 in
set_option maxRecDepth 100000 in
theorem tX2_listenersOf {l : Launch} {kv : Nat × Nat} {D : va_G} {N : Nat} {ad : Nat → Nat} {cA : ClassId} {σ : SC} {x1 : Int32} {rF : Int32} (hf : fX2_listenersOf N σ x1 = some rF) : Ct l kv D [(cA, .int)] yX2_listenersOf cX2_listenersOf 2 (some .int) 0 0 (wC ad cA σ) (wC ad cA σ) [.ref (ad 5), .int x1] (some (.int rF)) := by
  refine Ct.ofW (by decide) (Nat.le_of_ble_eq_true rfl) ?_
  intro p e s m below meth c A args CF hr hlk hA hP hK hD hN hW hS ls hl
  have hx := CF.1
  have hb := CF.2.1
  have hml := CF.2.2.1
  have hown := CF.2.2.2.1
  have hw : ∀ w ∈ wsA, w.before args s = true := fun w h => CF.2.2.2.2 w (List.mem_cons_of_mem _ h)
  have hl : lv_has ls 2 [(0, .ref (ad 5)), (1, .int x1)] := hl
  unfold fX2_listenersOf at hf
  refine lv_iload_n (pc := 0) hx hb dX2_listenersOf_0 rfl (lv_at hl 1 rfl) ?_
  refine lv_if_lt (pc := 1) (tgt := 22) hx hb dX2_listenersOf_1 (by decide) (fun c1 => ?_) (fun c1 => ?_)
  · have hf := zz_t c1 hf
    refine lv_iconst (pc := 22) (v := 0) hx hb dX2_listenersOf_22 (by decide) ?_
    exact retI hx hb hr hlk hf hP hD hS dX2_listenersOf_23
  · have hf := zz_f c1 hf
    refine lv_iload_n (pc := 4) hx hb dX2_listenersOf_4 rfl (lv_at hl 1 rfl) ?_
    refine lv_aload_n (pc := 5) hx hb dX2_listenersOf_5 rfl (lv_at hl 0 rfl) ?_
    refine gc_5_listeners (pc := 6) CF hK hP mF_X2_15 dX2_listenersOf_6 ?_
    refine nc_lsts (pc := 9) hx hb hK hP dX2_listenersOf_9 ?_
    refine lv_icmp_ge (pc := 10) (tgt := 22) hx hb dX2_listenersOf_10 (by decide) (fun c10 => ?_) (fun c10 => ?_)
    · have hf := zz_t c10 hf
      refine lv_iconst (pc := 22) (v := 0) hx hb dX2_listenersOf_22 (by decide) ?_
      exact retI hx hb hr hlk hf hP hD hS dX2_listenersOf_23
    · have hf := zz_f c10 hf
      refine lv_aload_n (pc := 13) hx hb dX2_listenersOf_13 rfl (lv_at hl 0 rfl) ?_
      refine gc_5_listeners (pc := 14) CF hK hP mF_X2_15 dX2_listenersOf_14 ?_
      refine lv_iload_n (pc := 17) hx hb dX2_listenersOf_17 rfl (lv_at hl 1 rfl) ?_
      obtain ⟨c18, hf⟩ := zz_k hf
      refine lc_lsts (pc := 18) hx hb hK hP c18 dX2_listenersOf_18 ?_
      refine lv_goto (pc := 19) (tgt := 23) hx hb dX2_listenersOf_19 (by decide) ?_
      exact retI hx hb hr hlk hf hP hD hS dX2_listenersOf_23
set_option maxHeartbeats 4000000 in
set_option maxRecDepth 100000 in
theorem tX5_isIn {l : Launch} {kv : Nat × Nat} {D : va_G} {N : Nat} {tys : List (ClassId × FieldType)} {ws : va_W} {x0 : Int32} {x1 : Int32} {rF : Int32} (hf : fX5_isIn N x0 x1 = some rF) : Ct l kv D tys yX5_isIn cX5_isIn 2 (some .boolean) 0 0 ws ws [.int x0, .int x1] (some (.int rF)) := by
  refine Ct.ofW (by decide) (Nat.le_of_ble_eq_true rfl) ?_
  intro p e s m below meth c A args CF hr hlk hA hP hK hD hN hW hS ls hl
  have hx := CF.1
  have hb := CF.2.1
  have hml := CF.2.2.1
  have hown := CF.2.2.2.1
  have hw : ∀ w ∈ wsA, w.before args s = true := fun w h => CF.2.2.2.2 w (List.mem_cons_of_mem _ h)
  have hl : lv_has ls 2 [(0, .int x0), (1, .int x1)] := hl
  unfold fX5_isIn at hf
  refine lv_iload_n (pc := 0) hx hb dX5_isIn_0 rfl (lv_at hl 1 rfl) ?_
  refine lv_iload_n (pc := 1) hx hb dX5_isIn_1 rfl (lv_at hl 0 rfl) ?_
  refine lv_ishr (pc := 2) hx hb dX5_isIn_2 ?_
  refine lv_iconst (pc := 3) (v := 1) hx hb dX5_isIn_3 (by decide) ?_
  refine lv_iand (pc := 4) hx hb dX5_isIn_4 ?_
  refine lv_if_eq (pc := 5) (tgt := 12) hx hb dX5_isIn_5 (by decide) (fun c5 => ?_) (fun c5 => ?_)
  · have hf := zz_t c5 hf
    refine lv_iconst (pc := 12) (v := 0) hx hb dX5_isIn_12 (by decide) ?_
    exact retZ hx hb hr hlk rfl hf hP hD hS dX5_isIn_13
  · have hf := zz_f c5 hf
    refine lv_iconst (pc := 8) (v := 1) hx hb dX5_isIn_8 (by decide) ?_
    refine lv_goto (pc := 9) (tgt := 13) hx hb dX5_isIn_9 (by decide) ?_
    exact retZ hx hb hr hlk rfl hf hP hD hS dX5_isIn_13
set_option maxHeartbeats 4000000 in
set_option maxRecDepth 100000 in
theorem tX2_tunnelsHeardBy {l : Launch} {kv : Nat × Nat} {D : va_G} {N : Nat} {ad : Nat → Nat} {cA : ClassId} {σ : SC} {x1 : Int32} {rF : Int32} (hf : fX2_tunnelsHeardBy N σ x1 = some rF) : Ct l kv D [(cA, .int)] yX2_tunnelsHeardBy cX2_tunnelsHeardBy 4 (some .int) 1 21 (wC ad cA σ) (wC ad cA σ) [.ref (ad 5), .int x1] (some (.int rF)) := by
  refine Ct.ofW (by decide) (Nat.le_of_ble_eq_true rfl) ?_
  intro p e s m below meth c A args CF hr hlk hA hP hK hD hN hW hS ls hl
  have hx := CF.1
  have hb := CF.2.1
  have hml := CF.2.2.1
  have hown := CF.2.2.2.1
  have hw : ∀ w ∈ wsA, w.before args s = true := fun w h => CF.2.2.2.2 w (List.mem_cons_of_mem _ h)
  have hl : lv_has ls 4 [(0, .ref (ad 5)), (1, .int x1)] := hl
  unfold fX2_tunnelsHeardBy at hf
  have L4 : ∀ (n4 : Nat) (x1 : Int32) (x2 : Int32) (x3 : Int32) (H : Heap) (locs : List Loc) (ls : Array Slot), va_P D vwCl (wC ad cA σ) H → va_D A (wC ad cA σ) → va_S A s.heap H locs → lv_has ls 4 [(0, .ref (ad 5)), (1, .int x1), (2, .int x2), (3, .int x3)] → fX2_tunnelsHeardBy_4 N n4 σ x1 x2 x3 = some rF → G p l e 1 21 s m args below meth c D A (wC ad cA σ) (some (.int rF)) H locs (F0 m 4 ls []) := by
    intro n4
    induction n4 with
    | zero => intro x1 x2 x3 H locs ls hP hD hS hl hf; exact absurd hf (by simp [fX2_tunnelsHeardBy_4])
    | succ n4 ih4 =>
      intro x1 x2 x3 H locs ls hP hD hS hl hf
      rw [fX2_tunnelsHeardBy_4] at hf
      refine lv_iload_n (pc := 4) hx hb dX2_tunnelsHeardBy_4 rfl (lv_at hl 3 rfl) ?_
      refine lv_iconst (pc := 5) (v := 3) hx hb dX2_tunnelsHeardBy_5 (by decide) ?_
      refine lv_icmp_ge (pc := 6) (tgt := 34) hx hb dX2_tunnelsHeardBy_6 (by decide) (fun c6 => ?_) (fun c6 => ?_)
      · have hf := zz_t c6 hf
        refine lv_iload_n (pc := 34) hx hb dX2_tunnelsHeardBy_34 rfl (lv_at hl 2 rfl) ?_
        exact retI hx hb hr hlk hf hP hD hS dX2_tunnelsHeardBy_35
      · have hf := zz_f c6 hf
        refine lv_iload_n (pc := 9) hx hb dX2_tunnelsHeardBy_9 rfl (lv_at hl 1 rfl) ?_
        refine lv_aload_n (pc := 10) hx hb dX2_tunnelsHeardBy_10 rfl (lv_at hl 0 rfl) ?_
        refine gc_5_heard (pc := 11) CF hK hP mF_X2_18 dX2_tunnelsHeardBy_11 ?_
        refine lv_iload_n (pc := 14) hx hb dX2_tunnelsHeardBy_14 rfl (lv_at hl 3 rfl) ?_
        obtain ⟨c15, hf⟩ := zz_k hf
        refine lc_heard (pc := 15) hx hb hK hP c15 dX2_tunnelsHeardBy_15 ?_
        obtain ⟨v16, h16, hf⟩ := zz_o hf
        refine cSN (pc := 16) (rest := []) (st1 := [.int v16]) CF (tX5_isIn h16) hK hP hD hS hA hN hW (nm 1) kX5_isIn nX5_isIn rfl rfl ⟨by decide, by decide⟩ hl.1 (Nat.le_of_ble_eq_true rfl) ⟨Nat.le_refl _, Nat.le_refl _⟩ rfl dX2_tunnelsHeardBy_16 (fun H locs hP hD hS => ?_)
        refine lv_if_eq (pc := 19) (tgt := 28) hx hb dX2_tunnelsHeardBy_19 (by decide) (fun c19 => ?_) (fun c19 => ?_)
        · have hf := zz_t c19 hf
          refine lv_iinc (pc := 28) (v := (x3 + 1)) (lv' := [(3, .int (x3 + 1)), (0, .ref (ad 5)), (1, .int x1), (2, .int x2)]) hx hb dX2_tunnelsHeardBy_28 hl (k := 3) rfl rfl (by decide) rfl (fun ls hl => ?_)
          refine lv_goto (pc := 31) (tgt := 4) hx hb dX2_tunnelsHeardBy_31 (by decide) ?_
          exact ih4 x1 x2 (x3 + 1) _ _ _ hP hD hS (lv_sub hl [1, 2, 3, 0] rfl) hf
        · have hf := zz_f c19 hf
          refine lv_iload_n (pc := 22) hx hb dX2_tunnelsHeardBy_22 rfl (lv_at hl 2 rfl) ?_
          refine lv_iconst (pc := 23) (v := 1) hx hb dX2_tunnelsHeardBy_23 (by decide) ?_
          refine lv_iload_n (pc := 24) hx hb dX2_tunnelsHeardBy_24 rfl (lv_at hl 3 rfl) ?_
          refine lv_ishl (pc := 25) hx hb dX2_tunnelsHeardBy_25 ?_
          refine lv_ior (pc := 26) hx hb dX2_tunnelsHeardBy_26 ?_
          refine lv_istore_n (pc := 27) (lv' := [(2, .int (x2 ||| (1 <<< (x3 &&& 31)))), (0, .ref (ad 5)), (1, .int x1), (3, .int x3)]) hx hb dX2_tunnelsHeardBy_27 rfl hl (by decide) rfl (fun ls hl => ?_)
          refine lv_iinc (pc := 28) (v := (x3 + 1)) (lv' := [(3, .int (x3 + 1)), (2, .int (x2 ||| (1 <<< (x3 &&& 31)))), (0, .ref (ad 5)), (1, .int x1)]) hx hb dX2_tunnelsHeardBy_28 hl (k := 3) rfl rfl (by decide) rfl (fun ls hl => ?_)
          refine lv_goto (pc := 31) (tgt := 4) hx hb dX2_tunnelsHeardBy_31 (by decide) ?_
          exact ih4 x1 (x2 ||| (1 <<< (x3 &&& 31))) (x3 + 1) _ _ _ hP hD hS (lv_sub hl [2, 3, 1, 0] rfl) hf
  refine lv_iconst (pc := 0) (v := 0) hx hb dX2_tunnelsHeardBy_0 (by decide) ?_
  refine lv_istore_n (pc := 1) (lv' := [(2, .int 0), (0, .ref (ad 5)), (1, .int x1)]) hx hb dX2_tunnelsHeardBy_1 rfl hl (by decide) rfl (fun ls hl => ?_)
  refine lv_iconst (pc := 2) (v := 0) hx hb dX2_tunnelsHeardBy_2 (by decide) ?_
  refine lv_istore_n (pc := 3) (lv' := [(3, .int 0), (2, .int 0), (0, .ref (ad 5)), (1, .int x1)]) hx hb dX2_tunnelsHeardBy_3 rfl hl (by decide) rfl (fun ls hl => ?_)
  exact L4 N x1 0 0 _ _ _ hP hD hS (lv_sub hl [2, 3, 1, 0] rfl) hf
set_option maxHeartbeats 4000000 in
set_option maxRecDepth 100000 in
theorem tX4_hearers {l : Launch} {kv : Nat × Nat} {D : va_G} {N : Nat} {ad : Nat → Nat} {cA : ClassId} {σ : SC} {x1 : Int32} {x2 : Int32} {rF : Int32} (hf : fX4_hearers N σ x1 x2 = some rF) : Ct l kv D [(cA, .int)] yX4_hearers cX4_hearers 5 (some .int) 1 21 (wC ad cA σ) (wC ad cA σ) [.ref (ad 21), .int x1, .int x2] (some (.int rF)) := by
  refine Ct.ofW (by decide) (Nat.le_of_ble_eq_true rfl) ?_
  intro p e s m below meth c A args CF hr hlk hA hP hK hD hN hW hS ls hl
  have hx := CF.1
  have hb := CF.2.1
  have hml := CF.2.2.1
  have hown := CF.2.2.2.1
  have hw : ∀ w ∈ wsA, w.before args s = true := fun w h => CF.2.2.2.2 w (List.mem_cons_of_mem _ h)
  have hl : lv_has ls 5 [(0, .ref (ad 21)), (1, .int x1), (2, .int x2)] := hl
  unfold fX4_hearers at hf
  have L5 : ∀ (n5 : Nat) (x1 : Int32) (x2 : Int32) (x3 : Int32) (x4 : Int32) (H : Heap) (locs : List Loc) (ls : Array Slot), va_P D vwCl (wC ad cA σ) H → va_D A (wC ad cA σ) → va_S A s.heap H locs → lv_has ls 5 [(0, .ref (ad 21)), (1, .int x1), (2, .int x2), (3, .int x3), (4, .int x4)] → fX4_hearers_5 N n5 σ x1 x2 x3 x4 = some rF → G p l e 1 21 s m args below meth c D A (wC ad cA σ) (some (.int rF)) H locs (F0 m 5 ls []) := by
    intro n5
    induction n5 with
    | zero => intro x1 x2 x3 x4 H locs ls hP hD hS hl hf; exact absurd hf (by simp [fX4_hearers_5])
    | succ n5 ih5 =>
      intro x1 x2 x3 x4 H locs ls hP hD hS hl hf
      rw [fX4_hearers_5] at hf
      refine lv_iload (pc := 5) hx hb dX4_hearers_5 (lv_at hl 4 rfl) ?_
      refine lv_aload_n (pc := 7) hx hb dX4_hearers_7 rfl (lv_at hl 0 rfl) ?_
      refine gc_21_hill (pc := 8) CF hK hP mF_X4_9 dX4_hearers_8 ?_
      refine gcN_3_people (pc := 11) CF hK hP hN (nf 2) dX4_hearers_11 ?_
      refine lv_icmp_ge (pc := 14) (tgt := 44) hx hb dX4_hearers_14 (by decide) (fun c14 => ?_) (fun c14 => ?_)
      · have hf := zz_t c14 hf
        refine lv_iload_n (pc := 44) hx hb dX4_hearers_44 rfl (lv_at hl 3 rfl) ?_
        refine lv_iload_n (pc := 45) hx hb dX4_hearers_45 rfl (lv_at hl 1 rfl) ?_
        refine lv_iconst (pc := 46) (v := (-1)) hx hb dX4_hearers_46 (by decide) ?_
        refine lv_ixor (pc := 47) hx hb dX4_hearers_47 ?_
        refine lv_iand (pc := 48) hx hb dX4_hearers_48 ?_
        exact retI hx hb hr hlk hf hP hD hS dX4_hearers_49
      · have hf := zz_f c14 hf
        refine lv_iload (pc := 17) hx hb dX4_hearers_17 (lv_at hl 4 rfl) ?_
        refine lv_iload_n (pc := 19) hx hb dX4_hearers_19 rfl (lv_at hl 2 rfl) ?_
        obtain ⟨v20, h20, hf⟩ := zz_o hf
        refine cSN (pc := 20) (rest := []) (st1 := [.int v20]) CF (tX5_isIn h20) hK hP hD hS hA hN hW (nm 2) kX5_isIn nX5_isIn rfl rfl ⟨by decide, by decide⟩ hl.1 (Nat.le_of_ble_eq_true rfl) ⟨Nat.le_refl _, Nat.le_refl _⟩ rfl dX4_hearers_20 (fun H locs hP hD hS => ?_)
        refine lv_if_eq (pc := 23) (tgt := 38) hx hb dX4_hearers_23 (by decide) (fun c23 => ?_) (fun c23 => ?_)
        · have hf := zz_t c23 hf
          refine lv_iinc (pc := 38) (v := (x4 + 1)) (lv' := [(4, .int (x4 + 1)), (0, .ref (ad 21)), (1, .int x1), (2, .int x2), (3, .int x3)]) hx hb dX4_hearers_38 hl (k := 4) rfl rfl (by decide) rfl (fun ls hl => ?_)
          refine lv_goto (pc := 41) (tgt := 5) hx hb dX4_hearers_41 (by decide) ?_
          exact ih5 x1 x2 x3 (x4 + 1) _ _ _ hP hD hS (lv_sub hl [1, 2, 3, 4, 0] rfl) hf
        · have hf := zz_f c23 hf
          refine lv_iload_n (pc := 26) hx hb dX4_hearers_26 rfl (lv_at hl 3 rfl) ?_
          refine lv_aload_n (pc := 27) hx hb dX4_hearers_27 rfl (lv_at hl 0 rfl) ?_
          refine gc_21_past (pc := 28) CF hK hP mF_X4_15 dX4_hearers_28 ?_
          refine lv_iload (pc := 31) hx hb dX4_hearers_31 (lv_at hl 4 rfl) ?_
          obtain ⟨v33, h33, hf⟩ := zz_o hf
          refine cV (pc := 33) (rest := [.int x3]) (st1 := [.int v33, .int x3]) (q0 := 5) CF (tX2_listenersOf h33) hK hP hD hS hA hN hW mL_X4_29 kX2_listenersOf nX2_listenersOf rfl rfl rfl rfl ⟨by decide, by decide⟩ hl.1 (Nat.le_of_ble_eq_true rfl) ⟨Nat.le_refl _, Nat.le_refl _⟩ rfl dX4_hearers_33 (fun H locs hP hD hS => ?_)
          refine lv_ior (pc := 36) hx hb dX4_hearers_36 ?_
          refine lv_istore_n (pc := 37) (lv' := [(3, .int (x3 ||| v33)), (0, .ref (ad 21)), (1, .int x1), (2, .int x2), (4, .int x4)]) hx hb dX4_hearers_37 rfl hl (by decide) rfl (fun ls hl => ?_)
          refine lv_iinc (pc := 38) (v := (x4 + 1)) (lv' := [(4, .int (x4 + 1)), (3, .int (x3 ||| v33)), (0, .ref (ad 21)), (1, .int x1), (2, .int x2)]) hx hb dX4_hearers_38 hl (k := 4) rfl rfl (by decide) rfl (fun ls hl => ?_)
          refine lv_goto (pc := 41) (tgt := 5) hx hb dX4_hearers_41 (by decide) ?_
          exact ih5 x1 x2 (x3 ||| v33) (x4 + 1) _ _ _ hP hD hS (lv_sub hl [2, 3, 4, 1, 0] rfl) hf
  refine lv_iconst (pc := 0) (v := 0) hx hb dX4_hearers_0 (by decide) ?_
  refine lv_istore_n (pc := 1) (lv' := [(3, .int 0), (0, .ref (ad 21)), (1, .int x1), (2, .int x2)]) hx hb dX4_hearers_1 rfl hl (by decide) rfl (fun ls hl => ?_)
  refine lv_iconst (pc := 2) (v := 0) hx hb dX4_hearers_2 (by decide) ?_
  refine lv_istore (pc := 3) (lv' := [(4, .int 0), (3, .int 0), (0, .ref (ad 21)), (1, .int x1), (2, .int x2)]) hx hb dX4_hearers_3 hl (by decide) rfl (fun ls hl => ?_)
  exact L5 N x1 x2 0 0 _ _ _ hP hD hS (lv_sub hl [2, 3, 4, 1, 0] rfl) hf
set_option maxHeartbeats 4000000 in
set_option maxRecDepth 100000 in
theorem tX0_yardsBy {l : Launch} {kv : Nat × Nat} {D : va_G} {N : Nat} {tys : List (ClassId × FieldType)} {ws : va_W} {x0 : Int32} {rF : Int32} (hf : fX0_yardsBy N x0 = some rF) : Ct l kv D tys yX0_yardsBy cX0_yardsBy 1 (some .int) 0 0 ws ws [.int x0] (some (.int rF)) := by
  refine Ct.ofW (by decide) (Nat.le_of_ble_eq_true rfl) ?_
  intro p e s m below meth c A args CF hr hlk hA hP hK hD hN hW hS ls hl
  have hx := CF.1
  have hb := CF.2.1
  have hml := CF.2.2.1
  have hown := CF.2.2.2.1
  have hw : ∀ w ∈ wsA, w.before args s = true := fun w h => CF.2.2.2.2 w (List.mem_cons_of_mem _ h)
  have hl : lv_has ls 1 [(0, .int x0)] := hl
  unfold fX0_yardsBy at hf
  refine lv_iload_n (pc := 0) hx hb dX0_yardsBy_0 rfl (lv_at hl 0 rfl) ?_
  by_cases c1_0 : x0 = 1
  · have hf := zz_t c1_0 hf
    refine lv_tableIn (pc := 1) (tgt := 32) hx hb dX0_yardsBy_1 (by rw [c1_0] <;> decide) (by rw [c1_0] <;> decide) (by rw [c1_0] <;> rfl) (by decide) ?_
    refine lv_iconst (pc := 32) (v := (-1)) hx hb dX0_yardsBy_32 (by decide) ?_
    exact retI hx hb hr hlk hf hP hD hS dX0_yardsBy_33
  have hf := zz_f c1_0 hf
  by_cases c1_1 : x0 = 2
  · have hf := zz_t c1_1 hf
    refine lv_tableIn (pc := 1) (tgt := 36) hx hb dX0_yardsBy_1 (by rw [c1_1] <;> decide) (by rw [c1_1] <;> decide) (by rw [c1_1] <;> rfl) (by decide) ?_
    refine lv_iconst (pc := 36) (v := 1) hx hb dX0_yardsBy_36 (by decide) ?_
    exact retI hx hb hr hlk hf hP hD hS dX0_yardsBy_37
  have hf := zz_f c1_1 hf
  by_cases c1_2 : x0 = 3
  · have hf := zz_t c1_2 hf
    refine lv_tableIn (pc := 1) (tgt := 34) hx hb dX0_yardsBy_1 (by rw [c1_2] <;> decide) (by rw [c1_2] <;> decide) (by rw [c1_2] <;> rfl) (by decide) ?_
    refine lv_iconst (pc := 34) (v := 2) hx hb dX0_yardsBy_34 (by decide) ?_
    exact retI hx hb hr hlk hf hP hD hS dX0_yardsBy_35
  have hf := zz_f c1_2 hf
  by_cases c1_3 : x0 = 4
  · have hf := zz_t c1_3 hf
    refine lv_tableIn (pc := 1) (tgt := 34) hx hb dX0_yardsBy_1 (by rw [c1_3] <;> decide) (by rw [c1_3] <;> decide) (by rw [c1_3] <;> rfl) (by decide) ?_
    refine lv_iconst (pc := 34) (v := 2) hx hb dX0_yardsBy_34 (by decide) ?_
    exact retI hx hb hr hlk hf hP hD hS dX0_yardsBy_35
  have hf := zz_f c1_3 hf
  refine lv_tableOut (pc := 1) (tgt := 36) hx hb dX0_yardsBy_1 (sw_1_4 (lv_neT (a := 1) c1_0 rfl) (lv_neT (a := 2) c1_1 rfl) (lv_neT (a := 3) c1_2 rfl) (lv_neT (a := 4) c1_3 rfl)) (by decide) ?_
  refine lv_iconst (pc := 36) (v := 1) hx hb dX0_yardsBy_36 (by decide) ?_
  exact retI hx hb hr hlk hf hP hD hS dX0_yardsBy_37
set_option maxHeartbeats 4000000 in
set_option maxRecDepth 100000 in
theorem tX0_length {l : Launch} {kv : Nat × Nat} {D : va_G} {N : Nat} {ad : Nat → Nat} {cA : ClassId} {σ : SC} {x1 : Int32} {x2 : Int32} {rF : Int32} (hf : fX0_length N σ x1 x2 = some rF) : Ct l kv D [(cA, .int)] yX0_length cX0_length 6 (some .int) 1 21 (wC ad cA σ) (wC ad cA σ) [.ref (ad 3), .int x1, .int x2] (some (.int rF)) := by
  refine Ct.ofW (by decide) (Nat.le_of_ble_eq_true rfl) ?_
  intro p e s m below meth c A args CF hr hlk hA hP hK hD hN hW hS ls hl
  have hx := CF.1
  have hb := CF.2.1
  have hml := CF.2.2.1
  have hown := CF.2.2.2.1
  have hw : ∀ w ∈ wsA, w.before args s = true := fun w h => CF.2.2.2.2 w (List.mem_cons_of_mem _ h)
  have hl : lv_has ls 6 [(0, .ref (ad 3)), (1, .int x1), (2, .int x2)] := hl
  unfold fX0_length at hf
  have L9 : ∀ (n9 : Nat) (x1 : Int32) (x3 : Int32) (x4 : Int32) (x5 : Int32) (H : Heap) (locs : List Loc) (ls : Array Slot), va_P D vwCl (wC ad cA σ) H → va_D A (wC ad cA σ) → va_S A s.heap H locs → lv_has ls 6 [(0, .ref (ad 3)), (1, .int x1), (3, .int x3), (4, .int x4), (5, .int x5)] → fX0_length_9 N n9 σ x1 x3 x4 x5 = some rF → G p l e 1 21 s m args below meth c D A (wC ad cA σ) (some (.int rF)) H locs (F0 m 9 ls []) := by
    intro n9
    induction n9 with
    | zero => intro x1 x3 x4 x5 H locs ls hP hD hS hl hf; exact absurd hf (by simp [fX0_length_9])
    | succ n9 ih9 =>
      intro x1 x3 x4 x5 H locs ls hP hD hS hl hf
      rw [fX0_length_9] at hf
      refine lv_iload (pc := 9) hx hb dX0_length_9 (lv_at hl 4 rfl) ?_
      refine lv_aload_n (pc := 11) hx hb dX0_length_11 rfl (lv_at hl 0 rfl) ?_
      refine gc_3_people (pc := 12) CF hK hP mF_X0_15 dX0_length_12 ?_
      refine lv_icmp_ge (pc := 15) (tgt := 65) hx hb dX0_length_15 (by decide) (fun c15 => ?_) (fun c15 => ?_)
      · have hf := zz_t c15 hf
        refine lv_iload_n (pc := 65) hx hb dX0_length_65 rfl (lv_at hl 2 rfl) ?_
        refine lv_iconst (pc := 66) (v := 0) hx hb dX0_length_66 (by decide) ?_
        refine va_mmax (pc := 67) hx hb (hml.trans hl.1.symm) hown (hw _ mL_X0_58) (hw _ mT_Lib_Math_max_name) (hw _ mN_J9) (hw _ mC_Lib_Math_max_name) (by decide) (Nat.le_of_ble_eq_true rfl) (Nat.le_refl _) (Nat.le_refl _) dX0_length_67 ?_
        refine lv_istore (pc := 70) (lv' := [(5, .int (if x3 < 0 then 0 else x3)), (0, .ref (ad 3)), (1, .int x1), (3, .int x3), (4, .int x4)]) hx hb dX0_length_70 hl (by decide) rfl (fun ls hl => ?_)
        refine lv_iload (pc := 72) hx hb dX0_length_72 (lv_at hl 4 rfl) ?_
        refine lv_if_eq (pc := 74) (tgt := 82) hx hb dX0_length_74 (by decide) (fun c74 => ?_) (fun c74 => ?_)
        · have hf := zz_t c74 hf
          refine lv_iload (pc := 82) hx hb dX0_length_82 (lv_at hl 0 rfl) ?_
          refine lv_aload_n (pc := 84) hx hb dX0_length_84 rfl (lv_at hl 1 rfl) ?_
          refine gc_3_river (pc := 85) CF hK hP mF_X0_19 dX0_length_85 ?_
          refine va_mmin (pc := 88) hx hb (hml.trans hl.1.symm) hown (hw _ mL_X0_28) (hw _ mT_Lib_Math_min_name) (hw _ mN_J9) (hw _ mC_Lib_Math_min_name) (by decide) (Nat.le_of_ble_eq_true rfl) (Nat.le_refl _) (Nat.le_refl _) dX0_length_88 ?_
          exact retI hx hb hr hlk hf hP hD hS dX0_length_91
        · have hf := zz_f c74 hf
          refine lv_iload (pc := 77) hx hb dX0_length_77 (lv_at hl 0 rfl) ?_
          refine lv_goto (pc := 79) (tgt := 91) hx hb dX0_length_79 (by decide) ?_
          exact retI hx hb hr hlk hf hP hD hS dX0_length_91
      · have hf := zz_f c15 hf
        refine lv_iload (pc := 18) hx hb dX0_length_18 (lv_at hl 4 rfl) ?_
        refine lv_iload_n (pc := 20) hx hb dX0_length_20 rfl (lv_at hl 1 rfl) ?_
        obtain ⟨v21, h21, hf⟩ := zz_o hf
        refine cSN (pc := 21) (rest := []) (st1 := [.int v21]) CF (tX5_isIn h21) hK hP hD hS hA hN hW (nm 3) kX5_isIn nX5_isIn rfl rfl ⟨by decide, by decide⟩ hl.1 (Nat.le_of_ble_eq_true rfl) ⟨Nat.le_refl _, Nat.le_refl _⟩ rfl dX0_length_21 (fun H locs hP hD hS => ?_)
        refine lv_if_eq (pc := 24) (tgt := 59) hx hb dX0_length_24 (by decide) (fun c24 => ?_) (fun c24 => ?_)
        · have hf := zz_t c24 hf
          refine lv_iinc (pc := 59) (v := (x5 + 1)) (lv' := [(5, .int (x5 + 1)), (0, .ref (ad 3)), (1, .int x1), (3, .int x3), (4, .int x4)]) hx hb dX0_length_59 hl (k := 4) rfl rfl (by decide) rfl (fun ls hl => ?_)
          refine lv_goto (pc := 62) (tgt := 9) hx hb dX0_length_62 (by decide) ?_
          exact ih9 x1 x3 x4 (x5 + 1) _ _ _ hP hD hS (lv_sub hl [1, 2, 3, 4, 0] rfl) hf
        · have hf := zz_f c24 hf
          refine lv_iload_n (pc := 27) hx hb dX0_length_27 rfl (lv_at hl 2 rfl) ?_
          refine lv_aload_n (pc := 28) hx hb dX0_length_28 rfl (lv_at hl 0 rfl) ?_
          refine lv_iload (pc := 29) hx hb dX0_length_29 (lv_at hl 4 rfl) ?_
          obtain ⟨v31, h31, hf⟩ := zz_o hf
          refine cV (pc := 31) (rest := [.int x3]) (st1 := [.int v31, .int x3]) (q0 := 3) CF (tX0_kindOf h31) hK hP hD hS hA hN hW mL_X0_41 kX0_kindOf nX0_kindOf rfl rfl rfl rfl ⟨by decide, by decide⟩ hl.1 (Nat.le_of_ble_eq_true rfl) ⟨Nat.le_refl _, Nat.le_refl _⟩ rfl dX0_length_31 (fun H locs hP hD hS => ?_)
          obtain ⟨v34, h34, hf⟩ := zz_o hf
          refine cSt (pc := 34) (rest := [.int x3]) (st1 := [.int v34, .int x3]) CF (tX0_yardsBy h34) hK hP hD hS hA hN hW mL_X0_55 kX0_yardsBy nX0_yardsBy rfl rfl ⟨by decide, by decide⟩ hl.1 (Nat.le_of_ble_eq_true rfl) ⟨Nat.le_refl _, Nat.le_refl _⟩ rfl dX0_length_34 (fun H locs hP hD hS => ?_)
          refine lv_iadd (pc := 37) hx hb dX0_length_37 ?_
          refine lv_istore_n (pc := 38) (lv' := [(3, .int (x3 + v34)), (0, .ref (ad 3)), (1, .int x1), (4, .int x4), (5, .int x5)]) hx hb dX0_length_38 rfl hl (by decide) rfl (fun ls hl => ?_)
          refine lv_iload (pc := 39) hx hb dX0_length_39 (lv_at hl 3 rfl) ?_
          refine lv_aload_n (pc := 41) hx hb dX0_length_41 rfl (lv_at hl 1 rfl) ?_
          refine lv_iload (pc := 42) hx hb dX0_length_42 (lv_at hl 4 rfl) ?_
          obtain ⟨v44, h44, hf⟩ := zz_o hf
          refine cV (pc := 44) (rest := [.int x4]) (st1 := [.int v44, .int x4]) (q0 := 3) CF (tX0_kindOf h44) hK hP hD hS hA hN hW mL_X0_41 kX0_kindOf nX0_kindOf rfl rfl rfl rfl ⟨by decide, by decide⟩ hl.1 (Nat.le_of_ble_eq_true rfl) ⟨Nat.le_refl _, Nat.le_refl _⟩ rfl dX0_length_44 (fun H locs hP hD hS => ?_)
          refine lv_iconst (pc := 47) (v := 4) hx hb dX0_length_47 (by decide) ?_
          refine lv_icmp_ne (pc := 48) (tgt := 55) hx hb dX0_length_48 (by decide) (fun c48 => ?_) (fun c48 => ?_)
          · have hf := zz_f c48 hf
            refine lv_iconst (pc := 55) (v := 0) hx hb dX0_length_55 (by decide) ?_
            refine lv_ior (pc := 56) hx hb dX0_length_56 ?_
            refine lv_istore (pc := 57) (lv' := [(4, .int (x4 ||| 0)), (3, .int (x3 + v34)), (0, .ref (ad 3)), (1, .int x1), (5, .int x5)]) hx hb dX0_length_57 hl (by decide) rfl (fun ls hl => ?_)
            refine lv_iinc (pc := 59) (v := (x5 + 1)) (lv' := [(5, .int (x5 + 1)), (4, .int (x4 ||| 0)), (3, .int (x3 + v34)), (0, .ref (ad 3)), (1, .int x1)]) hx hb dX0_length_59 hl (k := 4) rfl rfl (by decide) rfl (fun ls hl => ?_)
            refine lv_goto (pc := 62) (tgt := 9) hx hb dX0_length_62 (by decide) ?_
            exact ih9 x1 (x3 + v34) (x4 ||| 0) (x5 + 1) _ _ _ hP hD hS (lv_sub hl [3, 4, 2, 1, 0] rfl) hf
          · have hf := zz_t c48 hf
            refine lv_iconst (pc := 51) (v := 1) hx hb dX0_length_51 (by decide) ?_
            refine lv_goto (pc := 52) (tgt := 56) hx hb dX0_length_52 (by decide) ?_
            refine lv_ior (pc := 56) hx hb dX0_length_56 ?_
            refine lv_istore (pc := 57) (lv' := [(4, .int (x4 ||| 1)), (3, .int (x3 + v34)), (0, .ref (ad 3)), (1, .int x1), (5, .int x5)]) hx hb dX0_length_57 hl (by decide) rfl (fun ls hl => ?_)
            refine lv_iinc (pc := 59) (v := (x5 + 1)) (lv' := [(5, .int (x5 + 1)), (4, .int (x4 ||| 1)), (3, .int (x3 + v34)), (0, .ref (ad 3)), (1, .int x1)]) hx hb dX0_length_59 hl (k := 4) rfl rfl (by decide) rfl (fun ls hl => ?_)
            refine lv_goto (pc := 62) (tgt := 9) hx hb dX0_length_62 (by decide) ?_
            exact ih9 x1 (x3 + v34) (x4 ||| 1) (x5 + 1) _ _ _ hP hD hS (lv_sub hl [3, 4, 2, 1, 0] rfl) hf
  refine lv_iload_n (pc := 0) hx hb dX0_length_0 rfl (lv_at hl 2 rfl) ?_
  refine lv_ineg (pc := 1) hx hb dX0_length_1 ?_
  refine lv_istore_n (pc := 2) (lv' := [(3, .int (-x2)), (0, .ref (ad 3)), (1, .int x1), (2, .int x2)]) hx hb dX0_length_2 rfl hl (by decide) rfl (fun ls hl => ?_)
  refine lv_iconst (pc := 3) (v := 0) hx hb dX0_length_3 (by decide) ?_
  refine lv_istore (pc := 4) (lv' := [(4, .int 0), (3, .int (-x2)), (0, .ref (ad 3)), (1, .int x1), (2, .int x2)]) hx hb dX0_length_4 hl (by decide) rfl (fun ls hl => ?_)
  refine lv_iconst (pc := 6) (v := 0) hx hb dX0_length_6 (by decide) ?_
  refine lv_istore (pc := 7) (lv' := [(5, .int 0), (4, .int 0), (3, .int (-x2)), (0, .ref (ad 3)), (1, .int x1), (2, .int x2)]) hx hb dX0_length_7 hl (by decide) rfl (fun ls hl => ?_)
  exact L9 N x1 (-x2) 0 0 _ _ _ hP hD hS (lv_sub hl [3, 4, 2, 1, 0] rfl) hf
