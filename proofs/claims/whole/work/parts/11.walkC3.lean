set_option maxHeartbeats 4000000 in
set_option maxRecDepth 100000 in
theorem tX5_lengthOf {l : Launch} {kv : Nat × Nat} {D : va_G} {N : Nat} {ad : Nat → Nat} {cA : ClassId} {σ : SC} {x1 : Int32} {rF : Int32} (hf : fX5_lengthOf N σ x1 = some rF) : Ct l kv D [(cA, .int)] yX5_lengthOf cX5_lengthOf 2 (some .int) 2 46 (wC ad cA σ) (wC ad cA σ) [.ref (ad 0), .int x1] (some (.int rF)) := by
  refine Ct.ofW (by decide) (Nat.le_of_ble_eq_true rfl) ?_
  intro p e s m below meth c A args CF hr hlk hA hP hK hD hN hW hS ls hl
  have hx := CF.1
  have hb := CF.2.1
  have hml := CF.2.2.1
  have hown := CF.2.2.2.1
  have hw : ∀ w ∈ wsA, w.before args s = true := fun w h => CF.2.2.2.2 w (List.mem_cons_of_mem _ h)
  have hl : lv_has ls 2 [(0, .ref (ad 0)), (1, .int x1)] := hl
  unfold fX5_lengthOf at hf
  refine lv_aload_n (pc := 0) hx hb dX5_lengthOf_0 rfl (lv_at hl 0 rfl) ?_
  refine gc_0_ground (pc := 1) CF hK hP mF_X5_19 dX5_lengthOf_1 ?_
  refine lv_aload_n (pc := 4) hx hb dX5_lengthOf_4 rfl (lv_at hl 0 rfl) ?_
  refine gc_0_now (pc := 5) CF hK hP mF_X5_26 dX5_lengthOf_5 ?_
  refine gcN_5_heard (pc := 8) CF hK hP hN (nf 5) dX5_lengthOf_8 ?_
  refine lv_iload_n (pc := 11) hx hb dX5_lengthOf_11 rfl (lv_at hl 1 rfl) ?_
  obtain ⟨c12, hf⟩ := zz_k hf
  refine lc_heard (pc := 12) hx hb hK hP c12 dX5_lengthOf_12 ?_
  refine lv_aload_n (pc := 13) hx hb dX5_lengthOf_13 rfl (lv_at hl 0 rfl) ?_
  refine gc_0_now (pc := 14) CF hK hP mF_X5_26 dX5_lengthOf_14 ?_
  refine gcN_5_denied (pc := 17) CF hK hP hN (nf 7) dX5_lengthOf_17 ?_
  refine lv_iload_n (pc := 20) hx hb dX5_lengthOf_20 rfl (lv_at hl 1 rfl) ?_
  obtain ⟨c21, hf⟩ := zz_k hf
  refine lc_denied (pc := 21) hx hb hK hP c21 dX5_lengthOf_21 ?_
  obtain ⟨v22, h22, hf⟩ := zz_o hf
  refine cV (pc := 22) (rest := []) (st1 := [.int v22]) (q0 := 3) CF (tX0_length h22) hK hP hD hS hA hN hW mL_X5_165 kX0_length nX0_length rfl rfl rfl rfl ⟨by decide, by decide⟩ hl.1 (Nat.le_of_ble_eq_true rfl) ⟨Nat.le_refl _, Nat.le_refl _⟩ rfl dX5_lengthOf_22 (fun H locs hP hD hS => ?_)
  exact retI hx hb hr hlk hf hP hD hS dX5_lengthOf_25
set_option maxHeartbeats 4000000 in
set_option maxRecDepth 100000 in
theorem tX5_tell {l : Launch} {kv : Nat × Nat} {D : va_G} {N : Nat} {ad : Nat → Nat} {cA : ClassId} {σ : SC} {x1 : Int32} {x2 : Int32} {rF : Int32} {σF : SC} (hf : fX5_tell N σ x1 x2 = some (rF, σF)) : Ct l kv D [(cA, .int)] yX5_tell cX5_tell 4 (some .int) 3 67 (wC ad cA σ) (wC ad cA σF) [.ref (ad 0), .int x1, .int x2] (some (.int rF)) := by
  refine Ct.ofW (by decide) (Nat.le_of_ble_eq_true rfl) ?_
  intro p e s m below meth c A args CF hr hlk hA hP hK hD hN hW hS ls hl
  have hx := CF.1
  have hb := CF.2.1
  have hml := CF.2.2.1
  have hown := CF.2.2.2.1
  have hw : ∀ w ∈ wsA, w.before args s = true := fun w h => CF.2.2.2.2 w (List.mem_cons_of_mem _ h)
  have hl : lv_has ls 4 [(0, .ref (ad 0)), (1, .int x1), (2, .int x2)] := hl
  unfold fX5_tell at hf
  refine lv_aload_n (pc := 0) hx hb dX5_tell_0 rfl (lv_at hl 0 rfl) ?_
  refine lv_iload_n (pc := 1) hx hb dX5_tell_1 rfl (lv_at hl 1 rfl) ?_
  obtain ⟨v2, h2, hf⟩ := zz_o hf
  refine cV (pc := 2) (rest := []) (st1 := [.int v2]) (q0 := 0) CF (tX5_isTunnel h2) hK hP hD hS hA hN hW mL_X5_131 kX5_isTunnel nX5_isTunnel rfl rfl rfl rfl ⟨by decide, by decide⟩ hl.1 (Nat.le_of_ble_eq_true rfl) ⟨Nat.le_refl _, Nat.le_refl _⟩ rfl dX5_tell_2 (fun H locs hP hD hS => ?_)
  refine lv_if_eq (pc := 5) (tgt := 19) hx hb dX5_tell_5 (by decide) (fun c5 => ?_) (fun c5 => ?_)
  · have hf := zz_t c5 hf
    refine lv_bipush (pc := 19) (v := (-101)) hx hb dX5_tell_19 (by decide) ?_
    exact retIw (wf := wC ad cA) hx hb hr hlk hf hP hD hS dX5_tell_21
  · have hf := zz_f c5 hf
    refine lv_aload_n (pc := 8) hx hb dX5_tell_8 rfl (lv_at hl 0 rfl) ?_
    refine gc_0_ground (pc := 9) CF hK hP mF_X5_19 dX5_tell_9 ?_
    refine lv_iload_n (pc := 12) hx hb dX5_tell_12 rfl (lv_at hl 2 rfl) ?_
    obtain ⟨v13, h13, hf⟩ := zz_o hf
    refine cV (pc := 13) (rest := []) (st1 := [.int v13]) (q0 := 3) CF (tX0_has h13) hK hP hD hS hA hN hW mL_X5_91 kX0_has nX0_has rfl rfl rfl rfl ⟨by decide, by decide⟩ hl.1 (Nat.le_of_ble_eq_true rfl) ⟨Nat.le_refl _, Nat.le_refl _⟩ rfl dX5_tell_13 (fun H locs hP hD hS => ?_)
    refine lv_if_ne (pc := 16) (tgt := 22) hx hb dX5_tell_16 (by decide) (fun c16 => ?_) (fun c16 => ?_)
    · have hf := zz_f c16 hf
      refine lv_iconst (pc := 22) (v := 1) hx hb dX5_tell_22 (by decide) ?_
      refine lv_iload_n (pc := 23) hx hb dX5_tell_23 rfl (lv_at hl 2 rfl) ?_
      refine lv_ishl (pc := 24) hx hb dX5_tell_24 ?_
      refine lv_istore_n (pc := 25) (lv' := [(3, .int (1 <<< (x2 &&& 31))), (0, .ref (ad 0)), (1, .int x1), (2, .int x2)]) hx hb dX5_tell_25 rfl hl (by decide) rfl (fun ls hl => ?_)
      refine lv_aload_n (pc := 26) hx hb dX5_tell_26 rfl (lv_at hl 1 rfl) ?_
      refine gc_0_now (pc := 27) CF hK hP mF_X5_26 dX5_tell_27 ?_
      refine gcN_5_heard (pc := 30) CF hK hP hN (nf 5) dX5_tell_30 ?_
      refine lv_iload_n (pc := 33) hx hb dX5_tell_33 rfl (lv_at hl 2 rfl) ?_
      obtain ⟨c34, hf⟩ := zz_k hf
      refine lc_heard (pc := 34) hx hb hK hP c34 dX5_tell_34 ?_
      refine lv_iload_n (pc := 35) hx hb dX5_tell_35 rfl (lv_at hl 0 rfl) ?_
      refine lv_iand (pc := 36) hx hb dX5_tell_36 ?_
      refine lv_if_eq (pc := 37) (tgt := 43) hx hb dX5_tell_37 (by decide) (fun c37 => ?_) (fun c37 => ?_)
      · have hf := zz_t c37 hf
        refine lv_aload_n (pc := 43) hx hb dX5_tell_43 rfl (lv_at hl 1 rfl) ?_
        refine gc_0_now (pc := 44) CF hK hP mF_X5_26 dX5_tell_44 ?_
        refine gcN_5_heard (pc := 47) CF hK hP hN (nf 5) dX5_tell_47 ?_
        refine lv_iload_n (pc := 50) hx hb dX5_tell_50 rfl (lv_at hl 2 rfl) ?_
        refine lv_dup2_11 (pc := 51) hx hb dX5_tell_51 rfl rfl ?_
        obtain ⟨c52, hf⟩ := zz_k hf
        refine lc_heard (pc := 52) hx hb hK hP c52 dX5_tell_52 ?_
        refine lv_iload_n (pc := 53) hx hb dX5_tell_53 rfl (lv_at hl 0 rfl) ?_
        refine lv_ior (pc := 54) hx hb dX5_tell_54 ?_
        obtain ⟨c55, hf⟩ := zz_k hf
        refine ac_heard (pc := 55) hx hb hK hP hD hS c55 dX5_tell_55 (fun H locs hP hD hS => ?_)
        obtain ⟨σ55, hP, hD, hf⟩ := zz_g (w := wC ad cA) hP hD hf
        refine lv_aload_n (pc := 56) hx hb dX5_tell_56 rfl (lv_at hl 1 rfl) ?_
        refine gc_0_now (pc := 57) CF hK hP mF_X5_26 dX5_tell_57 ?_
        refine gcN_5_last (pc := 60) CF hK hP hN (nf 6) dX5_tell_60 ?_
        refine lv_iload_n (pc := 63) hx hb dX5_tell_63 rfl (lv_at hl 2 rfl) ?_
        refine lv_dup2_11 (pc := 64) hx hb dX5_tell_64 rfl rfl ?_
        obtain ⟨c65, hf⟩ := zz_k hf
        refine lc_last (pc := 65) hx hb hK hP c65 dX5_tell_65 ?_
        refine lv_iload_n (pc := 66) hx hb dX5_tell_66 rfl (lv_at hl 0 rfl) ?_
        refine lv_ior (pc := 67) hx hb dX5_tell_67 ?_
        obtain ⟨c68, hf⟩ := zz_k hf
        refine ac_last (pc := 68) hx hb hK hP hD hS c68 dX5_tell_68 (fun H locs hP hD hS => ?_)
        obtain ⟨σ68, hP, hD, hf⟩ := zz_g (w := wC ad cA) hP hD hf
        refine lv_aload_n (pc := 69) hx hb dX5_tell_69 rfl (lv_at hl 1 rfl) ?_
        refine lv_iload_n (pc := 70) hx hb dX5_tell_70 rfl (lv_at hl 2 rfl) ?_
        obtain ⟨v71, h71, hf⟩ := zz_o hf
        refine cV (pc := 71) (rest := []) (st1 := [.int v71]) (q0 := 0) CF (tX5_lengthOf h71) hK hP hD hS hA hN hW mL_X5_141 kX5_lengthOf nX5_lengthOf rfl rfl rfl rfl ⟨by decide, by decide⟩ hl.1 (Nat.le_of_ble_eq_true rfl) ⟨Nat.le_refl _, Nat.le_refl _⟩ rfl dX5_tell_71 (fun H locs hP hD hS => ?_)
        exact retIw (wf := wC ad cA) hx hb hr hlk hf hP hD hS dX5_tell_74
      · have hf := zz_f c37 hf
        refine lv_bipush (pc := 40) (v := (-103)) hx hb dX5_tell_40 (by decide) ?_
        exact retIw (wf := wC ad cA) hx hb hr hlk hf hP hD hS dX5_tell_42
    · have hf := zz_t c16 hf
      refine lv_bipush (pc := 19) (v := (-101)) hx hb dX5_tell_19 (by decide) ?_
      exact retIw (wf := wC ad cA) hx hb hr hlk hf hP hD hS dX5_tell_21
set_option maxHeartbeats 4000000 in
set_option maxRecDepth 100000 in
theorem tJ6_bitCount_0f7a4 {l : Launch} {kv : Nat × Nat} {D : va_G} {N : Nat} {tys : List (ClassId × FieldType)} {ws : va_W} {x0 : Int32} {rF : Int32} (hf : fJ6_bitCount_0f7a4 N x0 = some rF) : Ct l kv D tys yJ6_bitCount_0f7a4 cJ6_bitCount_0f7a4 1 (some .int) 0 0 ws ws [.int x0] (some (.int rF)) := by
  refine Ct.ofW (by decide) (Nat.le_of_ble_eq_true rfl) ?_
  intro p e s m below meth c A args CF hr hlk hA hP hK hD hN hW hS ls hl
  have hx := CF.1
  have hb := CF.2.1
  have hml := CF.2.2.1
  have hown := CF.2.2.2.1
  have hw : ∀ w ∈ wsA, w.before args s = true := fun w h => CF.2.2.2.2 w (List.mem_cons_of_mem _ h)
  have hl : lv_has ls 1 [(0, .int x0)] := hl
  unfold fJ6_bitCount_0f7a4 at hf
  refine lv_iload_n (pc := 0) hx hb dJ6_bitCount_0f7a4_0 rfl (lv_at hl 0 rfl) ?_
  refine lv_iload_n (pc := 1) hx hb dJ6_bitCount_0f7a4_1 rfl (lv_at hl 0 rfl) ?_
  refine lv_iconst (pc := 2) (v := 1) hx hb dJ6_bitCount_0f7a4_2 (by decide) ?_
  refine lv_iushr (pc := 3) (v := (x0.toUInt32 >>> ((1 : Int32).toUInt32 &&& Int32.toUInt32 31)).toInt32) hx hb dJ6_bitCount_0f7a4_3 rfl ?_
  refine lv_ldcw (pc := 4) hx hb hown (hw _ mK_J6_265) dJ6_bitCount_0f7a4_4 ?_
  refine lv_iand (pc := 7) hx hb dJ6_bitCount_0f7a4_7 ?_
  refine lv_isub (pc := 8) hx hb dJ6_bitCount_0f7a4_8 ?_
  refine lv_topi (fun y9 e9 => ?_)
  have hf := zz_l e9 hf
  refine lv_istore_n (pc := 9) (lv' := [(0, .int y9)]) hx hb dJ6_bitCount_0f7a4_9 rfl hl (by decide) rfl (fun ls hl => ?_)
  refine lv_iload_n (pc := 10) hx hb dJ6_bitCount_0f7a4_10 rfl (lv_at hl 0 rfl) ?_
  refine lv_ldcw (pc := 11) hx hb hown (hw _ mK_J6_266) dJ6_bitCount_0f7a4_11 ?_
  refine lv_iand (pc := 14) hx hb dJ6_bitCount_0f7a4_14 ?_
  refine lv_iload_n (pc := 15) hx hb dJ6_bitCount_0f7a4_15 rfl (lv_at hl 0 rfl) ?_
  refine lv_iconst (pc := 16) (v := 2) hx hb dJ6_bitCount_0f7a4_16 (by decide) ?_
  refine lv_iushr (pc := 17) (v := (y9.toUInt32 >>> ((2 : Int32).toUInt32 &&& Int32.toUInt32 31)).toInt32) hx hb dJ6_bitCount_0f7a4_17 rfl ?_
  refine lv_ldcw (pc := 18) hx hb hown (hw _ mK_J6_266) dJ6_bitCount_0f7a4_18 ?_
  refine lv_iand (pc := 21) hx hb dJ6_bitCount_0f7a4_21 ?_
  refine lv_iadd (pc := 22) hx hb dJ6_bitCount_0f7a4_22 ?_
  refine lv_topi (fun y23 e23 => ?_)
  have hf := zz_l e23 hf
  refine lv_istore_n (pc := 23) (lv' := [(0, .int y23)]) hx hb dJ6_bitCount_0f7a4_23 rfl hl (by decide) rfl (fun ls hl => ?_)
  refine lv_iload_n (pc := 24) hx hb dJ6_bitCount_0f7a4_24 rfl (lv_at hl 0 rfl) ?_
  refine lv_iload_n (pc := 25) hx hb dJ6_bitCount_0f7a4_25 rfl (lv_at hl 0 rfl) ?_
  refine lv_iconst (pc := 26) (v := 4) hx hb dJ6_bitCount_0f7a4_26 (by decide) ?_
  refine lv_iushr (pc := 27) (v := (y23.toUInt32 >>> ((4 : Int32).toUInt32 &&& Int32.toUInt32 31)).toInt32) hx hb dJ6_bitCount_0f7a4_27 rfl ?_
  refine lv_iadd (pc := 28) hx hb dJ6_bitCount_0f7a4_28 ?_
  refine lv_ldcw (pc := 29) hx hb hown (hw _ mK_J6_267) dJ6_bitCount_0f7a4_29 ?_
  refine lv_iand (pc := 32) hx hb dJ6_bitCount_0f7a4_32 ?_
  refine lv_topi (fun y33 e33 => ?_)
  have hf := zz_l e33 hf
  refine lv_istore_n (pc := 33) (lv' := [(0, .int y33)]) hx hb dJ6_bitCount_0f7a4_33 rfl hl (by decide) rfl (fun ls hl => ?_)
  refine lv_iload_n (pc := 34) hx hb dJ6_bitCount_0f7a4_34 rfl (lv_at hl 0 rfl) ?_
  refine lv_iload_n (pc := 35) hx hb dJ6_bitCount_0f7a4_35 rfl (lv_at hl 0 rfl) ?_
  refine lv_bipush (pc := 36) (v := 8) hx hb dJ6_bitCount_0f7a4_36 (by decide) ?_
  refine lv_iushr (pc := 38) (v := (y33.toUInt32 >>> ((8 : Int32).toUInt32 &&& Int32.toUInt32 31)).toInt32) hx hb dJ6_bitCount_0f7a4_38 rfl ?_
  refine lv_iadd (pc := 39) hx hb dJ6_bitCount_0f7a4_39 ?_
  refine lv_topi (fun y40 e40 => ?_)
  have hf := zz_l e40 hf
  refine lv_istore_n (pc := 40) (lv' := [(0, .int y40)]) hx hb dJ6_bitCount_0f7a4_40 rfl hl (by decide) rfl (fun ls hl => ?_)
  refine lv_iload_n (pc := 41) hx hb dJ6_bitCount_0f7a4_41 rfl (lv_at hl 0 rfl) ?_
  refine lv_iload_n (pc := 42) hx hb dJ6_bitCount_0f7a4_42 rfl (lv_at hl 0 rfl) ?_
  refine lv_bipush (pc := 43) (v := 16) hx hb dJ6_bitCount_0f7a4_43 (by decide) ?_
  refine lv_iushr (pc := 45) (v := (y40.toUInt32 >>> ((16 : Int32).toUInt32 &&& Int32.toUInt32 31)).toInt32) hx hb dJ6_bitCount_0f7a4_45 rfl ?_
  refine lv_iadd (pc := 46) hx hb dJ6_bitCount_0f7a4_46 ?_
  refine lv_topi (fun y47 e47 => ?_)
  have hf := zz_l e47 hf
  refine lv_istore_n (pc := 47) (lv' := [(0, .int y47)]) hx hb dJ6_bitCount_0f7a4_47 rfl hl (by decide) rfl (fun ls hl => ?_)
  refine lv_iload_n (pc := 48) hx hb dJ6_bitCount_0f7a4_48 rfl (lv_at hl 0 rfl) ?_
  refine lv_bipush (pc := 49) (v := 63) hx hb dJ6_bitCount_0f7a4_49 (by decide) ?_
  refine lv_iand (pc := 51) hx hb dJ6_bitCount_0f7a4_51 ?_
  exact retI hx hb hr hlk hf hP hD hS dJ6_bitCount_0f7a4_52
set_option maxHeartbeats 4000000 in
set_option maxRecDepth 100000 in
theorem tX5_day {l : Launch} {kv : Nat × Nat} {D : va_G} {N : Nat} {ad : Nat → Nat} {cA : ClassId} {σ : SC} {rF : Int32} {σF : SC} (hf : fX5_day N σ = some (rF, σF)) : Ct l kv D [(cA, .int)] yX5_day cX5_day 3 (some .int) 2 45 (wC ad cA σ) (wC ad cA σF) [.ref (ad 0)] (some (.int rF)) := by
  refine Ct.ofW (by decide) (Nat.le_of_ble_eq_true rfl) ?_
  intro p e s m below meth c A args CF hr hlk hA hP hK hD hN hW hS ls hl
  have hx := CF.1
  have hb := CF.2.1
  have hml := CF.2.2.1
  have hown := CF.2.2.2.1
  have hw : ∀ w ∈ wsA, w.before args s = true := fun w h => CF.2.2.2.2 w (List.mem_cons_of_mem _ h)
  have hl : lv_has ls 3 [(0, .ref (ad 0))] := hl
  unfold fX5_day at hf
  have L45 : ∀ (n45 : Nat) (σ : SC) (x1 : Int32) (x2 : Int32) (H : Heap) (locs : List Loc) (ls : Array Slot), va_P D vwCl (wC ad cA σ) H → va_D A (wC ad cA σ) → va_S A s.heap H locs → lv_has ls 3 [(0, .ref (ad 0)), (1, .int x1), (2, .int x2)] → fX5_day_45 N n45 σ x1 x2 = some (rF, σF) → G p l e 2 45 s m args below meth c D A (wC ad cA σF) (some (.int rF)) H locs (F0 m 45 ls []) := by
    intro n45
    induction n45 with
    | zero => intro σ x1 x2 H locs ls hP hD hS hl hf; exact absurd hf (by simp [fX5_day_45])
    | succ n45 ih45 =>
      intro σ x1 x2 H locs ls hP hD hS hl hf
      rw [fX5_day_45] at hf
      refine lv_iload_n (pc := 45) hx hb dX5_day_45 rfl (lv_at hl 2 rfl) ?_
      refine lv_iconst (pc := 46) (v := 3) hx hb dX5_day_46 (by decide) ?_
      refine lv_icmp_ge (pc := 47) (tgt := 126) hx hb dX5_day_47 (by decide) (fun c47 => ?_) (fun c47 => ?_)
      · have hf := zz_t c47 hf
        refine lv_iload_n (pc := 126) hx hb dX5_day_126 rfl (lv_at hl 1 rfl) ?_
        exact retIw (wf := wC ad cA) hx hb hr hlk hf hP hD hS dX5_day_127
      · have hf := zz_f c47 hf
        refine lv_aload_n (pc := 50) hx hb dX5_day_50 rfl (lv_at hl 0 rfl) ?_
        refine gc_0_now (pc := 51) CF hK hP mF_X5_26 dX5_day_51 ?_
        refine gcN_5_last (pc := 54) CF hK hP hN (nf 6) dX5_day_54 ?_
        refine lv_iload_n (pc := 57) hx hb dX5_day_57 rfl (lv_at hl 2 rfl) ?_
        refine lv_aload_n (pc := 58) hx hb dX5_day_58 rfl (lv_at hl 0 rfl) ?_
        refine gc_0_talk (pc := 59) CF hK hP mF_X5_38 dX5_day_59 ?_
        refine lv_aload_n (pc := 62) hx hb dX5_day_62 rfl (lv_at hl 0 rfl) ?_
        refine gc_0_now (pc := 63) CF hK hP mF_X5_26 dX5_day_63 ?_
        refine gcN_5_heard (pc := 66) CF hK hP hN (nf 5) dX5_day_66 ?_
        refine lv_iload_n (pc := 69) hx hb dX5_day_69 rfl (lv_at hl 2 rfl) ?_
        obtain ⟨c70, hf⟩ := zz_k hf
        refine lc_heard (pc := 70) hx hb hK hP c70 dX5_day_70 ?_
        refine lv_aload_n (pc := 71) hx hb dX5_day_71 rfl (lv_at hl 0 rfl) ?_
        refine gc_0_now (pc := 72) CF hK hP mF_X5_26 dX5_day_72 ?_
        refine gcN_5_last (pc := 75) CF hK hP hN (nf 6) dX5_day_75 ?_
        refine lv_iload_n (pc := 78) hx hb dX5_day_78 rfl (lv_at hl 2 rfl) ?_
        obtain ⟨c79, hf⟩ := zz_k hf
        refine lc_last (pc := 79) hx hb hK hP c79 dX5_day_79 ?_
        obtain ⟨v80, h80, hf⟩ := zz_o hf
        refine cV (pc := 80) (rest := [.int x2, .ref (ad 9)]) (st1 := [.int v80, .int x2, .ref (ad 9)]) (q0 := 21) CF (tX4_hearers h80) hK hP hD hS hA hN hW mL_X5_150 kX4_hearers nX4_hearers rfl rfl rfl rfl ⟨by decide, by decide⟩ hl.1 (Nat.le_of_ble_eq_true rfl) ⟨Nat.le_refl _, Nat.le_refl _⟩ rfl dX5_day_80 (fun H locs hP hD hS => ?_)
        obtain ⟨c83, hf⟩ := zz_k hf
        refine ac_last (pc := 83) hx hb hK hP hD hS c83 dX5_day_83 (fun H locs hP hD hS => ?_)
        obtain ⟨σ83, hP, hD, hf⟩ := zz_g (w := wC ad cA) hP hD hf
        refine lv_aload_n (pc := 84) hx hb dX5_day_84 rfl (lv_at hl 0 rfl) ?_
        refine gc_0_now (pc := 85) CF hK hP mF_X5_26 dX5_day_85 ?_
        refine gcN_5_heard (pc := 88) CF hK hP hN (nf 5) dX5_day_88 ?_
        refine lv_iload_n (pc := 91) hx hb dX5_day_91 rfl (lv_at hl 2 rfl) ?_
        refine lv_dup2_11 (pc := 92) hx hb dX5_day_92 rfl rfl ?_
        obtain ⟨c93, hf⟩ := zz_k hf
        refine lc_heard (pc := 93) hx hb hK hP c93 dX5_day_93 ?_
        refine lv_aload_n (pc := 94) hx hb dX5_day_94 rfl (lv_at hl 0 rfl) ?_
        refine gc_0_now (pc := 95) CF hK hP mF_X5_26 dX5_day_95 ?_
        refine gcN_5_last (pc := 98) CF hK hP hN (nf 6) dX5_day_98 ?_
        refine lv_iload_n (pc := 101) hx hb dX5_day_101 rfl (lv_at hl 2 rfl) ?_
        obtain ⟨c102, hf⟩ := zz_k hf
        refine lc_last (pc := 102) hx hb hK hP c102 dX5_day_102 ?_
        refine lv_ior (pc := 103) hx hb dX5_day_103 ?_
        obtain ⟨c104, hf⟩ := zz_k hf
        refine ac_heard (pc := 104) hx hb hK hP hD hS c104 dX5_day_104 (fun H locs hP hD hS => ?_)
        obtain ⟨σ104, hP, hD, hf⟩ := zz_g (w := wC ad cA) hP hD hf
        refine lv_iload_n (pc := 105) hx hb dX5_day_105 rfl (lv_at hl 1 rfl) ?_
        refine lv_aload_n (pc := 106) hx hb dX5_day_106 rfl (lv_at hl 0 rfl) ?_
        refine gc_0_now (pc := 107) CF hK hP mF_X5_26 dX5_day_107 ?_
        refine gcN_5_last (pc := 110) CF hK hP hN (nf 6) dX5_day_110 ?_
        refine lv_iload_n (pc := 113) hx hb dX5_day_113 rfl (lv_at hl 2 rfl) ?_
        obtain ⟨c114, hf⟩ := zz_k hf
        refine lc_last (pc := 114) hx hb hK hP c114 dX5_day_114 ?_
        obtain ⟨v115, h115, hf⟩ := zz_o hf
        refine cSt (pc := 115) (rest := [.int x1]) (st1 := [.int v115, .int x1]) CF (tJ6_bitCount_0f7a4 h115) hK hP hD hS hA hN hW mL_X5_153 kJ6_bitCount_0f7a4 nJ6_bitCount_0f7a4 rfl rfl ⟨by decide, by decide⟩ hl.1 (Nat.le_of_ble_eq_true rfl) ⟨Nat.le_refl _, Nat.le_refl _⟩ rfl dX5_day_115 (fun H locs hP hD hS => ?_)
        refine lv_iadd (pc := 118) hx hb dX5_day_118 ?_
        refine lv_istore_n (pc := 119) (lv' := [(1, .int (x1 + v115)), (0, .ref (ad 0)), (2, .int x2)]) hx hb dX5_day_119 rfl hl (by decide) rfl (fun ls hl => ?_)
        refine lv_iinc (pc := 120) (v := (x2 + 1)) (lv' := [(2, .int (x2 + 1)), (1, .int (x1 + v115)), (0, .ref (ad 0))]) hx hb dX5_day_120 hl (k := 2) rfl rfl (by decide) rfl (fun ls hl => ?_)
        refine lv_goto (pc := 123) (tgt := 45) hx hb dX5_day_123 (by decide) ?_
        exact ih45 σ104 (x1 + v115) (x2 + 1) _ _ _ hP hD hS (lv_sub hl [2, 1, 0] rfl) hf
  refine lv_aload_n (pc := 0) hx hb dX5_day_0 rfl (lv_at hl 0 rfl) ?_
  refine gc_0_ground (pc := 1) CF hK hP mF_X5_19 dX5_day_1 ?_
  obtain ⟨v4, h4, hf⟩ := zz_o hf
  refine cV (pc := 4) (rest := []) (st1 := [.int v4]) (q0 := 3) CF (tX0_isThere h4) hK hP hD hS hA hN hW mL_X5_144 kX0_isThere nX0_isThere rfl rfl rfl rfl ⟨by decide, by decide⟩ hl.1 (Nat.le_of_ble_eq_true rfl) ⟨Nat.le_refl _, Nat.le_refl _⟩ rfl dX5_day_4 (fun H locs hP hD hS => ?_)
  refine lv_if_ne (pc := 7) (tgt := 13) hx hb dX5_day_7 (by decide) (fun c7 => ?_) (fun c7 => ?_)
  · have hf := zz_f c7 hf
    refine lv_aload_n (pc := 13) hx hb dX5_day_13 rfl (lv_at hl 0 rfl) ?_
    refine gc_0_now (pc := 14) CF hK hP mF_X5_26 dX5_day_14 ?_
    refine gcN_5_days (pc := 17) CF hK hP hN (nf 12) dX5_day_17 ?_
    refine lv_bipush (pc := 20) (v := 99) hx hb dX5_day_20 (by decide) ?_
    refine lv_icmp_lt (pc := 22) (tgt := 28) hx hb dX5_day_22 (by decide) (fun c22 => ?_) (fun c22 => ?_)
    · have hf := zz_t c22 hf
      refine lv_aload_n (pc := 28) hx hb dX5_day_28 rfl (lv_at hl 0 rfl) ?_
      refine gc_0_now (pc := 29) CF hK hP mF_X5_26 dX5_day_29 ?_
      refine lv_dup (pc := 32) hx hb dX5_day_32 rfl ?_
      refine gcN_5_days (pc := 33) CF hK hP hN (nf 12) dX5_day_33 ?_
      refine lv_iconst (pc := 36) (v := 1) hx hb dX5_day_36 (by decide) ?_
      refine lv_iadd (pc := 37) hx hb dX5_day_37 ?_
      refine pcN_5_days (pc := 38) CF hK hP hD hS hN (nf 12) dX5_day_38 (fun H locs hP hD hS => ?_)
      obtain ⟨σ38, hP, hD, hf⟩ := zz_g (w := wC ad cA) hP hD hf
      refine lv_iconst (pc := 41) (v := 0) hx hb dX5_day_41 (by decide) ?_
      refine lv_istore_n (pc := 42) (lv' := [(1, .int 0), (0, .ref (ad 0))]) hx hb dX5_day_42 rfl hl (by decide) rfl (fun ls hl => ?_)
      refine lv_iconst (pc := 43) (v := 0) hx hb dX5_day_43 (by decide) ?_
      refine lv_istore_n (pc := 44) (lv' := [(2, .int 0), (1, .int 0), (0, .ref (ad 0))]) hx hb dX5_day_44 rfl hl (by decide) rfl (fun ls hl => ?_)
      exact L45 N σ38 0 0 _ _ _ hP hD hS (lv_sub hl [2, 1, 0] rfl) hf
    · have hf := zz_f c22 hf
      refine lv_bipush (pc := 25) (v := (-104)) hx hb dX5_day_25 (by decide) ?_
      exact retIw (wf := wC ad cA) hx hb hr hlk hf hP hD hS dX5_day_27
  · have hf := zz_t c7 hf
    refine lv_bipush (pc := 10) (v := (-103)) hx hb dX5_day_10 (by decide) ?_
    exact retIw (wf := wC ad cA) hx hb hr hlk hf hP hD hS dX5_day_12
set_option maxHeartbeats 4000000 in
set_option maxRecDepth 100000 in
theorem tX5_deny {l : Launch} {kv : Nat × Nat} {D : va_G} {N : Nat} {ad : Nat → Nat} {cA : ClassId} {σ : SC} {x1 : Int32} {rF : Int32} {σF : SC} (hf : fX5_deny N σ x1 = some (rF, σF)) : Ct l kv D [(cA, .int)] yX5_deny cX5_deny 2 (some .int) 3 67 (wC ad cA σ) (wC ad cA σF) [.ref (ad 0), .int x1] (some (.int rF)) := by
  refine Ct.ofW (by decide) (Nat.le_of_ble_eq_true rfl) ?_
  intro p e s m below meth c A args CF hr hlk hA hP hK hD hN hW hS ls hl
  have hx := CF.1
  have hb := CF.2.1
  have hml := CF.2.2.1
  have hown := CF.2.2.2.1
  have hw : ∀ w ∈ wsA, w.before args s = true := fun w h => CF.2.2.2.2 w (List.mem_cons_of_mem _ h)
  have hl : lv_has ls 2 [(0, .ref (ad 0)), (1, .int x1)] := hl
  unfold fX5_deny at hf
  refine lv_aload_n (pc := 0) hx hb dX5_deny_0 rfl (lv_at hl 0 rfl) ?_
  refine lv_iload_n (pc := 1) hx hb dX5_deny_1 rfl (lv_at hl 1 rfl) ?_
  obtain ⟨v2, h2, hf⟩ := zz_o hf
  refine cV (pc := 2) (rest := []) (st1 := [.int v2]) (q0 := 0) CF (tX5_isTunnel h2) hK hP hD hS hA hN hW mL_X5_131 kX5_isTunnel nX5_isTunnel rfl rfl rfl rfl ⟨by decide, by decide⟩ hl.1 (Nat.le_of_ble_eq_true rfl) ⟨Nat.le_refl _, Nat.le_refl _⟩ rfl dX5_deny_2 (fun H locs hP hD hS => ?_)
  refine lv_if_ne (pc := 5) (tgt := 11) hx hb dX5_deny_5 (by decide) (fun c5 => ?_) (fun c5 => ?_)
  · have hf := zz_f c5 hf
    refine lv_aload_n (pc := 11) hx hb dX5_deny_11 rfl (lv_at hl 0 rfl) ?_
    refine gc_0_now (pc := 12) CF hK hP mF_X5_26 dX5_deny_12 ?_
    refine gcN_5_denied (pc := 15) CF hK hP hN (nf 7) dX5_deny_15 ?_
    refine lv_iload_n (pc := 18) hx hb dX5_deny_18 rfl (lv_at hl 1 rfl) ?_
    obtain ⟨c19, hf⟩ := zz_k hf
    refine lc_denied (pc := 19) hx hb hK hP c19 dX5_deny_19 ?_
    refine lv_bipush (pc := 20) (v := 9) hx hb dX5_deny_20 (by decide) ?_
    refine lv_icmp_lt (pc := 22) (tgt := 28) hx hb dX5_deny_22 (by decide) (fun c22 => ?_) (fun c22 => ?_)
    · have hf := zz_t c22 hf
      refine lv_aload_n (pc := 28) hx hb dX5_deny_28 rfl (lv_at hl 0 rfl) ?_
      refine gc_0_now (pc := 29) CF hK hP mF_X5_26 dX5_deny_29 ?_
      refine gcN_5_denied (pc := 32) CF hK hP hN (nf 7) dX5_deny_32 ?_
      refine lv_iload_n (pc := 35) hx hb dX5_deny_35 rfl (lv_at hl 1 rfl) ?_
      refine lv_dup2_11 (pc := 36) hx hb dX5_deny_36 rfl rfl ?_
      obtain ⟨c37, hf⟩ := zz_k hf
      refine lc_denied (pc := 37) hx hb hK hP c37 dX5_deny_37 ?_
      refine lv_iconst (pc := 38) (v := 1) hx hb dX5_deny_38 (by decide) ?_
      refine lv_iadd (pc := 39) hx hb dX5_deny_39 ?_
      obtain ⟨c40, hf⟩ := zz_k hf
      refine ac_denied (pc := 40) hx hb hK hP hD hS c40 dX5_deny_40 (fun H locs hP hD hS => ?_)
      obtain ⟨σ40, hP, hD, hf⟩ := zz_g (w := wC ad cA) hP hD hf
      refine lv_aload_n (pc := 41) hx hb dX5_deny_41 rfl (lv_at hl 0 rfl) ?_
      refine lv_iload_n (pc := 42) hx hb dX5_deny_42 rfl (lv_at hl 1 rfl) ?_
      obtain ⟨v43, h43, hf⟩ := zz_o hf
      refine cV (pc := 43) (rest := []) (st1 := [.int v43]) (q0 := 0) CF (tX5_lengthOf h43) hK hP hD hS hA hN hW mL_X5_141 kX5_lengthOf nX5_lengthOf rfl rfl rfl rfl ⟨by decide, by decide⟩ hl.1 (Nat.le_of_ble_eq_true rfl) ⟨Nat.le_refl _, Nat.le_refl _⟩ rfl dX5_deny_43 (fun H locs hP hD hS => ?_)
      exact retIw (wf := wC ad cA) hx hb hr hlk hf hP hD hS dX5_deny_46
    · have hf := zz_f c22 hf
      refine lv_bipush (pc := 25) (v := (-104)) hx hb dX5_deny_25 (by decide) ?_
      exact retIw (wf := wC ad cA) hx hb hr hlk hf hP hD hS dX5_deny_27
  · have hf := zz_t c5 hf
    refine lv_bipush (pc := 8) (v := (-101)) hx hb dX5_deny_8 (by decide) ?_
    exact retIw (wf := wC ad cA) hx hb hr hlk hf hP hD hS dX5_deny_10
set_option maxHeartbeats 4000000 in
set_option maxRecDepth 100000 in
theorem tX5_tunnel {l : Launch} {kv : Nat × Nat} {D : va_G} {N : Nat} {ad : Nat → Nat} {cA : ClassId} {σ : SC} {x1 : Int32} {x2 : Int32} {rF : Int32} (hf : fX5_tunnel N σ x1 x2 = some rF) : Ct l kv D [(cA, .int)] yX5_tunnel cX5_tunnel 3 (some .int) 3 72 (wC ad cA σ) (wC ad cA σ) [.ref (ad 0), .int x1, .int x2] (some (.int rF)) := by
  refine Ct.ofW (by decide) (Nat.le_of_ble_eq_true rfl) ?_
  intro p e s m below meth c A args CF hr hlk hA hP hK hD hN hW hS ls hl
  have hx := CF.1
  have hb := CF.2.1
  have hml := CF.2.2.1
  have hown := CF.2.2.2.1
  have hw : ∀ w ∈ wsA, w.before args s = true := fun w h => CF.2.2.2.2 w (List.mem_cons_of_mem _ h)
  have hl : lv_has ls 3 [(0, .ref (ad 0)), (1, .int x1), (2, .int x2)] := hl
  unfold fX5_tunnel at hf
  refine lv_aload_n (pc := 0) hx hb dX5_tunnel_0 rfl (lv_at hl 0 rfl) ?_
  refine lv_iload_n (pc := 1) hx hb dX5_tunnel_1 rfl (lv_at hl 1 rfl) ?_
  obtain ⟨v2, h2, hf⟩ := zz_o hf
  refine cV (pc := 2) (rest := []) (st1 := [.int v2]) (q0 := 0) CF (tX5_isTunnel h2) hK hP hD hS hA hN hW mL_X5_131 kX5_isTunnel nX5_isTunnel rfl rfl rfl rfl ⟨by decide, by decide⟩ hl.1 (Nat.le_of_ble_eq_true rfl) ⟨Nat.le_refl _, Nat.le_refl _⟩ rfl dX5_tunnel_2 (fun H locs hP hD hS => ?_)
  refine lv_if_ne (pc := 5) (tgt := 11) hx hb dX5_tunnel_5 (by decide) (fun c5 => ?_) (fun c5 => ?_)
  · have hf := zz_f c5 hf
    refine lv_iload_n (pc := 11) hx hb dX5_tunnel_11 rfl (lv_at hl 2 rfl) ?_
    by_cases c12_0 : x2 = 0
    · have hf := zz_t c12_0 hf
      refine lv_tableIn (pc := 12) (tgt := 48) hx hb dX5_tunnel_12 (by rw [c12_0] <;> decide) (by rw [c12_0] <;> decide) (by rw [c12_0] <;> rfl) (by decide) ?_
      refine lv_aload_n (pc := 48) hx hb dX5_tunnel_48 rfl (lv_at hl 0 rfl) ?_
      refine lv_iload_n (pc := 49) hx hb dX5_tunnel_49 rfl (lv_at hl 1 rfl) ?_
      obtain ⟨v50, h50, hf⟩ := zz_o hf
      refine cV (pc := 50) (rest := []) (st1 := [.int v50]) (q0 := 0) CF (tX5_lengthOf h50) hK hP hD hS hA hN hW mL_X5_141 kX5_lengthOf nX5_lengthOf rfl rfl rfl rfl ⟨by decide, by decide⟩ hl.1 (Nat.le_of_ble_eq_true rfl) ⟨Nat.le_refl _, Nat.le_refl _⟩ rfl dX5_tunnel_50 (fun H locs hP hD hS => ?_)
      exact retI hx hb hr hlk hf hP hD hS dX5_tunnel_53
    have hf := zz_f c12_0 hf
    by_cases c12_1 : x2 = 1
    · have hf := zz_t c12_1 hf
      refine lv_tableIn (pc := 12) (tgt := 54) hx hb dX5_tunnel_12 (by rw [c12_1] <;> decide) (by rw [c12_1] <;> decide) (by rw [c12_1] <;> rfl) (by decide) ?_
      refine lv_aload_n (pc := 54) hx hb dX5_tunnel_54 rfl (lv_at hl 0 rfl) ?_
      refine gc_0_now (pc := 55) CF hK hP mF_X5_26 dX5_tunnel_55 ?_
      refine gcN_5_heard (pc := 58) CF hK hP hN (nf 5) dX5_tunnel_58 ?_
      refine lv_iload_n (pc := 61) hx hb dX5_tunnel_61 rfl (lv_at hl 1 rfl) ?_
      obtain ⟨c62, hf⟩ := zz_k hf
      refine lc_heard (pc := 62) hx hb hK hP c62 dX5_tunnel_62 ?_
      exact retI hx hb hr hlk hf hP hD hS dX5_tunnel_63
    have hf := zz_f c12_1 hf
    by_cases c12_2 : x2 = 2
    · have hf := zz_t c12_2 hf
      refine lv_tableIn (pc := 12) (tgt := 64) hx hb dX5_tunnel_12 (by rw [c12_2] <;> decide) (by rw [c12_2] <;> decide) (by rw [c12_2] <;> rfl) (by decide) ?_
      refine lv_aload_n (pc := 64) hx hb dX5_tunnel_64 rfl (lv_at hl 0 rfl) ?_
      refine gc_0_now (pc := 65) CF hK hP mF_X5_26 dX5_tunnel_65 ?_
      refine gcN_5_last (pc := 68) CF hK hP hN (nf 6) dX5_tunnel_68 ?_
      refine lv_iload_n (pc := 71) hx hb dX5_tunnel_71 rfl (lv_at hl 1 rfl) ?_
      obtain ⟨c72, hf⟩ := zz_k hf
      refine lc_last (pc := 72) hx hb hK hP c72 dX5_tunnel_72 ?_
      exact retI hx hb hr hlk hf hP hD hS dX5_tunnel_73
    have hf := zz_f c12_2 hf
    by_cases c12_3 : x2 = 3
    · have hf := zz_t c12_3 hf
      refine lv_tableIn (pc := 12) (tgt := 74) hx hb dX5_tunnel_12 (by rw [c12_3] <;> decide) (by rw [c12_3] <;> decide) (by rw [c12_3] <;> rfl) (by decide) ?_
      refine lv_aload_n (pc := 74) hx hb dX5_tunnel_74 rfl (lv_at hl 0 rfl) ?_
      refine gc_0_now (pc := 75) CF hK hP mF_X5_26 dX5_tunnel_75 ?_
      refine gcN_5_denied (pc := 78) CF hK hP hN (nf 7) dX5_tunnel_78 ?_
      refine lv_iload_n (pc := 81) hx hb dX5_tunnel_81 rfl (lv_at hl 1 rfl) ?_
      obtain ⟨c82, hf⟩ := zz_k hf
      refine lc_denied (pc := 82) hx hb hK hP c82 dX5_tunnel_82 ?_
      exact retI hx hb hr hlk hf hP hD hS dX5_tunnel_83
    have hf := zz_f c12_3 hf
    by_cases c12_4 : x2 = 4
    · have hf := zz_t c12_4 hf
      refine lv_tableIn (pc := 12) (tgt := 84) hx hb dX5_tunnel_12 (by rw [c12_4] <;> decide) (by rw [c12_4] <;> decide) (by rw [c12_4] <;> rfl) (by decide) ?_
      refine lv_aload_n (pc := 84) hx hb dX5_tunnel_84 rfl (lv_at hl 0 rfl) ?_
      refine gc_0_talk (pc := 85) CF hK hP mF_X5_38 dX5_tunnel_85 ?_
      refine lv_aload_n (pc := 88) hx hb dX5_tunnel_88 rfl (lv_at hl 0 rfl) ?_
      refine gc_0_now (pc := 89) CF hK hP mF_X5_26 dX5_tunnel_89 ?_
      refine gcN_5_heard (pc := 92) CF hK hP hN (nf 5) dX5_tunnel_92 ?_
      refine lv_iload_n (pc := 95) hx hb dX5_tunnel_95 rfl (lv_at hl 1 rfl) ?_
      obtain ⟨c96, hf⟩ := zz_k hf
      refine lc_heard (pc := 96) hx hb hK hP c96 dX5_tunnel_96 ?_
      refine lv_aload_n (pc := 97) hx hb dX5_tunnel_97 rfl (lv_at hl 0 rfl) ?_
      refine gc_0_now (pc := 98) CF hK hP mF_X5_26 dX5_tunnel_98 ?_
      refine gcN_5_last (pc := 101) CF hK hP hN (nf 6) dX5_tunnel_101 ?_
      refine lv_iload_n (pc := 104) hx hb dX5_tunnel_104 rfl (lv_at hl 1 rfl) ?_
      obtain ⟨c105, hf⟩ := zz_k hf
      refine lc_last (pc := 105) hx hb hK hP c105 dX5_tunnel_105 ?_
      refine lv_aload_n (pc := 106) hx hb dX5_tunnel_106 rfl (lv_at hl 0 rfl) ?_
      refine gc_0_now (pc := 107) CF hK hP mF_X5_26 dX5_tunnel_107 ?_
      refine gcN_5_denied (pc := 110) CF hK hP hN (nf 7) dX5_tunnel_110 ?_
      refine lv_iload_n (pc := 113) hx hb dX5_tunnel_113 rfl (lv_at hl 1 rfl) ?_
      obtain ⟨c114, hf⟩ := zz_k hf
      refine lc_denied (pc := 114) hx hb hK hP c114 dX5_tunnel_114 ?_
      obtain ⟨v115, h115, hf⟩ := zz_o hf
      refine cV (pc := 115) (rest := []) (st1 := [.int v115]) (q0 := 21) CF (tX4_lengthInTheEnd h115) hK hP hD hS hA hN hW mL_X5_161 kX4_lengthInTheEnd nX4_lengthInTheEnd rfl rfl rfl rfl ⟨by decide, by decide⟩ hl.1 (Nat.le_of_ble_eq_true rfl) ⟨Nat.le_refl _, Nat.le_refl _⟩ rfl dX5_tunnel_115 (fun H locs hP hD hS => ?_)
      exact retI hx hb hr hlk hf hP hD hS dX5_tunnel_118
    have hf := zz_f c12_4 hf
    refine lv_tableOut (pc := 12) (tgt := 119) hx hb dX5_tunnel_12 (sw_0_4 (lv_neT (a := 0) c12_0 rfl) (lv_neT (a := 1) c12_1 rfl) (lv_neT (a := 2) c12_2 rfl) (lv_neT (a := 3) c12_3 rfl) (lv_neT (a := 4) c12_4 rfl)) (by decide) ?_
    refine lv_bipush (pc := 119) (v := (-102)) hx hb dX5_tunnel_119 (by decide) ?_
    exact retI hx hb hr hlk hf hP hD hS dX5_tunnel_121
  · have hf := zz_t c5 hf
    refine lv_bipush (pc := 8) (v := (-101)) hx hb dX5_tunnel_8 (by decide) ?_
    exact retI hx hb hr hlk hf hP hD hS dX5_tunnel_10
set_option maxHeartbeats 4000000 in
set_option maxRecDepth 100000 in
theorem tX5_fewestToTell {l : Launch} {kv : Nat × Nat} {D : va_G} {N : Nat} {ad : Nat → Nat} {cA : ClassId} {σ : SC} {x1 : Int32} {rF : Int32} (hf : fX5_fewestToTell N σ x1 = some rF) : Ct l kv D [(cA, .int)] yX5_fewestToTell cX5_fewestToTell 5 (some .int) 4 93 (wC ad cA σ) (wC ad cA σ) [.ref (ad 0), .int x1] (some (.int rF)) := by
  refine Ct.ofW (by decide) (Nat.le_of_ble_eq_true rfl) ?_
  intro p e s m below meth c A args CF hr hlk hA hP hK hD hN hW hS ls hl
  have hx := CF.1
  have hb := CF.2.1
  have hml := CF.2.2.1
  have hown := CF.2.2.2.1
  have hw : ∀ w ∈ wsA, w.before args s = true := fun w h => CF.2.2.2.2 w (List.mem_cons_of_mem _ h)
  have hl : lv_has ls 5 [(0, .ref (ad 0)), (1, .int x1)] := hl
  unfold fX5_fewestToTell at hf
  have L15 : ∀ (n15 : Nat) (x1 : Int32) (x2 : Int32) (x3 : Int32) (x4 : Int32) (H : Heap) (locs : List Loc) (ls : Array Slot), va_P D vwCl (wC ad cA σ) H → va_D A (wC ad cA σ) → va_S A s.heap H locs → lv_has ls 5 [(0, .ref (ad 0)), (1, .int x1), (2, .int x2), (3, .int x3), (4, .int x4)] → fX5_fewestToTell_15 N n15 σ x1 x2 x3 x4 = some rF → G p l e 4 93 s m args below meth c D A (wC ad cA σ) (some (.int rF)) H locs (F0 m 15 ls []) := by
    intro n15
    induction n15 with
    | zero => intro x1 x2 x3 x4 H locs ls hP hD hS hl hf; exact absurd hf (by simp [fX5_fewestToTell_15])
    | succ n15 ih15 =>
      intro x1 x2 x3 x4 H locs ls hP hD hS hl hf
      rw [fX5_fewestToTell_15] at hf
      refine lv_iload (pc := 15) hx hb dX5_fewestToTell_15 (lv_at hl 4 rfl) ?_
      refine lv_iconst (pc := 17) (v := 1) hx hb dX5_fewestToTell_17 (by decide) ?_
      refine lv_aload_n (pc := 18) hx hb dX5_fewestToTell_18 rfl (lv_at hl 0 rfl) ?_
      refine gc_0_ground (pc := 19) CF hK hP mF_X5_19 dX5_fewestToTell_19 ?_
      refine gcN_3_people (pc := 22) CF hK hP hN (nf 3) dX5_fewestToTell_22 ?_
      refine lv_ishl (pc := 25) hx hb dX5_fewestToTell_25 ?_
      refine lv_icmp_ge (pc := 26) (tgt := 66) hx hb dX5_fewestToTell_26 (by decide) (fun c26 => ?_) (fun c26 => ?_)
      · have hf := zz_t c26 hf
        refine lv_iload_n (pc := 66) hx hb dX5_fewestToTell_66 rfl (lv_at hl 2 rfl) ?_
        exact retI hx hb hr hlk hf hP hD hS dX5_fewestToTell_67
      · have hf := zz_f c26 hf
        refine lv_iload (pc := 29) hx hb dX5_fewestToTell_29 (lv_at hl 4 rfl) ?_
        obtain ⟨v31, h31, hf⟩ := zz_o hf
        refine cSt (pc := 31) (rest := []) (st1 := [.int v31]) CF (tJ6_bitCount_0f7a4 h31) hK hP hD hS hA hN hW mL_X5_153 kJ6_bitCount_0f7a4 nJ6_bitCount_0f7a4 rfl rfl ⟨by decide, by decide⟩ hl.1 (Nat.le_of_ble_eq_true rfl) ⟨Nat.le_refl _, Nat.le_refl _⟩ rfl dX5_fewestToTell_31 (fun H locs hP hD hS => ?_)
        refine lv_iload_n (pc := 34) hx hb dX5_fewestToTell_34 rfl (lv_at hl 3 rfl) ?_
        refine lv_icmp_ge (pc := 35) (tgt := 60) hx hb dX5_fewestToTell_35 (by decide) (fun c35 => ?_) (fun c35 => ?_)
        · have hf := zz_t c35 hf
          refine lv_iinc (pc := 60) (v := (x4 + 1)) (lv' := [(4, .int (x4 + 1)), (0, .ref (ad 0)), (1, .int x1), (2, .int x2), (3, .int x3)]) hx hb dX5_fewestToTell_60 hl (k := 4) rfl rfl (by decide) rfl (fun ls hl => ?_)
          refine lv_goto (pc := 63) (tgt := 15) hx hb dX5_fewestToTell_63 (by decide) ?_
          exact ih15 x1 x2 x3 (x4 + 1) _ _ _ hP hD hS (lv_sub hl [1, 2, 3, 4, 0] rfl) hf
        · have hf := zz_f c35 hf
          refine lv_aload_n (pc := 38) hx hb dX5_fewestToTell_38 rfl (lv_at hl 0 rfl) ?_
          refine gc_0_talk (pc := 39) CF hK hP mF_X5_38 dX5_fewestToTell_39 ?_
          refine lv_iload (pc := 42) hx hb dX5_fewestToTell_42 (lv_at hl 4 rfl) ?_
          obtain ⟨v44, h44, hf⟩ := zz_o hf
          refine cV (pc := 44) (rest := []) (st1 := [.int v44]) (q0 := 21) CF (tX4_ends h44) hK hP hD hS hA hN hW mL_X5_110 kX4_ends nX4_ends rfl rfl rfl rfl ⟨by decide, by decide⟩ hl.1 (Nat.le_of_ble_eq_true rfl) ⟨Nat.le_refl _, Nat.le_refl _⟩ rfl dX5_fewestToTell_44 (fun H locs hP hD hS => ?_)
          refine lv_iload_n (pc := 47) hx hb dX5_fewestToTell_47 rfl (lv_at hl 1 rfl) ?_
          refine lv_icmp_ne (pc := 48) (tgt := 60) hx hb dX5_fewestToTell_48 (by decide) (fun c48 => ?_) (fun c48 => ?_)
          · have hf := zz_f c48 hf
            refine lv_iinc (pc := 60) (v := (x4 + 1)) (lv' := [(4, .int (x4 + 1)), (0, .ref (ad 0)), (1, .int x1), (2, .int x2), (3, .int x3)]) hx hb dX5_fewestToTell_60 hl (k := 4) rfl rfl (by decide) rfl (fun ls hl => ?_)
            refine lv_goto (pc := 63) (tgt := 15) hx hb dX5_fewestToTell_63 (by decide) ?_
            exact ih15 x1 x2 x3 (x4 + 1) _ _ _ hP hD hS (lv_sub hl [1, 2, 3, 4, 0] rfl) hf
          · have hf := zz_t c48 hf
            refine lv_iload (pc := 51) hx hb dX5_fewestToTell_51 (lv_at hl 4 rfl) ?_
            refine lv_istore_n (pc := 53) (lv' := [(2, .int x4), (0, .ref (ad 0)), (1, .int x1), (3, .int x3), (4, .int x4)]) hx hb dX5_fewestToTell_53 rfl hl (by decide) rfl (fun ls hl => ?_)
            refine lv_iload (pc := 54) hx hb dX5_fewestToTell_54 (lv_at hl 4 rfl) ?_
            obtain ⟨v56, h56, hf⟩ := zz_o hf
            refine cSt (pc := 56) (rest := []) (st1 := [.int v56]) CF (tJ6_bitCount_0f7a4 h56) hK hP hD hS hA hN hW mL_X5_153 kJ6_bitCount_0f7a4 nJ6_bitCount_0f7a4 rfl rfl ⟨by decide, by decide⟩ hl.1 (Nat.le_of_ble_eq_true rfl) ⟨Nat.le_refl _, Nat.le_refl _⟩ rfl dX5_fewestToTell_56 (fun H locs hP hD hS => ?_)
            refine lv_istore_n (pc := 59) (lv' := [(3, .int v56), (2, .int x4), (0, .ref (ad 0)), (1, .int x1), (4, .int x4)]) hx hb dX5_fewestToTell_59 rfl hl (by decide) rfl (fun ls hl => ?_)
            refine lv_iinc (pc := 60) (v := (x4 + 1)) (lv' := [(4, .int (x4 + 1)), (3, .int v56), (2, .int x4), (0, .ref (ad 0)), (1, .int x1)]) hx hb dX5_fewestToTell_60 hl (k := 4) rfl rfl (by decide) rfl (fun ls hl => ?_)
            refine lv_goto (pc := 63) (tgt := 15) hx hb dX5_fewestToTell_63 (by decide) ?_
            exact ih15 x1 x4 v56 (x4 + 1) _ _ _ hP hD hS (lv_sub hl [3, 4, 2, 1, 0] rfl) hf
  refine lv_iconst (pc := 0) (v := 0) hx hb dX5_fewestToTell_0 (by decide) ?_
  refine lv_istore_n (pc := 1) (lv' := [(2, .int 0), (0, .ref (ad 0)), (1, .int x1)]) hx hb dX5_fewestToTell_1 rfl hl (by decide) rfl (fun ls hl => ?_)
  refine lv_aload_n (pc := 2) hx hb dX5_fewestToTell_2 rfl (lv_at hl 1 rfl) ?_
  refine gc_0_ground (pc := 3) CF hK hP mF_X5_19 dX5_fewestToTell_3 ?_
  refine gcN_3_people (pc := 6) CF hK hP hN (nf 3) dX5_fewestToTell_6 ?_
  refine lv_iconst (pc := 9) (v := 1) hx hb dX5_fewestToTell_9 (by decide) ?_
  refine lv_iadd (pc := 10) hx hb dX5_fewestToTell_10 ?_
  refine lv_istore_n (pc := 11) (lv' := [(3, .int ((c_people σ) + 1)), (2, .int 0), (0, .ref (ad 0)), (1, .int x1)]) hx hb dX5_fewestToTell_11 rfl hl (by decide) rfl (fun ls hl => ?_)
  refine lv_iconst (pc := 12) (v := 1) hx hb dX5_fewestToTell_12 (by decide) ?_
  refine lv_istore (pc := 13) (lv' := [(4, .int 1), (3, .int ((c_people σ) + 1)), (2, .int 0), (0, .ref (ad 0)), (1, .int x1)]) hx hb dX5_fewestToTell_13 hl (by decide) rfl (fun ls hl => ?_)
  exact L15 N x1 0 ((c_people σ) + 1) 1 _ _ _ hP hD hS (lv_sub hl [3, 4, 2, 1, 0] rfl) hf
set_option maxHeartbeats 4000000 in
set_option maxRecDepth 100000 in
theorem tX5_aim {l : Launch} {kv : Nat × Nat} {D : va_G} {N : Nat} {ad : Nat → Nat} {cA : ClassId} {σ : SC} {x1 : Int32} {x2 : Int32} {rF : Int32} (hf : fX5_aim N σ x1 x2 = some rF) : Ct l kv D [(cA, .int)] yX5_aim cX5_aim 4 (some .int) 5 117 (wC ad cA σ) (wC ad cA σ) [.ref (ad 0), .int x1, .int x2] (some (.int rF)) := by
  refine Ct.ofW (by decide) (Nat.le_of_ble_eq_true rfl) ?_
  intro p e s m below meth c A args CF hr hlk hA hP hK hD hN hW hS ls hl
  have hx := CF.1
  have hb := CF.2.1
  have hml := CF.2.2.1
  have hown := CF.2.2.2.1
  have hw : ∀ w ∈ wsA, w.before args s = true := fun w h => CF.2.2.2.2 w (List.mem_cons_of_mem _ h)
  have hl : lv_has ls 4 [(0, .ref (ad 0)), (1, .int x1), (2, .int x2)] := hl
  unfold fX5_aim at hf
  refine lv_iload_n (pc := 0) hx hb dX5_aim_0 rfl (lv_at hl 1 rfl) ?_
  refine lv_iconst (pc := 1) (v := 1) hx hb dX5_aim_1 (by decide) ?_
  refine lv_icmp_lt (pc := 2) (tgt := 20) hx hb dX5_aim_2 (by decide) (fun c2 => ?_) (fun c2 => ?_)
  · have hf := zz_t c2 hf
    refine lv_bipush (pc := 20) (v := (-102)) hx hb dX5_aim_20 (by decide) ?_
    exact retI hx hb hr hlk hf hP hD hS dX5_aim_22
  · have hf := zz_f c2 hf
    refine lv_iload_n (pc := 5) hx hb dX5_aim_5 rfl (lv_at hl 1 rfl) ?_
    refine lv_bipush (pc := 6) (v := 12) hx hb dX5_aim_6 (by decide) ?_
    refine lv_icmp_gt (pc := 8) (tgt := 20) hx hb dX5_aim_8 (by decide) (fun c8 => ?_) (fun c8 => ?_)
    · have hf := zz_t c8 hf
      refine lv_bipush (pc := 20) (v := (-102)) hx hb dX5_aim_20 (by decide) ?_
      exact retI hx hb hr hlk hf hP hD hS dX5_aim_22
    · have hf := zz_f c8 hf
      refine lv_iload_n (pc := 11) hx hb dX5_aim_11 rfl (lv_at hl 2 rfl) ?_
      refine lv_if_lt (pc := 12) (tgt := 20) hx hb dX5_aim_12 (by decide) (fun c12 => ?_) (fun c12 => ?_)
      · have hf := zz_t c12 hf
        refine lv_bipush (pc := 20) (v := (-102)) hx hb dX5_aim_20 (by decide) ?_
        exact retI hx hb hr hlk hf hP hD hS dX5_aim_22
      · have hf := zz_f c12 hf
        refine lv_iload_n (pc := 15) hx hb dX5_aim_15 rfl (lv_at hl 2 rfl) ?_
        refine lv_iconst (pc := 16) (v := 2) hx hb dX5_aim_16 (by decide) ?_
        refine lv_icmp_lt (pc := 17) (tgt := 23) hx hb dX5_aim_17 (by decide) (fun c17 => ?_) (fun c17 => ?_)
        · have hf := zz_t c17 hf
          refine lv_aload_n (pc := 23) hx hb dX5_aim_23 rfl (lv_at hl 0 rfl) ?_
          refine gc_0_ground (pc := 24) CF hK hP mF_X5_19 dX5_aim_24 ?_
          obtain ⟨v27, h27, hf⟩ := zz_o hf
          refine cV (pc := 27) (rest := []) (st1 := [.int v27]) (q0 := 3) CF (tX0_isThere h27) hK hP hD hS hA hN hW mL_X5_144 kX0_isThere nX0_isThere rfl rfl rfl rfl ⟨by decide, by decide⟩ hl.1 (Nat.le_of_ble_eq_true rfl) ⟨Nat.le_refl _, Nat.le_refl _⟩ rfl dX5_aim_27 (fun H locs hP hD hS => ?_)
          refine lv_if_ne (pc := 30) (tgt := 36) hx hb dX5_aim_30 (by decide) (fun c30 => ?_) (fun c30 => ?_)
          · have hf := zz_f c30 hf
            refine lv_aload_n (pc := 36) hx hb dX5_aim_36 rfl (lv_at hl 0 rfl) ?_
            refine lv_iload_n (pc := 37) hx hb dX5_aim_37 rfl (lv_at hl 1 rfl) ?_
            obtain ⟨v38, h38, hf⟩ := zz_o hf
            refine cV (pc := 38) (rest := []) (st1 := [.int v38]) (q0 := 0) CF (tX5_fewestToTell h38) hK hP hD hS hA hN hW mL_X5_167 kX5_fewestToTell nX5_fewestToTell rfl rfl rfl rfl ⟨by decide, by decide⟩ hl.1 (Nat.le_of_ble_eq_true rfl) ⟨Nat.le_refl _, Nat.le_refl _⟩ rfl dX5_aim_38 (fun H locs hP hD hS => ?_)
            refine lv_istore_n (pc := 41) (lv' := [(3, .int v38), (0, .ref (ad 0)), (1, .int x1), (2, .int x2)]) hx hb dX5_aim_41 rfl hl (by decide) rfl (fun ls hl => ?_)
            refine lv_iload_n (pc := 42) hx hb dX5_aim_42 rfl (lv_at hl 0 rfl) ?_
            refine lv_if_ne (pc := 43) (tgt := 48) hx hb dX5_aim_43 (by decide) (fun c43 => ?_) (fun c43 => ?_)
            · have hf := zz_f c43 hf
              refine lv_iload_n (pc := 48) hx hb dX5_aim_48 rfl (lv_at hl 3 rfl) ?_
              refine lv_if_ne (pc := 49) (tgt := 59) hx hb dX5_aim_49 (by decide) (fun c49 => ?_) (fun c49 => ?_)
              · have hf := zz_f c49 hf
                refine lv_iload_n (pc := 59) hx hb dX5_aim_59 rfl (lv_at hl 0 rfl) ?_
                exact retI hx hb hr hlk hf hP hD hS dX5_aim_60
              · have hf := zz_t c49 hf
                refine lv_iload_n (pc := 52) hx hb dX5_aim_52 rfl (lv_at hl 0 rfl) ?_
                obtain ⟨v53, h53, hf⟩ := zz_o hf
                refine cSt (pc := 53) (rest := []) (st1 := [.int v53]) CF (tJ6_bitCount_0f7a4 h53) hK hP hD hS hA hN hW mL_X5_153 kJ6_bitCount_0f7a4 nJ6_bitCount_0f7a4 rfl rfl ⟨by decide, by decide⟩ hl.1 (Nat.le_of_ble_eq_true rfl) ⟨Nat.le_refl _, Nat.le_refl _⟩ rfl dX5_aim_53 (fun H locs hP hD hS => ?_)
                refine lv_goto (pc := 56) (tgt := 60) hx hb dX5_aim_56 (by decide) ?_
                exact retI hx hb hr hlk hf hP hD hS dX5_aim_60
            · have hf := zz_t c43 hf
              refine lv_iconst (pc := 46) (v := (-1)) hx hb dX5_aim_46 (by decide) ?_
              exact retI hx hb hr hlk hf hP hD hS dX5_aim_47
          · have hf := zz_t c30 hf
            refine lv_bipush (pc := 33) (v := (-103)) hx hb dX5_aim_33 (by decide) ?_
            exact retI hx hb hr hlk hf hP hD hS dX5_aim_35
        · have hf := zz_f c17 hf
          refine lv_bipush (pc := 20) (v := (-102)) hx hb dX5_aim_20 (by decide) ?_
          exact retI hx hb hr hlk hf hP hD hS dX5_aim_22
set_option maxHeartbeats 4000000 in
set_option maxRecDepth 100000 in
theorem tX2_note {l : Launch} {kv : Nat × Nat} {D : va_G} {N : Nat} {ad : Nat → Nat} {cA : ClassId} {σ : SC} {x1 : Int32} {x2 : Int32} {rF : Int32} {σF : SC} (hf : fX2_note N σ x1 x2 = some (rF, σF)) : Ct l kv D [(cA, .int)] yX2_note cX2_note 3 (some .boolean) 0 0 (wC ad cA σ) (wC ad cA σF) [.ref (ad 5), .int x1, .int x2] (some (.int rF)) := by
  refine Ct.ofW (by decide) (Nat.le_of_ble_eq_true rfl) ?_
  intro p e s m below meth c A args CF hr hlk hA hP hK hD hN hW hS ls hl
  have hx := CF.1
  have hb := CF.2.1
  have hml := CF.2.2.1
  have hown := CF.2.2.2.1
  have hw : ∀ w ∈ wsA, w.before args s = true := fun w h => CF.2.2.2.2 w (List.mem_cons_of_mem _ h)
  have hl : lv_has ls 3 [(0, .ref (ad 5)), (1, .int x1), (2, .int x2)] := hl
  unfold fX2_note at hf
  refine lv_aload_n (pc := 0) hx hb dX2_note_0 rfl (lv_at hl 0 rfl) ?_
  refine gc_5_asked (pc := 1) CF hK hP mF_X2_33 dX2_note_1 ?_
  refine lv_if_lt (pc := 4) (tgt := 16) hx hb dX2_note_4 (by decide) (fun c4 => ?_) (fun c4 => ?_)
  · have hf := zz_t c4 hf
    refine lv_iconst (pc := 16) (v := 0) hx hb dX2_note_16 (by decide) ?_
    exact retZw (wf := wC ad cA) hx hb hr hlk rfl hf hP hD hS dX2_note_17
  · have hf := zz_f c4 hf
    refine lv_aload_n (pc := 7) hx hb dX2_note_7 rfl (lv_at hl 0 rfl) ?_
    refine gc_5_asked (pc := 8) CF hK hP mF_X2_33 dX2_note_8 ?_
    refine lv_bipush (pc := 11) (v := 8) hx hb dX2_note_11 (by decide) ?_
    refine lv_icmp_lt (pc := 13) (tgt := 18) hx hb dX2_note_13 (by decide) (fun c13 => ?_) (fun c13 => ?_)
    · have hf := zz_t c13 hf
      refine lv_aload_n (pc := 18) hx hb dX2_note_18 rfl (lv_at hl 0 rfl) ?_
      refine gc_5_askedWhom (pc := 19) CF hK hP mF_X2_27 dX2_note_19 ?_
      refine lv_aload_n (pc := 22) hx hb dX2_note_22 rfl (lv_at hl 0 rfl) ?_
      refine gc_5_asked (pc := 23) CF hK hP mF_X2_33 dX2_note_23 ?_
      refine lv_iload_n (pc := 26) hx hb dX2_note_26 rfl (lv_at hl 1 rfl) ?_
      obtain ⟨c27, hf⟩ := zz_k hf
      refine ac_whom (pc := 27) hx hb hK hP hD hS c27 dX2_note_27 (fun H locs hP hD hS => ?_)
      obtain ⟨σ27, hP, hD, hf⟩ := zz_g (w := wC ad cA) hP hD hf
      refine lv_aload_n (pc := 28) hx hb dX2_note_28 rfl (lv_at hl 0 rfl) ?_
      refine gc_5_askedDay (pc := 29) CF hK hP mF_X2_30 dX2_note_29 ?_
      refine lv_aload_n (pc := 32) hx hb dX2_note_32 rfl (lv_at hl 0 rfl) ?_
      refine gc_5_asked (pc := 33) CF hK hP mF_X2_33 dX2_note_33 ?_
      refine lv_iload_n (pc := 36) hx hb dX2_note_36 rfl (lv_at hl 2 rfl) ?_
      obtain ⟨c37, hf⟩ := zz_k hf
      refine ac_wday (pc := 37) hx hb hK hP hD hS c37 dX2_note_37 (fun H locs hP hD hS => ?_)
      obtain ⟨σ37, hP, hD, hf⟩ := zz_g (w := wC ad cA) hP hD hf
      refine lv_aload_n (pc := 38) hx hb dX2_note_38 rfl (lv_at hl 0 rfl) ?_
      refine lv_dup (pc := 39) hx hb dX2_note_39 rfl ?_
      refine gc_5_asked (pc := 40) CF hK hP mF_X2_33 dX2_note_40 ?_
      refine lv_iconst (pc := 43) (v := 1) hx hb dX2_note_43 (by decide) ?_
      refine lv_iadd (pc := 44) hx hb dX2_note_44 ?_
      refine pc_5_asked (pc := 45) CF hK hP hD hS mF_X2_33 dX2_note_45 (fun H locs hP hD hS => ?_)
      obtain ⟨σ45, hP, hD, hf⟩ := zz_g (w := wC ad cA) hP hD hf
      refine lv_iconst (pc := 48) (v := 1) hx hb dX2_note_48 (by decide) ?_
      exact retZw (wf := wC ad cA) hx hb hr hlk rfl hf hP hD hS dX2_note_49
    · have hf := zz_f c13 hf
      refine lv_iconst (pc := 16) (v := 0) hx hb dX2_note_16 (by decide) ?_
      exact retZw (wf := wC ad cA) hx hb hr hlk rfl hf hP hD hS dX2_note_17
set_option maxHeartbeats 4000000 in
set_option maxRecDepth 100000 in
theorem tX5_heard {l : Launch} {kv : Nat × Nat} {D : va_G} {N : Nat} {ad : Nat → Nat} {cA : ClassId} {σ : SC} {x1 : Int32} {x2 : Int32} {rF : Int32} {σF : SC} (hf : fX5_heard N σ x1 x2 = some (rF, σF)) : Ct l kv D [(cA, .int)] yX5_heard cX5_heard 3 (some .int) 1 22 (wC ad cA σ) (wC ad cA σF) [.ref (ad 0), .int x1, .int x2] (some (.int rF)) := by
  refine Ct.ofW (by decide) (Nat.le_of_ble_eq_true rfl) ?_
  intro p e s m below meth c A args CF hr hlk hA hP hK hD hN hW hS ls hl
  have hx := CF.1
  have hb := CF.2.1
  have hml := CF.2.2.1
  have hown := CF.2.2.2.1
  have hw : ∀ w ∈ wsA, w.before args s = true := fun w h => CF.2.2.2.2 w (List.mem_cons_of_mem _ h)
  have hl : lv_has ls 3 [(0, .ref (ad 0)), (1, .int x1), (2, .int x2)] := hl
  unfold fX5_heard at hf
  have J32 : ∀ (σ : SC) (x1 : Int32) (x2 : Int32) (H : Heap) (locs : List Loc) (ls : Array Slot), va_P D vwCl (wC ad cA σ) H → va_D A (wC ad cA σ) → va_S A s.heap H locs → lv_has ls 3 [(0, .ref (ad 0)), (1, .int x1), (2, .int x2)] → fX5_heard_32 N σ x1 x2 = some (rF, σF) → G p l e 1 22 s m args below meth c D A (wC ad cA σF) (some (.int rF)) H locs (F0 m 32 ls []) := by
    intro σ x1 x2 H locs ls hP hD hS hl hf
    unfold fX5_heard_32 at hf
    refine lv_aload_n (pc := 32) hx hb dX5_heard_32 rfl (lv_at hl 0 rfl) ?_
    refine gc_0_now (pc := 33) CF hK hP mF_X5_26 dX5_heard_33 ?_
    refine lv_iload_n (pc := 36) hx hb dX5_heard_36 rfl (lv_at hl 1 rfl) ?_
    refine lv_iload_n (pc := 37) hx hb dX5_heard_37 rfl (lv_at hl 2 rfl) ?_
    obtain ⟨v38, σ38, h38, hf⟩ := zz_b hf
    refine cV (pc := 38) (rest := []) (st1 := [.int v38]) (q0 := 5) CF (tX2_note h38) hK hP hD hS hA hN hW mL_X5_170 kX2_note nX2_note rfl rfl rfl rfl ⟨by decide, by decide⟩ hl.1 (Nat.le_of_ble_eq_true rfl) ⟨Nat.le_refl _, Nat.le_refl _⟩ rfl dX5_heard_38 (fun H locs hP hD hS => ?_)
    refine lv_if_eq (pc := 41) (tgt := 54) hx hb dX5_heard_41 (by decide) (fun c41 => ?_) (fun c41 => ?_)
    · have hf := zz_t c41 hf
      refine lv_bipush (pc := 54) (v := (-104)) hx hb dX5_heard_54 (by decide) ?_
      exact retIw (wf := wC ad cA) hx hb hr hlk hf hP hD hS dX5_heard_56
    · have hf := zz_f c41 hf
      refine lv_aload_n (pc := 44) hx hb dX5_heard_44 rfl (lv_at hl 0 rfl) ?_
      refine gc_0_now (pc := 45) CF hK hP mF_X5_26 dX5_heard_45 ?_
      refine gcN_5_asked (pc := 48) CF hK hP hN (nf 11) dX5_heard_48 ?_
      refine lv_goto (pc := 51) (tgt := 56) hx hb dX5_heard_51 (by decide) ?_
      exact retIw (wf := wC ad cA) hx hb hr hlk hf hP hD hS dX5_heard_56
  refine lv_aload_n (pc := 0) hx hb dX5_heard_0 rfl (lv_at hl 0 rfl) ?_
  refine gc_0_ground (pc := 1) CF hK hP mF_X5_19 dX5_heard_1 ?_
  refine lv_iload_n (pc := 4) hx hb dX5_heard_4 rfl (lv_at hl 1 rfl) ?_
  obtain ⟨v5, h5, hf⟩ := zz_o hf
  refine cV (pc := 5) (rest := []) (st1 := [.int v5]) (q0 := 3) CF (tX0_has h5) hK hP hD hS hA hN hW mL_X5_91 kX0_has nX0_has rfl rfl rfl rfl ⟨by decide, by decide⟩ hl.1 (Nat.le_of_ble_eq_true rfl) ⟨Nat.le_refl _, Nat.le_refl _⟩ rfl dX5_heard_5 (fun H locs hP hD hS => ?_)
  refine lv_if_ne (pc := 8) (tgt := 14) hx hb dX5_heard_8 (by decide) (fun c8 => ?_) (fun c8 => ?_)
  · have hf := zz_f c8 hf
    refine lv_iload_n (pc := 14) hx hb dX5_heard_14 rfl (lv_at hl 2 rfl) ?_
    refine lv_iconst (pc := 15) (v := (-1)) hx hb dX5_heard_15 (by decide) ?_
    refine lv_icmp_eq (pc := 16) (tgt := 32) hx hb dX5_heard_16 (by decide) (fun c16 => ?_) (fun c16 => ?_)
    · have hf := zz_t c16 hf
      exact J32 σ x1 x2 _ _ _ hP hD hS (lv_sub hl [0, 1, 2] rfl) hf
    · have hf := zz_f c16 hf
      refine lv_iload_n (pc := 19) hx hb dX5_heard_19 rfl (lv_at hl 2 rfl) ?_
      refine lv_if_lt (pc := 20) (tgt := 29) hx hb dX5_heard_20 (by decide) (fun c20 => ?_) (fun c20 => ?_)
      · have hf := zz_t c20 hf
        refine lv_bipush (pc := 29) (v := (-102)) hx hb dX5_heard_29 (by decide) ?_
        exact retIw (wf := wC ad cA) hx hb hr hlk hf hP hD hS dX5_heard_31
      · have hf := zz_f c20 hf
        refine lv_iload_n (pc := 23) hx hb dX5_heard_23 rfl (lv_at hl 2 rfl) ?_
        refine lv_bipush (pc := 24) (v := 9) hx hb dX5_heard_24 (by decide) ?_
        refine lv_icmp_le (pc := 26) (tgt := 32) hx hb dX5_heard_26 (by decide) (fun c26 => ?_) (fun c26 => ?_)
        · have hf := zz_t c26 hf
          exact J32 σ x1 x2 _ _ _ hP hD hS (lv_sub hl [0, 1, 2] rfl) hf
        · have hf := zz_f c26 hf
          refine lv_bipush (pc := 29) (v := (-102)) hx hb dX5_heard_29 (by decide) ?_
          exact retIw (wf := wC ad cA) hx hb hr hlk hf hP hD hS dX5_heard_31
  · have hf := zz_t c8 hf
    refine lv_bipush (pc := 11) (v := (-101)) hx hb dX5_heard_11 (by decide) ?_
    exact retIw (wf := wC ad cA) hx hb hr hlk hf hP hD hS dX5_heard_13
