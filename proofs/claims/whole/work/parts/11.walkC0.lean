set_option maxHeartbeats 4000000 in
set_option maxRecDepth 100000 in
theorem tX1_put {l : Launch} {kv : Nat × Nat} {D : va_G} {N : Nat} {ad : Nat → Nat} {cA : ClassId} {σ : SC} {x1 : Int32} {rF : Int32} {σF : SC} (hf : fX1_put N σ x1 = some (rF, σF)) : Ct l kv D [(cA, .int)] yX1_put cX1_put 2 (some .boolean) 0 0 (wC ad cA σ) (wC ad cA σF) [.ref (ad 1), .int x1] (some (.int rF)) := by
  refine Ct.ofW (by decide) (Nat.le_of_ble_eq_true rfl) ?_
  intro p e s m below meth c A args CF hr hlk hA hP hK hD hN hW hS ls hl
  have hx := CF.1
  have hb := CF.2.1
  have hml := CF.2.2.1
  have hown := CF.2.2.2.1
  have hw : ∀ w ∈ wsA, w.before args s = true := fun w h => CF.2.2.2.2 w (List.mem_cons_of_mem _ h)
  have hl : lv_has ls 2 [(0, .ref (ad 1)), (1, .int x1)] := hl
  unfold fX1_put at hf
  refine lv_aload_n (pc := 0) hx hb dX1_put_0 rfl (lv_at hl 0 rfl) ?_
  refine gc_1_length (pc := 1) CF hK hP mF_X1_15 dX1_put_1 ?_
  refine lv_if_lt (pc := 4) (tgt := 19) hx hb dX1_put_4 (by decide) (fun c4 => ?_) (fun c4 => ?_)
  · have hf := zz_t c4 hf
    refine lv_iconst (pc := 19) (v := 0) hx hb dX1_put_19 (by decide) ?_
    exact retZw (wf := wC ad cA) hx hb hr hlk rfl hf hP hD hS dX1_put_20
  · have hf := zz_f c4 hf
    refine lv_aload_n (pc := 7) hx hb dX1_put_7 rfl (lv_at hl 0 rfl) ?_
    refine gc_1_length (pc := 8) CF hK hP mF_X1_15 dX1_put_8 ?_
    refine lv_aload_n (pc := 11) hx hb dX1_put_11 rfl (lv_at hl 0 rfl) ?_
    refine gc_1_codes (pc := 12) CF hK hP mF_X1_9 dX1_put_12 ?_
    refine nc_codes (pc := 15) hx hb hK hP dX1_put_15 ?_
    refine lv_icmp_lt (pc := 16) (tgt := 21) hx hb dX1_put_16 (by decide) (fun c16 => ?_) (fun c16 => ?_)
    · have hf := zz_t c16 hf
      refine lv_aload_n (pc := 21) hx hb dX1_put_21 rfl (lv_at hl 0 rfl) ?_
      refine gc_1_codes (pc := 22) CF hK hP mF_X1_9 dX1_put_22 ?_
      refine lv_aload_n (pc := 25) hx hb dX1_put_25 rfl (lv_at hl 0 rfl) ?_
      refine gc_1_length (pc := 26) CF hK hP mF_X1_15 dX1_put_26 ?_
      refine lv_iload_n (pc := 29) hx hb dX1_put_29 rfl (lv_at hl 1 rfl) ?_
      obtain ⟨c30, hf⟩ := zz_k hf
      refine ac_codes (pc := 30) hx hb hK hP hD hS c30 dX1_put_30 (fun H locs hP hD hS => ?_)
      obtain ⟨σ30, hP, hD, hf⟩ := zz_g (w := wC ad cA) hP hD hf
      refine lv_aload_n (pc := 31) hx hb dX1_put_31 rfl (lv_at hl 0 rfl) ?_
      refine lv_dup (pc := 32) hx hb dX1_put_32 rfl ?_
      refine gc_1_length (pc := 33) CF hK hP mF_X1_15 dX1_put_33 ?_
      refine lv_iconst (pc := 36) (v := 1) hx hb dX1_put_36 (by decide) ?_
      refine lv_iadd (pc := 37) hx hb dX1_put_37 ?_
      refine pc_1_length (pc := 38) CF hK hP hD hS mF_X1_15 dX1_put_38 (fun H locs hP hD hS => ?_)
      obtain ⟨σ38, hP, hD, hf⟩ := zz_g (w := wC ad cA) hP hD hf
      refine lv_iconst (pc := 41) (v := 1) hx hb dX1_put_41 (by decide) ?_
      exact retZw (wf := wC ad cA) hx hb hr hlk rfl hf hP hD hS dX1_put_42
    · have hf := zz_f c16 hf
      refine lv_iconst (pc := 19) (v := 0) hx hb dX1_put_19 (by decide) ?_
      exact retZw (wf := wC ad cA) hx hb hr hlk rfl hf hP hD hS dX1_put_20
set_option maxHeartbeats 4000000 in
set_option maxRecDepth 100000 in
theorem tX5_letter {l : Launch} {kv : Nat × Nat} {D : va_G} {N : Nat} {ad : Nat → Nat} {cA : ClassId} {σ : SC} {x1 : Int32} {rF : Int32} {σF : SC} (hf : fX5_letter N σ x1 = some (rF, σF)) : Ct l kv D [(cA, .int)] yX5_letter cX5_letter 2 (some .int) 1 21 (wC ad cA σ) (wC ad cA σF) [.ref (ad 0), .int x1] (some (.int rF)) := by
  refine Ct.ofW (by decide) (Nat.le_of_ble_eq_true rfl) ?_
  intro p e s m below meth c A args CF hr hlk hA hP hK hD hN hW hS ls hl
  have hx := CF.1
  have hb := CF.2.1
  have hml := CF.2.2.1
  have hown := CF.2.2.2.1
  have hw : ∀ w ∈ wsA, w.before args s = true := fun w h => CF.2.2.2.2 w (List.mem_cons_of_mem _ h)
  have hl : lv_has ls 2 [(0, .ref (ad 0)), (1, .int x1)] := hl
  unfold fX5_letter at hf
  refine lv_iload_n (pc := 0) hx hb dX5_letter_0 rfl (lv_at hl 1 rfl) ?_
  refine lv_iconst (pc := 1) (v := 1) hx hb dX5_letter_1 (by decide) ?_
  refine lv_icmp_lt (pc := 2) (tgt := 11) hx hb dX5_letter_2 (by decide) (fun c2 => ?_) (fun c2 => ?_)
  · have hf := zz_t c2 hf
    refine lv_bipush (pc := 11) (v := (-102)) hx hb dX5_letter_11 (by decide) ?_
    exact retIw (wf := wC ad cA) hx hb hr hlk hf hP hD hS dX5_letter_13
  · have hf := zz_f c2 hf
    refine lv_iload_n (pc := 5) hx hb dX5_letter_5 rfl (lv_at hl 1 rfl) ?_
    refine lv_bipush (pc := 6) (v := 126) hx hb dX5_letter_6 (by decide) ?_
    refine lv_icmp_le (pc := 8) (tgt := 14) hx hb dX5_letter_8 (by decide) (fun c8 => ?_) (fun c8 => ?_)
    · have hf := zz_t c8 hf
      refine lv_aload_n (pc := 14) hx hb dX5_letter_14 rfl (lv_at hl 0 rfl) ?_
      refine gc_0_page (pc := 15) CF hK hP mF_X5_10 dX5_letter_15 ?_
      refine lv_iload_n (pc := 18) hx hb dX5_letter_18 rfl (lv_at hl 1 rfl) ?_
      obtain ⟨v19, σ19, h19, hf⟩ := zz_b hf
      refine cV (pc := 19) (rest := []) (st1 := [.int v19]) (q0 := 1) CF (tX1_put h19) hK hP hD hS hA hN hW mL_X5_59 kX1_put nX1_put rfl rfl rfl rfl ⟨by decide, by decide⟩ hl.1 (Nat.le_of_ble_eq_true rfl) ⟨Nat.le_refl _, Nat.le_refl _⟩ rfl dX5_letter_19 (fun H locs hP hD hS => ?_)
      refine lv_if_eq (pc := 22) (tgt := 35) hx hb dX5_letter_22 (by decide) (fun c22 => ?_) (fun c22 => ?_)
      · have hf := zz_t c22 hf
        refine lv_bipush (pc := 35) (v := (-104)) hx hb dX5_letter_35 (by decide) ?_
        exact retIw (wf := wC ad cA) hx hb hr hlk hf hP hD hS dX5_letter_37
      · have hf := zz_f c22 hf
        refine lv_aload_n (pc := 25) hx hb dX5_letter_25 rfl (lv_at hl 0 rfl) ?_
        refine gc_0_page (pc := 26) CF hK hP mF_X5_10 dX5_letter_26 ?_
        refine gcN_1_length (pc := 29) CF hK hP hN (nf 0) dX5_letter_29 ?_
        refine lv_goto (pc := 32) (tgt := 37) hx hb dX5_letter_32 (by decide) ?_
        exact retIw (wf := wC ad cA) hx hb hr hlk hf hP hD hS dX5_letter_37
    · have hf := zz_f c8 hf
      refine lv_bipush (pc := 11) (v := (-102)) hx hb dX5_letter_11 (by decide) ?_
      exact retIw (wf := wC ad cA) hx hb hr hlk hf hP hD hS dX5_letter_13
set_option maxHeartbeats 4000000 in
set_option maxRecDepth 100000 in
theorem tX1_clear {l : Launch} {kv : Nat × Nat} {D : va_G} {N : Nat} {ad : Nat → Nat} {cA : ClassId} {σ : SC} {σF : SC} (hf : fX1_clear N σ = some σF) : Ct l kv D [(cA, .int)] yX1_clear cX1_clear 1 none 0 0 (wC ad cA σ) (wC ad cA σF) [.ref (ad 1)] (none) := by
  refine Ct.ofW (by decide) (Nat.le_of_ble_eq_true rfl) ?_
  intro p e s m below meth c A args CF hr hlk hA hP hK hD hN hW hS ls hl
  have hx := CF.1
  have hb := CF.2.1
  have hml := CF.2.2.1
  have hown := CF.2.2.2.1
  have hw : ∀ w ∈ wsA, w.before args s = true := fun w h => CF.2.2.2.2 w (List.mem_cons_of_mem _ h)
  have hl : lv_has ls 1 [(0, .ref (ad 1))] := hl
  unfold fX1_clear at hf
  refine lv_aload_n (pc := 0) hx hb dX1_clear_0 rfl (lv_at hl 0 rfl) ?_
  refine lv_iconst (pc := 1) (v := 0) hx hb dX1_clear_1 (by decide) ?_
  refine pc_1_length (pc := 2) CF hK hP hD hS mF_X1_15 dX1_clear_2 (fun H locs hP hD hS => ?_)
  obtain ⟨σ2, hP, hD, hf⟩ := zz_g (w := wC ad cA) hP hD hf
  exact retVw (wf := wC ad cA) hx hb hr hlk hf hP hD hS dX1_clear_5
set_option maxHeartbeats 4000000 in
set_option maxRecDepth 100000 in
theorem tX5_blank {l : Launch} {kv : Nat × Nat} {D : va_G} {N : Nat} {ad : Nat → Nat} {cA : ClassId} {σ : SC} {rF : Int32} {σF : SC} (hf : fX5_blank N σ = some (rF, σF)) : Ct l kv D [(cA, .int)] yX5_blank cX5_blank 2 (some .int) 1 20 (wC ad cA σ) (wC ad cA σF) [.ref (ad 0)] (some (.int rF)) := by
  refine Ct.ofW (by decide) (Nat.le_of_ble_eq_true rfl) ?_
  intro p e s m below meth c A args CF hr hlk hA hP hK hD hN hW hS ls hl
  have hx := CF.1
  have hb := CF.2.1
  have hml := CF.2.2.1
  have hown := CF.2.2.2.1
  have hw : ∀ w ∈ wsA, w.before args s = true := fun w h => CF.2.2.2.2 w (List.mem_cons_of_mem _ h)
  have hl : lv_has ls 2 [(0, .ref (ad 0))] := hl
  unfold fX5_blank at hf
  refine lv_aload_n (pc := 0) hx hb dX5_blank_0 rfl (lv_at hl 0 rfl) ?_
  refine gc_0_page (pc := 1) CF hK hP mF_X5_10 dX5_blank_1 ?_
  refine gcN_1_length (pc := 4) CF hK hP hN (nf 0) dX5_blank_4 ?_
  refine lv_istore_n (pc := 7) (lv' := [(1, .int (c_plen σ)), (0, .ref (ad 0))]) hx hb dX5_blank_7 rfl hl (by decide) rfl (fun ls hl => ?_)
  refine lv_aload_n (pc := 8) hx hb dX5_blank_8 rfl (lv_at hl 1 rfl) ?_
  refine gc_0_page (pc := 9) CF hK hP mF_X5_10 dX5_blank_9 ?_
  obtain ⟨σ12, h12, hf⟩ := zz_o hf
  refine cV (pc := 12) (rest := []) (st1 := []) (q0 := 1) CF (tX1_clear h12) hK hP hD hS hA hN hW mL_X5_66 kX1_clear nX1_clear rfl rfl rfl rfl ⟨by decide, by decide⟩ hl.1 (Nat.le_of_ble_eq_true rfl) ⟨Nat.le_refl _, Nat.le_refl _⟩ rfl dX5_blank_12 (fun H locs hP hD hS => ?_)
  refine lv_iload_n (pc := 15) hx hb dX5_blank_15 rfl (lv_at hl 0 rfl) ?_
  exact retIw (wf := wC ad cA) hx hb hr hlk hf hP hD hS dX5_blank_16
set_option maxHeartbeats 4000000 in
set_option maxRecDepth 100000 in
theorem tX1_codeAt {l : Launch} {kv : Nat × Nat} {D : va_G} {N : Nat} {ad : Nat → Nat} {cA : ClassId} {σ : SC} {x1 : Int32} {rF : Int32} (hf : fX1_codeAt N σ x1 = some rF) : Ct l kv D [(cA, .int)] yX1_codeAt cX1_codeAt 2 (some .int) 0 0 (wC ad cA σ) (wC ad cA σ) [.ref (ad 1), .int x1] (some (.int rF)) := by
  refine Ct.ofW (by decide) (Nat.le_of_ble_eq_true rfl) ?_
  intro p e s m below meth c A args CF hr hlk hA hP hK hD hN hW hS ls hl
  have hx := CF.1
  have hb := CF.2.1
  have hml := CF.2.2.1
  have hown := CF.2.2.2.1
  have hw : ∀ w ∈ wsA, w.before args s = true := fun w h => CF.2.2.2.2 w (List.mem_cons_of_mem _ h)
  have hl : lv_has ls 2 [(0, .ref (ad 1)), (1, .int x1)] := hl
  unfold fX1_codeAt at hf
  refine lv_iload_n (pc := 0) hx hb dX1_codeAt_0 rfl (lv_at hl 1 rfl) ?_
  refine lv_if_lt (pc := 1) (tgt := 30) hx hb dX1_codeAt_1 (by decide) (fun c1 => ?_) (fun c1 => ?_)
  · have hf := zz_t c1 hf
    refine lv_iconst (pc := 30) (v := 0) hx hb dX1_codeAt_30 (by decide) ?_
    exact retI hx hb hr hlk hf hP hD hS dX1_codeAt_31
  · have hf := zz_f c1 hf
    refine lv_iload_n (pc := 4) hx hb dX1_codeAt_4 rfl (lv_at hl 1 rfl) ?_
    refine lv_aload_n (pc := 5) hx hb dX1_codeAt_5 rfl (lv_at hl 0 rfl) ?_
    refine gc_1_length (pc := 6) CF hK hP mF_X1_15 dX1_codeAt_6 ?_
    refine lv_icmp_ge (pc := 9) (tgt := 30) hx hb dX1_codeAt_9 (by decide) (fun c9 => ?_) (fun c9 => ?_)
    · have hf := zz_t c9 hf
      refine lv_iconst (pc := 30) (v := 0) hx hb dX1_codeAt_30 (by decide) ?_
      exact retI hx hb hr hlk hf hP hD hS dX1_codeAt_31
    · have hf := zz_f c9 hf
      refine lv_iload_n (pc := 12) hx hb dX1_codeAt_12 rfl (lv_at hl 1 rfl) ?_
      refine lv_aload_n (pc := 13) hx hb dX1_codeAt_13 rfl (lv_at hl 0 rfl) ?_
      refine gc_1_codes (pc := 14) CF hK hP mF_X1_9 dX1_codeAt_14 ?_
      refine nc_codes (pc := 17) hx hb hK hP dX1_codeAt_17 ?_
      refine lv_icmp_ge (pc := 18) (tgt := 30) hx hb dX1_codeAt_18 (by decide) (fun c18 => ?_) (fun c18 => ?_)
      · have hf := zz_t c18 hf
        refine lv_iconst (pc := 30) (v := 0) hx hb dX1_codeAt_30 (by decide) ?_
        exact retI hx hb hr hlk hf hP hD hS dX1_codeAt_31
      · have hf := zz_f c18 hf
        refine lv_aload_n (pc := 21) hx hb dX1_codeAt_21 rfl (lv_at hl 0 rfl) ?_
        refine gc_1_codes (pc := 22) CF hK hP mF_X1_9 dX1_codeAt_22 ?_
        refine lv_iload_n (pc := 25) hx hb dX1_codeAt_25 rfl (lv_at hl 1 rfl) ?_
        obtain ⟨c26, hf⟩ := zz_k hf
        refine lc_codes (pc := 26) hx hb hK hP c26 dX1_codeAt_26 ?_
        refine lv_goto (pc := 27) (tgt := 31) hx hb dX1_codeAt_27 (by decide) ?_
        exact retI hx hb hr hlk hf hP hD hS dX1_codeAt_31
set_option maxHeartbeats 4000000 in
set_option maxRecDepth 100000 in
theorem tX1_fits {l : Launch} {kv : Nat × Nat} {D : va_G} {N : Nat} {ad : Nat → Nat} {cA : ClassId} {σ : SC} {x1 : Int32} {rF : Int32} (hf : fX1_fits N σ x1 = some rF) : Ct l kv D [(cA, .int)] yX1_fits cX1_fits 4 (some .boolean) 5 111 (wC ad cA σ) (wC ad cA σ) [.ref (ad 1), .int x1] (some (.int rF)) := by
  refine Ct.ofW (by decide) (Nat.le_of_ble_eq_true rfl) ?_
  intro p e s m below meth c A args CF hr hlk hA hP hK hD hN hW hS ls hl
  have hx := CF.1
  have hb := CF.2.1
  have hml := CF.2.2.1
  have hown := CF.2.2.2.1
  have hw : ∀ w ∈ wsA, w.before args s = true := fun w h => CF.2.2.2.2 w (List.mem_cons_of_mem _ h)
  have hl : lv_has ls 4 [(0, .ref (ad 1)), (1, .int x1)] := hl
  unfold fX1_fits at hf
  have J130 : ∀ (x2 : Int32) (x3 : Int32) (H : Heap) (locs : List Loc) (ls : Array Slot), va_P D vwCl (wC ad cA σ) H → va_D A (wC ad cA σ) → va_S A s.heap H locs → lv_has ls 4 [(2, .int x2), (3, .int x3)] → fX1_fits_130 N σ x2 x3 = some rF → G p l e 5 111 s m args below meth c D A (wC ad cA σ) (some (.int rF)) H locs (F0 m 130 ls []) := by
    intro x2 x3 H locs ls hP hD hS hl hf
    unfold fX1_fits_130 at hf
    refine lv_iload_n (pc := 130) hx hb dX1_fits_130 rfl (lv_at hl 0 rfl) ?_
    refine lv_bipush (pc := 131) (v := 59) hx hb dX1_fits_131 (by decide) ?_
    refine lv_icmp_ne (pc := 133) (tgt := 147) hx hb dX1_fits_133 (by decide) (fun c133 => ?_) (fun c133 => ?_)
    · have hf := zz_f c133 hf
      refine lv_iconst (pc := 147) (v := 0) hx hb dX1_fits_147 (by decide) ?_
      exact retZ hx hb hr hlk rfl hf hP hD hS dX1_fits_148
    · have hf := zz_t c133 hf
      refine lv_iload_n (pc := 136) hx hb dX1_fits_136 rfl (lv_at hl 1 rfl) ?_
      refine lv_iconst (pc := 137) (v := 1) hx hb dX1_fits_137 (by decide) ?_
      refine lv_iadd (pc := 138) hx hb dX1_fits_138 ?_
      refine lv_iconst (pc := 139) (v := 2) hx hb dX1_fits_139 (by decide) ?_
      refine lv_icmp_lt (pc := 140) (tgt := 147) hx hb dX1_fits_140 (by decide) (fun c140 => ?_) (fun c140 => ?_)
      · have hf := zz_t c140 hf
        refine lv_iconst (pc := 147) (v := 0) hx hb dX1_fits_147 (by decide) ?_
        exact retZ hx hb hr hlk rfl hf hP hD hS dX1_fits_148
      · have hf := zz_f c140 hf
        refine lv_iconst (pc := 143) (v := 1) hx hb dX1_fits_143 (by decide) ?_
        refine lv_goto (pc := 144) (tgt := 148) hx hb dX1_fits_144 (by decide) ?_
        exact retZ hx hb hr hlk rfl hf hP hD hS dX1_fits_148
  refine lv_aload_n (pc := 0) hx hb dX1_fits_0 rfl (lv_at hl 0 rfl) ?_
  refine lv_iload_n (pc := 1) hx hb dX1_fits_1 rfl (lv_at hl 1 rfl) ?_
  obtain ⟨v2, h2, hf⟩ := zz_o hf
  refine cV (pc := 2) (rest := []) (st1 := [.int v2]) (q0 := 1) CF (tX1_codeAt h2) hK hP hD hS hA hN hW mL_X1_23 kX1_codeAt nX1_codeAt rfl rfl rfl rfl ⟨by decide, by decide⟩ hl.1 (Nat.le_of_ble_eq_true rfl) ⟨Nat.le_refl _, Nat.le_refl _⟩ rfl dX1_fits_2 (fun H locs hP hD hS => ?_)
  refine lv_istore_n (pc := 5) (lv' := [(2, .int v2), (0, .ref (ad 1)), (1, .int x1)]) hx hb dX1_fits_5 rfl hl (by decide) rfl (fun ls hl => ?_)
  refine lv_iload_n (pc := 6) hx hb dX1_fits_6 rfl (lv_at hl 2 rfl) ?_
  refine lv_iconst (pc := 7) (v := 3) hx hb dX1_fits_7 (by decide) ?_
  refine lv_idiv (pc := 8) hx hb dX1_fits_8 (by decide) ?_
  refine lv_istore_n (pc := 9) (lv' := [(3, .int (x1 / 3)), (2, .int v2), (0, .ref (ad 1)), (1, .int x1)]) hx hb dX1_fits_9 rfl hl (by decide) rfl (fun ls hl => ?_)
  refine lv_iload_n (pc := 10) hx hb dX1_fits_10 rfl (lv_at hl 3 rfl) ?_
  refine lv_iconst (pc := 11) (v := 3) hx hb dX1_fits_11 (by decide) ?_
  refine lv_irem (pc := 12) hx hb dX1_fits_12 (by decide) ?_
  by_cases c13_0 : (x1 - x1 / 3 * 3) = 0
  · have hf := zz_t c13_0 hf
    refine lv_lookup (pc := 13) (tgt := 40) (off := 27) hx hb dX1_fits_13 (by decide) (by rw [c13_0] <;> rfl) (by decide) ?_
    refine lv_aload_n (pc := 40) hx hb dX1_fits_40 rfl (lv_at hl 2 rfl) ?_
    refine lv_iload_n (pc := 41) hx hb dX1_fits_41 rfl (lv_at hl 3 rfl) ?_
    refine lv_iconst (pc := 42) (v := 1) hx hb dX1_fits_42 (by decide) ?_
    refine lv_isub (pc := 43) hx hb dX1_fits_43 ?_
    obtain ⟨v44, h44, hf⟩ := zz_o hf
    refine cV (pc := 44) (rest := []) (st1 := [.int v44]) (q0 := 1) CF (tX1_codeAt h44) hK hP hD hS hA hN hW mL_X1_23 kX1_codeAt nX1_codeAt rfl rfl rfl rfl ⟨by decide, by decide⟩ hl.1 (Nat.le_of_ble_eq_true rfl) ⟨Nat.le_refl _, Nat.le_refl _⟩ rfl dX1_fits_44 (fun H locs hP hD hS => ?_)
    refine lv_bipush (pc := 47) (v := 59) hx hb dX1_fits_47 (by decide) ?_
    refine lv_icmp_ne (pc := 49) (tgt := 72) hx hb dX1_fits_49 (by decide) (fun c49 => ?_) (fun c49 => ?_)
    · have hf := zz_f c49 hf
      refine lv_iload_n (pc := 72) hx hb dX1_fits_72 rfl (lv_at hl 1 rfl) ?_
      obtain ⟨v73, h73, hf⟩ := zz_o hf
      refine cSt (pc := 73) (rest := []) (st1 := [.int v73]) CF (tX1_kindOfLetter h73) hK hP hD hS hA hN hW mL_X1_31 kX1_kindOfLetter nX1_kindOfLetter rfl rfl ⟨by decide, by decide⟩ hl.1 (Nat.le_of_ble_eq_true rfl) ⟨Nat.le_refl _, Nat.le_refl _⟩ rfl dX1_fits_73 (fun H locs hP hD hS => ?_)
      refine lv_iconst (pc := 76) (v := (-1)) hx hb dX1_fits_76 (by decide) ?_
      refine lv_icmp_eq (pc := 77) (tgt := 84) hx hb dX1_fits_77 (by decide) (fun c77 => ?_) (fun c77 => ?_)
      · have hf := zz_t c77 hf
        refine lv_iconst (pc := 84) (v := 0) hx hb dX1_fits_84 (by decide) ?_
        exact retZ hx hb hr hlk rfl hf hP hD hS dX1_fits_85
      · have hf := zz_f c77 hf
        refine lv_iconst (pc := 80) (v := 1) hx hb dX1_fits_80 (by decide) ?_
        refine lv_goto (pc := 81) (tgt := 85) hx hb dX1_fits_81 (by decide) ?_
        exact retZ hx hb hr hlk rfl hf hP hD hS dX1_fits_85
    · have hf := zz_t c49 hf
      refine lv_iload_n (pc := 52) hx hb dX1_fits_52 rfl (lv_at hl 1 rfl) ?_
      refine lv_bipush (pc := 53) (v := 49) hx hb dX1_fits_53 (by decide) ?_
      refine lv_icmp_lt (pc := 55) (tgt := 68) hx hb dX1_fits_55 (by decide) (fun c55 => ?_) (fun c55 => ?_)
      · have hf := zz_t c55 hf
        refine lv_iconst (pc := 68) (v := 0) hx hb dX1_fits_68 (by decide) ?_
        refine lv_goto (pc := 69) (tgt := 85) hx hb dX1_fits_69 (by decide) ?_
        exact retZ hx hb hr hlk rfl hf hP hD hS dX1_fits_85
      · have hf := zz_f c55 hf
        refine lv_iload_n (pc := 58) hx hb dX1_fits_58 rfl (lv_at hl 1 rfl) ?_
        refine lv_bipush (pc := 59) (v := 57) hx hb dX1_fits_59 (by decide) ?_
        refine lv_icmp_gt (pc := 61) (tgt := 68) hx hb dX1_fits_61 (by decide) (fun c61 => ?_) (fun c61 => ?_)
        · have hf := zz_t c61 hf
          refine lv_iconst (pc := 68) (v := 0) hx hb dX1_fits_68 (by decide) ?_
          refine lv_goto (pc := 69) (tgt := 85) hx hb dX1_fits_69 (by decide) ?_
          exact retZ hx hb hr hlk rfl hf hP hD hS dX1_fits_85
        · have hf := zz_f c61 hf
          refine lv_iconst (pc := 64) (v := 1) hx hb dX1_fits_64 (by decide) ?_
          refine lv_goto (pc := 65) (tgt := 85) hx hb dX1_fits_65 (by decide) ?_
          exact retZ hx hb hr hlk rfl hf hP hD hS dX1_fits_85
  have hf := zz_f c13_0 hf
  by_cases c13_1 : (x1 - x1 / 3 * 3) = 1
  · have hf := zz_t c13_1 hf
    refine lv_lookup (pc := 13) (tgt := 86) (off := 73) hx hb dX1_fits_13 (by decide) (by rw [c13_1] <;> rfl) (by decide) ?_
    refine lv_aload_n (pc := 86) hx hb dX1_fits_86 rfl (lv_at hl 2 rfl) ?_
    refine lv_iload_n (pc := 87) hx hb dX1_fits_87 rfl (lv_at hl 3 rfl) ?_
    refine lv_iconst (pc := 88) (v := 2) hx hb dX1_fits_88 (by decide) ?_
    refine lv_isub (pc := 89) hx hb dX1_fits_89 ?_
    obtain ⟨v90, h90, hf⟩ := zz_o hf
    refine cV (pc := 90) (rest := []) (st1 := [.int v90]) (q0 := 1) CF (tX1_codeAt h90) hK hP hD hS hA hN hW mL_X1_23 kX1_codeAt nX1_codeAt rfl rfl rfl rfl ⟨by decide, by decide⟩ hl.1 (Nat.le_of_ble_eq_true rfl) ⟨Nat.le_refl _, Nat.le_refl _⟩ rfl dX1_fits_90 (fun H locs hP hD hS => ?_)
    refine lv_bipush (pc := 93) (v := 59) hx hb dX1_fits_93 (by decide) ?_
    refine lv_icmp_eq (pc := 95) (tgt := 114) hx hb dX1_fits_95 (by decide) (fun c95 => ?_) (fun c95 => ?_)
    · have hf := zz_t c95 hf
      refine lv_iconst (pc := 114) (v := 0) hx hb dX1_fits_114 (by decide) ?_
      exact retZ hx hb hr hlk rfl hf hP hD hS dX1_fits_115
    · have hf := zz_f c95 hf
      refine lv_iload_n (pc := 98) hx hb dX1_fits_98 rfl (lv_at hl 1 rfl) ?_
      refine lv_bipush (pc := 99) (v := 48) hx hb dX1_fits_99 (by decide) ?_
      refine lv_icmp_lt (pc := 101) (tgt := 114) hx hb dX1_fits_101 (by decide) (fun c101 => ?_) (fun c101 => ?_)
      · have hf := zz_t c101 hf
        refine lv_iconst (pc := 114) (v := 0) hx hb dX1_fits_114 (by decide) ?_
        exact retZ hx hb hr hlk rfl hf hP hD hS dX1_fits_115
      · have hf := zz_f c101 hf
        refine lv_iload_n (pc := 104) hx hb dX1_fits_104 rfl (lv_at hl 1 rfl) ?_
        refine lv_bipush (pc := 105) (v := 57) hx hb dX1_fits_105 (by decide) ?_
        refine lv_icmp_gt (pc := 107) (tgt := 114) hx hb dX1_fits_107 (by decide) (fun c107 => ?_) (fun c107 => ?_)
        · have hf := zz_t c107 hf
          refine lv_iconst (pc := 114) (v := 0) hx hb dX1_fits_114 (by decide) ?_
          exact retZ hx hb hr hlk rfl hf hP hD hS dX1_fits_115
        · have hf := zz_f c107 hf
          refine lv_iconst (pc := 110) (v := 1) hx hb dX1_fits_110 (by decide) ?_
          refine lv_goto (pc := 111) (tgt := 115) hx hb dX1_fits_111 (by decide) ?_
          exact retZ hx hb hr hlk rfl hf hP hD hS dX1_fits_115
  have hf := zz_f c13_1 hf
  refine lv_lookup (pc := 13) (tgt := 116) (off := 103) hx hb dX1_fits_13 (by decide) ((lv_osw c13_0 rfl).trans ((lv_osw c13_1 rfl).trans rfl)) (by decide) ?_
  refine lv_iload_n (pc := 116) hx hb dX1_fits_116 rfl (lv_at hl 1 rfl) ?_
  refine lv_bipush (pc := 117) (v := 44) hx hb dX1_fits_117 (by decide) ?_
  refine lv_icmp_ne (pc := 119) (tgt := 130) hx hb dX1_fits_119 (by decide) (fun c119 => ?_) (fun c119 => ?_)
  · have hf := zz_f c119 hf
    exact J130 v2 (x1 / 3) _ _ _ hP hD hS (lv_sub hl [1, 0] rfl) hf
  · have hf := zz_t c119 hf
    refine lv_iload_n (pc := 122) hx hb dX1_fits_122 rfl (lv_at hl 0 rfl) ?_
    refine lv_iconst (pc := 123) (v := 1) hx hb dX1_fits_123 (by decide) ?_
    refine lv_iadd (pc := 124) hx hb dX1_fits_124 ?_
    refine lv_bipush (pc := 125) (v := 6) hx hb dX1_fits_125 (by decide) ?_
    refine lv_icmp_lt (pc := 127) (tgt := 143) hx hb dX1_fits_127 (by decide) (fun c127 => ?_) (fun c127 => ?_)
    · have hf := zz_t c127 hf
      refine lv_iconst (pc := 143) (v := 1) hx hb dX1_fits_143 (by decide) ?_
      refine lv_goto (pc := 144) (tgt := 148) hx hb dX1_fits_144 (by decide) ?_
      exact retZ hx hb hr hlk rfl hf hP hD hS dX1_fits_148
    · have hf := zz_f c127 hf
      exact J130 v2 (x1 / 3) _ _ _ hP hD hS (lv_sub hl [1, 0] rfl) hf
set_option maxHeartbeats 4000000 in
set_option maxRecDepth 100000 in
theorem tX1_firstFault {l : Launch} {kv : Nat × Nat} {D : va_G} {N : Nat} {ad : Nat → Nat} {cA : ClassId} {σ : SC} {rF : Int32} (hf : fX1_firstFault N σ = some rF) : Ct l kv D [(cA, .int)] yX1_firstFault cX1_firstFault 2 (some .int) 6 134 (wC ad cA σ) (wC ad cA σ) [.ref (ad 1)] (some (.int rF)) := by
  refine Ct.ofW (by decide) (Nat.le_of_ble_eq_true rfl) ?_
  intro p e s m below meth c A args CF hr hlk hA hP hK hD hN hW hS ls hl
  have hx := CF.1
  have hb := CF.2.1
  have hml := CF.2.2.1
  have hown := CF.2.2.2.1
  have hw : ∀ w ∈ wsA, w.before args s = true := fun w h => CF.2.2.2.2 w (List.mem_cons_of_mem _ h)
  have hl : lv_has ls 2 [(0, .ref (ad 1))] := hl
  unfold fX1_firstFault at hf
  have L2 : ∀ (n2 : Nat) (x1 : Int32) (H : Heap) (locs : List Loc) (ls : Array Slot), va_P D vwCl (wC ad cA σ) H → va_D A (wC ad cA σ) → va_S A s.heap H locs → lv_has ls 2 [(0, .ref (ad 1)), (1, .int x1)] → fX1_firstFault_2 N n2 σ x1 = some rF → G p l e 6 134 s m args below meth c D A (wC ad cA σ) (some (.int rF)) H locs (F0 m 2 ls []) := by
    intro n2
    induction n2 with
    | zero => intro x1 H locs ls hP hD hS hl hf; exact absurd hf (by simp [fX1_firstFault_2])
    | succ n2 ih2 =>
      intro x1 H locs ls hP hD hS hl hf
      rw [fX1_firstFault_2] at hf
      refine lv_iload_n (pc := 2) hx hb dX1_firstFault_2 rfl (lv_at hl 1 rfl) ?_
      refine lv_aload_n (pc := 3) hx hb dX1_firstFault_3 rfl (lv_at hl 0 rfl) ?_
      refine gc_1_length (pc := 4) CF hK hP mF_X1_15 dX1_firstFault_4 ?_
      refine lv_icmp_ge (pc := 7) (tgt := 26) hx hb dX1_firstFault_7 (by decide) (fun c7 => ?_) (fun c7 => ?_)
      · have hf := zz_t c7 hf
        refine lv_aload_n (pc := 26) hx hb dX1_firstFault_26 rfl (lv_at hl 0 rfl) ?_
        refine gc_1_length (pc := 27) CF hK hP mF_X1_15 dX1_firstFault_27 ?_
        exact retI hx hb hr hlk hf hP hD hS dX1_firstFault_30
      · have hf := zz_f c7 hf
        refine lv_aload_n (pc := 10) hx hb dX1_firstFault_10 rfl (lv_at hl 0 rfl) ?_
        refine lv_iload_n (pc := 11) hx hb dX1_firstFault_11 rfl (lv_at hl 1 rfl) ?_
        obtain ⟨v12, h12, hf⟩ := zz_o hf
        refine cV (pc := 12) (rest := []) (st1 := [.int v12]) (q0 := 1) CF (tX1_fits h12) hK hP hD hS hA hN hW mL_X1_19 kX1_fits nX1_fits rfl rfl rfl rfl ⟨by decide, by decide⟩ hl.1 (Nat.le_of_ble_eq_true rfl) ⟨Nat.le_refl _, Nat.le_refl _⟩ rfl dX1_firstFault_12 (fun H locs hP hD hS => ?_)
        refine lv_if_ne (pc := 15) (tgt := 20) hx hb dX1_firstFault_15 (by decide) (fun c15 => ?_) (fun c15 => ?_)
        · have hf := zz_f c15 hf
          refine lv_iinc (pc := 20) (v := (x1 + 1)) (lv' := [(1, .int (x1 + 1)), (0, .ref (ad 1))]) hx hb dX1_firstFault_20 hl (k := 1) rfl rfl (by decide) rfl (fun ls hl => ?_)
          refine lv_goto (pc := 23) (tgt := 2) hx hb dX1_firstFault_23 (by decide) ?_
          exact ih2 (x1 + 1) _ _ _ hP hD hS (lv_sub hl [1, 0] rfl) hf
        · have hf := zz_t c15 hf
          refine lv_iload_n (pc := 18) hx hb dX1_firstFault_18 rfl (lv_at hl 1 rfl) ?_
          exact retI hx hb hr hlk hf hP hD hS dX1_firstFault_19
  refine lv_iconst (pc := 0) (v := 0) hx hb dX1_firstFault_0 (by decide) ?_
  refine lv_istore_n (pc := 1) (lv' := [(1, .int 0), (0, .ref (ad 1))]) hx hb dX1_firstFault_1 rfl hl (by decide) rfl (fun ls hl => ?_)
  exact L2 N 0 _ _ _ hP hD hS (lv_sub hl [1, 0] rfl) hf
set_option maxHeartbeats 4000000 in
set_option maxRecDepth 100000 in
theorem tX5_fault {l : Launch} {kv : Nat × Nat} {D : va_G} {N : Nat} {ad : Nat → Nat} {cA : ClassId} {σ : SC} {rF : Int32} (hf : fX5_fault N σ = some rF) : Ct l kv D [(cA, .int)] yX5_fault cX5_fault 1 (some .int) 7 155 (wC ad cA σ) (wC ad cA σ) [.ref (ad 0)] (some (.int rF)) := by
  refine Ct.ofW (by decide) (Nat.le_of_ble_eq_true rfl) ?_
  intro p e s m below meth c A args CF hr hlk hA hP hK hD hN hW hS ls hl
  have hx := CF.1
  have hb := CF.2.1
  have hml := CF.2.2.1
  have hown := CF.2.2.2.1
  have hw : ∀ w ∈ wsA, w.before args s = true := fun w h => CF.2.2.2.2 w (List.mem_cons_of_mem _ h)
  have hl : lv_has ls 1 [(0, .ref (ad 0))] := hl
  unfold fX5_fault at hf
  refine lv_aload_n (pc := 0) hx hb dX5_fault_0 rfl (lv_at hl 0 rfl) ?_
  refine gc_0_page (pc := 1) CF hK hP mF_X5_10 dX5_fault_1 ?_
  obtain ⟨v4, h4, hf⟩ := zz_o hf
  refine cV (pc := 4) (rest := []) (st1 := [.int v4]) (q0 := 1) CF (tX1_firstFault h4) hK hP hD hS hA hN hW mL_X5_69 kX1_firstFault nX1_firstFault rfl rfl rfl rfl ⟨by decide, by decide⟩ hl.1 (Nat.le_of_ble_eq_true rfl) ⟨Nat.le_refl _, Nat.le_refl _⟩ rfl dX5_fault_4 (fun H locs hP hD hS => ?_)
  exact retI hx hb hr hlk hf hP hD hS dX5_fault_7
set_option maxHeartbeats 4000000 in
set_option maxRecDepth 100000 in
theorem tX1_isHill {l : Launch} {kv : Nat × Nat} {D : va_G} {N : Nat} {ad : Nat → Nat} {cA : ClassId} {σ : SC} {rF : Int32} (hf : fX1_isHill N σ = some rF) : Ct l kv D [(cA, .int)] yX1_isHill cX1_isHill 1 (some .boolean) 7 155 (wC ad cA σ) (wC ad cA σ) [.ref (ad 1)] (some (.int rF)) := by
  refine Ct.ofW (by decide) (Nat.le_of_ble_eq_true rfl) ?_
  intro p e s m below meth c A args CF hr hlk hA hP hK hD hN hW hS ls hl
  have hx := CF.1
  have hb := CF.2.1
  have hml := CF.2.2.1
  have hown := CF.2.2.2.1
  have hw : ∀ w ∈ wsA, w.before args s = true := fun w h => CF.2.2.2.2 w (List.mem_cons_of_mem _ h)
  have hl : lv_has ls 1 [(0, .ref (ad 1))] := hl
  unfold fX1_isHill at hf
  refine lv_aload_n (pc := 0) hx hb dX1_isHill_0 rfl (lv_at hl 0 rfl) ?_
  refine lv_aload_n (pc := 1) hx hb dX1_isHill_1 rfl (lv_at hl 0 rfl) ?_
  refine gc_1_length (pc := 2) CF hK hP mF_X1_15 dX1_isHill_2 ?_
  refine lv_iconst (pc := 5) (v := 2) hx hb dX1_isHill_5 (by decide) ?_
  refine lv_isub (pc := 6) hx hb dX1_isHill_6 ?_
  obtain ⟨v7, h7, hf⟩ := zz_o hf
  refine cV (pc := 7) (rest := []) (st1 := [.int v7]) (q0 := 1) CF (tX1_codeAt h7) hK hP hD hS hA hN hW mL_X1_23 kX1_codeAt nX1_codeAt rfl rfl rfl rfl ⟨by decide, by decide⟩ hl.1 (Nat.le_of_ble_eq_true rfl) ⟨Nat.le_refl _, Nat.le_refl _⟩ rfl dX1_isHill_7 (fun H locs hP hD hS => ?_)
  refine lv_bipush (pc := 10) (v := 59) hx hb dX1_isHill_10 (by decide) ?_
  refine lv_icmp_ne (pc := 12) (tgt := 30) hx hb dX1_isHill_12 (by decide) (fun c12 => ?_) (fun c12 => ?_)
  · have hf := zz_f c12 hf
    refine lv_iconst (pc := 30) (v := 0) hx hb dX1_isHill_30 (by decide) ?_
    exact retZ hx hb hr hlk rfl hf hP hD hS dX1_isHill_31
  · have hf := zz_t c12 hf
    refine lv_aload_n (pc := 15) hx hb dX1_isHill_15 rfl (lv_at hl 0 rfl) ?_
    obtain ⟨v16, h16, hf⟩ := zz_o hf
    refine cV (pc := 16) (rest := []) (st1 := [.int v16]) (q0 := 1) CF (tX1_firstFault h16) hK hP hD hS hA hN hW mL_X1_27 kX1_firstFault nX1_firstFault rfl rfl rfl rfl ⟨by decide, by decide⟩ hl.1 (Nat.le_of_ble_eq_true rfl) ⟨Nat.le_refl _, Nat.le_refl _⟩ rfl dX1_isHill_16 (fun H locs hP hD hS => ?_)
    refine lv_aload_n (pc := 19) hx hb dX1_isHill_19 rfl (lv_at hl 0 rfl) ?_
    refine gc_1_length (pc := 20) CF hK hP mF_X1_15 dX1_isHill_20 ?_
    refine lv_icmp_ne (pc := 23) (tgt := 30) hx hb dX1_isHill_23 (by decide) (fun c23 => ?_) (fun c23 => ?_)
    · have hf := zz_f c23 hf
      refine lv_iconst (pc := 30) (v := 0) hx hb dX1_isHill_30 (by decide) ?_
      exact retZ hx hb hr hlk rfl hf hP hD hS dX1_isHill_31
    · have hf := zz_t c23 hf
      refine lv_iconst (pc := 26) (v := 1) hx hb dX1_isHill_26 (by decide) ?_
      refine lv_goto (pc := 27) (tgt := 31) hx hb dX1_isHill_27 (by decide) ?_
      exact retZ hx hb hr hlk rfl hf hP hD hS dX1_isHill_31
set_option maxHeartbeats 4000000 in
set_option maxRecDepth 100000 in
theorem tX1_peopleWritten {l : Launch} {kv : Nat × Nat} {D : va_G} {N : Nat} {ad : Nat → Nat} {cA : ClassId} {σ : SC} {rF : Int32} (hf : fX1_peopleWritten N σ = some rF) : Ct l kv D [(cA, .int)] yX1_peopleWritten cX1_peopleWritten 1 (some .int) 0 0 (wC ad cA σ) (wC ad cA σ) [.ref (ad 1)] (some (.int rF)) := by
  refine Ct.ofW (by decide) (Nat.le_of_ble_eq_true rfl) ?_
  intro p e s m below meth c A args CF hr hlk hA hP hK hD hN hW hS ls hl
  have hx := CF.1
  have hb := CF.2.1
  have hml := CF.2.2.1
  have hown := CF.2.2.2.1
  have hw : ∀ w ∈ wsA, w.before args s = true := fun w h => CF.2.2.2.2 w (List.mem_cons_of_mem _ h)
  have hl : lv_has ls 1 [(0, .ref (ad 1))] := hl
  unfold fX1_peopleWritten at hf
  refine lv_aload_n (pc := 0) hx hb dX1_peopleWritten_0 rfl (lv_at hl 0 rfl) ?_
  refine gc_1_length (pc := 1) CF hK hP mF_X1_15 dX1_peopleWritten_1 ?_
  refine lv_iconst (pc := 4) (v := 3) hx hb dX1_peopleWritten_4 (by decide) ?_
  refine lv_idiv (pc := 5) hx hb dX1_peopleWritten_5 (by decide) ?_
  exact retI hx hb hr hlk hf hP hD hS dX1_peopleWritten_6
set_option maxHeartbeats 4000000 in
set_option maxRecDepth 100000 in
theorem tX1_riverWritten {l : Launch} {kv : Nat × Nat} {D : va_G} {N : Nat} {ad : Nat → Nat} {cA : ClassId} {σ : SC} {rF : Int32} (hf : fX1_riverWritten N σ = some rF) : Ct l kv D [(cA, .int)] yX1_riverWritten cX1_riverWritten 1 (some .int) 1 21 (wC ad cA σ) (wC ad cA σ) [.ref (ad 1)] (some (.int rF)) := by
  refine Ct.ofW (by decide) (Nat.le_of_ble_eq_true rfl) ?_
  intro p e s m below meth c A args CF hr hlk hA hP hK hD hN hW hS ls hl
  have hx := CF.1
  have hb := CF.2.1
  have hml := CF.2.2.1
  have hown := CF.2.2.2.1
  have hw : ∀ w ∈ wsA, w.before args s = true := fun w h => CF.2.2.2.2 w (List.mem_cons_of_mem _ h)
  have hl : lv_has ls 1 [(0, .ref (ad 1))] := hl
  unfold fX1_riverWritten at hf
  refine lv_aload_n (pc := 0) hx hb dX1_riverWritten_0 rfl (lv_at hl 0 rfl) ?_
  refine lv_aload_n (pc := 1) hx hb dX1_riverWritten_1 rfl (lv_at hl 0 rfl) ?_
  refine gc_1_length (pc := 2) CF hK hP mF_X1_15 dX1_riverWritten_2 ?_
  refine lv_iconst (pc := 5) (v := 1) hx hb dX1_riverWritten_5 (by decide) ?_
  refine lv_isub (pc := 6) hx hb dX1_riverWritten_6 ?_
  obtain ⟨v7, h7, hf⟩ := zz_o hf
  refine cV (pc := 7) (rest := []) (st1 := [.int v7]) (q0 := 1) CF (tX1_codeAt h7) hK hP hD hS hA hN hW mL_X1_23 kX1_codeAt nX1_codeAt rfl rfl rfl rfl ⟨by decide, by decide⟩ hl.1 (Nat.le_of_ble_eq_true rfl) ⟨Nat.le_refl _, Nat.le_refl _⟩ rfl dX1_riverWritten_7 (fun H locs hP hD hS => ?_)
  refine lv_bipush (pc := 10) (v := 48) hx hb dX1_riverWritten_10 (by decide) ?_
  refine lv_isub (pc := 12) hx hb dX1_riverWritten_12 ?_
  exact retI hx hb hr hlk hf hP hD hS dX1_riverWritten_13
set_option maxHeartbeats 4000000 in
set_option maxRecDepth 100000 in
theorem tX1_kindWritten {l : Launch} {kv : Nat × Nat} {D : va_G} {N : Nat} {ad : Nat → Nat} {cA : ClassId} {σ : SC} {x1 : Int32} {rF : Int32} (hf : fX1_kindWritten N σ x1 = some rF) : Ct l kv D [(cA, .int)] yX1_kindWritten cX1_kindWritten 2 (some .int) 5 111 (wC ad cA σ) (wC ad cA σ) [.ref (ad 1), .int x1] (some (.int rF)) := by
  refine Ct.ofW (by decide) (Nat.le_of_ble_eq_true rfl) ?_
  intro p e s m below meth c A args CF hr hlk hA hP hK hD hN hW hS ls hl
  have hx := CF.1
  have hb := CF.2.1
  have hml := CF.2.2.1
  have hown := CF.2.2.2.1
  have hw : ∀ w ∈ wsA, w.before args s = true := fun w h => CF.2.2.2.2 w (List.mem_cons_of_mem _ h)
  have hl : lv_has ls 2 [(0, .ref (ad 1)), (1, .int x1)] := hl
  unfold fX1_kindWritten at hf
  refine lv_aload_n (pc := 0) hx hb dX1_kindWritten_0 rfl (lv_at hl 0 rfl) ?_
  refine lv_iload_n (pc := 1) hx hb dX1_kindWritten_1 rfl (lv_at hl 1 rfl) ?_
  refine lv_iconst (pc := 2) (v := 3) hx hb dX1_kindWritten_2 (by decide) ?_
  refine lv_imul (pc := 3) hx hb dX1_kindWritten_3 ?_
  obtain ⟨v4, h4, hf⟩ := zz_o hf
  refine cV (pc := 4) (rest := []) (st1 := [.int v4]) (q0 := 1) CF (tX1_codeAt h4) hK hP hD hS hA hN hW mL_X1_23 kX1_codeAt nX1_codeAt rfl rfl rfl rfl ⟨by decide, by decide⟩ hl.1 (Nat.le_of_ble_eq_true rfl) ⟨Nat.le_refl _, Nat.le_refl _⟩ rfl dX1_kindWritten_4 (fun H locs hP hD hS => ?_)
  obtain ⟨v7, h7, hf⟩ := zz_o hf
  refine cSt (pc := 7) (rest := []) (st1 := [.int v7]) CF (tX1_kindOfLetter h7) hK hP hD hS hA hN hW mL_X1_31 kX1_kindOfLetter nX1_kindOfLetter rfl rfl ⟨by decide, by decide⟩ hl.1 (Nat.le_of_ble_eq_true rfl) ⟨Nat.le_refl _, Nat.le_refl _⟩ rfl dX1_kindWritten_7 (fun H locs hP hD hS => ?_)
  exact retI hx hb hr hlk hf hP hD hS dX1_kindWritten_10
set_option maxHeartbeats 4000000 in
set_option maxRecDepth 100000 in
theorem tX0_read {l : Launch} {kv : Nat × Nat} {D : va_G} {N : Nat} {ad : Nat → Nat} {cA : ClassId} {σ : SC} {σF : SC} (hf : fX0_read N σ = some σF) : Ct l kv D [(cA, .int)] yX0_read cX0_read 3 none 6 132 (wC ad cA σ) (wC ad cA σF) [.ref (ad 3), .ref (ad 1)] (none) := by
  refine Ct.ofW (by decide) (Nat.le_of_ble_eq_true rfl) ?_
  intro p e s m below meth c A args CF hr hlk hA hP hK hD hN hW hS ls hl
  have hx := CF.1
  have hb := CF.2.1
  have hml := CF.2.2.1
  have hown := CF.2.2.2.1
  have hw : ∀ w ∈ wsA, w.before args s = true := fun w h => CF.2.2.2.2 w (List.mem_cons_of_mem _ h)
  have hl : lv_has ls 3 [(0, .ref (ad 3)), (1, .ref (ad 1))] := hl
  unfold fX0_read at hf
  have L23 : ∀ (n23 : Nat) (σ : SC) (x2 : Int32) (H : Heap) (locs : List Loc) (ls : Array Slot), va_P D vwCl (wC ad cA σ) H → va_D A (wC ad cA σ) → va_S A s.heap H locs → lv_has ls 3 [(0, .ref (ad 3)), (1, .ref (ad 1)), (2, .int x2)] → fX0_read_23 N n23 σ x2 = some σF → G p l e 6 132 s m args below meth c D A (wC ad cA σF) (none) H locs (F0 m 23 ls []) := by
    intro n23
    induction n23 with
    | zero => intro σ x2 H locs ls hP hD hS hl hf; exact absurd hf (by simp [fX0_read_23])
    | succ n23 ih23 =>
      intro σ x2 H locs ls hP hD hS hl hf
      rw [fX0_read_23] at hf
      refine lv_iload_n (pc := 23) hx hb dX0_read_23 rfl (lv_at hl 2 rfl) ?_
      refine lv_aload_n (pc := 24) hx hb dX0_read_24 rfl (lv_at hl 0 rfl) ?_
      refine gc_3_people (pc := 25) CF hK hP mF_X0_15 dX0_read_25 ?_
      refine lv_icmp_ge (pc := 28) (tgt := 48) hx hb dX0_read_28 (by decide) (fun c28 => ?_) (fun c28 => ?_)
      · have hf := zz_t c28 hf
        exact retVw (wf := wC ad cA) hx hb hr hlk hf hP hD hS dX0_read_48
      · have hf := zz_f c28 hf
        refine lv_aload_n (pc := 31) hx hb dX0_read_31 rfl (lv_at hl 0 rfl) ?_
        refine gc_3_kinds (pc := 32) CF hK hP mF_X0_9 dX0_read_32 ?_
        refine lv_iload_n (pc := 35) hx hb dX0_read_35 rfl (lv_at hl 2 rfl) ?_
        refine lv_aload_n (pc := 36) hx hb dX0_read_36 rfl (lv_at hl 1 rfl) ?_
        refine lv_iload_n (pc := 37) hx hb dX0_read_37 rfl (lv_at hl 2 rfl) ?_
        obtain ⟨v38, h38, hf⟩ := zz_o hf
        refine cV (pc := 38) (rest := [.int x2, .ref (ad 4)]) (st1 := [.int v38, .int x2, .ref (ad 4)]) (q0 := 1) CF (tX1_kindWritten h38) hK hP hD hS hA hN hW mL_X0_37 kX1_kindWritten nX1_kindWritten rfl rfl rfl rfl ⟨by decide, by decide⟩ hl.1 (Nat.le_of_ble_eq_true rfl) ⟨Nat.le_refl _, Nat.le_refl _⟩ rfl dX0_read_38 (fun H locs hP hD hS => ?_)
        obtain ⟨c41, hf⟩ := zz_k hf
        refine ac_kinds (pc := 41) hx hb hK hP hD hS c41 dX0_read_41 (fun H locs hP hD hS => ?_)
        obtain ⟨σ41, hP, hD, hf⟩ := zz_g (w := wC ad cA) hP hD hf
        refine lv_iinc (pc := 42) (v := (x2 + 1)) (lv' := [(2, .int (x2 + 1)), (0, .ref (ad 3)), (1, .ref (ad 1))]) hx hb dX0_read_42 hl (k := 2) rfl rfl (by decide) rfl (fun ls hl => ?_)
        refine lv_goto (pc := 45) (tgt := 23) hx hb dX0_read_45 (by decide) ?_
        exact ih23 σ41 (x2 + 1) _ _ _ hP hD hS (lv_sub hl [1, 2, 0] rfl) hf
  refine lv_aload_n (pc := 0) hx hb dX0_read_0 rfl (lv_at hl 0 rfl) ?_
  refine lv_aload_n (pc := 1) hx hb dX0_read_1 rfl (lv_at hl 1 rfl) ?_
  obtain ⟨v2, h2, hf⟩ := zz_o hf
  refine cV (pc := 2) (rest := [.ref (ad 3)]) (st1 := [.int v2, .ref (ad 3)]) (q0 := 1) CF (tX1_peopleWritten h2) hK hP hD hS hA hN hW mL_X0_22 kX1_peopleWritten nX1_peopleWritten rfl rfl rfl rfl ⟨by decide, by decide⟩ hl.1 (Nat.le_of_ble_eq_true rfl) ⟨Nat.le_refl _, Nat.le_refl _⟩ rfl dX0_read_2 (fun H locs hP hD hS => ?_)
  refine lv_bipush (pc := 5) (v := 6) hx hb dX0_read_5 (by decide) ?_
  refine va_mmin (pc := 7) hx hb (hml.trans hl.1.symm) hown (hw _ mL_X0_28) (hw _ mT_Lib_Math_min_name) (hw _ mN_J9) (hw _ mC_Lib_Math_min_name) (by decide) (Nat.le_of_ble_eq_true rfl) (Nat.le_refl _) (Nat.le_refl _) dX0_read_7 ?_
  refine pc_3_people (pc := 10) CF hK hP hD hS mF_X0_15 dX0_read_10 (fun H locs hP hD hS => ?_)
  obtain ⟨σ10, hP, hD, hf⟩ := zz_g (w := wC ad cA) hP hD hf
  refine lv_aload_n (pc := 13) hx hb dX0_read_13 rfl (lv_at hl 0 rfl) ?_
  refine lv_aload_n (pc := 14) hx hb dX0_read_14 rfl (lv_at hl 1 rfl) ?_
  obtain ⟨v15, h15, hf⟩ := zz_o hf
  refine cV (pc := 15) (rest := [.ref (ad 3)]) (st1 := [.int v15, .ref (ad 3)]) (q0 := 1) CF (tX1_riverWritten h15) hK hP hD hS hA hN hW mL_X0_34 kX1_riverWritten nX1_riverWritten rfl rfl rfl rfl ⟨by decide, by decide⟩ hl.1 (Nat.le_of_ble_eq_true rfl) ⟨Nat.le_refl _, Nat.le_refl _⟩ rfl dX0_read_15 (fun H locs hP hD hS => ?_)
  refine pc_3_river (pc := 18) CF hK hP hD hS mF_X0_19 dX0_read_18 (fun H locs hP hD hS => ?_)
  obtain ⟨σ18, hP, hD, hf⟩ := zz_g (w := wC ad cA) hP hD hf
  refine lv_iconst (pc := 21) (v := 0) hx hb dX0_read_21 (by decide) ?_
  refine lv_istore_n (pc := 22) (lv' := [(2, .int 0), (0, .ref (ad 3)), (1, .ref (ad 1))]) hx hb dX0_read_22 rfl hl (by decide) rfl (fun ls hl => ?_)
  exact L23 N σ18 0 _ _ _ hP hD hS (lv_sub hl [1, 2, 0] rfl) hf
set_option maxHeartbeats 4000000 in
set_option maxRecDepth 100000 in
theorem tX2_setNext {l : Launch} {kv : Nat × Nat} {D : va_G} {N : Nat} {ad : Nat → Nat} {cA : ClassId} {σ : SC} {x1 : Int32} {x2 : Int32} {x3 : Int32} {σF : SC} (hf : fX2_setNext N σ x1 x2 x3 = some σF) : Ct l kv D [(cA, .int)] yX2_setNext cX2_setNext 4 none 0 0 (wC ad cA σ) (wC ad cA σF) [.ref (ad 5), .int x1, .int x2, .int x3] (none) := by
  refine Ct.ofW (by decide) (Nat.le_of_ble_eq_true rfl) ?_
  intro p e s m below meth c A args CF hr hlk hA hP hK hD hN hW hS ls hl
  have hx := CF.1
  have hb := CF.2.1
  have hml := CF.2.2.1
  have hown := CF.2.2.2.1
  have hw : ∀ w ∈ wsA, w.before args s = true := fun w h => CF.2.2.2.2 w (List.mem_cons_of_mem _ h)
  have hl : lv_has ls 4 [(0, .ref (ad 5)), (1, .int x1), (2, .int x2), (3, .int x3)] := hl
  unfold fX2_setNext at hf
  refine lv_iload_n (pc := 0) hx hb dX2_setNext_0 rfl (lv_at hl 1 rfl) ?_
  refine lv_if_lt (pc := 1) (tgt := 36) hx hb dX2_setNext_1 (by decide) (fun c1 => ?_) (fun c1 => ?_)
  · have hf := zz_t c1 hf
    exact retVw (wf := wC ad cA) hx hb hr hlk hf hP hD hS dX2_setNext_36
  · have hf := zz_f c1 hf
    refine lv_iload_n (pc := 4) hx hb dX2_setNext_4 rfl (lv_at hl 1 rfl) ?_
    refine lv_aload_n (pc := 5) hx hb dX2_setNext_5 rfl (lv_at hl 0 rfl) ?_
    refine gc_5_nexts (pc := 6) CF hK hP mF_X2_9 dX2_setNext_6 ?_
    refine nc_nexts (pc := 9) hx hb hK hP dX2_setNext_9 ?_
    refine lv_icmp_ge (pc := 10) (tgt := 36) hx hb dX2_setNext_10 (by decide) (fun c10 => ?_) (fun c10 => ?_)
    · have hf := zz_t c10 hf
      exact retVw (wf := wC ad cA) hx hb hr hlk hf hP hD hS dX2_setNext_36
    · have hf := zz_f c10 hf
      refine lv_iload_n (pc := 13) hx hb dX2_setNext_13 rfl (lv_at hl 1 rfl) ?_
      refine lv_aload_n (pc := 14) hx hb dX2_setNext_14 rfl (lv_at hl 0 rfl) ?_
      refine gc_5_listeners (pc := 15) CF hK hP mF_X2_15 dX2_setNext_15 ?_
      refine nc_lsts (pc := 18) hx hb hK hP dX2_setNext_18 ?_
      refine lv_icmp_ge (pc := 19) (tgt := 36) hx hb dX2_setNext_19 (by decide) (fun c19 => ?_) (fun c19 => ?_)
      · have hf := zz_t c19 hf
        exact retVw (wf := wC ad cA) hx hb hr hlk hf hP hD hS dX2_setNext_36
      · have hf := zz_f c19 hf
        refine lv_aload_n (pc := 22) hx hb dX2_setNext_22 rfl (lv_at hl 0 rfl) ?_
        refine gc_5_nexts (pc := 23) CF hK hP mF_X2_9 dX2_setNext_23 ?_
        refine lv_iload_n (pc := 26) hx hb dX2_setNext_26 rfl (lv_at hl 1 rfl) ?_
        refine lv_iload_n (pc := 27) hx hb dX2_setNext_27 rfl (lv_at hl 2 rfl) ?_
        obtain ⟨c28, hf⟩ := zz_k hf
        refine ac_nexts (pc := 28) hx hb hK hP hD hS c28 dX2_setNext_28 (fun H locs hP hD hS => ?_)
        obtain ⟨σ28, hP, hD, hf⟩ := zz_g (w := wC ad cA) hP hD hf
        refine lv_aload_n (pc := 29) hx hb dX2_setNext_29 rfl (lv_at hl 0 rfl) ?_
        refine gc_5_listeners (pc := 30) CF hK hP mF_X2_15 dX2_setNext_30 ?_
        refine lv_iload_n (pc := 33) hx hb dX2_setNext_33 rfl (lv_at hl 1 rfl) ?_
        refine lv_iload_n (pc := 34) hx hb dX2_setNext_34 rfl (lv_at hl 3 rfl) ?_
        obtain ⟨c35, hf⟩ := zz_k hf
        refine ac_lsts (pc := 35) hx hb hK hP hD hS c35 dX2_setNext_35 (fun H locs hP hD hS => ?_)
        obtain ⟨σ35, hP, hD, hf⟩ := zz_g (w := wC ad cA) hP hD hf
        exact retVw (wf := wC ad cA) hx hb hr hlk hf hP hD hS dX2_setNext_36
set_option maxHeartbeats 4000000 in
set_option maxRecDepth 100000 in
theorem tX2_begin {l : Launch} {kv : Nat × Nat} {D : va_G} {N : Nat} {ad : Nat → Nat} {cA : ClassId} {σ : SC} {σF : SC} (hf : fX2_begin N σ = some σF) : Ct l kv D [(cA, .int)] yX2_begin cX2_begin 2 none 1 23 (wC ad cA σ) (wC ad cA σF) [.ref (ad 5)] (none) := by
  refine Ct.ofW (by decide) (Nat.le_of_ble_eq_true rfl) ?_
  intro p e s m below meth c A args CF hr hlk hA hP hK hD hN hW hS ls hl
  have hx := CF.1
  have hb := CF.2.1
  have hml := CF.2.2.1
  have hown := CF.2.2.2.1
  have hw : ∀ w ∈ wsA, w.before args s = true := fun w h => CF.2.2.2.2 w (List.mem_cons_of_mem _ h)
  have hl : lv_has ls 2 [(0, .ref (ad 5))] := hl
  unfold fX2_begin at hf
  have L23 : ∀ (n23 : Nat) (σ : SC) (x1 : Int32) (H : Heap) (locs : List Loc) (ls : Array Slot), va_P D vwCl (wC ad cA σ) H → va_D A (wC ad cA σ) → va_S A s.heap H locs → lv_has ls 2 [(0, .ref (ad 5)), (1, .int x1)] → fX2_begin_23 N n23 σ x1 = some σF → G p l e 1 23 s m args below meth c D A (wC ad cA σF) (none) H locs (F0 m 23 ls []) := by
    intro n23
    induction n23 with
    | zero => intro σ x1 H locs ls hP hD hS hl hf; exact absurd hf (by simp [fX2_begin_23])
    | succ n23 ih23 =>
      intro σ x1 H locs ls hP hD hS hl hf
      rw [fX2_begin_23] at hf
      refine lv_iload_n (pc := 23) hx hb dX2_begin_23 rfl (lv_at hl 1 rfl) ?_
      refine lv_iconst (pc := 24) (v := 3) hx hb dX2_begin_24 (by decide) ?_
      refine lv_icmp_ge (pc := 25) (tgt := 55) hx hb dX2_begin_25 (by decide) (fun c25 => ?_) (fun c25 => ?_)
      · have hf := zz_t c25 hf
        refine lv_aload_n (pc := 55) hx hb dX2_begin_55 rfl (lv_at hl 0 rfl) ?_
        refine lv_iconst (pc := 56) (v := 0) hx hb dX2_begin_56 (by decide) ?_
        refine pc_5_asked (pc := 57) CF hK hP hD hS mF_X2_33 dX2_begin_57 (fun H locs hP hD hS => ?_)
        obtain ⟨σ57, hP, hD, hf⟩ := zz_g (w := wC ad cA) hP hD hf
        refine lv_aload_n (pc := 60) hx hb dX2_begin_60 rfl (lv_at hl 0 rfl) ?_
        refine lv_iconst (pc := 61) (v := 0) hx hb dX2_begin_61 (by decide) ?_
        refine pc_5_days (pc := 62) CF hK hP hD hS mF_X2_37 dX2_begin_62 (fun H locs hP hD hS => ?_)
        obtain ⟨σ62, hP, hD, hf⟩ := zz_g (w := wC ad cA) hP hD hf
        refine lv_aload_n (pc := 65) hx hb dX2_begin_65 rfl (lv_at hl 0 rfl) ?_
        refine lv_iconst (pc := 66) (v := 0) hx hb dX2_begin_66 (by decide) ?_
        refine pc_5_changes (pc := 67) CF hK hP hD hS mF_X2_40 dX2_begin_67 (fun H locs hP hD hS => ?_)
        obtain ⟨σ67, hP, hD, hf⟩ := zz_g (w := wC ad cA) hP hD hf
        exact retVw (wf := wC ad cA) hx hb hr hlk hf hP hD hS dX2_begin_70
      · have hf := zz_f c25 hf
        refine lv_aload_n (pc := 28) hx hb dX2_begin_28 rfl (lv_at hl 0 rfl) ?_
        refine gc_5_heard (pc := 29) CF hK hP mF_X2_18 dX2_begin_29 ?_
        refine lv_iload_n (pc := 32) hx hb dX2_begin_32 rfl (lv_at hl 1 rfl) ?_
        refine lv_iconst (pc := 33) (v := 0) hx hb dX2_begin_33 (by decide) ?_
        obtain ⟨c34, hf⟩ := zz_k hf
        refine ac_heard (pc := 34) hx hb hK hP hD hS c34 dX2_begin_34 (fun H locs hP hD hS => ?_)
        obtain ⟨σ34, hP, hD, hf⟩ := zz_g (w := wC ad cA) hP hD hf
        refine lv_aload_n (pc := 35) hx hb dX2_begin_35 rfl (lv_at hl 0 rfl) ?_
        refine gc_5_last (pc := 36) CF hK hP mF_X2_21 dX2_begin_36 ?_
        refine lv_iload_n (pc := 39) hx hb dX2_begin_39 rfl (lv_at hl 1 rfl) ?_
        refine lv_iconst (pc := 40) (v := 0) hx hb dX2_begin_40 (by decide) ?_
        obtain ⟨c41, hf⟩ := zz_k hf
        refine ac_last (pc := 41) hx hb hK hP hD hS c41 dX2_begin_41 (fun H locs hP hD hS => ?_)
        obtain ⟨σ41, hP, hD, hf⟩ := zz_g (w := wC ad cA) hP hD hf
        refine lv_aload_n (pc := 42) hx hb dX2_begin_42 rfl (lv_at hl 0 rfl) ?_
        refine gc_5_denied (pc := 43) CF hK hP mF_X2_24 dX2_begin_43 ?_
        refine lv_iload_n (pc := 46) hx hb dX2_begin_46 rfl (lv_at hl 1 rfl) ?_
        refine lv_iconst (pc := 47) (v := 0) hx hb dX2_begin_47 (by decide) ?_
        obtain ⟨c48, hf⟩ := zz_k hf
        refine ac_denied (pc := 48) hx hb hK hP hD hS c48 dX2_begin_48 (fun H locs hP hD hS => ?_)
        obtain ⟨σ48, hP, hD, hf⟩ := zz_g (w := wC ad cA) hP hD hf
        refine lv_iinc (pc := 49) (v := (x1 + 1)) (lv' := [(1, .int (x1 + 1)), (0, .ref (ad 5))]) hx hb dX2_begin_49 hl (k := 1) rfl rfl (by decide) rfl (fun ls hl => ?_)
        refine lv_goto (pc := 52) (tgt := 23) hx hb dX2_begin_52 (by decide) ?_
        exact ih23 σ48 (x1 + 1) _ _ _ hP hD hS (lv_sub hl [1, 0] rfl) hf
  have L2 : ∀ (n2 : Nat) (σ : SC) (x1 : Int32) (H : Heap) (locs : List Loc) (ls : Array Slot), va_P D vwCl (wC ad cA σ) H → va_D A (wC ad cA σ) → va_S A s.heap H locs → lv_has ls 2 [(0, .ref (ad 5)), (1, .int x1)] → fX2_begin_2 N n2 σ x1 = some σF → G p l e 1 23 s m args below meth c D A (wC ad cA σF) (none) H locs (F0 m 2 ls []) := by
    intro n2
    induction n2 with
    | zero => intro σ x1 H locs ls hP hD hS hl hf; exact absurd hf (by simp [fX2_begin_2])
    | succ n2 ih2 =>
      intro σ x1 H locs ls hP hD hS hl hf
      rw [fX2_begin_2] at hf
      refine lv_iload_n (pc := 2) hx hb dX2_begin_2 rfl (lv_at hl 1 rfl) ?_
      refine lv_bipush (pc := 3) (v := 6) hx hb dX2_begin_3 (by decide) ?_
      refine lv_icmp_ge (pc := 5) (tgt := 21) hx hb dX2_begin_5 (by decide) (fun c5 => ?_) (fun c5 => ?_)
      · have hf := zz_t c5 hf
        refine lv_iconst (pc := 21) (v := 0) hx hb dX2_begin_21 (by decide) ?_
        refine lv_istore_n (pc := 22) (lv' := [(1, .int 0), (0, .ref (ad 5))]) hx hb dX2_begin_22 rfl hl (by decide) rfl (fun ls hl => ?_)
        exact L23 N σ 0 _ _ _ hP hD hS (lv_sub hl [1, 0] rfl) hf
      · have hf := zz_f c5 hf
        refine lv_aload_n (pc := 8) hx hb dX2_begin_8 rfl (lv_at hl 0 rfl) ?_
        refine lv_iload_n (pc := 9) hx hb dX2_begin_9 rfl (lv_at hl 1 rfl) ?_
        refine lv_iconst (pc := 10) (v := (-1)) hx hb dX2_begin_10 (by decide) ?_
        refine lv_iconst (pc := 11) (v := 0) hx hb dX2_begin_11 (by decide) ?_
        obtain ⟨σ12, h12, hf⟩ := zz_o hf
        refine cV (pc := 12) (rest := []) (st1 := []) (q0 := 5) CF (tX2_setNext h12) hK hP hD hS hA hN hW mL_X2_43 kX2_setNext nX2_setNext rfl rfl rfl rfl ⟨by decide, by decide⟩ hl.1 (Nat.le_of_ble_eq_true rfl) ⟨Nat.le_refl _, Nat.le_refl _⟩ rfl dX2_begin_12 (fun H locs hP hD hS => ?_)
        refine lv_iinc (pc := 15) (v := (x1 + 1)) (lv' := [(1, .int (x1 + 1)), (0, .ref (ad 5))]) hx hb dX2_begin_15 hl (k := 1) rfl rfl (by decide) rfl (fun ls hl => ?_)
        refine lv_goto (pc := 18) (tgt := 2) hx hb dX2_begin_18 (by decide) ?_
        exact ih2 σ12 (x1 + 1) _ _ _ hP hD hS (lv_sub hl [1, 0] rfl) hf
  refine lv_iconst (pc := 0) (v := 0) hx hb dX2_begin_0 (by decide) ?_
  refine lv_istore_n (pc := 1) (lv' := [(1, .int 0), (0, .ref (ad 5))]) hx hb dX2_begin_1 rfl hl (by decide) rfl (fun ls hl => ?_)
  exact L2 N σ 0 _ _ _ hP hD hS (lv_sub hl [1, 0] rfl) hf
set_option maxHeartbeats 4000000 in
set_option maxRecDepth 100000 in
theorem tX1_nextWritten {l : Launch} {kv : Nat × Nat} {D : va_G} {N : Nat} {ad : Nat → Nat} {cA : ClassId} {σ : SC} {x1 : Int32} {rF : Int32} (hf : fX1_nextWritten N σ x1 = some rF) : Ct l kv D [(cA, .int)] yX1_nextWritten cX1_nextWritten 2 (some .int) 1 21 (wC ad cA σ) (wC ad cA σ) [.ref (ad 1), .int x1] (some (.int rF)) := by
  refine Ct.ofW (by decide) (Nat.le_of_ble_eq_true rfl) ?_
  intro p e s m below meth c A args CF hr hlk hA hP hK hD hN hW hS ls hl
  have hx := CF.1
  have hb := CF.2.1
  have hml := CF.2.2.1
  have hown := CF.2.2.2.1
  have hw : ∀ w ∈ wsA, w.before args s = true := fun w h => CF.2.2.2.2 w (List.mem_cons_of_mem _ h)
  have hl : lv_has ls 2 [(0, .ref (ad 1)), (1, .int x1)] := hl
  unfold fX1_nextWritten at hf
  refine lv_aload_n (pc := 0) hx hb dX1_nextWritten_0 rfl (lv_at hl 0 rfl) ?_
  refine lv_iload_n (pc := 1) hx hb dX1_nextWritten_1 rfl (lv_at hl 1 rfl) ?_
  refine lv_iconst (pc := 2) (v := 3) hx hb dX1_nextWritten_2 (by decide) ?_
  refine lv_imul (pc := 3) hx hb dX1_nextWritten_3 ?_
  refine lv_iconst (pc := 4) (v := 1) hx hb dX1_nextWritten_4 (by decide) ?_
  refine lv_iadd (pc := 5) hx hb dX1_nextWritten_5 ?_
  obtain ⟨v6, h6, hf⟩ := zz_o hf
  refine cV (pc := 6) (rest := []) (st1 := [.int v6]) (q0 := 1) CF (tX1_codeAt h6) hK hP hD hS hA hN hW mL_X1_23 kX1_codeAt nX1_codeAt rfl rfl rfl rfl ⟨by decide, by decide⟩ hl.1 (Nat.le_of_ble_eq_true rfl) ⟨Nat.le_refl _, Nat.le_refl _⟩ rfl dX1_nextWritten_6 (fun H locs hP hD hS => ?_)
  refine lv_bipush (pc := 9) (v := 48) hx hb dX1_nextWritten_9 (by decide) ?_
  refine lv_isub (pc := 11) hx hb dX1_nextWritten_11 ?_
  exact retI hx hb hr hlk hf hP hD hS dX1_nextWritten_12
