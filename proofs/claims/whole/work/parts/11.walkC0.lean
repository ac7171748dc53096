set_option maxHeartbeats 4000000 in
set_option maxRecDepth 100000 in
theorem tX1_put {l : Launch} {kv : Nat × Nat} {D : va_G} {N : Nat} {ad : Nat → Nat} {cA : ClassId} {σ : SC} {x1 : Int32} {rF : Int32} {σF : SC} (hf : fX1_put N σ x1 = some (rF, σF)) : Ct l kv D [(cA, .int)] yX1_put cX1_put 2 (some .boolean) 0 0 (wC ad cA σ) (wC ad cA σF) [.ref (ad 1), .int x1] (some (.int rF)) := by
  refine Ct.ofW (by decide) (Nat.le_of_ble_eq_true rfl) ?_
  intro p e s m below meth c A args CF hr hlk hA hP hK hD hN hW hS ls hl
  have hx := CF.1
  have hb := CF.2.1
  have hml := CF.2.2.1
  have hown := CF.2.2.2.1
  have hw : ∀ w ∈ wsA, w.before args s = true := fun w h => CF.2.2.2.2 w (List.mem_cons_of_mem _ h)
  have hl : lv_has ls 2 [(0, .ref (ad 1)), (1, .int x1)] := hl
  unfold fX1_put at hf
  refine lv_aload_n (pc := 0) hx hb dX1_put_0 rfl (lv_at hl 0 rfl) ?_
  refine gc_1_length (pc := 1) CF hK hP mF_X1_15 dX1_put_1 ?_
  refine lv_if_lt (pc := 4) (tgt := 19) hx hb dX1_put_4 (by decide) (fun c4 => ?_) (fun c4 => ?_)
  · have hf := zz_t c4 hf
    refine lv_iconst (pc := 19) (v := 0) hx hb dX1_put_19 (by decide) ?_
    exact retZw (wf := wC ad cA) hx hb hr hlk rfl hf hP hD hS dX1_put_20
  · have hf := zz_f c4 hf
    refine lv_aload_n (pc := 7) hx hb dX1_put_7 rfl (lv_at hl 0 rfl) ?_
    refine gc_1_length (pc := 8) CF hK hP mF_X1_15 dX1_put_8 ?_
    refine lv_aload_n (pc := 11) hx hb dX1_put_11 rfl (lv_at hl 0 rfl) ?_
    refine gc_1_codes (pc := 12) CF hK hP mF_X1_9 dX1_put_12 ?_
    refine nc_codes (pc := 15) hx hb hK hP dX1_put_15 ?_
    refine lv_icmp_lt (pc := 16) (tgt := 21) hx hb dX1_put_16 (by decide) (fun c16 => ?_) (fun c16 => ?_)
    · have hf := zz_t c16 hf
      refine lv_aload_n (pc := 21) hx hb dX1_put_21 rfl (lv_at hl 0 rfl) ?_
      refine gc_1_codes (pc := 22) CF hK hP mF_X1_9 dX1_put_22 ?_
      refine lv_aload_n (pc := 25) hx hb dX1_put_25 rfl (lv_at hl 0 rfl) ?_
      refine gc_1_length (pc := 26) CF hK hP mF_X1_15 dX1_put_26 ?_
      refine lv_iload_n (pc := 29) hx hb dX1_put_29 rfl (lv_at hl 1 rfl) ?_
      obtain ⟨c30, hf⟩ := zz_k hf
      refine ac_codes (pc := 30) hx hb hK hP hD hS c30 dX1_put_30 (fun H locs hP hD hS => ?_)
      obtain ⟨σ30, hP, hD, hf⟩ := zz_g (w := wC ad cA) hP hD hf
      refine lv_aload_n (pc := 31) hx hb dX1_put_31 rfl (lv_at hl 0 rfl) ?_
      refine lv_dup (pc := 32) hx hb dX1_put_32 rfl ?_
      refine gc_1_length (pc := 33) CF hK hP mF_X1_15 dX1_put_33 ?_
      refine lv_iconst (pc := 36) (v := 1) hx hb dX1_put_36 (by decide) ?_
      refine lv_iadd (pc := 37) hx hb dX1_put_37 ?_
      refine pc_1_length (pc := 38) CF hK hP hD hS mF_X1_15 dX1_put_38 (fun H locs hP hD hS => ?_)
      obtain ⟨σ38, hP, hD, hf⟩ := zz_g (w := wC ad cA) hP hD hf
      refine lv_iconst (pc := 41) (v := 1) hx hb dX1_put_41 (by decide) ?_
      exact retZw (wf := wC ad cA) hx hb hr hlk rfl hf hP hD hS dX1_put_42
    · have hf := zz_f c16 hf
      refine lv_iconst (pc := 19) (v := 0) hx hb dX1_put_19 (by decide) ?_
      exact retZw (wf := wC ad cA) hx hb hr hlk rfl hf hP hD hS dX1_put_20
set_option maxHeartbeats 4000000 in
set_option maxRecDepth 100000 in
theorem tX5_letter {l : Launch} {kv : Nat × Nat} {D : va_G} {N : Nat} {ad : Nat → Nat} {cA : ClassId} {σ : SC} {x1 : Int32} {rF : Int32} {σF : SC} (hf : fX5_letter N σ x1 = some (rF, σF)) : Ct l kv D [(cA, .int)] yX5_letter cX5_letter 2 (some .int) 1 21 (wC ad cA σ) (wC ad cA σF) [.ref (ad 0), .int x1] (some (.int rF)) := by
  refine Ct.ofW (by decide) (Nat.le_of_ble_eq_true rfl) ?_
  intro p e s m below meth c A args CF hr hlk hA hP hK hD hN hW hS ls hl
  have hx := CF.1
  have hb := CF.2.1
  have hml := CF.2.2.1
  have hown := CF.2.2.2.1
  have hw : ∀ w ∈ wsA, w.before args s = true := fun w h => CF.2.2.2.2 w (List.mem_cons_of_mem _ h)
  have hl : lv_has ls 2 [(0, .ref (ad 0)), (1, .int x1)] := hl
  unfold fX5_letter at hf
  refine lv_iload_n (pc := 0) hx hb dX5_letter_0 rfl (lv_at hl 1 rfl) ?_
  refine lv_iconst (pc := 1) (v := 1) hx hb dX5_letter_1 (by decide) ?_
  refine lv_icmp_lt (pc := 2) (tgt := 11) hx hb dX5_letter_2 (by decide) (fun c2 => ?_) (fun c2 => ?_)
  · have hf := zz_t c2 hf
    refine lv_bipush (pc := 11) (v := (-102)) hx hb dX5_letter_11 (by decide) ?_
    exact retIw (wf := wC ad cA) hx hb hr hlk hf hP hD hS dX5_letter_13
  · have hf := zz_f c2 hf
    refine lv_iload_n (pc := 5) hx hb dX5_letter_5 rfl (lv_at hl 1 rfl) ?_
    refine lv_bipush (pc := 6) (v := 126) hx hb dX5_letter_6 (by decide) ?_
    refine lv_icmp_le (pc := 8) (tgt := 14) hx hb dX5_letter_8 (by decide) (fun c8 => ?_) (fun c8 => ?_)
    · have hf := zz_t c8 hf
      refine lv_aload_n (pc := 14) hx hb dX5_letter_14 rfl (lv_at hl 0 rfl) ?_
      refine gc_0_page (pc := 15) CF hK hP mF_X5_10 dX5_letter_15 ?_
      refine lv_iload_n (pc := 18) hx hb dX5_letter_18 rfl (lv_at hl 1 rfl) ?_
      obtain ⟨v19, σ19, h19, hf⟩ := zz_b hf
      refine cV (pc := 19) (rest := []) (st1 := [.int v19]) (q0 := 1) CF (tX1_put h19) hK hP hD hS hA hN hW mL_X5_59 kX1_put nX1_put rfl rfl rfl rfl ⟨by decide, by decide⟩ hl.1 (Nat.le_of_ble_eq_true rfl) ⟨Nat.le_refl _, Nat.le_refl _⟩ rfl dX5_letter_19 (fun H locs hP hD hS => ?_)
      refine lv_if_eq (pc := 22) (tgt := 35) hx hb dX5_letter_22 (by decide) (fun c22 => ?_) (fun c22 => ?_)
      · have hf := zz_t c22 hf
        refine lv_bipush (pc := 35) (v := (-104)) hx hb dX5_letter_35 (by decide) ?_
        exact retIw (wf := wC ad cA) hx hb hr hlk hf hP hD hS dX5_letter_37
      · have hf := zz_f c22 hf
        refine lv_aload_n (pc := 25) hx hb dX5_letter_25 rfl (lv_at hl 0 rfl) ?_
        refine gc_0_page (pc := 26) CF hK hP mF_X5_10 dX5_letter_26 ?_
        refine gcN_1_length (pc := 29) CF hK hP hN (nf 0) dX5_letter_29 ?_
        refine lv_goto (pc := 32) (tgt := 37) hx hb dX5_letter_32 (by decide) ?_
        exact retIw (wf := wC ad cA) hx hb hr hlk hf hP hD hS dX5_letter_37
    · have hf := zz_f c8 hf
      refine lv_bipush (pc := 11) (v := (-102)) hx hb dX5_letter_11 (by decide) ?_
      exact retIw (wf := wC ad cA) hx hb hr hlk hf hP hD hS dX5_letter_13
set_option maxHeartbeats 4000000 in
set_option maxRecDepth 100000 in
theorem tX1_clear {l : Launch} {kv : Nat × Nat} {D : va_G} {N : Nat} {ad : Nat → Nat} {cA : ClassId} {σ : SC} {σF : SC} (hf : fX1_clear N σ = some σF) : Ct l kv D [(cA, .int)] yX1_clear cX1_clear 1 none 0 0 (wC ad cA σ) (wC ad cA σF) [.ref (ad 1)] (none) := by
  refine Ct.ofW (by decide) (Nat.le_of_ble_eq_true rfl) ?_
  intro p e s m below meth c A args CF hr hlk hA hP hK hD hN hW hS ls hl
  have hx := CF.1
  have hb := CF.2.1
  have hml := CF.2.2.1
  have hown := CF.2.2.2.1
  have hw : ∀ w ∈ wsA, w.before args s = true := fun w h => CF.2.2.2.2 w (List.mem_cons_of_mem _ h)
  have hl : lv_has ls 1 [(0, .ref (ad 1))] := hl
  unfold fX1_clear at hf
  refine lv_aload_n (pc := 0) hx hb dX1_clear_0 rfl (lv_at hl 0 rfl) ?_
  refine lv_iconst (pc := 1) (v := 0) hx hb dX1_clear_1 (by decide) ?_
  refine pc_1_length (pc := 2) CF hK hP hD hS mF_X1_15 dX1_clear_2 (fun H locs hP hD hS => ?_)
  obtain ⟨σ2, hP, hD, hf⟩ := zz_g (w := wC ad cA) hP hD hf
  exact retVw (wf := wC ad cA) hx hb hr hlk hf hP hD hS dX1_clear_5
set_option maxHeartbeats 4000000 in
set_option maxRecDepth 100000 in
theorem tX5_blank {l : Launch} {kv : Nat × Nat} {D : va_G} {N : Nat} {ad : Nat → Nat} {cA : ClassId} {σ : SC} {rF : Int32} {σF : SC} (hf : fX5_blank N σ = some (rF, σF)) : Ct l kv D [(cA, .int)] yX5_blank cX5_blank 2 (some .int) 1 20 (wC ad cA σ) (wC ad cA σF) [.ref (ad 0)] (some (.int rF)) := by
  refine Ct.ofW (by decide) (Nat.le_of_ble_eq_true rfl) ?_
  intro p e s m below meth c A args CF hr hlk hA hP hK hD hN hW hS ls hl
  have hx := CF.1
  have hb := CF.2.1
  have hml := CF.2.2.1
  have hown := CF.2.2.2.1
  have hw : ∀ w ∈ wsA, w.before args s = true := fun w h => CF.2.2.2.2 w (List.mem_cons_of_mem _ h)
  have hl : lv_has ls 2 [(0, .ref (ad 0))] := hl
  unfold fX5_blank at hf
  refine lv_aload_n (pc := 0) hx hb dX5_blank_0 rfl (lv_at hl 0 rfl) ?_
  refine gc_0_page (pc := 1) CF hK hP mF_X5_10 dX5_blank_1 ?_
  refine gcN_1_length (pc := 4) CF hK hP hN (nf 0) dX5_blank_4 ?_
  refine lv_istore_n (pc := 7) (lv' := [(1, .int (c_plen σ)), (0, .ref (ad 0))]) hx hb dX5_blank_7 rfl hl (by decide) rfl (fun ls hl => ?_)
  refine lv_aload_n (pc := 8) hx hb dX5_blank_8 rfl (lv_at hl 1 rfl) ?_
  refine gc_0_page (pc := 9) CF hK hP mF_X5_10 dX5_blank_9 ?_
  obtain ⟨σ12, h12, hf⟩ := zz_o hf
  refine cV (pc := 12) (rest := []) (st1 := []) (q0 := 1) CF (tX1_clear h12) hK hP hD hS hA hN hW mL_X5_66 kX1_clear nX1_clear rfl rfl rfl rfl ⟨by decide, by decide⟩ hl.1 (Nat.le_of_ble_eq_true rfl) ⟨Nat.le_refl _, Nat.le_refl _⟩ rfl dX5_blank_12 (fun H locs hP hD hS => ?_)
  refine lv_iload_n (pc := 15) hx hb dX5_blank_15 rfl (lv_at hl 0 rfl) ?_
  exact retIw (wf := wC ad cA) hx hb hr hlk hf hP hD hS dX5_blank_16
set_option maxHeartbeats 4000000 in
set_option maxRecDepth 100000 in
theorem tX1_codeAt {l : Launch} {kv : Nat × Nat} {D : va_G} {N : Nat} {ad : Nat → Nat} {cA : ClassId} {σ : SC} {x1 : Int32} {rF : Int32} (hf : fX1_codeAt N σ x1 = some rF) : Ct l kv D [(cA, .int)] yX1_codeAt cX1_codeAt 2 (some .int) 0 0 (wC ad cA σ) (wC ad cA σ) [.ref (ad 1), .int x1] (some (.int rF)) := by
  refine Ct.ofW (by decide) (Nat.le_of_ble_eq_true rfl) ?_
  intro p e s m below meth c A args CF hr hlk hA hP hK hD hN hW hS ls hl
  have hx := CF.1
  have hb := CF.2.1
  have hml := CF.2.2.1
  have hown := CF.2.2.2.1
  have hw : ∀ w ∈ wsA, w.before args s = true := fun w h => CF.2.2.2.2 w (List.mem_cons_of_mem _ h)
  have hl : lv_has ls 2 [(0, .ref (ad 1)), (1, .int x1)] := hl
  unfold fX1_codeAt at hf
  refine lv_iload_n (pc := 0) hx hb dX1_codeAt_0 rfl (lv_at hl 1 rfl) ?_
  refine lv_if_lt (pc := 1) (tgt := 30) hx hb dX1_codeAt_1 (by decide) (fun c1 => ?_) (fun c1 => ?_)
  · have hf := zz_t c1 hf
    refine lv_iconst (pc := 30) (v := 0) hx hb dX1_codeAt_30 (by decide) ?_
    exact retI hx hb hr hlk hf hP hD hS dX1_codeAt_31
  · have hf := zz_f c1 hf
    refine lv_iload_n (pc := 4) hx hb dX1_codeAt_4 rfl (lv_at hl 1 rfl) ?_
    refine lv_aload_n (pc := 5) hx hb dX1_codeAt_5 rfl (lv_at hl 0 rfl) ?_
    refine gc_1_length (pc := 6) CF hK hP mF_X1_15 dX1_codeAt_6 ?_
    refine lv_icmp_ge (pc := 9) (tgt := 30) hx hb dX1_codeAt_9 (by decide) (fun c9 => ?_) (fun c9 => ?_)
    · have hf := zz_t c9 hf
      refine lv_iconst (pc := 30) (v := 0) hx hb dX1_codeAt_30 (by decide) ?_
      exact retI hx hb hr hlk hf hP hD hS dX1_codeAt_31
    · have hf := zz_f c9 hf
      refine lv_iload_n (pc := 12) hx hb dX1_codeAt_12 rfl (lv_at hl 1 rfl) ?_
      refine lv_aload_n (pc := 13) hx hb dX1_codeAt_13 rfl (lv_at hl 0 rfl) ?_
      refine gc_1_codes (pc := 14) CF hK hP mF_X1_9 dX1_codeAt_14 ?_
      refine nc_codes (pc := 17) hx hb hK hP dX1_codeAt_17 ?_
      refine lv_icmp_ge (pc := 18) (tgt := 30) hx hb dX1_codeAt_18 (by decide) (fun c18 => ?_) (fun c18 => ?_)
      · have hf := zz_t c18 hf
        refine lv_iconst (pc := 30) (v := 0) hx hb dX1_codeAt_30 (by decide) ?_
        exact retI hx hb hr hlk hf hP hD hS dX1_codeAt_31
      · have hf := zz_f c18 hf
        refine lv_aload_n (pc := 21) hx hb dX1_codeAt_21 rfl (lv_at hl 0 rfl) ?_
        refine gc_1_codes (pc := 22) CF hK hP mF_X1_9 dX1_codeAt_22 ?_
        refine lv_iload_n (pc := 25) hx hb dX1_codeAt_25 rfl (lv_at hl 1 rfl) ?_
        obtain ⟨c26, hf⟩ := zz_k hf
        refine lc_codes (pc := 26) hx hb hK hP c26 dX1_codeAt_26 ?_
        refine lv_goto (pc := 27) (tgt := 31) hx hb dX1_codeAt_27 (by decide) ?_
        exact retI hx hb hr hlk hf hP hD hS dX1_codeAt_31
set_option maxHeartbeats 4000000 in
set_option maxRecDepth 100000 in
theorem tJ0_isLatin1_aae02 {l : Launch} {kv : Nat × Nat} {D : va_G} {N : Nat} {tys : List (ClassId × FieldType)} {ws : va_W} {rF : Int32} (hf : fJ0_isLatin1_aae02 N = some rF) : Ct l kv D tys yJ0_isLatin1_aae02 cJ0_isLatin1_aae02 1 (some .boolean) 0 0 ws ws [.ref kv.1] (some (.int rF)) := by
  refine Ct.ofW (by decide) (Nat.le_of_ble_eq_true rfl) ?_
  intro p e s m below meth c A args CF hr hlk hA hP hK hD hN hW hS ls hl
  have hx := CF.1
  have hb := CF.2.1
  have hml := CF.2.2.1
  have hown := CF.2.2.2.1
  have hw : ∀ w ∈ wsA, w.before args s = true := fun w h => CF.2.2.2.2 w (List.mem_cons_of_mem _ h)
  have hl : lv_has ls 1 [(0, .ref kv.1)] := hl
  unfold fJ0_isLatin1_aae02 at hf
  refine va_gets (pc := 0) hx hb hW.2.2 hS hown (hw _ mF_J0_38) (fun _ h => h) dJ0_isLatin1_aae02_0 ?_
  refine lv_if_eq (pc := 3) (tgt := 17) hx hb dJ0_isLatin1_aae02_3 (by decide) (fun c3 => ?_) (fun c3 => ?_)
  · have hf := zz_t c3 hf
    refine lv_iconst (pc := 17) (v := 0) hx hb dJ0_isLatin1_aae02_17 (by decide) ?_
    exact retZ hx hb hr hlk rfl hf hP hD hS dJ0_isLatin1_aae02_18
  · have hf := zz_f c3 hf
    refine lv_aload_n (pc := 6) hx hb dJ0_isLatin1_aae02_6 rfl (lv_at hl 0 rfl) ?_
    refine vk_getf (pc := 7) hx hb (hW.2.1.1 0 (by decide)).2.1 hS hown (hw _ mF_J0_15) (fun _ h => h) dJ0_isLatin1_aae02_7 ?_
    refine lv_if_ne (pc := 10) (tgt := 17) hx hb dJ0_isLatin1_aae02_10 (by decide) (fun c10 => ?_) (fun c10 => ?_)
    · have hf := zz_f c10 hf
      refine lv_iconst (pc := 17) (v := 0) hx hb dJ0_isLatin1_aae02_17 (by decide) ?_
      exact retZ hx hb hr hlk rfl hf hP hD hS dJ0_isLatin1_aae02_18
    · have hf := zz_t c10 hf
      refine lv_iconst (pc := 13) (v := 1) hx hb dJ0_isLatin1_aae02_13 (by decide) ?_
      refine lv_goto (pc := 14) (tgt := 18) hx hb dJ0_isLatin1_aae02_14 (by decide) ?_
      exact retZ hx hb hr hlk rfl hf hP hD hS dJ0_isLatin1_aae02_18
set_option maxHeartbeats 4000000 in
set_option maxRecDepth 100000 in
theorem tJ0_coder_7d493 {l : Launch} {kv : Nat × Nat} {D : va_G} {N : Nat} {tys : List (ClassId × FieldType)} {ws : va_W} {rF : Int32} (hf : fJ0_coder_7d493 N = some rF) : Ct l kv D tys yJ0_coder_7d493 cJ0_coder_7d493 1 (some .byte) 0 0 ws ws [.ref kv.1] (some (.int rF)) := by
  refine Ct.ofW (by decide) (Nat.le_of_ble_eq_true rfl) ?_
  intro p e s m below meth c A args CF hr hlk hA hP hK hD hN hW hS ls hl
  have hx := CF.1
  have hb := CF.2.1
  have hml := CF.2.2.1
  have hown := CF.2.2.2.1
  have hw : ∀ w ∈ wsA, w.before args s = true := fun w h => CF.2.2.2.2 w (List.mem_cons_of_mem _ h)
  have hl : lv_has ls 1 [(0, .ref kv.1)] := hl
  unfold fJ0_coder_7d493 at hf
  refine va_gets (pc := 0) hx hb hW.2.2 hS hown (hw _ mF_J0_38) (fun _ h => h) dJ0_coder_7d493_0 ?_
  refine lv_if_eq (pc := 3) (tgt := 13) hx hb dJ0_coder_7d493_3 (by decide) (fun c3 => ?_) (fun c3 => ?_)
  · have hf := zz_t c3 hf
    refine lv_iconst (pc := 13) (v := 1) hx hb dJ0_coder_7d493_13 (by decide) ?_
    exact retZ hx hb hr hlk rfl hf hP hD hS dJ0_coder_7d493_14
  · have hf := zz_f c3 hf
    refine lv_aload_n (pc := 6) hx hb dJ0_coder_7d493_6 rfl (lv_at hl 0 rfl) ?_
    refine vk_getf (pc := 7) hx hb (hW.2.1.1 0 (by decide)).2.1 hS hown (hw _ mF_J0_15) (fun _ h => h) dJ0_coder_7d493_7 ?_
    refine lv_goto (pc := 10) (tgt := 14) hx hb dJ0_coder_7d493_10 (by decide) ?_
    exact retZ hx hb hr hlk rfl hf hP hD hS dJ0_coder_7d493_14
set_option maxHeartbeats 4000000 in
set_option maxRecDepth 100000 in
theorem tJ0_length_8abf5 {l : Launch} {kv : Nat × Nat} {D : va_G} {N : Nat} {tys : List (ClassId × FieldType)} {ws : va_W} {rF : Int32} (hf : fJ0_length_8abf5 N = some rF) : Ct l kv D tys yJ0_length_8abf5 cJ0_length_8abf5 1 (some .int) 1 20 ws ws [.ref kv.1] (some (.int rF)) := by
  refine Ct.ofW (by decide) (Nat.le_of_ble_eq_true rfl) ?_
  intro p e s m below meth c A args CF hr hlk hA hP hK hD hN hW hS ls hl
  have hx := CF.1
  have hb := CF.2.1
  have hml := CF.2.2.1
  have hown := CF.2.2.2.1
  have hw : ∀ w ∈ wsA, w.before args s = true := fun w h => CF.2.2.2.2 w (List.mem_cons_of_mem _ h)
  have hl : lv_has ls 1 [(0, .ref kv.1)] := hl
  unfold fJ0_length_8abf5 at hf
  refine lv_aload_n (pc := 0) hx hb dJ0_length_8abf5_0 rfl (lv_at hl 0 rfl) ?_
  refine vk_getf (pc := 1) hx hb (hW.2.1.1 0 (by decide)).2.2.1 hS hown (hw _ mF_J0_9) (fun _ h => h) dJ0_length_8abf5_1 ?_
  refine va_tlen (pc := 4) (v := 5) hx hb (hW.2.1.1 0 (by decide)).2.2.2 hS rfl dJ0_length_8abf5_4 ?_
  refine lv_aload_n (pc := 5) hx hb dJ0_length_8abf5_5 rfl (lv_at hl 0 rfl) ?_
  obtain ⟨v6, h6, hf⟩ := zz_o hf
  refine cVr (pc := 6) (rest := [.int 5]) (st1 := [.int v6, .int 5]) CF (tJ0_coder_7d493 h6) hK hP hD hS hA hN hW mL_J0_335 kJ0_coder_7d493 nJ0_coder_7d493 (vk_recv (i := 0) hW.2.1 (by decide) hS) rfl rfl ⟨by decide, by decide⟩ hl.1 (Nat.le_of_ble_eq_true rfl) ⟨Nat.le_refl _, Nat.le_refl _⟩ rfl dJ0_length_8abf5_6 (fun H locs hP hD hS => ?_)
  refine lv_ishr (pc := 9) hx hb dJ0_length_8abf5_9 ?_
  exact retI hx hb hr hlk hf hP hD hS dJ0_length_8abf5_10
set_option maxHeartbeats 4000000 in
set_option maxRecDepth 100000 in
theorem tJ1_canEncode_9a6ad {l : Launch} {kv : Nat × Nat} {D : va_G} {N : Nat} {tys : List (ClassId × FieldType)} {ws : va_W} {x0 : Int32} {rF : Int32} (hf : fJ1_canEncode_9a6ad N x0 = some rF) : Ct l kv D tys yJ1_canEncode_9a6ad cJ1_canEncode_9a6ad 1 (some .boolean) 0 0 ws ws [.int x0] (some (.int rF)) := by
  refine Ct.ofW (by decide) (Nat.le_of_ble_eq_true rfl) ?_
  intro p e s m below meth c A args CF hr hlk hA hP hK hD hN hW hS ls hl
  have hx := CF.1
  have hb := CF.2.1
  have hml := CF.2.2.1
  have hown := CF.2.2.2.1
  have hw : ∀ w ∈ wsA, w.before args s = true := fun w h => CF.2.2.2.2 w (List.mem_cons_of_mem _ h)
  have hl : lv_has ls 1 [(0, .int x0)] := hl
  unfold fJ1_canEncode_9a6ad at hf
  refine lv_iload_n (pc := 0) hx hb dJ1_canEncode_9a6ad_0 rfl (lv_at hl 0 rfl) ?_
  refine lv_if_lt (pc := 1) (tgt := 15) hx hb dJ1_canEncode_9a6ad_1 (by decide) (fun c1 => ?_) (fun c1 => ?_)
  · have hf := zz_t c1 hf
    refine lv_iconst (pc := 15) (v := 0) hx hb dJ1_canEncode_9a6ad_15 (by decide) ?_
    exact retZ hx hb hr hlk rfl hf hP hD hS dJ1_canEncode_9a6ad_16
  · have hf := zz_f c1 hf
    refine lv_iload_n (pc := 4) hx hb dJ1_canEncode_9a6ad_4 rfl (lv_at hl 0 rfl) ?_
    refine lv_sipush (pc := 5) (v := 255) hx hb dJ1_canEncode_9a6ad_5 (by decide) ?_
    refine lv_icmp_gt (pc := 8) (tgt := 15) hx hb dJ1_canEncode_9a6ad_8 (by decide) (fun c8 => ?_) (fun c8 => ?_)
    · have hf := zz_t c8 hf
      refine lv_iconst (pc := 15) (v := 0) hx hb dJ1_canEncode_9a6ad_15 (by decide) ?_
      exact retZ hx hb hr hlk rfl hf hP hD hS dJ1_canEncode_9a6ad_16
    · have hf := zz_f c8 hf
      refine lv_iconst (pc := 11) (v := 1) hx hb dJ1_canEncode_9a6ad_11 (by decide) ?_
      refine lv_goto (pc := 12) (tgt := 16) hx hb dJ1_canEncode_9a6ad_12 (by decide) ?_
      exact retZ hx hb hr hlk rfl hf hP hD hS dJ1_canEncode_9a6ad_16
set_option maxHeartbeats 4000000 in
set_option maxRecDepth 100000 in
theorem tJ1_indexOfChar_4cfef {l : Launch} {kv : Nat × Nat} {D : va_G} {N : Nat} {tys : List (ClassId × FieldType)} {ws : va_W} {x1 : Int32} {x2 : Int32} {x3 : Int32} {rF : Int32} (hf : fJ1_indexOfChar_4cfef N x1 x2 x3 = some rF) : Ct l kv D tys yJ1_indexOfChar_4cfef cJ1_indexOfChar_4cfef 6 (some .int) 0 0 ws ws [.ref kv.2, .int x1, .int x2, .int x3] (some (.int rF)) := by
  refine Ct.ofW (by decide) (Nat.le_of_ble_eq_true rfl) ?_
  intro p e s m below meth c A args CF hr hlk hA hP hK hD hN hW hS ls hl
  have hx := CF.1
  have hb := CF.2.1
  have hml := CF.2.2.1
  have hown := CF.2.2.2.1
  have hw : ∀ w ∈ wsA, w.before args s = true := fun w h => CF.2.2.2.2 w (List.mem_cons_of_mem _ h)
  have hl : lv_has ls 6 [(0, .ref kv.2), (1, .int x1), (2, .int x2), (3, .int x3)] := hl
  unfold fJ1_indexOfChar_4cfef at hf
  have L7 : ∀ (n7 : Nat) (x3 : Int32) (x4 : Int32) (x5 : Int32) (H : Heap) (locs : List Loc) (ls : Array Slot), va_P D vwCl ws H → va_D A ws → va_S A s.heap H locs → lv_has ls 6 [(0, .ref kv.2), (3, .int x3), (4, .int x4), (5, .int x5)] → fJ1_indexOfChar_4cfef_7 N n7 x3 x4 x5 = some rF → G p l e 0 0 s m args below meth c D A ws (some (.int rF)) H locs (F0 m 7 ls []) := by
    intro n7
    induction n7 with
    | zero => intro x3 x4 x5 H locs ls hP hD hS hl hf; exact absurd hf (by simp [fJ1_indexOfChar_4cfef_7])
    | succ n7 ih7 =>
      intro x3 x4 x5 H locs ls hP hD hS hl hf
      rw [fJ1_indexOfChar_4cfef_7] at hf
      refine lv_iload (pc := 7) hx hb dJ1_indexOfChar_4cfef_7 (lv_at hl 3 rfl) ?_
      refine lv_iload_n (pc := 9) hx hb dJ1_indexOfChar_4cfef_9 rfl (lv_at hl 1 rfl) ?_
      refine lv_icmp_ge (pc := 10) (tgt := 31) hx hb dJ1_indexOfChar_4cfef_10 (by decide) (fun c10 => ?_) (fun c10 => ?_)
      · have hf := zz_t c10 hf
        refine lv_iconst (pc := 31) (v := (-1)) hx hb dJ1_indexOfChar_4cfef_31 (by decide) ?_
        exact retI hx hb hr hlk hf hP hD hS dJ1_indexOfChar_4cfef_32
      · have hf := zz_f c10 hf
        refine lv_aload_n (pc := 13) hx hb dJ1_indexOfChar_4cfef_13 rfl (lv_at hl 0 rfl) ?_
        refine lv_iload (pc := 14) hx hb dJ1_indexOfChar_4cfef_14 (lv_at hl 3 rfl) ?_
        obtain ⟨c16, hf⟩ := zz_k hf
        refine va_tb (pc := 16) (v := .int ((([[109, 115, 103, 99, 112]] : List (List Int32)).getD 0 []).getD x5.toNatClampNeg 0)) hx hb (hW.2.1.1 0 (by decide)).2.2.2 hS c16 rfl dJ1_indexOfChar_4cfef_16 ?_
        refine lv_iload (pc := 17) hx hb dJ1_indexOfChar_4cfef_17 (lv_at hl 2 rfl) ?_
        refine lv_icmp_ne (pc := 19) (tgt := 25) hx hb dJ1_indexOfChar_4cfef_19 (by decide) (fun c19 => ?_) (fun c19 => ?_)
        · have hf := zz_f c19 hf
          refine lv_iinc (pc := 25) (v := (x5 + 1)) (lv' := [(5, .int (x5 + 1)), (0, .ref kv.2), (3, .int x3), (4, .int x4)]) hx hb dJ1_indexOfChar_4cfef_25 hl (k := 3) rfl rfl (by decide) rfl (fun ls hl => ?_)
          refine lv_goto (pc := 28) (tgt := 7) hx hb dJ1_indexOfChar_4cfef_28 (by decide) ?_
          exact ih7 x3 x4 (x5 + 1) _ _ _ hP hD hS (lv_sub hl [1, 2, 3, 0] rfl) hf
        · have hf := zz_t c19 hf
          refine lv_iload (pc := 22) hx hb dJ1_indexOfChar_4cfef_22 (lv_at hl 3 rfl) ?_
          exact retI hx hb hr hlk hf hP hD hS dJ1_indexOfChar_4cfef_24
  refine lv_iload_n (pc := 0) hx hb dJ1_indexOfChar_4cfef_0 rfl (lv_at hl 1 rfl) ?_
  refine lv_i2b (pc := 1) (v := x1.toInt8.toInt32) hx hb dJ1_indexOfChar_4cfef_1 rfl ?_
  refine lv_istore (pc := 2) (lv' := [(4, .int x1.toInt8.toInt32), (0, .ref kv.2), (1, .int x1), (2, .int x2), (3, .int x3)]) hx hb dJ1_indexOfChar_4cfef_2 hl (by decide) rfl (fun ls hl => ?_)
  refine lv_iload_n (pc := 4) hx hb dJ1_indexOfChar_4cfef_4 rfl (lv_at hl 3 rfl) ?_
  refine lv_istore (pc := 5) (lv' := [(5, .int x2), (4, .int x1.toInt8.toInt32), (0, .ref kv.2), (1, .int x1), (2, .int x2), (3, .int x3)]) hx hb dJ1_indexOfChar_4cfef_5 hl (by decide) rfl (fun ls hl => ?_)
  exact L7 N x3 x1.toInt8.toInt32 x2 _ _ _ hP hD hS (lv_sub hl [2, 5, 1, 0] rfl) hf
set_option maxHeartbeats 4000000 in
set_option maxRecDepth 100000 in
theorem tJ1_indexOf_4cfef {l : Launch} {kv : Nat × Nat} {D : va_G} {N : Nat} {tys : List (ClassId × FieldType)} {ws : va_W} {x1 : Int32} {x2 : Int32} {x3 : Int32} {rF : Int32} (hf : fJ1_indexOf_4cfef N x1 x2 x3 = some rF) : Ct l kv D tys yJ1_indexOf_4cfef cJ1_indexOf_4cfef 4 (some .int) 1 25 ws ws [.ref kv.2, .int x1, .int x2, .int x3] (some (.int rF)) := by
  refine Ct.ofW (by decide) (Nat.le_of_ble_eq_true rfl) ?_
  intro p e s m below meth c A args CF hr hlk hA hP hK hD hN hW hS ls hl
  have hx := CF.1
  have hb := CF.2.1
  have hml := CF.2.2.1
  have hown := CF.2.2.2.1
  have hw : ∀ w ∈ wsA, w.before args s = true := fun w h => CF.2.2.2.2 w (List.mem_cons_of_mem _ h)
  have hl : lv_has ls 4 [(0, .ref kv.2), (1, .int x1), (2, .int x2), (3, .int x3)] := hl
  unfold fJ1_indexOf_4cfef at hf
  refine lv_iload_n (pc := 0) hx hb dJ1_indexOf_4cfef_0 rfl (lv_at hl 1 rfl) ?_
  obtain ⟨v1, h1, hf⟩ := zz_o hf
  refine cSt (pc := 1) (rest := []) (st1 := [.int v1]) CF (tJ1_canEncode_9a6ad h1) hK hP hD hS hA hN hW mL_J1_88 kJ1_canEncode_9a6ad nJ1_canEncode_9a6ad rfl rfl ⟨by decide, by decide⟩ hl.1 (Nat.le_of_ble_eq_true rfl) ⟨Nat.le_refl _, Nat.le_refl _⟩ rfl dJ1_indexOf_4cfef_1 (fun H locs hP hD hS => ?_)
  refine lv_if_ne (pc := 4) (tgt := 9) hx hb dJ1_indexOf_4cfef_4 (by decide) (fun c4 => ?_) (fun c4 => ?_)
  · have hf := zz_f c4 hf
    refine lv_iload_n (pc := 9) hx hb dJ1_indexOf_4cfef_9 rfl (lv_at hl 2 rfl) ?_
    refine lv_iconst (pc := 10) (v := 0) hx hb dJ1_indexOf_4cfef_10 (by decide) ?_
    refine va_mmax (pc := 11) hx hb (hml.trans hl.1.symm) hown (hw _ mL_J1_92) (hw _ mT_Lib_Math_max_name) (hw _ mN_J9) (hw _ mC_Lib_Math_max_name) (by decide) (Nat.le_of_ble_eq_true rfl) (Nat.le_refl _) (Nat.le_refl _) dJ1_indexOf_4cfef_11 ?_
    refine lv_istore_n (pc := 14) (lv' := [(2, .int (if x2 < 0 then 0 else x2)), (0, .ref kv.2), (1, .int x1), (3, .int x3)]) hx hb dJ1_indexOf_4cfef_14 rfl hl (by decide) rfl (fun ls hl => ?_)
    refine lv_iload_n (pc := 15) hx hb dJ1_indexOf_4cfef_15 rfl (lv_at hl 3 rfl) ?_
    refine lv_aload_n (pc := 16) hx hb dJ1_indexOf_4cfef_16 rfl (lv_at hl 1 rfl) ?_
    refine va_tlen (pc := 17) (v := 5) hx hb (hW.2.1.1 0 (by decide)).2.2.2 hS rfl dJ1_indexOf_4cfef_17 ?_
    refine va_mmin (pc := 18) hx hb (hml.trans hl.1.symm) hown (hw _ mL_J1_38) (hw _ mT_Lib_Math_min_name) (hw _ mN_J9) (hw _ mC_Lib_Math_min_name) (by decide) (Nat.le_of_ble_eq_true rfl) (Nat.le_refl _) (Nat.le_refl _) dJ1_indexOf_4cfef_18 ?_
    refine lv_istore_n (pc := 21) (lv' := [(3, .int (if 5 < x3 then 5 else x3)), (2, .int (if x2 < 0 then 0 else x2)), (0, .ref kv.2), (1, .int x1)]) hx hb dJ1_indexOf_4cfef_21 rfl hl (by decide) rfl (fun ls hl => ?_)
    refine lv_iload_n (pc := 22) hx hb dJ1_indexOf_4cfef_22 rfl (lv_at hl 1 rfl) ?_
    refine lv_iload_n (pc := 23) hx hb dJ1_indexOf_4cfef_23 rfl (lv_at hl 0 rfl) ?_
    refine lv_icmp_lt (pc := 24) (tgt := 29) hx hb dJ1_indexOf_4cfef_24 (by decide) (fun c24 => ?_) (fun c24 => ?_)
    · have hf := zz_t c24 hf
      refine lv_aload_n (pc := 29) hx hb dJ1_indexOf_4cfef_29 rfl (lv_at hl 2 rfl) ?_
      refine lv_iload_n (pc := 30) hx hb dJ1_indexOf_4cfef_30 rfl (lv_at hl 3 rfl) ?_
      refine lv_iload_n (pc := 31) hx hb dJ1_indexOf_4cfef_31 rfl (lv_at hl 1 rfl) ?_
      refine lv_iload_n (pc := 32) hx hb dJ1_indexOf_4cfef_32 rfl (lv_at hl 0 rfl) ?_
      obtain ⟨v33, h33, hf⟩ := zz_o hf
      refine cSt (pc := 33) (rest := []) (st1 := [.int v33]) CF (tJ1_indexOfChar_4cfef h33) hK hP hD hS hA hN hW mL_J1_95 kJ1_indexOfChar_4cfef nJ1_indexOfChar_4cfef rfl rfl ⟨by decide, by decide⟩ hl.1 (Nat.le_of_ble_eq_true rfl) ⟨Nat.le_refl _, Nat.le_refl _⟩ rfl dJ1_indexOf_4cfef_33 (fun H locs hP hD hS => ?_)
      exact retI hx hb hr hlk hf hP hD hS dJ1_indexOf_4cfef_36
    · have hf := zz_f c24 hf
      refine lv_iconst (pc := 27) (v := (-1)) hx hb dJ1_indexOf_4cfef_27 (by decide) ?_
      exact retI hx hb hr hlk hf hP hD hS dJ1_indexOf_4cfef_28
  · have hf := zz_t c4 hf
    refine lv_iconst (pc := 7) (v := (-1)) hx hb dJ1_indexOf_4cfef_7 (by decide) ?_
    exact retI hx hb hr hlk hf hP hD hS dJ1_indexOf_4cfef_8
set_option maxHeartbeats 4000000 in
set_option maxRecDepth 100000 in
theorem tJ0_indexOf_7cf53 {l : Launch} {kv : Nat × Nat} {D : va_G} {N : Nat} {tys : List (ClassId × FieldType)} {ws : va_W} {x1 : Int32} {x2 : Int32} {rF : Int32} (hf : fJ0_indexOf_7cf53 N x1 x2 = some rF) : Ct l kv D tys yJ0_indexOf_7cf53 cJ0_indexOf_7cf53 3 (some .int) 2 48 ws ws [.ref kv.1, .int x1, .int x2] (some (.int rF)) := by
  refine Ct.ofW (by decide) (Nat.le_of_ble_eq_true rfl) ?_
  intro p e s m below meth c A args CF hr hlk hA hP hK hD hN hW hS ls hl
  have hx := CF.1
  have hb := CF.2.1
  have hml := CF.2.2.1
  have hown := CF.2.2.2.1
  have hw : ∀ w ∈ wsA, w.before args s = true := fun w h => CF.2.2.2.2 w (List.mem_cons_of_mem _ h)
  have hl : lv_has ls 3 [(0, .ref kv.1), (1, .int x1), (2, .int x2)] := hl
  unfold fJ0_indexOf_7cf53 at hf
  refine lv_aload_n (pc := 0) hx hb dJ0_indexOf_7cf53_0 rfl (lv_at hl 0 rfl) ?_
  obtain ⟨v1, h1, hf⟩ := zz_o hf
  refine cVr (pc := 1) (rest := []) (st1 := [.int v1]) CF (tJ0_isLatin1_aae02 h1) hK hP hD hS hA hN hW mL_J0_492 kJ0_isLatin1_aae02 nJ0_isLatin1_aae02 (vk_recv (i := 0) hW.2.1 (by decide) hS) rfl rfl ⟨by decide, by decide⟩ hl.1 (Nat.le_of_ble_eq_true rfl) ⟨Nat.le_refl _, Nat.le_refl _⟩ rfl dJ0_indexOf_7cf53_1 (fun H locs hP hD hS => ?_)
  refine lv_if_eq (pc := 4) (tgt := 23) hx hb dJ0_indexOf_7cf53_4 (by decide) (fun c4 => ?_) (fun c4 => ?_)
  · have hf := zz_t c4 hf
    cases hf
  · have hf := zz_f c4 hf
    refine lv_aload_n (pc := 7) hx hb dJ0_indexOf_7cf53_7 rfl (lv_at hl 0 rfl) ?_
    refine vk_getf (pc := 8) hx hb (hW.2.1.1 0 (by decide)).2.2.1 hS hown (hw _ mF_J0_9) (fun _ h => h) dJ0_indexOf_7cf53_8 ?_
    refine lv_iload_n (pc := 11) hx hb dJ0_indexOf_7cf53_11 rfl (lv_at hl 1 rfl) ?_
    refine lv_iload_n (pc := 12) hx hb dJ0_indexOf_7cf53_12 rfl (lv_at hl 2 rfl) ?_
    refine lv_aload_n (pc := 13) hx hb dJ0_indexOf_7cf53_13 rfl (lv_at hl 0 rfl) ?_
    obtain ⟨v14, h14, hf⟩ := zz_o hf
    refine cVr (pc := 14) (rest := [.int x2, .int x1, .ref kv.2]) (st1 := [.int v14, .int x2, .int x1, .ref kv.2]) CF (tJ0_length_8abf5 h14) hK hP hD hS hA hN hW mL_J0_505 kJ0_length_8abf5 nJ0_length_8abf5 (vk_recv (i := 0) hW.2.1 (by decide) hS) rfl rfl ⟨by decide, by decide⟩ hl.1 (Nat.le_of_ble_eq_true rfl) ⟨Nat.le_refl _, Nat.le_refl _⟩ rfl dJ0_indexOf_7cf53_14 (fun H locs hP hD hS => ?_)
    obtain ⟨v17, h17, hf⟩ := zz_o hf
    refine cSt (pc := 17) (rest := []) (st1 := [.int v17]) CF (tJ1_indexOf_4cfef h17) hK hP hD hS hA hN hW mL_J0_637 kJ1_indexOf_4cfef nJ1_indexOf_4cfef rfl rfl ⟨by decide, by decide⟩ hl.1 (Nat.le_of_ble_eq_true rfl) ⟨Nat.le_refl _, Nat.le_refl _⟩ rfl dJ0_indexOf_7cf53_17 (fun H locs hP hD hS => ?_)
    refine lv_goto (pc := 20) (tgt := 36) hx hb dJ0_indexOf_7cf53_20 (by decide) ?_
    exact retI hx hb hr hlk hf hP hD hS dJ0_indexOf_7cf53_36
set_option maxHeartbeats 4000000 in
set_option maxRecDepth 100000 in
theorem tJ0_indexOf_0f7a4 {l : Launch} {kv : Nat × Nat} {D : va_G} {N : Nat} {tys : List (ClassId × FieldType)} {ws : va_W} {x1 : Int32} {rF : Int32} (hf : fJ0_indexOf_0f7a4 N x1 = some rF) : Ct l kv D tys yJ0_indexOf_0f7a4 cJ0_indexOf_0f7a4 2 (some .int) 3 70 ws ws [.ref kv.1, .int x1] (some (.int rF)) := by
  refine Ct.ofW (by decide) (Nat.le_of_ble_eq_true rfl) ?_
  intro p e s m below meth c A args CF hr hlk hA hP hK hD hN hW hS ls hl
  have hx := CF.1
  have hb := CF.2.1
  have hml := CF.2.2.1
  have hown := CF.2.2.2.1
  have hw : ∀ w ∈ wsA, w.before args s = true := fun w h => CF.2.2.2.2 w (List.mem_cons_of_mem _ h)
  have hl : lv_has ls 2 [(0, .ref kv.1), (1, .int x1)] := hl
  unfold fJ0_indexOf_0f7a4 at hf
  refine lv_aload_n (pc := 0) hx hb dJ0_indexOf_0f7a4_0 rfl (lv_at hl 0 rfl) ?_
  refine lv_iload_n (pc := 1) hx hb dJ0_indexOf_0f7a4_1 rfl (lv_at hl 1 rfl) ?_
  refine lv_iconst (pc := 2) (v := 0) hx hb dJ0_indexOf_0f7a4_2 (by decide) ?_
  obtain ⟨v3, h3, hf⟩ := zz_o hf
  refine cVr (pc := 3) (rest := []) (st1 := [.int v3]) CF (tJ0_indexOf_7cf53 h3) hK hP hD hS hA hN hW mL_J0_633 kJ0_indexOf_7cf53 nJ0_indexOf_7cf53 (vk_recv (i := 0) hW.2.1 (by decide) hS) rfl rfl ⟨by decide, by decide⟩ hl.1 (Nat.le_of_ble_eq_true rfl) ⟨Nat.le_refl _, Nat.le_refl _⟩ rfl dJ0_indexOf_0f7a4_3 (fun H locs hP hD hS => ?_)
  exact retI hx hb hr hlk hf hP hD hS dJ0_indexOf_0f7a4_6
set_option maxHeartbeats 4000000 in
set_option maxRecDepth 100000 in
theorem tX1_kindOfLetter {l : Launch} {kv : Nat × Nat} {D : va_G} {N : Nat} {tys : List (ClassId × FieldType)} {ws : va_W} {x0 : Int32} {rF : Int32} (hf : fX1_kindOfLetter N x0 = some rF) : Ct l kv D tys yX1_kindOfLetter cX1_kindOfLetter 1 (some .int) 4 91 ws ws [.int x0] (some (.int rF)) := by
  refine Ct.ofW (by decide) (Nat.le_of_ble_eq_true rfl) ?_
  intro p e s m below meth c A args CF hr hlk hA hP hK hD hN hW hS ls hl
  have hx := CF.1
  have hb := CF.2.1
  have hml := CF.2.2.1
  have hown := CF.2.2.2.1
  have hw : ∀ w ∈ wsA, w.before args s = true := fun w h => CF.2.2.2.2 w (List.mem_cons_of_mem _ h)
  have hl : lv_has ls 1 [(0, .int x0)] := hl
  unfold fX1_kindOfLetter at hf
  refine va_ldcS (pc := 0) hx hb hown hW.1 dX1_kindOfLetter_0 ?_
  refine lv_iload_n (pc := 2) hx hb dX1_kindOfLetter_2 rfl (lv_at hl 0 rfl) ?_
  refine lv_i2c (pc := 3) (v := (x0.toUInt32 % 65536).toInt32) hx hb dX1_kindOfLetter_3 rfl ?_
  obtain ⟨v4, h4, hf⟩ := zz_o hf
  refine cVr (pc := 4) (rest := []) (st1 := [.int v4]) CF (tJ0_indexOf_0f7a4 h4) hK hP hD hS hA hN hW mL_X1_36 kJ0_indexOf_0f7a4 nJ0_indexOf_0f7a4 (vk_recv (i := 0) hW.2.1 (by decide) hS) rfl rfl ⟨by decide, by decide⟩ hl.1 (Nat.le_of_ble_eq_true rfl) ⟨Nat.le_refl _, Nat.le_refl _⟩ rfl dX1_kindOfLetter_4 (fun H locs hP hD hS => ?_)
  exact retI hx hb hr hlk hf hP hD hS dX1_kindOfLetter_7
set_option maxHeartbeats 4000000 in
set_option maxRecDepth 100000 in
theorem tX1_fits {l : Launch} {kv : Nat × Nat} {D : va_G} {N : Nat} {ad : Nat → Nat} {cA : ClassId} {σ : SC} {x1 : Int32} {rF : Int32} (hf : fX1_fits N σ x1 = some rF) : Ct l kv D [(cA, .int)] yX1_fits cX1_fits 4 (some .boolean) 5 111 (wC ad cA σ) (wC ad cA σ) [.ref (ad 1), .int x1] (some (.int rF)) := by
  refine Ct.ofW (by decide) (Nat.le_of_ble_eq_true rfl) ?_
  intro p e s m below meth c A args CF hr hlk hA hP hK hD hN hW hS ls hl
  have hx := CF.1
  have hb := CF.2.1
  have hml := CF.2.2.1
  have hown := CF.2.2.2.1
  have hw : ∀ w ∈ wsA, w.before args s = true := fun w h => CF.2.2.2.2 w (List.mem_cons_of_mem _ h)
  have hl : lv_has ls 4 [(0, .ref (ad 1)), (1, .int x1)] := hl
  unfold fX1_fits at hf
  have J130 : ∀ (x2 : Int32) (x3 : Int32) (H : Heap) (locs : List Loc) (ls : Array Slot), va_P D vwCl (wC ad cA σ) H → va_D A (wC ad cA σ) → va_S A s.heap H locs → lv_has ls 4 [(2, .int x2), (3, .int x3)] → fX1_fits_130 N σ x2 x3 = some rF → G p l e 5 111 s m args below meth c D A (wC ad cA σ) (some (.int rF)) H locs (F0 m 130 ls []) := by
    intro x2 x3 H locs ls hP hD hS hl hf
    unfold fX1_fits_130 at hf
    refine lv_iload_n (pc := 130) hx hb dX1_fits_130 rfl (lv_at hl 0 rfl) ?_
    refine lv_bipush (pc := 131) (v := 59) hx hb dX1_fits_131 (by decide) ?_
    refine lv_icmp_ne (pc := 133) (tgt := 147) hx hb dX1_fits_133 (by decide) (fun c133 => ?_) (fun c133 => ?_)
    · have hf := zz_f c133 hf
      refine lv_iconst (pc := 147) (v := 0) hx hb dX1_fits_147 (by decide) ?_
      exact retZ hx hb hr hlk rfl hf hP hD hS dX1_fits_148
    · have hf := zz_t c133 hf
      refine lv_iload_n (pc := 136) hx hb dX1_fits_136 rfl (lv_at hl 1 rfl) ?_
      refine lv_iconst (pc := 137) (v := 1) hx hb dX1_fits_137 (by decide) ?_
      refine lv_iadd (pc := 138) hx hb dX1_fits_138 ?_
      refine lv_iconst (pc := 139) (v := 2) hx hb dX1_fits_139 (by decide) ?_
      refine lv_icmp_lt (pc := 140) (tgt := 147) hx hb dX1_fits_140 (by decide) (fun c140 => ?_) (fun c140 => ?_)
      · have hf := zz_t c140 hf
        refine lv_iconst (pc := 147) (v := 0) hx hb dX1_fits_147 (by decide) ?_
        exact retZ hx hb hr hlk rfl hf hP hD hS dX1_fits_148
      · have hf := zz_f c140 hf
        refine lv_iconst (pc := 143) (v := 1) hx hb dX1_fits_143 (by decide) ?_
        refine lv_goto (pc := 144) (tgt := 148) hx hb dX1_fits_144 (by decide) ?_
        exact retZ hx hb hr hlk rfl hf hP hD hS dX1_fits_148
  refine lv_aload_n (pc := 0) hx hb dX1_fits_0 rfl (lv_at hl 0 rfl) ?_
  refine lv_iload_n (pc := 1) hx hb dX1_fits_1 rfl (lv_at hl 1 rfl) ?_
  obtain ⟨v2, h2, hf⟩ := zz_o hf
  refine cV (pc := 2) (rest := []) (st1 := [.int v2]) (q0 := 1) CF (tX1_codeAt h2) hK hP hD hS hA hN hW mL_X1_23 kX1_codeAt nX1_codeAt rfl rfl rfl rfl ⟨by decide, by decide⟩ hl.1 (Nat.le_of_ble_eq_true rfl) ⟨Nat.le_refl _, Nat.le_refl _⟩ rfl dX1_fits_2 (fun H locs hP hD hS => ?_)
  refine lv_istore_n (pc := 5) (lv' := [(2, .int v2), (0, .ref (ad 1)), (1, .int x1)]) hx hb dX1_fits_5 rfl hl (by decide) rfl (fun ls hl => ?_)
  refine lv_iload_n (pc := 6) hx hb dX1_fits_6 rfl (lv_at hl 2 rfl) ?_
  refine lv_iconst (pc := 7) (v := 3) hx hb dX1_fits_7 (by decide) ?_
  refine lv_idiv (pc := 8) hx hb dX1_fits_8 (by decide) ?_
  refine lv_istore_n (pc := 9) (lv' := [(3, .int (x1 / 3)), (2, .int v2), (0, .ref (ad 1)), (1, .int x1)]) hx hb dX1_fits_9 rfl hl (by decide) rfl (fun ls hl => ?_)
  refine lv_iload_n (pc := 10) hx hb dX1_fits_10 rfl (lv_at hl 3 rfl) ?_
  refine lv_iconst (pc := 11) (v := 3) hx hb dX1_fits_11 (by decide) ?_
  refine lv_irem (pc := 12) hx hb dX1_fits_12 (by decide) ?_
  by_cases c13_0 : (x1 - x1 / 3 * 3) = 0
  · have hf := zz_t c13_0 hf
    refine lv_lookup (pc := 13) (tgt := 40) (off := 27) hx hb dX1_fits_13 (by decide) (by rw [c13_0] <;> rfl) (by decide) ?_
    refine lv_aload_n (pc := 40) hx hb dX1_fits_40 rfl (lv_at hl 2 rfl) ?_
    refine lv_iload_n (pc := 41) hx hb dX1_fits_41 rfl (lv_at hl 3 rfl) ?_
    refine lv_iconst (pc := 42) (v := 1) hx hb dX1_fits_42 (by decide) ?_
    refine lv_isub (pc := 43) hx hb dX1_fits_43 ?_
    obtain ⟨v44, h44, hf⟩ := zz_o hf
    refine cV (pc := 44) (rest := []) (st1 := [.int v44]) (q0 := 1) CF (tX1_codeAt h44) hK hP hD hS hA hN hW mL_X1_23 kX1_codeAt nX1_codeAt rfl rfl rfl rfl ⟨by decide, by decide⟩ hl.1 (Nat.le_of_ble_eq_true rfl) ⟨Nat.le_refl _, Nat.le_refl _⟩ rfl dX1_fits_44 (fun H locs hP hD hS => ?_)
    refine lv_bipush (pc := 47) (v := 59) hx hb dX1_fits_47 (by decide) ?_
    refine lv_icmp_ne (pc := 49) (tgt := 72) hx hb dX1_fits_49 (by decide) (fun c49 => ?_) (fun c49 => ?_)
    · have hf := zz_f c49 hf
      refine lv_iload_n (pc := 72) hx hb dX1_fits_72 rfl (lv_at hl 1 rfl) ?_
      obtain ⟨v73, h73, hf⟩ := zz_o hf
      refine cSt (pc := 73) (rest := []) (st1 := [.int v73]) CF (tX1_kindOfLetter h73) hK hP hD hS hA hN hW mL_X1_31 kX1_kindOfLetter nX1_kindOfLetter rfl rfl ⟨by decide, by decide⟩ hl.1 (Nat.le_of_ble_eq_true rfl) ⟨Nat.le_refl _, Nat.le_refl _⟩ rfl dX1_fits_73 (fun H locs hP hD hS => ?_)
      refine lv_iconst (pc := 76) (v := (-1)) hx hb dX1_fits_76 (by decide) ?_
      refine lv_icmp_eq (pc := 77) (tgt := 84) hx hb dX1_fits_77 (by decide) (fun c77 => ?_) (fun c77 => ?_)
      · have hf := zz_t c77 hf
        refine lv_iconst (pc := 84) (v := 0) hx hb dX1_fits_84 (by decide) ?_
        exact retZ hx hb hr hlk rfl hf hP hD hS dX1_fits_85
      · have hf := zz_f c77 hf
        refine lv_iconst (pc := 80) (v := 1) hx hb dX1_fits_80 (by decide) ?_
        refine lv_goto (pc := 81) (tgt := 85) hx hb dX1_fits_81 (by decide) ?_
        exact retZ hx hb hr hlk rfl hf hP hD hS dX1_fits_85
    · have hf := zz_t c49 hf
      refine lv_iload_n (pc := 52) hx hb dX1_fits_52 rfl (lv_at hl 1 rfl) ?_
      refine lv_bipush (pc := 53) (v := 49) hx hb dX1_fits_53 (by decide) ?_
      refine lv_icmp_lt (pc := 55) (tgt := 68) hx hb dX1_fits_55 (by decide) (fun c55 => ?_) (fun c55 => ?_)
      · have hf := zz_t c55 hf
        refine lv_iconst (pc := 68) (v := 0) hx hb dX1_fits_68 (by decide) ?_
        refine lv_goto (pc := 69) (tgt := 85) hx hb dX1_fits_69 (by decide) ?_
        exact retZ hx hb hr hlk rfl hf hP hD hS dX1_fits_85
      · have hf := zz_f c55 hf
        refine lv_iload_n (pc := 58) hx hb dX1_fits_58 rfl (lv_at hl 1 rfl) ?_
        refine lv_bipush (pc := 59) (v := 57) hx hb dX1_fits_59 (by decide) ?_
        refine lv_icmp_gt (pc := 61) (tgt := 68) hx hb dX1_fits_61 (by decide) (fun c61 => ?_) (fun c61 => ?_)
        · have hf := zz_t c61 hf
          refine lv_iconst (pc := 68) (v := 0) hx hb dX1_fits_68 (by decide) ?_
          refine lv_goto (pc := 69) (tgt := 85) hx hb dX1_fits_69 (by decide) ?_
          exact retZ hx hb hr hlk rfl hf hP hD hS dX1_fits_85
        · have hf := zz_f c61 hf
          refine lv_iconst (pc := 64) (v := 1) hx hb dX1_fits_64 (by decide) ?_
          refine lv_goto (pc := 65) (tgt := 85) hx hb dX1_fits_65 (by decide) ?_
          exact retZ hx hb hr hlk rfl hf hP hD hS dX1_fits_85
  have hf := zz_f c13_0 hf
  by_cases c13_1 : (x1 - x1 / 3 * 3) = 1
  · have hf := zz_t c13_1 hf
    refine lv_lookup (pc := 13) (tgt := 86) (off := 73) hx hb dX1_fits_13 (by decide) (by rw [c13_1] <;> rfl) (by decide) ?_
    refine lv_aload_n (pc := 86) hx hb dX1_fits_86 rfl (lv_at hl 2 rfl) ?_
    refine lv_iload_n (pc := 87) hx hb dX1_fits_87 rfl (lv_at hl 3 rfl) ?_
    refine lv_iconst (pc := 88) (v := 2) hx hb dX1_fits_88 (by decide) ?_
    refine lv_isub (pc := 89) hx hb dX1_fits_89 ?_
    obtain ⟨v90, h90, hf⟩ := zz_o hf
    refine cV (pc := 90) (rest := []) (st1 := [.int v90]) (q0 := 1) CF (tX1_codeAt h90) hK hP hD hS hA hN hW mL_X1_23 kX1_codeAt nX1_codeAt rfl rfl rfl rfl ⟨by decide, by decide⟩ hl.1 (Nat.le_of_ble_eq_true rfl) ⟨Nat.le_refl _, Nat.le_refl _⟩ rfl dX1_fits_90 (fun H locs hP hD hS => ?_)
    refine lv_bipush (pc := 93) (v := 59) hx hb dX1_fits_93 (by decide) ?_
    refine lv_icmp_eq (pc := 95) (tgt := 114) hx hb dX1_fits_95 (by decide) (fun c95 => ?_) (fun c95 => ?_)
    · have hf := zz_t c95 hf
      refine lv_iconst (pc := 114) (v := 0) hx hb dX1_fits_114 (by decide) ?_
      exact retZ hx hb hr hlk rfl hf hP hD hS dX1_fits_115
    · have hf := zz_f c95 hf
      refine lv_iload_n (pc := 98) hx hb dX1_fits_98 rfl (lv_at hl 1 rfl) ?_
      refine lv_bipush (pc := 99) (v := 48) hx hb dX1_fits_99 (by decide) ?_
      refine lv_icmp_lt (pc := 101) (tgt := 114) hx hb dX1_fits_101 (by decide) (fun c101 => ?_) (fun c101 => ?_)
      · have hf := zz_t c101 hf
        refine lv_iconst (pc := 114) (v := 0) hx hb dX1_fits_114 (by decide) ?_
        exact retZ hx hb hr hlk rfl hf hP hD hS dX1_fits_115
      · have hf := zz_f c101 hf
        refine lv_iload_n (pc := 104) hx hb dX1_fits_104 rfl (lv_at hl 1 rfl) ?_
        refine lv_bipush (pc := 105) (v := 57) hx hb dX1_fits_105 (by decide) ?_
        refine lv_icmp_gt (pc := 107) (tgt := 114) hx hb dX1_fits_107 (by decide) (fun c107 => ?_) (fun c107 => ?_)
        · have hf := zz_t c107 hf
          refine lv_iconst (pc := 114) (v := 0) hx hb dX1_fits_114 (by decide) ?_
          exact retZ hx hb hr hlk rfl hf hP hD hS dX1_fits_115
        · have hf := zz_f c107 hf
          refine lv_iconst (pc := 110) (v := 1) hx hb dX1_fits_110 (by decide) ?_
          refine lv_goto (pc := 111) (tgt := 115) hx hb dX1_fits_111 (by decide) ?_
          exact retZ hx hb hr hlk rfl hf hP hD hS dX1_fits_115
  have hf := zz_f c13_1 hf
  refine lv_lookup (pc := 13) (tgt := 116) (off := 103) hx hb dX1_fits_13 (by decide) ((lv_osw c13_0 rfl).trans ((lv_osw c13_1 rfl).trans rfl)) (by decide) ?_
  refine lv_iload_n (pc := 116) hx hb dX1_fits_116 rfl (lv_at hl 1 rfl) ?_
  refine lv_bipush (pc := 117) (v := 44) hx hb dX1_fits_117 (by decide) ?_
  refine lv_icmp_ne (pc := 119) (tgt := 130) hx hb dX1_fits_119 (by decide) (fun c119 => ?_) (fun c119 => ?_)
  · have hf := zz_f c119 hf
    exact J130 v2 (x1 / 3) _ _ _ hP hD hS (lv_sub hl [1, 0] rfl) hf
  · have hf := zz_t c119 hf
    refine lv_iload_n (pc := 122) hx hb dX1_fits_122 rfl (lv_at hl 0 rfl) ?_
    refine lv_iconst (pc := 123) (v := 1) hx hb dX1_fits_123 (by decide) ?_
    refine lv_iadd (pc := 124) hx hb dX1_fits_124 ?_
    refine lv_bipush (pc := 125) (v := 6) hx hb dX1_fits_125 (by decide) ?_
    refine lv_icmp_lt (pc := 127) (tgt := 143) hx hb dX1_fits_127 (by decide) (fun c127 => ?_) (fun c127 => ?_)
    · have hf := zz_t c127 hf
      refine lv_iconst (pc := 143) (v := 1) hx hb dX1_fits_143 (by decide) ?_
      refine lv_goto (pc := 144) (tgt := 148) hx hb dX1_fits_144 (by decide) ?_
      exact retZ hx hb hr hlk rfl hf hP hD hS dX1_fits_148
    · have hf := zz_f c127 hf
      exact J130 v2 (x1 / 3) _ _ _ hP hD hS (lv_sub hl [1, 0] rfl) hf
set_option maxHeartbeats 4000000 in
set_option maxRecDepth 100000 in
theorem tX1_firstFault {l : Launch} {kv : Nat × Nat} {D : va_G} {N : Nat} {ad : Nat → Nat} {cA : ClassId} {σ : SC} {rF : Int32} (hf : fX1_firstFault N σ = some rF) : Ct l kv D [(cA, .int)] yX1_firstFault cX1_firstFault 2 (some .int) 6 134 (wC ad cA σ) (wC ad cA σ) [.ref (ad 1)] (some (.int rF)) := by
  refine Ct.ofW (by decide) (Nat.le_of_ble_eq_true rfl) ?_
  intro p e s m below meth c A args CF hr hlk hA hP hK hD hN hW hS ls hl
  have hx := CF.1
  have hb := CF.2.1
  have hml := CF.2.2.1
  have hown := CF.2.2.2.1
  have hw : ∀ w ∈ wsA, w.before args s = true := fun w h => CF.2.2.2.2 w (List.mem_cons_of_mem _ h)
  have hl : lv_has ls 2 [(0, .ref (ad 1))] := hl
  unfold fX1_firstFault at hf
  have L2 : ∀ (n2 : Nat) (x1 : Int32) (H : Heap) (locs : List Loc) (ls : Array Slot), va_P D vwCl (wC ad cA σ) H → va_D A (wC ad cA σ) → va_S A s.heap H locs → lv_has ls 2 [(0, .ref (ad 1)), (1, .int x1)] → fX1_firstFault_2 N n2 σ x1 = some rF → G p l e 6 134 s m args below meth c D A (wC ad cA σ) (some (.int rF)) H locs (F0 m 2 ls []) := by
    intro n2
    induction n2 with
    | zero => intro x1 H locs ls hP hD hS hl hf; exact absurd hf (by simp [fX1_firstFault_2])
    | succ n2 ih2 =>
      intro x1 H locs ls hP hD hS hl hf
      rw [fX1_firstFault_2] at hf
      refine lv_iload_n (pc := 2) hx hb dX1_firstFault_2 rfl (lv_at hl 1 rfl) ?_
      refine lv_aload_n (pc := 3) hx hb dX1_firstFault_3 rfl (lv_at hl 0 rfl) ?_
      refine gc_1_length (pc := 4) CF hK hP mF_X1_15 dX1_firstFault_4 ?_
      refine lv_icmp_ge (pc := 7) (tgt := 26) hx hb dX1_firstFault_7 (by decide) (fun c7 => ?_) (fun c7 => ?_)
      · have hf := zz_t c7 hf
        refine lv_aload_n (pc := 26) hx hb dX1_firstFault_26 rfl (lv_at hl 0 rfl) ?_
        refine gc_1_length (pc := 27) CF hK hP mF_X1_15 dX1_firstFault_27 ?_
        exact retI hx hb hr hlk hf hP hD hS dX1_firstFault_30
      · have hf := zz_f c7 hf
        refine lv_aload_n (pc := 10) hx hb dX1_firstFault_10 rfl (lv_at hl 0 rfl) ?_
        refine lv_iload_n (pc := 11) hx hb dX1_firstFault_11 rfl (lv_at hl 1 rfl) ?_
        obtain ⟨v12, h12, hf⟩ := zz_o hf
        refine cV (pc := 12) (rest := []) (st1 := [.int v12]) (q0 := 1) CF (tX1_fits h12) hK hP hD hS hA hN hW mL_X1_19 kX1_fits nX1_fits rfl rfl rfl rfl ⟨by decide, by decide⟩ hl.1 (Nat.le_of_ble_eq_true rfl) ⟨Nat.le_refl _, Nat.le_refl _⟩ rfl dX1_firstFault_12 (fun H locs hP hD hS => ?_)
        refine lv_if_ne (pc := 15) (tgt := 20) hx hb dX1_firstFault_15 (by decide) (fun c15 => ?_) (fun c15 => ?_)
        · have hf := zz_f c15 hf
          refine lv_iinc (pc := 20) (v := (x1 + 1)) (lv' := [(1, .int (x1 + 1)), (0, .ref (ad 1))]) hx hb dX1_firstFault_20 hl (k := 1) rfl rfl (by decide) rfl (fun ls hl => ?_)
          refine lv_goto (pc := 23) (tgt := 2) hx hb dX1_firstFault_23 (by decide) ?_
          exact ih2 (x1 + 1) _ _ _ hP hD hS (lv_sub hl [1, 0] rfl) hf
        · have hf := zz_t c15 hf
          refine lv_iload_n (pc := 18) hx hb dX1_firstFault_18 rfl (lv_at hl 1 rfl) ?_
          exact retI hx hb hr hlk hf hP hD hS dX1_firstFault_19
  refine lv_iconst (pc := 0) (v := 0) hx hb dX1_firstFault_0 (by decide) ?_
  refine lv_istore_n (pc := 1) (lv' := [(1, .int 0), (0, .ref (ad 1))]) hx hb dX1_firstFault_1 rfl hl (by decide) rfl (fun ls hl => ?_)
  exact L2 N 0 _ _ _ hP hD hS (lv_sub hl [1, 0] rfl) hf
set_option maxHeartbeats 4000000 in
set_option maxRecDepth 100000 in
theorem tX5_fault {l : Launch} {kv : Nat × Nat} {D : va_G} {N : Nat} {ad : Nat → Nat} {cA : ClassId} {σ : SC} {rF : Int32} (hf : fX5_fault N σ = some rF) : Ct l kv D [(cA, .int)] yX5_fault cX5_fault 1 (some .int) 7 155 (wC ad cA σ) (wC ad cA σ) [.ref (ad 0)] (some (.int rF)) := by
  refine Ct.ofW (by decide) (Nat.le_of_ble_eq_true rfl) ?_
  intro p e s m below meth c A args CF hr hlk hA hP hK hD hN hW hS ls hl
  have hx := CF.1
  have hb := CF.2.1
  have hml := CF.2.2.1
  have hown := CF.2.2.2.1
  have hw : ∀ w ∈ wsA, w.before args s = true := fun w h => CF.2.2.2.2 w (List.mem_cons_of_mem _ h)
  have hl : lv_has ls 1 [(0, .ref (ad 0))] := hl
  unfold fX5_fault at hf
  refine lv_aload_n (pc := 0) hx hb dX5_fault_0 rfl (lv_at hl 0 rfl) ?_
  refine gc_0_page (pc := 1) CF hK hP mF_X5_10 dX5_fault_1 ?_
  obtain ⟨v4, h4, hf⟩ := zz_o hf
  refine cV (pc := 4) (rest := []) (st1 := [.int v4]) (q0 := 1) CF (tX1_firstFault h4) hK hP hD hS hA hN hW mL_X5_69 kX1_firstFault nX1_firstFault rfl rfl rfl rfl ⟨by decide, by decide⟩ hl.1 (Nat.le_of_ble_eq_true rfl) ⟨Nat.le_refl _, Nat.le_refl _⟩ rfl dX5_fault_4 (fun H locs hP hD hS => ?_)
  exact retI hx hb hr hlk hf hP hD hS dX5_fault_7
set_option maxHeartbeats 4000000 in
set_option maxRecDepth 100000 in
theorem tX1_isHill {l : Launch} {kv : Nat × Nat} {D : va_G} {N : Nat} {ad : Nat → Nat} {cA : ClassId} {σ : SC} {rF : Int32} (hf : fX1_isHill N σ = some rF) : Ct l kv D [(cA, .int)] yX1_isHill cX1_isHill 1 (some .boolean) 7 155 (wC ad cA σ) (wC ad cA σ) [.ref (ad 1)] (some (.int rF)) := by
  refine Ct.ofW (by decide) (Nat.le_of_ble_eq_true rfl) ?_
  intro p e s m below meth c A args CF hr hlk hA hP hK hD hN hW hS ls hl
  have hx := CF.1
  have hb := CF.2.1
  have hml := CF.2.2.1
  have hown := CF.2.2.2.1
  have hw : ∀ w ∈ wsA, w.before args s = true := fun w h => CF.2.2.2.2 w (List.mem_cons_of_mem _ h)
  have hl : lv_has ls 1 [(0, .ref (ad 1))] := hl
  unfold fX1_isHill at hf
  refine lv_aload_n (pc := 0) hx hb dX1_isHill_0 rfl (lv_at hl 0 rfl) ?_
  refine lv_aload_n (pc := 1) hx hb dX1_isHill_1 rfl (lv_at hl 0 rfl) ?_
  refine gc_1_length (pc := 2) CF hK hP mF_X1_15 dX1_isHill_2 ?_
  refine lv_iconst (pc := 5) (v := 2) hx hb dX1_isHill_5 (by decide) ?_
  refine lv_isub (pc := 6) hx hb dX1_isHill_6 ?_
  obtain ⟨v7, h7, hf⟩ := zz_o hf
  refine cV (pc := 7) (rest := []) (st1 := [.int v7]) (q0 := 1) CF (tX1_codeAt h7) hK hP hD hS hA hN hW mL_X1_23 kX1_codeAt nX1_codeAt rfl rfl rfl rfl ⟨by decide, by decide⟩ hl.1 (Nat.le_of_ble_eq_true rfl) ⟨Nat.le_refl _, Nat.le_refl _⟩ rfl dX1_isHill_7 (fun H locs hP hD hS => ?_)
  refine lv_bipush (pc := 10) (v := 59) hx hb dX1_isHill_10 (by decide) ?_
  refine lv_icmp_ne (pc := 12) (tgt := 30) hx hb dX1_isHill_12 (by decide) (fun c12 => ?_) (fun c12 => ?_)
  · have hf := zz_f c12 hf
    refine lv_iconst (pc := 30) (v := 0) hx hb dX1_isHill_30 (by decide) ?_
    exact retZ hx hb hr hlk rfl hf hP hD hS dX1_isHill_31
  · have hf := zz_t c12 hf
    refine lv_aload_n (pc := 15) hx hb dX1_isHill_15 rfl (lv_at hl 0 rfl) ?_
    obtain ⟨v16, h16, hf⟩ := zz_o hf
    refine cV (pc := 16) (rest := []) (st1 := [.int v16]) (q0 := 1) CF (tX1_firstFault h16) hK hP hD hS hA hN hW mL_X1_27 kX1_firstFault nX1_firstFault rfl rfl rfl rfl ⟨by decide, by decide⟩ hl.1 (Nat.le_of_ble_eq_true rfl) ⟨Nat.le_refl _, Nat.le_refl _⟩ rfl dX1_isHill_16 (fun H locs hP hD hS => ?_)
    refine lv_aload_n (pc := 19) hx hb dX1_isHill_19 rfl (lv_at hl 0 rfl) ?_
    refine gc_1_length (pc := 20) CF hK hP mF_X1_15 dX1_isHill_20 ?_
    refine lv_icmp_ne (pc := 23) (tgt := 30) hx hb dX1_isHill_23 (by decide) (fun c23 => ?_) (fun c23 => ?_)
    · have hf := zz_f c23 hf
      refine lv_iconst (pc := 30) (v := 0) hx hb dX1_isHill_30 (by decide) ?_
      exact retZ hx hb hr hlk rfl hf hP hD hS dX1_isHill_31
    · have hf := zz_t c23 hf
      refine lv_iconst (pc := 26) (v := 1) hx hb dX1_isHill_26 (by decide) ?_
      refine lv_goto (pc := 27) (tgt := 31) hx hb dX1_isHill_27 (by decide) ?_
      exact retZ hx hb hr hlk rfl hf hP hD hS dX1_isHill_31
set_option maxHeartbeats 4000000 in
set_option maxRecDepth 100000 in
theorem tX1_peopleWritten {l : Launch} {kv : Nat × Nat} {D : va_G} {N : Nat} {ad : Nat → Nat} {cA : ClassId} {σ : SC} {rF : Int32} (hf : fX1_peopleWritten N σ = some rF) : Ct l kv D [(cA, .int)] yX1_peopleWritten cX1_peopleWritten 1 (some .int) 0 0 (wC ad cA σ) (wC ad cA σ) [.ref (ad 1)] (some (.int rF)) := by
  refine Ct.ofW (by decide) (Nat.le_of_ble_eq_true rfl) ?_
  intro p e s m below meth c A args CF hr hlk hA hP hK hD hN hW hS ls hl
  have hx := CF.1
  have hb := CF.2.1
  have hml := CF.2.2.1
  have hown := CF.2.2.2.1
  have hw : ∀ w ∈ wsA, w.before args s = true := fun w h => CF.2.2.2.2 w (List.mem_cons_of_mem _ h)
  have hl : lv_has ls 1 [(0, .ref (ad 1))] := hl
  unfold fX1_peopleWritten at hf
  refine lv_aload_n (pc := 0) hx hb dX1_peopleWritten_0 rfl (lv_at hl 0 rfl) ?_
  refine gc_1_length (pc := 1) CF hK hP mF_X1_15 dX1_peopleWritten_1 ?_
  refine lv_iconst (pc := 4) (v := 3) hx hb dX1_peopleWritten_4 (by decide) ?_
  refine lv_idiv (pc := 5) hx hb dX1_peopleWritten_5 (by decide) ?_
  exact retI hx hb hr hlk hf hP hD hS dX1_peopleWritten_6
set_option maxHeartbeats 4000000 in
set_option maxRecDepth 100000 in
theorem tX1_riverWritten {l : Launch} {kv : Nat × Nat} {D : va_G} {N : Nat} {ad : Nat → Nat} {cA : ClassId} {σ : SC} {rF : Int32} (hf : fX1_riverWritten N σ = some rF) : Ct l kv D [(cA, .int)] yX1_riverWritten cX1_riverWritten 1 (some .int) 1 21 (wC ad cA σ) (wC ad cA σ) [.ref (ad 1)] (some (.int rF)) := by
  refine Ct.ofW (by decide) (Nat.le_of_ble_eq_true rfl) ?_
  intro p e s m below meth c A args CF hr hlk hA hP hK hD hN hW hS ls hl
  have hx := CF.1
  have hb := CF.2.1
  have hml := CF.2.2.1
  have hown := CF.2.2.2.1
  have hw : ∀ w ∈ wsA, w.before args s = true := fun w h => CF.2.2.2.2 w (List.mem_cons_of_mem _ h)
  have hl : lv_has ls 1 [(0, .ref (ad 1))] := hl
  unfold fX1_riverWritten at hf
  refine lv_aload_n (pc := 0) hx hb dX1_riverWritten_0 rfl (lv_at hl 0 rfl) ?_
  refine lv_aload_n (pc := 1) hx hb dX1_riverWritten_1 rfl (lv_at hl 0 rfl) ?_
  refine gc_1_length (pc := 2) CF hK hP mF_X1_15 dX1_riverWritten_2 ?_
  refine lv_iconst (pc := 5) (v := 1) hx hb dX1_riverWritten_5 (by decide) ?_
  refine lv_isub (pc := 6) hx hb dX1_riverWritten_6 ?_
  obtain ⟨v7, h7, hf⟩ := zz_o hf
  refine cV (pc := 7) (rest := []) (st1 := [.int v7]) (q0 := 1) CF (tX1_codeAt h7) hK hP hD hS hA hN hW mL_X1_23 kX1_codeAt nX1_codeAt rfl rfl rfl rfl ⟨by decide, by decide⟩ hl.1 (Nat.le_of_ble_eq_true rfl) ⟨Nat.le_refl _, Nat.le_refl _⟩ rfl dX1_riverWritten_7 (fun H locs hP hD hS => ?_)
  refine lv_bipush (pc := 10) (v := 48) hx hb dX1_riverWritten_10 (by decide) ?_
  refine lv_isub (pc := 12) hx hb dX1_riverWritten_12 ?_
  exact retI hx hb hr hlk hf hP hD hS dX1_riverWritten_13
