set_option maxHeartbeats 4000000 in
set_option maxRecDepth 100000 in
theorem tX1_kindWritten {l : Launch} {kv : Nat × Nat} {D : va_G} {N : Nat} {ad : Nat → Nat} {cA : ClassId} {σ : SC} {x1 : Int32} {rF : Int32} (hf : fX1_kindWritten N σ x1 = some rF) : Ct l kv D [(cA, .int)] yX1_kindWritten cX1_kindWritten 2 (some .int) 5 111 (wC ad cA σ) (wC ad cA σ) [.ref (ad 1), .int x1] (some (.int rF)) := by
  refine Ct.ofW (by decide) (Nat.le_of_ble_eq_true rfl) ?_
  intro p e s m below meth c A args CF hr hlk hA hP hK hD hN hW hS ls hl
  have hx := CF.1
  have hb := CF.2.1
  have hml := CF.2.2.1
  have hown := CF.2.2.2.1
  have hw : ∀ w ∈ wsA, w.before args s = true := fun w h => CF.2.2.2.2 w (List.mem_cons_of_mem _ h)
  have hl : lv_has ls 2 [(0, .ref (ad 1)), (1, .int x1)] := hl
  unfold fX1_kindWritten at hf
  refine lv_aload_n (pc := 0) hx hb dX1_kindWritten_0 rfl (lv_at hl 0 rfl) ?_
  refine lv_iload_n (pc := 1) hx hb dX1_kindWritten_1 rfl (lv_at hl 1 rfl) ?_
  refine lv_iconst (pc := 2) (v := 3) hx hb dX1_kindWritten_2 (by decide) ?_
  refine lv_imul (pc := 3) hx hb dX1_kindWritten_3 ?_
  obtain ⟨v4, h4, hf⟩ := zz_o hf
  refine cV (pc := 4) (rest := []) (st1 := [.int v4]) (q0 := 1) CF (tX1_codeAt h4) hK hP hD hS hA hN hW mL_X1_23 kX1_codeAt nX1_codeAt rfl rfl rfl rfl ⟨by decide, by decide⟩ hl.1 (Nat.le_of_ble_eq_true rfl) ⟨Nat.le_refl _, Nat.le_refl _⟩ rfl dX1_kindWritten_4 (fun H locs hP hD hS => ?_)
  obtain ⟨v7, h7, hf⟩ := zz_o hf
  refine cSt (pc := 7) (rest := []) (st1 := [.int v7]) CF (tX1_kindOfLetter h7) hK hP hD hS hA hN hW mL_X1_31 kX1_kindOfLetter nX1_kindOfLetter rfl rfl ⟨by decide, by decide⟩ hl.1 (Nat.le_of_ble_eq_true rfl) ⟨Nat.le_refl _, Nat.le_refl _⟩ rfl dX1_kindWritten_7 (fun H locs hP hD hS => ?_)
  exact retI hx hb hr hlk hf hP hD hS dX1_kindWritten_10
set_option maxHeartbeats 4000000 in
set_option maxRecDepth 100000 in
theorem tX0_read {l : Launch} {kv : Nat × Nat} {D : va_G} {N : Nat} {ad : Nat → Nat} {cA : ClassId} {σ : SC} {σF : SC} (hf : fX0_read N σ = some σF) : Ct l kv D [(cA, .int)] yX0_read cX0_read 3 none 6 132 (wC ad cA σ) (wC ad cA σF) [.ref (ad 3), .ref (ad 1)] (none) := by
  refine Ct.ofW (by decide) (Nat.le_of_ble_eq_true rfl) ?_
  intro p e s m below meth c A args CF hr hlk hA hP hK hD hN hW hS ls hl
  have hx := CF.1
  have hb := CF.2.1
  have hml := CF.2.2.1
  have hown := CF.2.2.2.1
  have hw : ∀ w ∈ wsA, w.before args s = true := fun w h => CF.2.2.2.2 w (List.mem_cons_of_mem _ h)
  have hl : lv_has ls 3 [(0, .ref (ad 3)), (1, .ref (ad 1))] := hl
  unfold fX0_read at hf
  have L23 : ∀ (n23 : Nat) (σ : SC) (x2 : Int32) (H : Heap) (locs : List Loc) (ls : Array Slot), va_P D vwCl (wC ad cA σ) H → va_D A (wC ad cA σ) → va_S A s.heap H locs → lv_has ls 3 [(0, .ref (ad 3)), (1, .ref (ad 1)), (2, .int x2)] → fX0_read_23 N n23 σ x2 = some σF → G p l e 6 132 s m args below meth c D A (wC ad cA σF) (none) H locs (F0 m 23 ls []) := by
    intro n23
    induction n23 with
    | zero => intro σ x2 H locs ls hP hD hS hl hf; exact absurd hf (by simp [fX0_read_23])
    | succ n23 ih23 =>
      intro σ x2 H locs ls hP hD hS hl hf
      rw [fX0_read_23] at hf
      refine lv_iload_n (pc := 23) hx hb dX0_read_23 rfl (lv_at hl 2 rfl) ?_
      refine lv_aload_n (pc := 24) hx hb dX0_read_24 rfl (lv_at hl 0 rfl) ?_
      refine gc_3_people (pc := 25) CF hK hP mF_X0_15 dX0_read_25 ?_
      refine lv_icmp_ge (pc := 28) (tgt := 48) hx hb dX0_read_28 (by decide) (fun c28 => ?_) (fun c28 => ?_)
      · have hf := zz_t c28 hf
        exact retVw (wf := wC ad cA) hx hb hr hlk hf hP hD hS dX0_read_48
      · have hf := zz_f c28 hf
        refine lv_aload_n (pc := 31) hx hb dX0_read_31 rfl (lv_at hl 0 rfl) ?_
        refine gc_3_kinds (pc := 32) CF hK hP mF_X0_9 dX0_read_32 ?_
        refine lv_iload_n (pc := 35) hx hb dX0_read_35 rfl (lv_at hl 2 rfl) ?_
        refine lv_aload_n (pc := 36) hx hb dX0_read_36 rfl (lv_at hl 1 rfl) ?_
        refine lv_iload_n (pc := 37) hx hb dX0_read_37 rfl (lv_at hl 2 rfl) ?_
        obtain ⟨v38, h38, hf⟩ := zz_o hf
        refine cV (pc := 38) (rest := [.int x2, .ref (ad 4)]) (st1 := [.int v38, .int x2, .ref (ad 4)]) (q0 := 1) CF (tX1_kindWritten h38) hK hP hD hS hA hN hW mL_X0_37 kX1_kindWritten nX1_kindWritten rfl rfl rfl rfl ⟨by decide, by decide⟩ hl.1 (Nat.le_of_ble_eq_true rfl) ⟨Nat.le_refl _, Nat.le_refl _⟩ rfl dX0_read_38 (fun H locs hP hD hS => ?_)
        obtain ⟨c41, hf⟩ := zz_k hf
        refine ac_kinds (pc := 41) hx hb hK hP hD hS c41 dX0_read_41 (fun H locs hP hD hS => ?_)
        obtain ⟨σ41, hP, hD, hf⟩ := zz_g (w := wC ad cA) hP hD hf
        refine lv_iinc (pc := 42) (v := (x2 + 1)) (lv' := [(2, .int (x2 + 1)), (0, .ref (ad 3)), (1, .ref (ad 1))]) hx hb dX0_read_42 hl (k := 2) rfl rfl (by decide) rfl (fun ls hl => ?_)
        refine lv_goto (pc := 45) (tgt := 23) hx hb dX0_read_45 (by decide) ?_
        exact ih23 σ41 (x2 + 1) _ _ _ hP hD hS (lv_sub hl [1, 2, 0] rfl) hf
  refine lv_aload_n (pc := 0) hx hb dX0_read_0 rfl (lv_at hl 0 rfl) ?_
  refine lv_aload_n (pc := 1) hx hb dX0_read_1 rfl (lv_at hl 1 rfl) ?_
  obtain ⟨v2, h2, hf⟩ := zz_o hf
  refine cV (pc := 2) (rest := [.ref (ad 3)]) (st1 := [.int v2, .ref (ad 3)]) (q0 := 1) CF (tX1_peopleWritten h2) hK hP hD hS hA hN hW mL_X0_22 kX1_peopleWritten nX1_peopleWritten rfl rfl rfl rfl ⟨by decide, by decide⟩ hl.1 (Nat.le_of_ble_eq_true rfl) ⟨Nat.le_refl _, Nat.le_refl _⟩ rfl dX0_read_2 (fun H locs hP hD hS => ?_)
  refine lv_bipush (pc := 5) (v := 6) hx hb dX0_read_5 (by decide) ?_
  refine va_mmin (pc := 7) hx hb (hml.trans hl.1.symm) hown (hw _ mL_X0_28) (hw _ mT_Lib_Math_min_name) (hw _ mN_J9) (hw _ mC_Lib_Math_min_name) (by decide) (Nat.le_of_ble_eq_true rfl) (Nat.le_refl _) (Nat.le_refl _) dX0_read_7 ?_
  refine pc_3_people (pc := 10) CF hK hP hD hS mF_X0_15 dX0_read_10 (fun H locs hP hD hS => ?_)
  obtain ⟨σ10, hP, hD, hf⟩ := zz_g (w := wC ad cA) hP hD hf
  refine lv_aload_n (pc := 13) hx hb dX0_read_13 rfl (lv_at hl 0 rfl) ?_
  refine lv_aload_n (pc := 14) hx hb dX0_read_14 rfl (lv_at hl 1 rfl) ?_
  obtain ⟨v15, h15, hf⟩ := zz_o hf
  refine cV (pc := 15) (rest := [.ref (ad 3)]) (st1 := [.int v15, .ref (ad 3)]) (q0 := 1) CF (tX1_riverWritten h15) hK hP hD hS hA hN hW mL_X0_34 kX1_riverWritten nX1_riverWritten rfl rfl rfl rfl ⟨by decide, by decide⟩ hl.1 (Nat.le_of_ble_eq_true rfl) ⟨Nat.le_refl _, Nat.le_refl _⟩ rfl dX0_read_15 (fun H locs hP hD hS => ?_)
  refine pc_3_river (pc := 18) CF hK hP hD hS mF_X0_19 dX0_read_18 (fun H locs hP hD hS => ?_)
  obtain ⟨σ18, hP, hD, hf⟩ := zz_g (w := wC ad cA) hP hD hf
  refine lv_iconst (pc := 21) (v := 0) hx hb dX0_read_21 (by decide) ?_
  refine lv_istore_n (pc := 22) (lv' := [(2, .int 0), (0, .ref (ad 3)), (1, .ref (ad 1))]) hx hb dX0_read_22 rfl hl (by decide) rfl (fun ls hl => ?_)
  exact L23 N σ18 0 _ _ _ hP hD hS (lv_sub hl [1, 2, 0] rfl) hf
set_option maxHeartbeats 4000000 in
set_option maxRecDepth 100000 in
theorem tX2_setNext {l : Launch} {kv : Nat × Nat} {D : va_G} {N : Nat} {ad : Nat → Nat} {cA : ClassId} {σ : SC} {x1 : Int32} {x2 : Int32} {x3 : Int32} {σF : SC} (hf : fX2_setNext N σ x1 x2 x3 = some σF) : Ct l kv D [(cA, .int)] yX2_setNext cX2_setNext 4 none 0 0 (wC ad cA σ) (wC ad cA σF) [.ref (ad 5), .int x1, .int x2, .int x3] (none) := by
  refine Ct.ofW (by decide) (Nat.le_of_ble_eq_true rfl) ?_
  intro p e s m below meth c A args CF hr hlk hA hP hK hD hN hW hS ls hl
  have hx := CF.1
  have hb := CF.2.1
  have hml := CF.2.2.1
  have hown := CF.2.2.2.1
  have hw : ∀ w ∈ wsA, w.before args s = true := fun w h => CF.2.2.2.2 w (List.mem_cons_of_mem _ h)
  have hl : lv_has ls 4 [(0, .ref (ad 5)), (1, .int x1), (2, .int x2), (3, .int x3)] := hl
  unfold fX2_setNext at hf
  refine lv_iload_n (pc := 0) hx hb dX2_setNext_0 rfl (lv_at hl 1 rfl) ?_
  refine lv_if_lt (pc := 1) (tgt := 36) hx hb dX2_setNext_1 (by decide) (fun c1 => ?_) (fun c1 => ?_)
  · have hf := zz_t c1 hf
    exact retVw (wf := wC ad cA) hx hb hr hlk hf hP hD hS dX2_setNext_36
  · have hf := zz_f c1 hf
    refine lv_iload_n (pc := 4) hx hb dX2_setNext_4 rfl (lv_at hl 1 rfl) ?_
    refine lv_aload_n (pc := 5) hx hb dX2_setNext_5 rfl (lv_at hl 0 rfl) ?_
    refine gc_5_nexts (pc := 6) CF hK hP mF_X2_9 dX2_setNext_6 ?_
    refine nc_nexts (pc := 9) hx hb hK hP dX2_setNext_9 ?_
    refine lv_icmp_ge (pc := 10) (tgt := 36) hx hb dX2_setNext_10 (by decide) (fun c10 => ?_) (fun c10 => ?_)
    · have hf := zz_t c10 hf
      exact retVw (wf := wC ad cA) hx hb hr hlk hf hP hD hS dX2_setNext_36
    · have hf := zz_f c10 hf
      refine lv_iload_n (pc := 13) hx hb dX2_setNext_13 rfl (lv_at hl 1 rfl) ?_
      refine lv_aload_n (pc := 14) hx hb dX2_setNext_14 rfl (lv_at hl 0 rfl) ?_
      refine gc_5_listeners (pc := 15) CF hK hP mF_X2_15 dX2_setNext_15 ?_
      refine nc_lsts (pc := 18) hx hb hK hP dX2_setNext_18 ?_
      refine lv_icmp_ge (pc := 19) (tgt := 36) hx hb dX2_setNext_19 (by decide) (fun c19 => ?_) (fun c19 => ?_)
      · have hf := zz_t c19 hf
        exact retVw (wf := wC ad cA) hx hb hr hlk hf hP hD hS dX2_setNext_36
      · have hf := zz_f c19 hf
        refine lv_aload_n (pc := 22) hx hb dX2_setNext_22 rfl (lv_at hl 0 rfl) ?_
        refine gc_5_nexts (pc := 23) CF hK hP mF_X2_9 dX2_setNext_23 ?_
        refine lv_iload_n (pc := 26) hx hb dX2_setNext_26 rfl (lv_at hl 1 rfl) ?_
        refine lv_iload_n (pc := 27) hx hb dX2_setNext_27 rfl (lv_at hl 2 rfl) ?_
        obtain ⟨c28, hf⟩ := zz_k hf
        refine ac_nexts (pc := 28) hx hb hK hP hD hS c28 dX2_setNext_28 (fun H locs hP hD hS => ?_)
        obtain ⟨σ28, hP, hD, hf⟩ := zz_g (w := wC ad cA) hP hD hf
        refine lv_aload_n (pc := 29) hx hb dX2_setNext_29 rfl (lv_at hl 0 rfl) ?_
        refine gc_5_listeners (pc := 30) CF hK hP mF_X2_15 dX2_setNext_30 ?_
        refine lv_iload_n (pc := 33) hx hb dX2_setNext_33 rfl (lv_at hl 1 rfl) ?_
        refine lv_iload_n (pc := 34) hx hb dX2_setNext_34 rfl (lv_at hl 3 rfl) ?_
        obtain ⟨c35, hf⟩ := zz_k hf
        refine ac_lsts (pc := 35) hx hb hK hP hD hS c35 dX2_setNext_35 (fun H locs hP hD hS => ?_)
        obtain ⟨σ35, hP, hD, hf⟩ := zz_g (w := wC ad cA) hP hD hf
        exact retVw (wf := wC ad cA) hx hb hr hlk hf hP hD hS dX2_setNext_36
set_option maxHeartbeats 4000000 in
set_option maxRecDepth 100000 in
theorem tX2_begin {l : Launch} {kv : Nat × Nat} {D : va_G} {N : Nat} {ad : Nat → Nat} {cA : ClassId} {σ : SC} {σF : SC} (hf : fX2_begin N σ = some σF) : Ct l kv D [(cA, .int)] yX2_begin cX2_begin 2 none 1 23 (wC ad cA σ) (wC ad cA σF) [.ref (ad 5)] (none) := by
  refine Ct.ofW (by decide) (Nat.le_of_ble_eq_true rfl) ?_
  intro p e s m below meth c A args CF hr hlk hA hP hK hD hN hW hS ls hl
  have hx := CF.1
  have hb := CF.2.1
  have hml := CF.2.2.1
  have hown := CF.2.2.2.1
  have hw : ∀ w ∈ wsA, w.before args s = true := fun w h => CF.2.2.2.2 w (List.mem_cons_of_mem _ h)
  have hl : lv_has ls 2 [(0, .ref (ad 5))] := hl
  unfold fX2_begin at hf
  have L23 : ∀ (n23 : Nat) (σ : SC) (x1 : Int32) (H : Heap) (locs : List Loc) (ls : Array Slot), va_P D vwCl (wC ad cA σ) H → va_D A (wC ad cA σ) → va_S A s.heap H locs → lv_has ls 2 [(0, .ref (ad 5)), (1, .int x1)] → fX2_begin_23 N n23 σ x1 = some σF → G p l e 1 23 s m args below meth c D A (wC ad cA σF) (none) H locs (F0 m 23 ls []) := by
    intro n23
    induction n23 with
    | zero => intro σ x1 H locs ls hP hD hS hl hf; exact absurd hf (by simp [fX2_begin_23])
    | succ n23 ih23 =>
      intro σ x1 H locs ls hP hD hS hl hf
      rw [fX2_begin_23] at hf
      refine lv_iload_n (pc := 23) hx hb dX2_begin_23 rfl (lv_at hl 1 rfl) ?_
      refine lv_iconst (pc := 24) (v := 3) hx hb dX2_begin_24 (by decide) ?_
      refine lv_icmp_ge (pc := 25) (tgt := 55) hx hb dX2_begin_25 (by decide) (fun c25 => ?_) (fun c25 => ?_)
      · have hf := zz_t c25 hf
        refine lv_aload_n (pc := 55) hx hb dX2_begin_55 rfl (lv_at hl 0 rfl) ?_
        refine lv_iconst (pc := 56) (v := 0) hx hb dX2_begin_56 (by decide) ?_
        refine pc_5_asked (pc := 57) CF hK hP hD hS mF_X2_33 dX2_begin_57 (fun H locs hP hD hS => ?_)
        obtain ⟨σ57, hP, hD, hf⟩ := zz_g (w := wC ad cA) hP hD hf
        refine lv_aload_n (pc := 60) hx hb dX2_begin_60 rfl (lv_at hl 0 rfl) ?_
        refine lv_iconst (pc := 61) (v := 0) hx hb dX2_begin_61 (by decide) ?_
        refine pc_5_days (pc := 62) CF hK hP hD hS mF_X2_37 dX2_begin_62 (fun H locs hP hD hS => ?_)
        obtain ⟨σ62, hP, hD, hf⟩ := zz_g (w := wC ad cA) hP hD hf
        refine lv_aload_n (pc := 65) hx hb dX2_begin_65 rfl (lv_at hl 0 rfl) ?_
        refine lv_iconst (pc := 66) (v := 0) hx hb dX2_begin_66 (by decide) ?_
        refine pc_5_changes (pc := 67) CF hK hP hD hS mF_X2_40 dX2_begin_67 (fun H locs hP hD hS => ?_)
        obtain ⟨σ67, hP, hD, hf⟩ := zz_g (w := wC ad cA) hP hD hf
        exact retVw (wf := wC ad cA) hx hb hr hlk hf hP hD hS dX2_begin_70
      · have hf := zz_f c25 hf
        refine lv_aload_n (pc := 28) hx hb dX2_begin_28 rfl (lv_at hl 0 rfl) ?_
        refine gc_5_heard (pc := 29) CF hK hP mF_X2_18 dX2_begin_29 ?_
        refine lv_iload_n (pc := 32) hx hb dX2_begin_32 rfl (lv_at hl 1 rfl) ?_
        refine lv_iconst (pc := 33) (v := 0) hx hb dX2_begin_33 (by decide) ?_
        obtain ⟨c34, hf⟩ := zz_k hf
        refine ac_heard (pc := 34) hx hb hK hP hD hS c34 dX2_begin_34 (fun H locs hP hD hS => ?_)
        obtain ⟨σ34, hP, hD, hf⟩ := zz_g (w := wC ad cA) hP hD hf
        refine lv_aload_n (pc := 35) hx hb dX2_begin_35 rfl (lv_at hl 0 rfl) ?_
        refine gc_5_last (pc := 36) CF hK hP mF_X2_21 dX2_begin_36 ?_
        refine lv_iload_n (pc := 39) hx hb dX2_begin_39 rfl (lv_at hl 1 rfl) ?_
        refine lv_iconst (pc := 40) (v := 0) hx hb dX2_begin_40 (by decide) ?_
        obtain ⟨c41, hf⟩ := zz_k hf
        refine ac_last (pc := 41) hx hb hK hP hD hS c41 dX2_begin_41 (fun H locs hP hD hS => ?_)
        obtain ⟨σ41, hP, hD, hf⟩ := zz_g (w := wC ad cA) hP hD hf
        refine lv_aload_n (pc := 42) hx hb dX2_begin_42 rfl (lv_at hl 0 rfl) ?_
        refine gc_5_denied (pc := 43) CF hK hP mF_X2_24 dX2_begin_43 ?_
        refine lv_iload_n (pc := 46) hx hb dX2_begin_46 rfl (lv_at hl 1 rfl) ?_
        refine lv_iconst (pc := 47) (v := 0) hx hb dX2_begin_47 (by decide) ?_
        obtain ⟨c48, hf⟩ := zz_k hf
        refine ac_denied (pc := 48) hx hb hK hP hD hS c48 dX2_begin_48 (fun H locs hP hD hS => ?_)
        obtain ⟨σ48, hP, hD, hf⟩ := zz_g (w := wC ad cA) hP hD hf
        refine lv_iinc (pc := 49) (v := (x1 + 1)) (lv' := [(1, .int (x1 + 1)), (0, .ref (ad 5))]) hx hb dX2_begin_49 hl (k := 1) rfl rfl (by decide) rfl (fun ls hl => ?_)
        refine lv_goto (pc := 52) (tgt := 23) hx hb dX2_begin_52 (by decide) ?_
        exact ih23 σ48 (x1 + 1) _ _ _ hP hD hS (lv_sub hl [1, 0] rfl) hf
  have L2 : ∀ (n2 : Nat) (σ : SC) (x1 : Int32) (H : Heap) (locs : List Loc) (ls : Array Slot), va_P D vwCl (wC ad cA σ) H → va_D A (wC ad cA σ) → va_S A s.heap H locs → lv_has ls 2 [(0, .ref (ad 5)), (1, .int x1)] → fX2_begin_2 N n2 σ x1 = some σF → G p l e 1 23 s m args below meth c D A (wC ad cA σF) (none) H locs (F0 m 2 ls []) := by
    intro n2
    induction n2 with
    | zero => intro σ x1 H locs ls hP hD hS hl hf; exact absurd hf (by simp [fX2_begin_2])
    | succ n2 ih2 =>
      intro σ x1 H locs ls hP hD hS hl hf
      rw [fX2_begin_2] at hf
      refine lv_iload_n (pc := 2) hx hb dX2_begin_2 rfl (lv_at hl 1 rfl) ?_
      refine lv_bipush (pc := 3) (v := 6) hx hb dX2_begin_3 (by decide) ?_
      refine lv_icmp_ge (pc := 5) (tgt := 21) hx hb dX2_begin_5 (by decide) (fun c5 => ?_) (fun c5 => ?_)
      · have hf := zz_t c5 hf
        refine lv_iconst (pc := 21) (v := 0) hx hb dX2_begin_21 (by decide) ?_
        refine lv_istore_n (pc := 22) (lv' := [(1, .int 0), (0, .ref (ad 5))]) hx hb dX2_begin_22 rfl hl (by decide) rfl (fun ls hl => ?_)
        exact L23 N σ 0 _ _ _ hP hD hS (lv_sub hl [1, 0] rfl) hf
      · have hf := zz_f c5 hf
        refine lv_aload_n (pc := 8) hx hb dX2_begin_8 rfl (lv_at hl 0 rfl) ?_
        refine lv_iload_n (pc := 9) hx hb dX2_begin_9 rfl (lv_at hl 1 rfl) ?_
        refine lv_iconst (pc := 10) (v := (-1)) hx hb dX2_begin_10 (by decide) ?_
        refine lv_iconst (pc := 11) (v := 0) hx hb dX2_begin_11 (by decide) ?_
        obtain ⟨σ12, h12, hf⟩ := zz_o hf
        refine cV (pc := 12) (rest := []) (st1 := []) (q0 := 5) CF (tX2_setNext h12) hK hP hD hS hA hN hW mL_X2_43 kX2_setNext nX2_setNext rfl rfl rfl rfl ⟨by decide, by decide⟩ hl.1 (Nat.le_of_ble_eq_true rfl) ⟨Nat.le_refl _, Nat.le_refl _⟩ rfl dX2_begin_12 (fun H locs hP hD hS => ?_)
        refine lv_iinc (pc := 15) (v := (x1 + 1)) (lv' := [(1, .int (x1 + 1)), (0, .ref (ad 5))]) hx hb dX2_begin_15 hl (k := 1) rfl rfl (by decide) rfl (fun ls hl => ?_)
        refine lv_goto (pc := 18) (tgt := 2) hx hb dX2_begin_18 (by decide) ?_
        exact ih2 σ12 (x1 + 1) _ _ _ hP hD hS (lv_sub hl [1, 0] rfl) hf
  refine lv_iconst (pc := 0) (v := 0) hx hb dX2_begin_0 (by decide) ?_
  refine lv_istore_n (pc := 1) (lv' := [(1, .int 0), (0, .ref (ad 5))]) hx hb dX2_begin_1 rfl hl (by decide) rfl (fun ls hl => ?_)
  exact L2 N σ 0 _ _ _ hP hD hS (lv_sub hl [1, 0] rfl) hf
set_option maxHeartbeats 4000000 in
set_option maxRecDepth 100000 in
theorem tX1_nextWritten {l : Launch} {kv : Nat × Nat} {D : va_G} {N : Nat} {ad : Nat → Nat} {cA : ClassId} {σ : SC} {x1 : Int32} {rF : Int32} (hf : fX1_nextWritten N σ x1 = some rF) : Ct l kv D [(cA, .int)] yX1_nextWritten cX1_nextWritten 2 (some .int) 1 21 (wC ad cA σ) (wC ad cA σ) [.ref (ad 1), .int x1] (some (.int rF)) := by
  refine Ct.ofW (by decide) (Nat.le_of_ble_eq_true rfl) ?_
  intro p e s m below meth c A args CF hr hlk hA hP hK hD hN hW hS ls hl
  have hx := CF.1
  have hb := CF.2.1
  have hml := CF.2.2.1
  have hown := CF.2.2.2.1
  have hw : ∀ w ∈ wsA, w.before args s = true := fun w h => CF.2.2.2.2 w (List.mem_cons_of_mem _ h)
  have hl : lv_has ls 2 [(0, .ref (ad 1)), (1, .int x1)] := hl
  unfold fX1_nextWritten at hf
  refine lv_aload_n (pc := 0) hx hb dX1_nextWritten_0 rfl (lv_at hl 0 rfl) ?_
  refine lv_iload_n (pc := 1) hx hb dX1_nextWritten_1 rfl (lv_at hl 1 rfl) ?_
  refine lv_iconst (pc := 2) (v := 3) hx hb dX1_nextWritten_2 (by decide) ?_
  refine lv_imul (pc := 3) hx hb dX1_nextWritten_3 ?_
  refine lv_iconst (pc := 4) (v := 1) hx hb dX1_nextWritten_4 (by decide) ?_
  refine lv_iadd (pc := 5) hx hb dX1_nextWritten_5 ?_
  obtain ⟨v6, h6, hf⟩ := zz_o hf
  refine cV (pc := 6) (rest := []) (st1 := [.int v6]) (q0 := 1) CF (tX1_codeAt h6) hK hP hD hS hA hN hW mL_X1_23 kX1_codeAt nX1_codeAt rfl rfl rfl rfl ⟨by decide, by decide⟩ hl.1 (Nat.le_of_ble_eq_true rfl) ⟨Nat.le_refl _, Nat.le_refl _⟩ rfl dX1_nextWritten_6 (fun H locs hP hD hS => ?_)
  refine lv_bipush (pc := 9) (v := 48) hx hb dX1_nextWritten_9 (by decide) ?_
  refine lv_isub (pc := 11) hx hb dX1_nextWritten_11 ?_
  exact retI hx hb hr hlk hf hP hD hS dX1_nextWritten_12
set_option maxHeartbeats 4000000 in
set_option maxRecDepth 100000 in
theorem tX0_has {l : Launch} {kv : Nat × Nat} {D : va_G} {N : Nat} {ad : Nat → Nat} {cA : ClassId} {σ : SC} {x1 : Int32} {rF : Int32} (hf : fX0_has N σ x1 = some rF) : Ct l kv D [(cA, .int)] yX0_has cX0_has 2 (some .boolean) 0 0 (wC ad cA σ) (wC ad cA σ) [.ref (ad 3), .int x1] (some (.int rF)) := by
  refine Ct.ofW (by decide) (Nat.le_of_ble_eq_true rfl) ?_
  intro p e s m below meth c A args CF hr hlk hA hP hK hD hN hW hS ls hl
  have hx := CF.1
  have hb := CF.2.1
  have hml := CF.2.2.1
  have hown := CF.2.2.2.1
  have hw : ∀ w ∈ wsA, w.before args s = true := fun w h => CF.2.2.2.2 w (List.mem_cons_of_mem _ h)
  have hl : lv_has ls 2 [(0, .ref (ad 3)), (1, .int x1)] := hl
  unfold fX0_has at hf
  refine lv_iload_n (pc := 0) hx hb dX0_has_0 rfl (lv_at hl 1 rfl) ?_
  refine lv_if_lt (pc := 1) (tgt := 16) hx hb dX0_has_1 (by decide) (fun c1 => ?_) (fun c1 => ?_)
  · have hf := zz_t c1 hf
    refine lv_iconst (pc := 16) (v := 0) hx hb dX0_has_16 (by decide) ?_
    exact retZ hx hb hr hlk rfl hf hP hD hS dX0_has_17
  · have hf := zz_f c1 hf
    refine lv_iload_n (pc := 4) hx hb dX0_has_4 rfl (lv_at hl 1 rfl) ?_
    refine lv_aload_n (pc := 5) hx hb dX0_has_5 rfl (lv_at hl 0 rfl) ?_
    refine gc_3_people (pc := 6) CF hK hP mF_X0_15 dX0_has_6 ?_
    refine lv_icmp_ge (pc := 9) (tgt := 16) hx hb dX0_has_9 (by decide) (fun c9 => ?_) (fun c9 => ?_)
    · have hf := zz_t c9 hf
      refine lv_iconst (pc := 16) (v := 0) hx hb dX0_has_16 (by decide) ?_
      exact retZ hx hb hr hlk rfl hf hP hD hS dX0_has_17
    · have hf := zz_f c9 hf
      refine lv_iconst (pc := 12) (v := 1) hx hb dX0_has_12 (by decide) ?_
      refine lv_goto (pc := 13) (tgt := 17) hx hb dX0_has_13 (by decide) ?_
      exact retZ hx hb hr hlk rfl hf hP hD hS dX0_has_17
set_option maxHeartbeats 4000000 in
set_option maxRecDepth 100000 in
theorem tX0_kindOf {l : Launch} {kv : Nat × Nat} {D : va_G} {N : Nat} {ad : Nat → Nat} {cA : ClassId} {σ : SC} {x1 : Int32} {rF : Int32} (hf : fX0_kindOf N σ x1 = some rF) : Ct l kv D [(cA, .int)] yX0_kindOf cX0_kindOf 2 (some .int) 0 0 (wC ad cA σ) (wC ad cA σ) [.ref (ad 3), .int x1] (some (.int rF)) := by
  refine Ct.ofW (by decide) (Nat.le_of_ble_eq_true rfl) ?_
  intro p e s m below meth c A args CF hr hlk hA hP hK hD hN hW hS ls hl
  have hx := CF.1
  have hb := CF.2.1
  have hml := CF.2.2.1
  have hown := CF.2.2.2.1
  have hw : ∀ w ∈ wsA, w.before args s = true := fun w h => CF.2.2.2.2 w (List.mem_cons_of_mem _ h)
  have hl : lv_has ls 2 [(0, .ref (ad 3)), (1, .int x1)] := hl
  unfold fX0_kindOf at hf
  refine lv_iload_n (pc := 0) hx hb dX0_kindOf_0 rfl (lv_at hl 1 rfl) ?_
  refine lv_if_lt (pc := 1) (tgt := 22) hx hb dX0_kindOf_1 (by decide) (fun c1 => ?_) (fun c1 => ?_)
  · have hf := zz_t c1 hf
    refine lv_iconst (pc := 22) (v := 0) hx hb dX0_kindOf_22 (by decide) ?_
    exact retI hx hb hr hlk hf hP hD hS dX0_kindOf_23
  · have hf := zz_f c1 hf
    refine lv_iload_n (pc := 4) hx hb dX0_kindOf_4 rfl (lv_at hl 1 rfl) ?_
    refine lv_aload_n (pc := 5) hx hb dX0_kindOf_5 rfl (lv_at hl 0 rfl) ?_
    refine gc_3_kinds (pc := 6) CF hK hP mF_X0_9 dX0_kindOf_6 ?_
    refine nc_kinds (pc := 9) hx hb hK hP dX0_kindOf_9 ?_
    refine lv_icmp_ge (pc := 10) (tgt := 22) hx hb dX0_kindOf_10 (by decide) (fun c10 => ?_) (fun c10 => ?_)
    · have hf := zz_t c10 hf
      refine lv_iconst (pc := 22) (v := 0) hx hb dX0_kindOf_22 (by decide) ?_
      exact retI hx hb hr hlk hf hP hD hS dX0_kindOf_23
    · have hf := zz_f c10 hf
      refine lv_aload_n (pc := 13) hx hb dX0_kindOf_13 rfl (lv_at hl 0 rfl) ?_
      refine gc_3_kinds (pc := 14) CF hK hP mF_X0_9 dX0_kindOf_14 ?_
      refine lv_iload_n (pc := 17) hx hb dX0_kindOf_17 rfl (lv_at hl 1 rfl) ?_
      obtain ⟨c18, hf⟩ := zz_k hf
      refine lc_kinds (pc := 18) hx hb hK hP c18 dX0_kindOf_18 ?_
      refine lv_goto (pc := 19) (tgt := 23) hx hb dX0_kindOf_19 (by decide) ?_
      exact retI hx hb hr hlk hf hP hD hS dX0_kindOf_23
set_option maxHeartbeats 4000000 in
set_option maxRecDepth 100000 in
theorem tX5_isOfKind {l : Launch} {kv : Nat × Nat} {D : va_G} {N : Nat} {tys : List (ClassId × FieldType)} {ws : va_W} {x0 : Int32} {x1 : Int32} {rF : Int32} (hf : fX5_isOfKind N x0 x1 = some rF) : Ct l kv D tys yX5_isOfKind cX5_isOfKind 2 (some .boolean) 0 0 ws ws [.int x0, .int x1] (some (.int rF)) := by
  refine Ct.ofW (by decide) (Nat.le_of_ble_eq_true rfl) ?_
  intro p e s m below meth c A args CF hr hlk hA hP hK hD hN hW hS ls hl
  have hx := CF.1
  have hb := CF.2.1
  have hml := CF.2.2.1
  have hown := CF.2.2.2.1
  have hw : ∀ w ∈ wsA, w.before args s = true := fun w h => CF.2.2.2.2 w (List.mem_cons_of_mem _ h)
  have hl : lv_has ls 2 [(0, .int x0), (1, .int x1)] := hl
  unfold fX5_isOfKind at hf
  refine lv_iload_n (pc := 0) hx hb dX5_isOfKind_0 rfl (lv_at hl 1 rfl) ?_
  refine lv_if_eq (pc := 1) (tgt := 19) hx hb dX5_isOfKind_1 (by decide) (fun c1 => ?_) (fun c1 => ?_)
  · have hf := zz_t c1 hf
    refine lv_iconst (pc := 19) (v := 1) hx hb dX5_isOfKind_19 (by decide) ?_
    refine lv_goto (pc := 20) (tgt := 24) hx hb dX5_isOfKind_20 (by decide) ?_
    exact retZ hx hb hr hlk rfl hf hP hD hS dX5_isOfKind_24
  · have hf := zz_f c1 hf
    refine lv_iload_n (pc := 4) hx hb dX5_isOfKind_4 rfl (lv_at hl 1 rfl) ?_
    refine lv_iload_n (pc := 5) hx hb dX5_isOfKind_5 rfl (lv_at hl 0 rfl) ?_
    refine lv_icmp_eq (pc := 6) (tgt := 19) hx hb dX5_isOfKind_6 (by decide) (fun c6 => ?_) (fun c6 => ?_)
    · have hf := zz_t c6 hf
      refine lv_iconst (pc := 19) (v := 1) hx hb dX5_isOfKind_19 (by decide) ?_
      refine lv_goto (pc := 20) (tgt := 24) hx hb dX5_isOfKind_20 (by decide) ?_
      exact retZ hx hb hr hlk rfl hf hP hD hS dX5_isOfKind_24
    · have hf := zz_f c6 hf
      refine lv_iload_n (pc := 9) hx hb dX5_isOfKind_9 rfl (lv_at hl 1 rfl) ?_
      refine lv_iconst (pc := 10) (v := 2) hx hb dX5_isOfKind_10 (by decide) ?_
      refine lv_icmp_ne (pc := 11) (tgt := 23) hx hb dX5_isOfKind_11 (by decide) (fun c11 => ?_) (fun c11 => ?_)
      · have hf := zz_f c11 hf
        refine lv_iconst (pc := 23) (v := 0) hx hb dX5_isOfKind_23 (by decide) ?_
        exact retZ hx hb hr hlk rfl hf hP hD hS dX5_isOfKind_24
      · have hf := zz_t c11 hf
        refine lv_iload_n (pc := 14) hx hb dX5_isOfKind_14 rfl (lv_at hl 0 rfl) ?_
        refine lv_iconst (pc := 15) (v := 4) hx hb dX5_isOfKind_15 (by decide) ?_
        refine lv_icmp_ne (pc := 16) (tgt := 23) hx hb dX5_isOfKind_16 (by decide) (fun c16 => ?_) (fun c16 => ?_)
        · have hf := zz_f c16 hf
          refine lv_iconst (pc := 23) (v := 0) hx hb dX5_isOfKind_23 (by decide) ?_
          exact retZ hx hb hr hlk rfl hf hP hD hS dX5_isOfKind_24
        · have hf := zz_t c16 hf
          refine lv_iconst (pc := 19) (v := 1) hx hb dX5_isOfKind_19 (by decide) ?_
          refine lv_goto (pc := 20) (tgt := 24) hx hb dX5_isOfKind_20 (by decide) ?_
          exact retZ hx hb hr hlk rfl hf hP hD hS dX5_isOfKind_24
set_option maxHeartbeats 4000000 in
set_option maxRecDepth 100000 in
theorem tX0_listeners {l : Launch} {kv : Nat × Nat} {D : va_G} {N : Nat} {ad : Nat → Nat} {cA : ClassId} {σ : SC} {x1 : Int32} {x2 : Int32} {rF : Int32} (hf : fX0_listeners N σ x1 x2 = some rF) : Ct l kv D [(cA, .int)] yX0_listeners cX0_listeners 6 (some .int) 1 21 (wC ad cA σ) (wC ad cA σ) [.ref (ad 3), .int x1, .int x2] (some (.int rF)) := by
  refine Ct.ofW (by decide) (Nat.le_of_ble_eq_true rfl) ?_
  intro p e s m below meth c A args CF hr hlk hA hP hK hD hN hW hS ls hl
  have hx := CF.1
  have hb := CF.2.1
  have hml := CF.2.2.1
  have hown := CF.2.2.2.1
  have hw : ∀ w ∈ wsA, w.before args s = true := fun w h => CF.2.2.2.2 w (List.mem_cons_of_mem _ h)
  have hl : lv_has ls 6 [(0, .ref (ad 3)), (1, .int x1), (2, .int x2)] := hl
  unfold fX0_listeners at hf
  have J54 : ∀ (x2 : Int32) (x4 : Int32) (z0 : Int32) (H : Heap) (locs : List Loc) (ls : Array Slot), va_P D vwCl (wC ad cA σ) H → va_D A (wC ad cA σ) → va_S A s.heap H locs → lv_has ls 6 [(2, .int x2), (4, .int x4)] → fX0_listeners_54 N σ x2 x4 z0 = some rF → G p l e 1 21 s m args below meth c D A (wC ad cA σ) (some (.int rF)) H locs (F0 m 54 ls [.int z0]) := by
    intro x2 x4 z0 H locs ls hP hD hS hl hf
    unfold fX0_listeners_54 at hf
    refine lv_istore (pc := 54) (lv' := [(5, .int z0), (2, .int x2), (4, .int x4)]) hx hb dX0_listeners_54 hl (by decide) rfl (fun ls hl => ?_)
    refine lv_iload (pc := 56) hx hb dX0_listeners_56 (lv_at hl 0 rfl) ?_
    refine lv_if_eq (pc := 58) (tgt := 72) hx hb dX0_listeners_58 (by decide) (fun c58 => ?_) (fun c58 => ?_)
    · have hf := zz_t c58 hf
      refine lv_iconst (pc := 72) (v := 1) hx hb dX0_listeners_72 (by decide) ?_
      refine lv_iload_n (pc := 73) hx hb dX0_listeners_73 rfl (lv_at hl 1 rfl) ?_
      refine lv_ishl (pc := 74) hx hb dX0_listeners_74 ?_
      exact retI hx hb hr hlk hf hP hD hS dX0_listeners_75
    · have hf := zz_f c58 hf
      refine lv_iconst (pc := 61) (v := 1) hx hb dX0_listeners_61 (by decide) ?_
      refine lv_iload_n (pc := 62) hx hb dX0_listeners_62 rfl (lv_at hl 1 rfl) ?_
      refine lv_ishl (pc := 63) hx hb dX0_listeners_63 ?_
      refine lv_iconst (pc := 64) (v := 1) hx hb dX0_listeners_64 (by decide) ?_
      refine lv_iload (pc := 65) hx hb dX0_listeners_65 (lv_at hl 2 rfl) ?_
      refine lv_ishl (pc := 67) hx hb dX0_listeners_67 ?_
      refine lv_ior (pc := 68) hx hb dX0_listeners_68 ?_
      refine lv_goto (pc := 69) (tgt := 75) hx hb dX0_listeners_69 (by decide) ?_
      exact retI hx hb hr hlk hf hP hD hS dX0_listeners_75
  have J53 : ∀ (x2 : Int32) (x4 : Int32) (H : Heap) (locs : List Loc) (ls : Array Slot), va_P D vwCl (wC ad cA σ) H → va_D A (wC ad cA σ) → va_S A s.heap H locs → lv_has ls 6 [(2, .int x2), (4, .int x4)] → fX0_listeners_53 N σ x2 x4 = some rF → G p l e 1 21 s m args below meth c D A (wC ad cA σ) (some (.int rF)) H locs (F0 m 53 ls []) := by
    intro x2 x4 H locs ls hP hD hS hl hf
    unfold fX0_listeners_53 at hf
    refine lv_iconst (pc := 53) (v := 0) hx hb dX0_listeners_53 (by decide) ?_
    exact J54 x2 x4 0 _ _ _ hP hD hS (lv_sub hl [0, 1] rfl) hf
  refine lv_aload_n (pc := 0) hx hb dX0_listeners_0 rfl (lv_at hl 0 rfl) ?_
  refine lv_iload_n (pc := 1) hx hb dX0_listeners_1 rfl (lv_at hl 1 rfl) ?_
  obtain ⟨v2, h2, hf⟩ := zz_o hf
  refine cV (pc := 2) (rest := []) (st1 := [.int v2]) (q0 := 3) CF (tX0_kindOf h2) hK hP hD hS hA hN hW mL_X0_41 kX0_kindOf nX0_kindOf rfl rfl rfl rfl ⟨by decide, by decide⟩ hl.1 (Nat.le_of_ble_eq_true rfl) ⟨Nat.le_refl _, Nat.le_refl _⟩ rfl dX0_listeners_2 (fun H locs hP hD hS => ?_)
  refine lv_istore_n (pc := 5) (lv' := [(3, .int v2), (0, .ref (ad 3)), (1, .int x1), (2, .int x2)]) hx hb dX0_listeners_5 rfl hl (by decide) rfl (fun ls hl => ?_)
  refine lv_iload_n (pc := 6) hx hb dX0_listeners_6 rfl (lv_at hl 0 rfl) ?_
  refine lv_iconst (pc := 7) (v := 1) hx hb dX0_listeners_7 (by decide) ?_
  refine lv_icmp_eq (pc := 8) (tgt := 19) hx hb dX0_listeners_8 (by decide) (fun c8 => ?_) (fun c8 => ?_)
  · have hf := zz_t c8 hf
    refine lv_iconst (pc := 19) (v := 0) hx hb dX0_listeners_19 (by decide) ?_
    exact retI hx hb hr hlk hf hP hD hS dX0_listeners_20
  · have hf := zz_f c8 hf
    refine lv_aload_n (pc := 11) hx hb dX0_listeners_11 rfl (lv_at hl 1 rfl) ?_
    refine lv_iload_n (pc := 12) hx hb dX0_listeners_12 rfl (lv_at hl 3 rfl) ?_
    obtain ⟨v13, h13, hf⟩ := zz_o hf
    refine cV (pc := 13) (rest := []) (st1 := [.int v13]) (q0 := 3) CF (tX0_has h13) hK hP hD hS hA hN hW mL_X0_44 kX0_has nX0_has rfl rfl rfl rfl ⟨by decide, by decide⟩ hl.1 (Nat.le_of_ble_eq_true rfl) ⟨Nat.le_refl _, Nat.le_refl _⟩ rfl dX0_listeners_13 (fun H locs hP hD hS => ?_)
    refine lv_if_ne (pc := 16) (tgt := 21) hx hb dX0_listeners_16 (by decide) (fun c16 => ?_) (fun c16 => ?_)
    · have hf := zz_f c16 hf
      refine lv_iload_n (pc := 21) hx hb dX0_listeners_21 rfl (lv_at hl 3 rfl) ?_
      refine lv_iconst (pc := 22) (v := 1) hx hb dX0_listeners_22 (by decide) ?_
      refine lv_iadd (pc := 23) hx hb dX0_listeners_23 ?_
      refine lv_istore (pc := 24) (lv' := [(4, .int (x2 + 1)), (3, .int v2), (0, .ref (ad 3)), (1, .int x1), (2, .int x2)]) hx hb dX0_listeners_24 hl (by decide) rfl (fun ls hl => ?_)
      refine lv_iload_n (pc := 26) hx hb dX0_listeners_26 rfl (lv_at hl 1 rfl) ?_
      refine lv_iconst (pc := 27) (v := 2) hx hb dX0_listeners_27 (by decide) ?_
      obtain ⟨v28, h28, hf⟩ := zz_o hf
      refine cSN (pc := 28) (rest := []) (st1 := [.int v28]) CF (tX5_isOfKind h28) hK hP hD hS hA hN hW (nm 0) kX5_isOfKind nX5_isOfKind rfl rfl ⟨by decide, by decide⟩ hl.1 (Nat.le_of_ble_eq_true rfl) ⟨Nat.le_refl _, Nat.le_refl _⟩ rfl dX0_listeners_28 (fun H locs hP hD hS => ?_)
      refine lv_if_eq (pc := 31) (tgt := 53) hx hb dX0_listeners_31 (by decide) (fun c31 => ?_) (fun c31 => ?_)
      · have hf := zz_t c31 hf
        exact J53 x2 (x2 + 1) _ _ _ hP hD hS (lv_sub hl [4, 0] rfl) hf
      · have hf := zz_f c31 hf
        refine lv_aload_n (pc := 34) hx hb dX0_listeners_34 rfl (lv_at hl 2 rfl) ?_
        refine lv_iload (pc := 35) hx hb dX0_listeners_35 (lv_at hl 0 rfl) ?_
        obtain ⟨v37, h37, hf⟩ := zz_o hf
        refine cV (pc := 37) (rest := []) (st1 := [.int v37]) (q0 := 3) CF (tX0_has h37) hK hP hD hS hA hN hW mL_X0_44 kX0_has nX0_has rfl rfl rfl rfl ⟨by decide, by decide⟩ hl.1 (Nat.le_of_ble_eq_true rfl) ⟨Nat.le_refl _, Nat.le_refl _⟩ rfl dX0_listeners_37 (fun H locs hP hD hS => ?_)
        refine lv_if_eq (pc := 40) (tgt := 53) hx hb dX0_listeners_40 (by decide) (fun c40 => ?_) (fun c40 => ?_)
        · have hf := zz_t c40 hf
          exact J53 x2 (x2 + 1) _ _ _ hP hD hS (lv_sub hl [4, 0] rfl) hf
        · have hf := zz_f c40 hf
          refine lv_iload (pc := 43) hx hb dX0_listeners_43 (lv_at hl 0 rfl) ?_
          refine lv_iload_n (pc := 45) hx hb dX0_listeners_45 rfl (lv_at hl 3 rfl) ?_
          refine lv_icmp_eq (pc := 46) (tgt := 53) hx hb dX0_listeners_46 (by decide) (fun c46 => ?_) (fun c46 => ?_)
          · have hf := zz_t c46 hf
            exact J53 x2 (x2 + 1) _ _ _ hP hD hS (lv_sub hl [4, 0] rfl) hf
          · have hf := zz_f c46 hf
            refine lv_iconst (pc := 49) (v := 1) hx hb dX0_listeners_49 (by decide) ?_
            refine lv_goto (pc := 50) (tgt := 54) hx hb dX0_listeners_50 (by decide) ?_
            exact J54 x2 (x2 + 1) 1 _ _ _ hP hD hS (lv_sub hl [4, 0] rfl) hf
    · have hf := zz_t c16 hf
      refine lv_iconst (pc := 19) (v := 0) hx hb dX0_listeners_19 (by decide) ?_
      exact retI hx hb hr hlk hf hP hD hS dX0_listeners_20
set_option maxHeartbeats 4000000 in
set_option maxRecDepth 100000 in
theorem tX5_point {l : Launch} {kv : Nat × Nat} {D : va_G} {N : Nat} {ad : Nat → Nat} {cA : ClassId} {σ : SC} {x1 : Int32} {x2 : Int32} {σF : SC} (hf : fX5_point N σ x1 x2 = some σF) : Ct l kv D [(cA, .int)] yX5_point cX5_point 4 none 2 46 (wC ad cA σ) (wC ad cA σF) [.ref (ad 0), .int x1, .int x2] (none) := by
  refine Ct.ofW (by decide) (Nat.le_of_ble_eq_true rfl) ?_
  intro p e s m below meth c A args CF hr hlk hA hP hK hD hN hW hS ls hl
  have hx := CF.1
  have hb := CF.2.1
  have hml := CF.2.2.1
  have hown := CF.2.2.2.1
  have hw : ∀ w ∈ wsA, w.before args s = true := fun w h => CF.2.2.2.2 w (List.mem_cons_of_mem _ h)
  have hl : lv_has ls 4 [(0, .ref (ad 0)), (1, .int x1), (2, .int x2)] := hl
  unfold fX5_point at hf
  have J10 : ∀ (σ : SC) (x1 : Int32) (z0 : Int32) (H : Heap) (locs : List Loc) (ls : Array Slot), va_P D vwCl (wC ad cA σ) H → va_D A (wC ad cA σ) → va_S A s.heap H locs → lv_has ls 4 [(0, .ref (ad 0)), (1, .int x1)] → fX5_point_10 N σ x1 z0 = some σF → G p l e 2 46 s m args below meth c D A (wC ad cA σF) (none) H locs (F0 m 10 ls [.int z0]) := by
    intro σ x1 z0 H locs ls hP hD hS hl hf
    unfold fX5_point_10 at hf
    refine lv_istore_n (pc := 10) (lv' := [(3, .int z0), (0, .ref (ad 0)), (1, .int x1)]) hx hb dX5_point_10 rfl hl (by decide) rfl (fun ls hl => ?_)
    refine lv_aload_n (pc := 11) hx hb dX5_point_11 rfl (lv_at hl 1 rfl) ?_
    refine gc_0_now (pc := 12) CF hK hP mF_X5_26 dX5_point_12 ?_
    refine lv_iload_n (pc := 15) hx hb dX5_point_15 rfl (lv_at hl 2 rfl) ?_
    refine lv_iload_n (pc := 16) hx hb dX5_point_16 rfl (lv_at hl 0 rfl) ?_
    refine lv_aload_n (pc := 17) hx hb dX5_point_17 rfl (lv_at hl 1 rfl) ?_
    refine gc_0_ground (pc := 18) CF hK hP mF_X5_19 dX5_point_18 ?_
    refine lv_iload_n (pc := 21) hx hb dX5_point_21 rfl (lv_at hl 2 rfl) ?_
    refine lv_iload_n (pc := 22) hx hb dX5_point_22 rfl (lv_at hl 0 rfl) ?_
    obtain ⟨v23, h23, hf⟩ := zz_o hf
    refine cV (pc := 23) (rest := [.int z0, .int x1, .ref (ad 5)]) (st1 := [.int v23, .int z0, .int x1, .ref (ad 5)]) (q0 := 3) CF (tX0_listeners h23) hK hP hD hS hA hN hW mL_X5_123 kX0_listeners nX0_listeners rfl rfl rfl rfl ⟨by decide, by decide⟩ hl.1 (Nat.le_of_ble_eq_true rfl) ⟨Nat.le_refl _, Nat.le_refl _⟩ rfl dX5_point_23 (fun H locs hP hD hS => ?_)
    obtain ⟨σ26, h26, hf⟩ := zz_o hf
    refine cV (pc := 26) (rest := []) (st1 := []) (q0 := 5) CF (tX2_setNext h26) hK hP hD hS hA hN hW mL_X5_127 kX2_setNext nX2_setNext rfl rfl rfl rfl ⟨by decide, by decide⟩ hl.1 (Nat.le_of_ble_eq_true rfl) ⟨Nat.le_refl _, Nat.le_refl _⟩ rfl dX5_point_26 (fun H locs hP hD hS => ?_)
    exact retVw (wf := wC ad cA) hx hb hr hlk hf hP hD hS dX5_point_29
  refine lv_iload_n (pc := 0) hx hb dX5_point_0 rfl (lv_at hl 2 rfl) ?_
  refine lv_iload_n (pc := 1) hx hb dX5_point_1 rfl (lv_at hl 1 rfl) ?_
  refine lv_icmp_ne (pc := 2) (tgt := 9) hx hb dX5_point_2 (by decide) (fun c2 => ?_) (fun c2 => ?_)
  · have hf := zz_f c2 hf
    refine lv_iload_n (pc := 9) hx hb dX5_point_9 rfl (lv_at hl 2 rfl) ?_
    exact J10 σ x1 x2 _ _ _ hP hD hS (lv_sub hl [0, 1] rfl) hf
  · have hf := zz_t c2 hf
    refine lv_iconst (pc := 5) (v := (-1)) hx hb dX5_point_5 (by decide) ?_
    refine lv_goto (pc := 6) (tgt := 10) hx hb dX5_point_6 (by decide) ?_
    exact J10 σ x1 (-1) _ _ _ hP hD hS (lv_sub hl [0, 1] rfl) hf
set_option maxHeartbeats 4000000 in
set_option maxRecDepth 100000 in
theorem tX5_hill {l : Launch} {kv : Nat × Nat} {D : va_G} {N : Nat} {ad : Nat → Nat} {cA : ClassId} {σ : SC} {rF : Int32} {σF : SC} (hf : fX5_hill N σ = some (rF, σF)) : Ct l kv D [(cA, .int)] yX5_hill cX5_hill 3 (some .int) 8 175 (wC ad cA σ) (wC ad cA σF) [.ref (ad 0)] (some (.int rF)) := by
  refine Ct.ofW (by decide) (Nat.le_of_ble_eq_true rfl) ?_
  intro p e s m below meth c A args CF hr hlk hA hP hK hD hN hW hS ls hl
  have hx := CF.1
  have hb := CF.2.1
  have hml := CF.2.2.1
  have hown := CF.2.2.2.1
  have hw : ∀ w ∈ wsA, w.before args s = true := fun w h => CF.2.2.2.2 w (List.mem_cons_of_mem _ h)
  have hl : lv_has ls 3 [(0, .ref (ad 0))] := hl
  unfold fX5_hill at hf
  have L33 : ∀ (n33 : Nat) (σ : SC) (x1 : Int32) (H : Heap) (locs : List Loc) (ls : Array Slot), va_P D vwCl (wC ad cA σ) H → va_D A (wC ad cA σ) → va_S A s.heap H locs → lv_has ls 3 [(0, .ref (ad 0)), (1, .int x1)] → fX5_hill_33 N n33 σ x1 = some (rF, σF) → G p l e 8 175 s m args below meth c D A (wC ad cA σF) (some (.int rF)) H locs (F0 m 33 ls []) := by
    intro n33
    induction n33 with
    | zero => intro σ x1 H locs ls hP hD hS hl hf; exact absurd hf (by simp [fX5_hill_33])
    | succ n33 ih33 =>
      have J71 : ∀ (σ : SC) (x1 : Int32) (z0 : Int32) (z1 : Int32) (H : Heap) (locs : List Loc) (ls : Array Slot), va_P D vwCl (wC ad cA σ) H → va_D A (wC ad cA σ) → va_S A s.heap H locs → lv_has ls 3 [(0, .ref (ad 0)), (1, .int x1)] → fX5_hill_71 N (fX5_hill_33 N n33) σ x1 z0 z1 = some (rF, σF) → G p l e 8 175 s m args below meth c D A (wC ad cA σF) (some (.int rF)) H locs (F0 m 71 ls [.int z0, .int z1, .ref (ad 0)]) := by
        intro σ x1 z0 z1 H locs ls hP hD hS hl hf
        unfold fX5_hill_71 at hf
        obtain ⟨σ71, h71, hf⟩ := zz_o hf
        refine cV (pc := 71) (rest := []) (st1 := []) (q0 := 0) CF (tX5_point h71) hK hP hD hS hA hN hW mL_X5_94 kX5_point nX5_point rfl rfl rfl rfl ⟨by decide, by decide⟩ hl.1 (Nat.le_of_ble_eq_true rfl) ⟨Nat.le_refl _, Nat.le_refl _⟩ rfl dX5_hill_71 (fun H locs hP hD hS => ?_)
        refine lv_iinc (pc := 74) (v := (x1 + 1)) (lv' := [(1, .int (x1 + 1)), (0, .ref (ad 0))]) hx hb dX5_hill_74 hl (k := 1) rfl rfl (by decide) rfl (fun ls hl => ?_)
        refine lv_goto (pc := 77) (tgt := 33) hx hb dX5_hill_77 (by decide) ?_
        exact ih33 σ71 (x1 + 1) _ _ _ hP hD hS (lv_sub hl [1, 0] rfl) hf
      intro σ x1 H locs ls hP hD hS hl hf
      rw [fX5_hill_33] at hf
      refine lv_iload_n (pc := 33) hx hb dX5_hill_33 rfl (lv_at hl 1 rfl) ?_
      refine lv_aload_n (pc := 34) hx hb dX5_hill_34 rfl (lv_at hl 0 rfl) ?_
      refine gc_0_ground (pc := 35) CF hK hP mF_X5_19 dX5_hill_35 ?_
      refine gcN_3_people (pc := 38) CF hK hP hN (nf 3) dX5_hill_38 ?_
      refine lv_icmp_ge (pc := 41) (tgt := 80) hx hb dX5_hill_41 (by decide) (fun c41 => ?_) (fun c41 => ?_)
      · have hf := zz_t c41 hf
        refine lv_aload_n (pc := 80) hx hb dX5_hill_80 rfl (lv_at hl 0 rfl) ?_
        refine lv_iconst (pc := 81) (v := 0) hx hb dX5_hill_81 (by decide) ?_
        refine pc_0_hasImage (pc := 82) CF hK hP hD hS ⟨rfl, rfl⟩ mF_X5_51 dX5_hill_82 (fun H locs hP hD hS => ?_)
        obtain ⟨σ82, hP, hD, hf⟩ := zz_g (w := wC ad cA) hP hD hf
        refine lv_aload_n (pc := 85) hx hb dX5_hill_85 rfl (lv_at hl 0 rfl) ?_
        refine lv_dup (pc := 86) hx hb dX5_hill_86 rfl ?_
        refine gc_0_readings (pc := 87) CF hK hP mF_X5_55 dX5_hill_87 ?_
        refine lv_iconst (pc := 90) (v := 1) hx hb dX5_hill_90 (by decide) ?_
        refine lv_iadd (pc := 91) hx hb dX5_hill_91 ?_
        refine pc_0_readings (pc := 92) CF hK hP hD hS mF_X5_55 dX5_hill_92 (fun H locs hP hD hS => ?_)
        obtain ⟨σ92, hP, hD, hf⟩ := zz_g (w := wC ad cA) hP hD hf
        refine lv_aload_n (pc := 95) hx hb dX5_hill_95 rfl (lv_at hl 0 rfl) ?_
        refine gc_0_page (pc := 96) CF hK hP mF_X5_10 dX5_hill_96 ?_
        obtain ⟨σ99, h99, hf⟩ := zz_o hf
        refine cV (pc := 99) (rest := []) (st1 := []) (q0 := 1) CF (tX1_clear h99) hK hP hD hS hA hN hW mL_X5_66 kX1_clear nX1_clear rfl rfl rfl rfl ⟨by decide, by decide⟩ hl.1 (Nat.le_of_ble_eq_true rfl) ⟨Nat.le_refl _, Nat.le_refl _⟩ rfl dX5_hill_99 (fun H locs hP hD hS => ?_)
        refine lv_aload_n (pc := 102) hx hb dX5_hill_102 rfl (lv_at hl 0 rfl) ?_
        refine gc_0_ground (pc := 103) CF hK hP mF_X5_19 dX5_hill_103 ?_
        refine gcN_3_people (pc := 106) CF hK hP hN (nf 3) dX5_hill_106 ?_
        exact retIw (wf := wC ad cA) hx hb hr hlk hf hP hD hS dX5_hill_109
      · have hf := zz_f c41 hf
        refine lv_aload_n (pc := 44) hx hb dX5_hill_44 rfl (lv_at hl 0 rfl) ?_
        refine gc_0_page (pc := 45) CF hK hP mF_X5_10 dX5_hill_45 ?_
        refine lv_iload_n (pc := 48) hx hb dX5_hill_48 rfl (lv_at hl 1 rfl) ?_
        obtain ⟨v49, h49, hf⟩ := zz_o hf
        refine cV (pc := 49) (rest := []) (st1 := [.int v49]) (q0 := 1) CF (tX1_nextWritten h49) hK hP hD hS hA hN hW mL_X5_87 kX1_nextWritten nX1_nextWritten rfl rfl rfl rfl ⟨by decide, by decide⟩ hl.1 (Nat.le_of_ble_eq_true rfl) ⟨Nat.le_refl _, Nat.le_refl _⟩ rfl dX5_hill_49 (fun H locs hP hD hS => ?_)
        refine lv_istore_n (pc := 52) (lv' := [(2, .int v49), (0, .ref (ad 0)), (1, .int x1)]) hx hb dX5_hill_52 rfl hl (by decide) rfl (fun ls hl => ?_)
        refine lv_aload_n (pc := 53) hx hb dX5_hill_53 rfl (lv_at hl 1 rfl) ?_
        refine lv_iload_n (pc := 54) hx hb dX5_hill_54 rfl (lv_at hl 2 rfl) ?_
        refine lv_aload_n (pc := 55) hx hb dX5_hill_55 rfl (lv_at hl 1 rfl) ?_
        refine gc_0_ground (pc := 56) CF hK hP mF_X5_19 dX5_hill_56 ?_
        refine lv_iload_n (pc := 59) hx hb dX5_hill_59 rfl (lv_at hl 0 rfl) ?_
        obtain ⟨v60, h60, hf⟩ := zz_o hf
        refine cV (pc := 60) (rest := [.int x1, .ref (ad 0)]) (st1 := [.int v60, .int x1, .ref (ad 0)]) (q0 := 3) CF (tX0_has h60) hK hP hD hS hA hN hW mL_X5_91 kX0_has nX0_has rfl rfl rfl rfl ⟨by decide, by decide⟩ hl.1 (Nat.le_of_ble_eq_true rfl) ⟨Nat.le_refl _, Nat.le_refl _⟩ rfl dX5_hill_60 (fun H locs hP hD hS => ?_)
        refine lv_if_eq (pc := 63) (tgt := 70) hx hb dX5_hill_63 (by decide) (fun c63 => ?_) (fun c63 => ?_)
        · have hf := zz_t c63 hf
          refine lv_iconst (pc := 70) (v := (-1)) hx hb dX5_hill_70 (by decide) ?_
          exact J71 σ x1 (-1) x1 _ _ _ hP hD hS (lv_sub hl [1, 2] rfl) hf
        · have hf := zz_f c63 hf
          refine lv_iload_n (pc := 66) hx hb dX5_hill_66 rfl (lv_at hl 0 rfl) ?_
          refine lv_goto (pc := 67) (tgt := 71) hx hb dX5_hill_67 (by decide) ?_
          exact J71 σ x1 v49 x1 _ _ _ hP hD hS (lv_sub hl [1, 2] rfl) hf
  refine lv_aload_n (pc := 0) hx hb dX5_hill_0 rfl (lv_at hl 0 rfl) ?_
  refine gc_0_page (pc := 1) CF hK hP mF_X5_10 dX5_hill_1 ?_
  obtain ⟨v4, h4, hf⟩ := zz_o hf
  refine cV (pc := 4) (rest := []) (st1 := [.int v4]) (q0 := 1) CF (tX1_isHill h4) hK hP hD hS hA hN hW mL_X5_73 kX1_isHill nX1_isHill rfl rfl rfl rfl ⟨by decide, by decide⟩ hl.1 (Nat.le_of_ble_eq_true rfl) ⟨Nat.le_refl _, Nat.le_refl _⟩ rfl dX5_hill_4 (fun H locs hP hD hS => ?_)
  refine lv_if_ne (pc := 7) (tgt := 13) hx hb dX5_hill_7 (by decide) (fun c7 => ?_) (fun c7 => ?_)
  · have hf := zz_f c7 hf
    refine lv_aload_n (pc := 13) hx hb dX5_hill_13 rfl (lv_at hl 0 rfl) ?_
    refine gc_0_ground (pc := 14) CF hK hP mF_X5_19 dX5_hill_14 ?_
    refine lv_aload_n (pc := 17) hx hb dX5_hill_17 rfl (lv_at hl 0 rfl) ?_
    refine gc_0_page (pc := 18) CF hK hP mF_X5_10 dX5_hill_18 ?_
    obtain ⟨σ21, h21, hf⟩ := zz_o hf
    refine cV (pc := 21) (rest := []) (st1 := []) (q0 := 3) CF (tX0_read h21) hK hP hD hS hA hN hW mL_X5_77 kX0_read nX0_read rfl rfl rfl rfl ⟨by decide, by decide⟩ hl.1 (Nat.le_of_ble_eq_true rfl) ⟨Nat.le_refl _, Nat.le_refl _⟩ rfl dX5_hill_21 (fun H locs hP hD hS => ?_)
    refine lv_aload_n (pc := 24) hx hb dX5_hill_24 rfl (lv_at hl 0 rfl) ?_
    refine gc_0_now (pc := 25) CF hK hP mF_X5_26 dX5_hill_25 ?_
    obtain ⟨σ28, h28, hf⟩ := zz_o hf
    refine cV (pc := 28) (rest := []) (st1 := []) (q0 := 5) CF (tX2_begin h28) hK hP hD hS hA hN hW mL_X5_81 kX2_begin nX2_begin rfl rfl rfl rfl ⟨by decide, by decide⟩ hl.1 (Nat.le_of_ble_eq_true rfl) ⟨Nat.le_refl _, Nat.le_refl _⟩ rfl dX5_hill_28 (fun H locs hP hD hS => ?_)
    refine lv_iconst (pc := 31) (v := 0) hx hb dX5_hill_31 (by decide) ?_
    refine lv_istore_n (pc := 32) (lv' := [(1, .int 0), (0, .ref (ad 0))]) hx hb dX5_hill_32 rfl hl (by decide) rfl (fun ls hl => ?_)
    exact L33 N σ28 0 _ _ _ hP hD hS (lv_sub hl [1, 0] rfl) hf
  · have hf := zz_t c7 hf
    refine lv_bipush (pc := 10) (v := (-103)) hx hb dX5_hill_10 (by decide) ?_
    exact retIw (wf := wC ad cA) hx hb hr hlk hf hP hD hS dX5_hill_12
set_option maxHeartbeats 4000000 in
set_option maxRecDepth 100000 in
theorem tX2_nextOf {l : Launch} {kv : Nat × Nat} {D : va_G} {N : Nat} {ad : Nat → Nat} {cA : ClassId} {σ : SC} {x1 : Int32} {rF : Int32} (hf : fX2_nextOf N σ x1 = some rF) : Ct l kv D [(cA, .int)] yX2_nextOf cX2_nextOf 2 (some .int) 0 0 (wC ad cA σ) (wC ad cA σ) [.ref (ad 5), .int x1] (some (.int rF)) := by
  refine Ct.ofW (by decide) (Nat.le_of_ble_eq_true rfl) ?_
  intro p e s m below meth c A args CF hr hlk hA hP hK hD hN hW hS ls hl
  have hx := CF.1
  have hb := CF.2.1
  have hml := CF.2.2.1
  have hown := CF.2.2.2.1
  have hw : ∀ w ∈ wsA, w.before args s = true := fun w h => CF.2.2.2.2 w (List.mem_cons_of_mem _ h)
  have hl : lv_has ls 2 [(0, .ref (ad 5)), (1, .int x1)] := hl
  unfold fX2_nextOf at hf
  refine lv_iload_n (pc := 0) hx hb dX2_nextOf_0 rfl (lv_at hl 1 rfl) ?_
  refine lv_if_lt (pc := 1) (tgt := 22) hx hb dX2_nextOf_1 (by decide) (fun c1 => ?_) (fun c1 => ?_)
  · have hf := zz_t c1 hf
    refine lv_iconst (pc := 22) (v := (-1)) hx hb dX2_nextOf_22 (by decide) ?_
    exact retI hx hb hr hlk hf hP hD hS dX2_nextOf_23
  · have hf := zz_f c1 hf
    refine lv_iload_n (pc := 4) hx hb dX2_nextOf_4 rfl (lv_at hl 1 rfl) ?_
    refine lv_aload_n (pc := 5) hx hb dX2_nextOf_5 rfl (lv_at hl 0 rfl) ?_
    refine gc_5_nexts (pc := 6) CF hK hP mF_X2_9 dX2_nextOf_6 ?_
    refine nc_nexts (pc := 9) hx hb hK hP dX2_nextOf_9 ?_
    refine lv_icmp_ge (pc := 10) (tgt := 22) hx hb dX2_nextOf_10 (by decide) (fun c10 => ?_) (fun c10 => ?_)
    · have hf := zz_t c10 hf
      refine lv_iconst (pc := 22) (v := (-1)) hx hb dX2_nextOf_22 (by decide) ?_
      exact retI hx hb hr hlk hf hP hD hS dX2_nextOf_23
    · have hf := zz_f c10 hf
      refine lv_aload_n (pc := 13) hx hb dX2_nextOf_13 rfl (lv_at hl 0 rfl) ?_
      refine gc_5_nexts (pc := 14) CF hK hP mF_X2_9 dX2_nextOf_14 ?_
      refine lv_iload_n (pc := 17) hx hb dX2_nextOf_17 rfl (lv_at hl 1 rfl) ?_
      obtain ⟨c18, hf⟩ := zz_k hf
      refine lc_nexts (pc := 18) hx hb hK hP c18 dX2_nextOf_18 ?_
      refine lv_goto (pc := 19) (tgt := 23) hx hb dX2_nextOf_19 (by decide) ?_
      exact retI hx hb hr hlk hf hP hD hS dX2_nextOf_23
set_option maxHeartbeats 4000000 in
set_option maxRecDepth 100000 in
theorem tX2_listenersOf {l : Launch} {kv : Nat × Nat} {D : va_G} {N : Nat} {ad : Nat → Nat} {cA : ClassId} {σ : SC} {x1 : Int32} {rF : Int32} (hf : fX2_listenersOf N σ x1 = some rF) : Ct l kv D [(cA, .int)] yX2_listenersOf cX2_listenersOf 2 (some .int) 0 0 (wC ad cA σ) (wC ad cA σ) [.ref (ad 5), .int x1] (some (.int rF)) := by
  refine Ct.ofW (by decide) (Nat.le_of_ble_eq_true rfl) ?_
  intro p e s m below meth c A args CF hr hlk hA hP hK hD hN hW hS ls hl
  have hx := CF.1
  have hb := CF.2.1
  have hml := CF.2.2.1
  have hown := CF.2.2.2.1
  have hw : ∀ w ∈ wsA, w.before args s = true := fun w h => CF.2.2.2.2 w (List.mem_cons_of_mem _ h)
  have hl : lv_has ls 2 [(0, .ref (ad 5)), (1, .int x1)] := hl
  unfold fX2_listenersOf at hf
  refine lv_iload_n (pc := 0) hx hb dX2_listenersOf_0 rfl (lv_at hl 1 rfl) ?_
  refine lv_if_lt (pc := 1) (tgt := 22) hx hb dX2_listenersOf_1 (by decide) (fun c1 => ?_) (fun c1 => ?_)
  · have hf := zz_t c1 hf
    refine lv_iconst (pc := 22) (v := 0) hx hb dX2_listenersOf_22 (by decide) ?_
    exact retI hx hb hr hlk hf hP hD hS dX2_listenersOf_23
  · have hf := zz_f c1 hf
    refine lv_iload_n (pc := 4) hx hb dX2_listenersOf_4 rfl (lv_at hl 1 rfl) ?_
    refine lv_aload_n (pc := 5) hx hb dX2_listenersOf_5 rfl (lv_at hl 0 rfl) ?_
    refine gc_5_listeners (pc := 6) CF hK hP mF_X2_15 dX2_listenersOf_6 ?_
    refine nc_lsts (pc := 9) hx hb hK hP dX2_listenersOf_9 ?_
    refine lv_icmp_ge (pc := 10) (tgt := 22) hx hb dX2_listenersOf_10 (by decide) (fun c10 => ?_) (fun c10 => ?_)
    · have hf := zz_t c10 hf
      refine lv_iconst (pc := 22) (v := 0) hx hb dX2_listenersOf_22 (by decide) ?_
      exact retI hx hb hr hlk hf hP hD hS dX2_listenersOf_23
    · have hf := zz_f c10 hf
      refine lv_aload_n (pc := 13) hx hb dX2_listenersOf_13 rfl (lv_at hl 0 rfl) ?_
      refine gc_5_listeners (pc := 14) CF hK hP mF_X2_15 dX2_listenersOf_14 ?_
      refine lv_iload_n (pc := 17) hx hb dX2_listenersOf_17 rfl (lv_at hl 1 rfl) ?_
      obtain ⟨c18, hf⟩ := zz_k hf
      refine lc_lsts (pc := 18) hx hb hK hP c18 dX2_listenersOf_18 ?_
      refine lv_goto (pc := 19) (tgt := 23) hx hb dX2_listenersOf_19 (by decide) ?_
      exact retI hx hb hr hlk hf hP hD hS dX2_listenersOf_23
set_option maxHeartbeats 4000000 in
set_option maxRecDepth 100000 in
theorem tX5_isIn {l : Launch} {kv : Nat × Nat} {D : va_G} {N : Nat} {tys : List (ClassId × FieldType)} {ws : va_W} {x0 : Int32} {x1 : Int32} {rF : Int32} (hf : fX5_isIn N x0 x1 = some rF) : Ct l kv D tys yX5_isIn cX5_isIn 2 (some .boolean) 0 0 ws ws [.int x0, .int x1] (some (.int rF)) := by
  refine Ct.ofW (by decide) (Nat.le_of_ble_eq_true rfl) ?_
  intro p e s m below meth c A args CF hr hlk hA hP hK hD hN hW hS ls hl
  have hx := CF.1
  have hb := CF.2.1
  have hml := CF.2.2.1
  have hown := CF.2.2.2.1
  have hw : ∀ w ∈ wsA, w.before args s = true := fun w h => CF.2.2.2.2 w (List.mem_cons_of_mem _ h)
  have hl : lv_has ls 2 [(0, .int x0), (1, .int x1)] := hl
  unfold fX5_isIn at hf
  refine lv_iload_n (pc := 0) hx hb dX5_isIn_0 rfl (lv_at hl 1 rfl) ?_
  refine lv_iload_n (pc := 1) hx hb dX5_isIn_1 rfl (lv_at hl 0 rfl) ?_
  refine lv_ishr (pc := 2) hx hb dX5_isIn_2 ?_
  refine lv_iconst (pc := 3) (v := 1) hx hb dX5_isIn_3 (by decide) ?_
  refine lv_iand (pc := 4) hx hb dX5_isIn_4 ?_
  refine lv_if_eq (pc := 5) (tgt := 12) hx hb dX5_isIn_5 (by decide) (fun c5 => ?_) (fun c5 => ?_)
  · have hf := zz_t c5 hf
    refine lv_iconst (pc := 12) (v := 0) hx hb dX5_isIn_12 (by decide) ?_
    exact retZ hx hb hr hlk rfl hf hP hD hS dX5_isIn_13
  · have hf := zz_f c5 hf
    refine lv_iconst (pc := 8) (v := 1) hx hb dX5_isIn_8 (by decide) ?_
    refine lv_goto (pc := 9) (tgt := 13) hx hb dX5_isIn_9 (by decide) ?_
    exact retZ hx hb hr hlk rfl hf hP hD hS dX5_isIn_13
