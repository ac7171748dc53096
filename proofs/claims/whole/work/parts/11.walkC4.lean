set_option maxHeartbeats 4000000 in
set_option maxRecDepth 100000 in
theorem tX5_forget {l : Launch} {kv : Nat × Nat} {D : va_G} {N : Nat} {ad : Nat → Nat} {cA : ClassId} {σ : SC} {rF : Int32} {σF : SC} (hf : fX5_forget N σ = some (rF, σF)) : Ct l kv D [(cA, .int)] yX5_forget cX5_forget 2 (some .int) 0 0 (wC ad cA σ) (wC ad cA σF) [.ref (ad 0)] (some (.int rF)) := by
  refine Ct.ofW (by decide) (Nat.le_of_ble_eq_true rfl) ?_
  intro p e s m below meth c A args CF hr hlk hA hP hK hD hN hW hS ls hl
  have hx := CF.1
  have hb := CF.2.1
  have hml := CF.2.2.1
  have hown := CF.2.2.2.1
  have hw : ∀ w ∈ wsA, w.before args s = true := fun w h => CF.2.2.2.2 w (List.mem_cons_of_mem _ h)
  have hl : lv_has ls 2 [(0, .ref (ad 0))] := hl
  unfold fX5_forget at hf
  refine lv_aload_n (pc := 0) hx hb dX5_forget_0 rfl (lv_at hl 0 rfl) ?_
  refine gc_0_now (pc := 1) CF hK hP mF_X5_26 dX5_forget_1 ?_
  refine gcN_5_asked (pc := 4) CF hK hP hN (nf 11) dX5_forget_4 ?_
  refine lv_istore_n (pc := 7) (lv' := [(1, .int (c_asked σ)), (0, .ref (ad 0))]) hx hb dX5_forget_7 rfl hl (by decide) rfl (fun ls hl => ?_)
  refine lv_aload_n (pc := 8) hx hb dX5_forget_8 rfl (lv_at hl 1 rfl) ?_
  refine gc_0_now (pc := 9) CF hK hP mF_X5_26 dX5_forget_9 ?_
  refine lv_iconst (pc := 12) (v := 0) hx hb dX5_forget_12 (by decide) ?_
  refine pcN_5_asked (pc := 13) CF hK hP hD hS hN (nf 11) dX5_forget_13 (fun H locs hP hD hS => ?_)
  obtain ⟨σ13, hP, hD, hf⟩ := zz_g (w := wC ad cA) hP hD hf
  refine lv_iload_n (pc := 16) hx hb dX5_forget_16 rfl (lv_at hl 0 rfl) ?_
  exact retIw (wf := wC ad cA) hx hb hr hlk hf hP hD hS dX5_forget_17
set_option maxHeartbeats 4000000 in
set_option maxRecDepth 100000 in
theorem tX3_agrees {l : Launch} {kv : Nat × Nat} {D : va_G} {N : Nat} {ad : Nat → Nat} {cA : ClassId} {σ : SC} {x1 : Int32} {rF : Int32} (hf : fX3_agrees N σ x1 = some rF) : Ct l kv D [(cA, .int)] yX3_agrees cX3_agrees 3 (some .boolean) 3 70 (wC ad cA σ) (wC ad cA σ) [.ref (ad 22), .int x1] (some (.int rF)) := by
  refine Ct.ofW (by decide) (Nat.le_of_ble_eq_true rfl) ?_
  intro p e s m below meth c A args CF hr hlk hA hP hK hD hN hW hS ls hl
  have hx := CF.1
  have hb := CF.2.1
  have hml := CF.2.2.1
  have hown := CF.2.2.2.1
  have hw : ∀ w ∈ wsA, w.before args s = true := fun w h => CF.2.2.2.2 w (List.mem_cons_of_mem _ h)
  have hl : lv_has ls 3 [(0, .ref (ad 22)), (1, .int x1)] := hl
  unfold fX3_agrees at hf
  have L2 : ∀ (n2 : Nat) (x1 : Int32) (x2 : Int32) (H : Heap) (locs : List Loc) (ls : Array Slot), va_P D vwCl (wC ad cA σ) H → va_D A (wC ad cA σ) → va_S A s.heap H locs → lv_has ls 3 [(0, .ref (ad 22)), (1, .int x1), (2, .int x2)] → fX3_agrees_2 N n2 σ x1 x2 = some rF → G p l e 3 70 s m args below meth c D A (wC ad cA σ) (some (.int rF)) H locs (F0 m 2 ls []) := by
    intro n2
    induction n2 with
    | zero => intro x1 x2 H locs ls hP hD hS hl hf; exact absurd hf (by simp [fX3_agrees_2])
    | succ n2 ih2 =>
      intro x1 x2 H locs ls hP hD hS hl hf
      rw [fX3_agrees_2] at hf
      refine lv_iload_n (pc := 2) hx hb dX3_agrees_2 rfl (lv_at hl 2 rfl) ?_
      refine lv_aload_n (pc := 3) hx hb dX3_agrees_3 rfl (lv_at hl 0 rfl) ?_
      refine gc_22_past (pc := 4) CF hK hP mF_X3_15 dX3_agrees_4 ?_
      refine gcN_5_asked (pc := 7) CF hK hP hN (nf 10) dX3_agrees_7 ?_
      refine lv_icmp_ge (pc := 10) (tgt := 56) hx hb dX3_agrees_10 (by decide) (fun c10 => ?_) (fun c10 => ?_)
      · have hf := zz_t c10 hf
        refine lv_iconst (pc := 56) (v := 1) hx hb dX3_agrees_56 (by decide) ?_
        exact retZ hx hb hr hlk rfl hf hP hD hS dX3_agrees_57
      · have hf := zz_f c10 hf
        refine lv_iload_n (pc := 13) hx hb dX3_agrees_13 rfl (lv_at hl 2 rfl) ?_
        refine lv_bipush (pc := 14) (v := 8) hx hb dX3_agrees_14 (by decide) ?_
        refine lv_icmp_ge (pc := 16) (tgt := 56) hx hb dX3_agrees_16 (by decide) (fun c16 => ?_) (fun c16 => ?_)
        · have hf := zz_t c16 hf
          refine lv_iconst (pc := 56) (v := 1) hx hb dX3_agrees_56 (by decide) ?_
          exact retZ hx hb hr hlk rfl hf hP hD hS dX3_agrees_57
        · have hf := zz_f c16 hf
          refine lv_aload_n (pc := 19) hx hb dX3_agrees_19 rfl (lv_at hl 0 rfl) ?_
          refine gc_22_talk (pc := 20) CF hK hP mF_X3_19 dX3_agrees_20 ?_
          refine lv_iload_n (pc := 23) hx hb dX3_agrees_23 rfl (lv_at hl 1 rfl) ?_
          refine lv_aload_n (pc := 24) hx hb dX3_agrees_24 rfl (lv_at hl 0 rfl) ?_
          refine gc_22_past (pc := 25) CF hK hP mF_X3_15 dX3_agrees_25 ?_
          refine gcN_5_askedWhom (pc := 28) CF hK hP hN (nf 8) dX3_agrees_28 ?_
          refine lv_iload_n (pc := 31) hx hb dX3_agrees_31 rfl (lv_at hl 2 rfl) ?_
          obtain ⟨c32, hf⟩ := zz_k hf
          refine lc_whom (pc := 32) hx hb hK hP c32 dX3_agrees_32 ?_
          obtain ⟨v33, h33, hf⟩ := zz_o hf
          refine cV (pc := 33) (rest := []) (st1 := [.int v33]) (q0 := 21) CF (tX4_dayHeard h33) hK hP hD hS hA hN hW mL_X3_49 kX4_dayHeard nX4_dayHeard rfl rfl rfl rfl ⟨by decide, by decide⟩ hl.1 (Nat.le_of_ble_eq_true rfl) ⟨Nat.le_refl _, Nat.le_refl _⟩ rfl dX3_agrees_33 (fun H locs hP hD hS => ?_)
          refine lv_aload_n (pc := 36) hx hb dX3_agrees_36 rfl (lv_at hl 0 rfl) ?_
          refine gc_22_past (pc := 37) CF hK hP mF_X3_15 dX3_agrees_37 ?_
          refine gcN_5_askedDay (pc := 40) CF hK hP hN (nf 9) dX3_agrees_40 ?_
          refine lv_iload_n (pc := 43) hx hb dX3_agrees_43 rfl (lv_at hl 2 rfl) ?_
          obtain ⟨c44, hf⟩ := zz_k hf
          refine lc_wday (pc := 44) hx hb hK hP c44 dX3_agrees_44 ?_
          refine lv_icmp_eq (pc := 45) (tgt := 50) hx hb dX3_agrees_45 (by decide) (fun c45 => ?_) (fun c45 => ?_)
          · have hf := zz_t c45 hf
            refine lv_iinc (pc := 50) (v := (x2 + 1)) (lv' := [(2, .int (x2 + 1)), (0, .ref (ad 22)), (1, .int x1)]) hx hb dX3_agrees_50 hl (k := 2) rfl rfl (by decide) rfl (fun ls hl => ?_)
            refine lv_goto (pc := 53) (tgt := 2) hx hb dX3_agrees_53 (by decide) ?_
            exact ih2 x1 (x2 + 1) _ _ _ hP hD hS (lv_sub hl [1, 2, 0] rfl) hf
          · have hf := zz_f c45 hf
            refine lv_iconst (pc := 48) (v := 0) hx hb dX3_agrees_48 (by decide) ?_
            exact retZ hx hb hr hlk rfl hf hP hD hS dX3_agrees_49
  refine lv_iconst (pc := 0) (v := 0) hx hb dX3_agrees_0 (by decide) ?_
  refine lv_istore_n (pc := 1) (lv' := [(2, .int 0), (0, .ref (ad 22)), (1, .int x1)]) hx hb dX3_agrees_1 rfl hl (by decide) rfl (fun ls hl => ?_)
  exact L2 N x1 0 _ _ _ hP hD hS (lv_sub hl [1, 2, 0] rfl) hf
set_option maxHeartbeats 4000000 in
set_option maxRecDepth 100000 in
theorem tX3_beginners {l : Launch} {kv : Nat × Nat} {D : va_G} {N : Nat} {ad : Nat → Nat} {cA : ClassId} {σ : SC} {rF : Int32} (hf : fX3_beginners N σ = some rF) : Ct l kv D [(cA, .int)] yX3_beginners cX3_beginners 3 (some .int) 4 92 (wC ad cA σ) (wC ad cA σ) [.ref (ad 22)] (some (.int rF)) := by
  refine Ct.ofW (by decide) (Nat.le_of_ble_eq_true rfl) ?_
  intro p e s m below meth c A args CF hr hlk hA hP hK hD hN hW hS ls hl
  have hx := CF.1
  have hb := CF.2.1
  have hml := CF.2.2.1
  have hown := CF.2.2.2.1
  have hw : ∀ w ∈ wsA, w.before args s = true := fun w h => CF.2.2.2.2 w (List.mem_cons_of_mem _ h)
  have hl : lv_has ls 3 [(0, .ref (ad 22))] := hl
  unfold fX3_beginners at hf
  have L4 : ∀ (n4 : Nat) (x1 : Int32) (x2 : Int32) (H : Heap) (locs : List Loc) (ls : Array Slot), va_P D vwCl (wC ad cA σ) H → va_D A (wC ad cA σ) → va_S A s.heap H locs → lv_has ls 3 [(0, .ref (ad 22)), (1, .int x1), (2, .int x2)] → fX3_beginners_4 N n4 σ x1 x2 = some rF → G p l e 4 92 s m args below meth c D A (wC ad cA σ) (some (.int rF)) H locs (F0 m 4 ls []) := by
    intro n4
    induction n4 with
    | zero => intro x1 x2 H locs ls hP hD hS hl hf; exact absurd hf (by simp [fX3_beginners_4])
    | succ n4 ih4 =>
      intro x1 x2 H locs ls hP hD hS hl hf
      rw [fX3_beginners_4] at hf
      refine lv_iload_n (pc := 4) hx hb dX3_beginners_4 rfl (lv_at hl 2 rfl) ?_
      refine lv_aload_n (pc := 5) hx hb dX3_beginners_5 rfl (lv_at hl 0 rfl) ?_
      refine gc_22_hill (pc := 6) CF hK hP mF_X3_9 dX3_beginners_6 ?_
      refine gcN_3_people (pc := 9) CF hK hP hN (nf 1) dX3_beginners_9 ?_
      refine lv_icmp_ge (pc := 12) (tgt := 35) hx hb dX3_beginners_12 (by decide) (fun c12 => ?_) (fun c12 => ?_)
      · have hf := zz_t c12 hf
        refine lv_iload_n (pc := 35) hx hb dX3_beginners_35 rfl (lv_at hl 1 rfl) ?_
        exact retI hx hb hr hlk hf hP hD hS dX3_beginners_36
      · have hf := zz_f c12 hf
        refine lv_aload_n (pc := 15) hx hb dX3_beginners_15 rfl (lv_at hl 0 rfl) ?_
        refine lv_iload_n (pc := 16) hx hb dX3_beginners_16 rfl (lv_at hl 2 rfl) ?_
        obtain ⟨v17, h17, hf⟩ := zz_o hf
        refine cV (pc := 17) (rest := []) (st1 := [.int v17]) (q0 := 22) CF (tX3_agrees h17) hK hP hD hS hA hN hW mL_X3_33 kX3_agrees nX3_agrees rfl rfl rfl rfl ⟨by decide, by decide⟩ hl.1 (Nat.le_of_ble_eq_true rfl) ⟨Nat.le_refl _, Nat.le_refl _⟩ rfl dX3_beginners_17 (fun H locs hP hD hS => ?_)
        refine lv_if_eq (pc := 20) (tgt := 29) hx hb dX3_beginners_20 (by decide) (fun c20 => ?_) (fun c20 => ?_)
        · have hf := zz_t c20 hf
          refine lv_iinc (pc := 29) (v := (x2 + 1)) (lv' := [(2, .int (x2 + 1)), (0, .ref (ad 22)), (1, .int x1)]) hx hb dX3_beginners_29 hl (k := 2) rfl rfl (by decide) rfl (fun ls hl => ?_)
          refine lv_goto (pc := 32) (tgt := 4) hx hb dX3_beginners_32 (by decide) ?_
          exact ih4 x1 (x2 + 1) _ _ _ hP hD hS (lv_sub hl [1, 2, 0] rfl) hf
        · have hf := zz_f c20 hf
          refine lv_iload_n (pc := 23) hx hb dX3_beginners_23 rfl (lv_at hl 1 rfl) ?_
          refine lv_iconst (pc := 24) (v := 1) hx hb dX3_beginners_24 (by decide) ?_
          refine lv_iload_n (pc := 25) hx hb dX3_beginners_25 rfl (lv_at hl 2 rfl) ?_
          refine lv_ishl (pc := 26) hx hb dX3_beginners_26 ?_
          refine lv_ior (pc := 27) hx hb dX3_beginners_27 ?_
          refine lv_istore_n (pc := 28) (lv' := [(1, .int (x1 ||| (1 <<< (x2 &&& 31)))), (0, .ref (ad 22)), (2, .int x2)]) hx hb dX3_beginners_28 rfl hl (by decide) rfl (fun ls hl => ?_)
          refine lv_iinc (pc := 29) (v := (x2 + 1)) (lv' := [(2, .int (x2 + 1)), (1, .int (x1 ||| (1 <<< (x2 &&& 31)))), (0, .ref (ad 22))]) hx hb dX3_beginners_29 hl (k := 2) rfl rfl (by decide) rfl (fun ls hl => ?_)
          refine lv_goto (pc := 32) (tgt := 4) hx hb dX3_beginners_32 (by decide) ?_
          exact ih4 (x1 ||| (1 <<< (x2 &&& 31))) (x2 + 1) _ _ _ hP hD hS (lv_sub hl [2, 1, 0] rfl) hf
  refine lv_iconst (pc := 0) (v := 0) hx hb dX3_beginners_0 (by decide) ?_
  refine lv_istore_n (pc := 1) (lv' := [(1, .int 0), (0, .ref (ad 22))]) hx hb dX3_beginners_1 rfl hl (by decide) rfl (fun ls hl => ?_)
  refine lv_iconst (pc := 2) (v := 0) hx hb dX3_beginners_2 (by decide) ?_
  refine lv_istore_n (pc := 3) (lv' := [(2, .int 0), (1, .int 0), (0, .ref (ad 22))]) hx hb dX3_beginners_3 rfl hl (by decide) rfl (fun ls hl => ?_)
  exact L4 N 0 0 _ _ _ hP hD hS (lv_sub hl [2, 1, 0] rfl) hf
set_option maxHeartbeats 4000000 in
set_option maxRecDepth 100000 in
theorem tX5_began {l : Launch} {kv : Nat × Nat} {D : va_G} {N : Nat} {ad : Nat → Nat} {cA : ClassId} {σ : SC} {rF : Int32} (hf : fX5_began N σ = some rF) : Ct l kv D [(cA, .int)] yX5_began cX5_began 1 (some .int) 5 114 (wC ad cA σ) (wC ad cA σ) [.ref (ad 0)] (some (.int rF)) := by
  refine Ct.ofW (by decide) (Nat.le_of_ble_eq_true rfl) ?_
  intro p e s m below meth c A args CF hr hlk hA hP hK hD hN hW hS ls hl
  have hx := CF.1
  have hb := CF.2.1
  have hml := CF.2.2.1
  have hown := CF.2.2.2.1
  have hw : ∀ w ∈ wsA, w.before args s = true := fun w h => CF.2.2.2.2 w (List.mem_cons_of_mem _ h)
  have hl : lv_has ls 1 [(0, .ref (ad 0))] := hl
  unfold fX5_began at hf
  refine lv_aload_n (pc := 0) hx hb dX5_began_0 rfl (lv_at hl 0 rfl) ?_
  refine gc_0_ground (pc := 1) CF hK hP mF_X5_19 dX5_began_1 ?_
  obtain ⟨v4, h4, hf⟩ := zz_o hf
  refine cV (pc := 4) (rest := []) (st1 := [.int v4]) (q0 := 3) CF (tX0_isThere h4) hK hP hD hS hA hN hW mL_X5_144 kX0_isThere nX0_isThere rfl rfl rfl rfl ⟨by decide, by decide⟩ hl.1 (Nat.le_of_ble_eq_true rfl) ⟨Nat.le_refl _, Nat.le_refl _⟩ rfl dX5_began_4 (fun H locs hP hD hS => ?_)
  refine lv_if_eq (pc := 7) (tgt := 20) hx hb dX5_began_7 (by decide) (fun c7 => ?_) (fun c7 => ?_)
  · have hf := zz_t c7 hf
    refine lv_bipush (pc := 20) (v := (-103)) hx hb dX5_began_20 (by decide) ?_
    exact retI hx hb hr hlk hf hP hD hS dX5_began_22
  · have hf := zz_f c7 hf
    refine lv_aload_n (pc := 10) hx hb dX5_began_10 rfl (lv_at hl 0 rfl) ?_
    refine gc_0_riddle (pc := 11) CF hK hP mF_X5_47 dX5_began_11 ?_
    obtain ⟨v14, h14, hf⟩ := zz_o hf
    refine cV (pc := 14) (rest := []) (st1 := [.int v14]) (q0 := 22) CF (tX3_beginners h14) hK hP hD hS hA hN hW mL_X5_176 kX3_beginners nX3_beginners rfl rfl rfl rfl ⟨by decide, by decide⟩ hl.1 (Nat.le_of_ble_eq_true rfl) ⟨Nat.le_refl _, Nat.le_refl _⟩ rfl dX5_began_14 (fun H locs hP hD hS => ?_)
    refine lv_goto (pc := 17) (tgt := 22) hx hb dX5_began_17 (by decide) ?_
    exact retI hx hb hr hlk hf hP hD hS dX5_began_22
set_option maxHeartbeats 4000000 in
set_option maxRecDepth 100000 in
theorem tX3_leftAtWorst {l : Launch} {kv : Nat × Nat} {D : va_G} {N : Nat} {ad : Nat → Nat} {cA : ClassId} {σ : SC} {x1 : Int32} {x2 : Int32} {rF : Int32} {σF : SC} (hf : fX3_leftAtWorst N σ x1 x2 = some (rF, σF)) : Ct l kv D [(cA, .int)] yX3_leftAtWorst cX3_leftAtWorst 6 (some .int) 3 70 (wC ad cA σ) (wC ad cA σF) [.ref (ad 22), .int x1, .int x2] (some (.int rF)) := by
  refine Ct.ofW (by decide) (Nat.le_of_ble_eq_true rfl) ?_
  intro p e s m below meth c A args CF hr hlk hA hP hK hD hN hW hS ls hl
  have hx := CF.1
  have hb := CF.2.1
  have hml := CF.2.2.1
  have hown := CF.2.2.2.1
  have hw : ∀ w ∈ wsA, w.before args s = true := fun w h => CF.2.2.2.2 w (List.mem_cons_of_mem _ h)
  have hl : lv_has ls 6 [(0, .ref (ad 22)), (1, .int x1), (2, .int x2)] := hl
  unfold fX3_leftAtWorst at hf
  have L29 : ∀ (n29 : Nat) (σ : SC) (x1 : Int32) (x2 : Int32) (x3 : Int32) (x4 : Int32) (H : Heap) (locs : List Loc) (ls : Array Slot), va_P D vwCl (wC ad cA σ) H → va_D A (wC ad cA σ) → va_S A s.heap H locs → lv_has ls 6 [(0, .ref (ad 22)), (1, .int x1), (2, .int x2), (3, .int x3), (4, .int x4)] → fX3_leftAtWorst_29 N n29 σ x1 x2 x3 x4 = some (rF, σF) → G p l e 3 70 s m args below meth c D A (wC ad cA σF) (some (.int rF)) H locs (F0 m 29 ls []) := by
    intro n29
    induction n29 with
    | zero => intro σ x1 x2 x3 x4 H locs ls hP hD hS hl hf; exact absurd hf (by simp [fX3_leftAtWorst_29])
    | succ n29 ih29 =>
      intro σ x1 x2 x3 x4 H locs ls hP hD hS hl hf
      rw [fX3_leftAtWorst_29] at hf
      refine lv_iload (pc := 29) hx hb dX3_leftAtWorst_29 (lv_at hl 4 rfl) ?_
      refine lv_aload_n (pc := 31) hx hb dX3_leftAtWorst_31 rfl (lv_at hl 0 rfl) ?_
      refine gc_22_hill (pc := 32) CF hK hP mF_X3_9 dX3_leftAtWorst_32 ?_
      refine gcN_3_people (pc := 35) CF hK hP hN (nf 1) dX3_leftAtWorst_35 ?_
      refine lv_icmp_ge (pc := 38) (tgt := 108) hx hb dX3_leftAtWorst_38 (by decide) (fun c38 => ?_) (fun c38 => ?_)
      · have hf := zz_t c38 hf
        refine lv_iload_n (pc := 108) hx hb dX3_leftAtWorst_108 rfl (lv_at hl 3 rfl) ?_
        exact retIw (wf := wC ad cA) hx hb hr hlk hf hP hD hS dX3_leftAtWorst_109
      · have hf := zz_f c38 hf
        refine lv_aload_n (pc := 41) hx hb dX3_leftAtWorst_41 rfl (lv_at hl 0 rfl) ?_
        refine gc_22_talk (pc := 42) CF hK hP mF_X3_19 dX3_leftAtWorst_42 ?_
        refine lv_iload (pc := 45) hx hb dX3_leftAtWorst_45 (lv_at hl 4 rfl) ?_
        refine lv_iload_n (pc := 47) hx hb dX3_leftAtWorst_47 rfl (lv_at hl 1 rfl) ?_
        obtain ⟨v48, h48, hf⟩ := zz_o hf
        refine cV (pc := 48) (rest := []) (st1 := [.int v48]) (q0 := 21) CF (tX4_dayHeard h48) hK hP hD hS hA hN hW mL_X3_49 kX4_dayHeard nX4_dayHeard rfl rfl rfl rfl ⟨by decide, by decide⟩ hl.1 (Nat.le_of_ble_eq_true rfl) ⟨Nat.le_refl _, Nat.le_refl _⟩ rfl dX3_leftAtWorst_48 (fun H locs hP hD hS => ?_)
        refine lv_iconst (pc := 51) (v := 1) hx hb dX3_leftAtWorst_51 (by decide) ?_
        refine lv_iadd (pc := 52) hx hb dX3_leftAtWorst_52 ?_
        refine lv_istore (pc := 53) (lv' := [(5, .int (v48 + 1)), (0, .ref (ad 22)), (1, .int x1), (2, .int x2), (3, .int x3), (4, .int x4)]) hx hb dX3_leftAtWorst_53 hl (by decide) rfl (fun ls hl => ?_)
        refine lv_iload (pc := 55) hx hb dX3_leftAtWorst_55 (lv_at hl 5 rfl) ?_
        refine lv_iload_n (pc := 57) hx hb dX3_leftAtWorst_57 rfl (lv_at hl 3 rfl) ?_
        obtain ⟨v58, h58, hf⟩ := zz_o hf
        refine cSN (pc := 58) (rest := []) (st1 := [.int v58]) CF (tX5_isIn h58) hK hP hD hS hA hN hW (nm 4) kX5_isIn nX5_isIn rfl rfl ⟨by decide, by decide⟩ hl.1 (Nat.le_of_ble_eq_true rfl) ⟨Nat.le_refl _, Nat.le_refl _⟩ rfl dX3_leftAtWorst_58 (fun H locs hP hD hS => ?_)
        refine lv_if_eq (pc := 61) (tgt := 102) hx hb dX3_leftAtWorst_61 (by decide) (fun c61 => ?_) (fun c61 => ?_)
        · have hf := zz_t c61 hf
          refine lv_iinc (pc := 102) (v := (x4 + 1)) (lv' := [(4, .int (x4 + 1)), (5, .int (v48 + 1)), (0, .ref (ad 22)), (1, .int x1), (2, .int x2), (3, .int x3)]) hx hb dX3_leftAtWorst_102 hl (k := 5) rfl rfl (by decide) rfl (fun ls hl => ?_)
          refine lv_goto (pc := 105) (tgt := 29) hx hb dX3_leftAtWorst_105 (by decide) ?_
          exact ih29 σ x1 x2 x3 (x4 + 1) _ _ _ hP hD hS (lv_sub hl [2, 3, 4, 5, 0] rfl) hf
        · have hf := zz_f c61 hf
          refine lv_iload (pc := 64) hx hb dX3_leftAtWorst_64 (lv_at hl 0 rfl) ?_
          refine lv_if_lt (pc := 66) (tgt := 102) hx hb dX3_leftAtWorst_66 (by decide) (fun c66 => ?_) (fun c66 => ?_)
          · have hf := zz_t c66 hf
            refine lv_iinc (pc := 102) (v := (x4 + 1)) (lv' := [(4, .int (x4 + 1)), (5, .int (v48 + 1)), (0, .ref (ad 22)), (1, .int x1), (2, .int x2), (3, .int x3)]) hx hb dX3_leftAtWorst_102 hl (k := 5) rfl rfl (by decide) rfl (fun ls hl => ?_)
            refine lv_goto (pc := 105) (tgt := 29) hx hb dX3_leftAtWorst_105 (by decide) ?_
            exact ih29 σ x1 x2 x3 (x4 + 1) _ _ _ hP hD hS (lv_sub hl [2, 3, 4, 5, 0] rfl) hf
          · have hf := zz_f c66 hf
            refine lv_iload (pc := 69) hx hb dX3_leftAtWorst_69 (lv_at hl 0 rfl) ?_
            refine lv_aload_n (pc := 71) hx hb dX3_leftAtWorst_71 rfl (lv_at hl 1 rfl) ?_
            refine gc_22_left (pc := 72) CF hK hP mF_X3_23 dX3_leftAtWorst_72 ?_
            refine nc_left (pc := 75) hx hb hK hP dX3_leftAtWorst_75 ?_
            refine lv_icmp_ge (pc := 76) (tgt := 102) hx hb dX3_leftAtWorst_76 (by decide) (fun c76 => ?_) (fun c76 => ?_)
            · have hf := zz_t c76 hf
              refine lv_iinc (pc := 102) (v := (x4 + 1)) (lv' := [(4, .int (x4 + 1)), (5, .int (v48 + 1)), (0, .ref (ad 22)), (1, .int x1), (2, .int x2), (3, .int x3)]) hx hb dX3_leftAtWorst_102 hl (k := 5) rfl rfl (by decide) rfl (fun ls hl => ?_)
              refine lv_goto (pc := 105) (tgt := 29) hx hb dX3_leftAtWorst_105 (by decide) ?_
              exact ih29 σ x1 x2 x3 (x4 + 1) _ _ _ hP hD hS (lv_sub hl [2, 3, 4, 5, 0] rfl) hf
            · have hf := zz_f c76 hf
              refine lv_aload_n (pc := 79) hx hb dX3_leftAtWorst_79 rfl (lv_at hl 1 rfl) ?_
              refine gc_22_left (pc := 80) CF hK hP mF_X3_23 dX3_leftAtWorst_80 ?_
              refine lv_iload (pc := 83) hx hb dX3_leftAtWorst_83 (lv_at hl 0 rfl) ?_
              refine lv_dup2_11 (pc := 85) hx hb dX3_leftAtWorst_85 rfl rfl ?_
              obtain ⟨c86, hf⟩ := zz_k hf
              refine lc_left (pc := 86) hx hb hK hP c86 dX3_leftAtWorst_86 ?_
              refine lv_iconst (pc := 87) (v := 1) hx hb dX3_leftAtWorst_87 (by decide) ?_
              refine lv_iadd (pc := 88) hx hb dX3_leftAtWorst_88 ?_
              obtain ⟨c89, hf⟩ := zz_k hf
              refine ac_left (pc := 89) hx hb hK hP hD hS c89 dX3_leftAtWorst_89 (fun H locs hP hD hS => ?_)
              obtain ⟨σ89, hP, hD, hf⟩ := zz_g (w := wC ad cA) hP hD hf
              refine lv_iload_n (pc := 90) hx hb dX3_leftAtWorst_90 rfl (lv_at hl 4 rfl) ?_
              refine lv_aload_n (pc := 91) hx hb dX3_leftAtWorst_91 rfl (lv_at hl 1 rfl) ?_
              refine gc_22_left (pc := 92) CF hK hP mF_X3_23 dX3_leftAtWorst_92 ?_
              refine lv_iload (pc := 95) hx hb dX3_leftAtWorst_95 (lv_at hl 0 rfl) ?_
              obtain ⟨c97, hf⟩ := zz_k hf
              refine lc_left (pc := 97) hx hb hK hP c97 dX3_leftAtWorst_97 ?_
              refine va_mmax (pc := 98) hx hb (hml.trans hl.1.symm) hown (hw _ mL_X3_61) (hw _ mT_Lib_Math_max_name) (hw _ mN_J9) (hw _ mC_Lib_Math_max_name) (by decide) (Nat.le_of_ble_eq_true rfl) (Nat.le_refl _) (Nat.le_refl _) dX3_leftAtWorst_98 ?_
              refine lv_topi (fun y101 e101 => ?_)
              have hf := zz_l e101 hf
              refine lv_istore_n (pc := 101) (lv' := [(3, .int y101), (5, .int (v48 + 1)), (0, .ref (ad 22)), (1, .int x1), (2, .int x2), (4, .int x4)]) hx hb dX3_leftAtWorst_101 rfl hl (by decide) rfl (fun ls hl => ?_)
              refine lv_iinc (pc := 102) (v := (x4 + 1)) (lv' := [(4, .int (x4 + 1)), (3, .int y101), (5, .int (v48 + 1)), (0, .ref (ad 22)), (1, .int x1), (2, .int x2)]) hx hb dX3_leftAtWorst_102 hl (k := 5) rfl rfl (by decide) rfl (fun ls hl => ?_)
              refine lv_goto (pc := 105) (tgt := 29) hx hb dX3_leftAtWorst_105 (by decide) ?_
              exact ih29 σ89 x1 x2 y101 (x4 + 1) _ _ _ hP hD hS (lv_sub hl [3, 4, 5, 1, 0] rfl) hf
  have L2 : ∀ (n2 : Nat) (σ : SC) (x1 : Int32) (x2 : Int32) (x3 : Int32) (H : Heap) (locs : List Loc) (ls : Array Slot), va_P D vwCl (wC ad cA σ) H → va_D A (wC ad cA σ) → va_S A s.heap H locs → lv_has ls 6 [(0, .ref (ad 22)), (1, .int x1), (2, .int x2), (3, .int x3)] → fX3_leftAtWorst_2 N n2 σ x1 x2 x3 = some (rF, σF) → G p l e 3 70 s m args below meth c D A (wC ad cA σF) (some (.int rF)) H locs (F0 m 2 ls []) := by
    intro n2
    induction n2 with
    | zero => intro σ x1 x2 x3 H locs ls hP hD hS hl hf; exact absurd hf (by simp [fX3_leftAtWorst_2])
    | succ n2 ih2 =>
      intro σ x1 x2 x3 H locs ls hP hD hS hl hf
      rw [fX3_leftAtWorst_2] at hf
      refine lv_iload_n (pc := 2) hx hb dX3_leftAtWorst_2 rfl (lv_at hl 3 rfl) ?_
      refine lv_aload_n (pc := 3) hx hb dX3_leftAtWorst_3 rfl (lv_at hl 0 rfl) ?_
      refine gc_22_left (pc := 4) CF hK hP mF_X3_23 dX3_leftAtWorst_4 ?_
      refine nc_left (pc := 7) hx hb hK hP dX3_leftAtWorst_7 ?_
      refine lv_icmp_ge (pc := 8) (tgt := 24) hx hb dX3_leftAtWorst_8 (by decide) (fun c8 => ?_) (fun c8 => ?_)
      · have hf := zz_t c8 hf
        refine lv_iconst (pc := 24) (v := 0) hx hb dX3_leftAtWorst_24 (by decide) ?_
        refine lv_istore_n (pc := 25) (lv' := [(3, .int 0), (0, .ref (ad 22)), (1, .int x1), (2, .int x2)]) hx hb dX3_leftAtWorst_25 rfl hl (by decide) rfl (fun ls hl => ?_)
        refine lv_iconst (pc := 26) (v := 0) hx hb dX3_leftAtWorst_26 (by decide) ?_
        refine lv_istore (pc := 27) (lv' := [(4, .int 0), (3, .int 0), (0, .ref (ad 22)), (1, .int x1), (2, .int x2)]) hx hb dX3_leftAtWorst_27 hl (by decide) rfl (fun ls hl => ?_)
        exact L29 N σ x1 x2 0 0 _ _ _ hP hD hS (lv_sub hl [2, 3, 4, 1, 0] rfl) hf
      · have hf := zz_f c8 hf
        refine lv_aload_n (pc := 11) hx hb dX3_leftAtWorst_11 rfl (lv_at hl 0 rfl) ?_
        refine gc_22_left (pc := 12) CF hK hP mF_X3_23 dX3_leftAtWorst_12 ?_
        refine lv_iload_n (pc := 15) hx hb dX3_leftAtWorst_15 rfl (lv_at hl 3 rfl) ?_
        refine lv_iconst (pc := 16) (v := 0) hx hb dX3_leftAtWorst_16 (by decide) ?_
        obtain ⟨c17, hf⟩ := zz_k hf
        refine ac_left (pc := 17) hx hb hK hP hD hS c17 dX3_leftAtWorst_17 (fun H locs hP hD hS => ?_)
        obtain ⟨σ17, hP, hD, hf⟩ := zz_g (w := wC ad cA) hP hD hf
        refine lv_iinc (pc := 18) (v := (x3 + 1)) (lv' := [(3, .int (x3 + 1)), (0, .ref (ad 22)), (1, .int x1), (2, .int x2)]) hx hb dX3_leftAtWorst_18 hl (k := 3) rfl rfl (by decide) rfl (fun ls hl => ?_)
        refine lv_goto (pc := 21) (tgt := 2) hx hb dX3_leftAtWorst_21 (by decide) ?_
        exact ih2 σ17 x1 x2 (x3 + 1) _ _ _ hP hD hS (lv_sub hl [1, 2, 3, 0] rfl) hf
  refine lv_iconst (pc := 0) (v := 0) hx hb dX3_leftAtWorst_0 (by decide) ?_
  refine lv_istore_n (pc := 1) (lv' := [(3, .int 0), (0, .ref (ad 22)), (1, .int x1), (2, .int x2)]) hx hb dX3_leftAtWorst_1 rfl hl (by decide) rfl (fun ls hl => ?_)
  exact L2 N σ x1 x2 0 _ _ _ hP hD hS (lv_sub hl [1, 2, 3, 0] rfl) hf
set_option maxHeartbeats 4000000 in
set_option maxRecDepth 100000 in
theorem tX3_bestToAsk {l : Launch} {kv : Nat × Nat} {D : va_G} {N : Nat} {ad : Nat → Nat} {cA : ClassId} {σ : SC} {x1 : Int32} {rF : Int32} {σF : SC} (hf : fX3_bestToAsk N σ x1 = some (rF, σF)) : Ct l kv D [(cA, .int)] yX3_bestToAsk cX3_bestToAsk 6 (some .int) 4 95 (wC ad cA σ) (wC ad cA σF) [.ref (ad 22), .int x1] (some (.int rF)) := by
  refine Ct.ofW (by decide) (Nat.le_of_ble_eq_true rfl) ?_
  intro p e s m below meth c A args CF hr hlk hA hP hK hD hN hW hS ls hl
  have hx := CF.1
  have hb := CF.2.1
  have hml := CF.2.2.1
  have hown := CF.2.2.2.1
  have hw : ∀ w ∈ wsA, w.before args s = true := fun w h => CF.2.2.2.2 w (List.mem_cons_of_mem _ h)
  have hl : lv_has ls 6 [(0, .ref (ad 22)), (1, .int x1)] := hl
  unfold fX3_bestToAsk at hf
  have L21 : ∀ (n21 : Nat) (σ : SC) (x1 : Int32) (x2 : Int32) (x3 : Int32) (x4 : Int32) (H : Heap) (locs : List Loc) (ls : Array Slot), va_P D vwCl (wC ad cA σ) H → va_D A (wC ad cA σ) → va_S A s.heap H locs → lv_has ls 6 [(0, .ref (ad 22)), (1, .int x1), (2, .int x2), (3, .int x3), (4, .int x4)] → fX3_bestToAsk_21 N n21 σ x1 x2 x3 x4 = some (rF, σF) → G p l e 4 95 s m args below meth c D A (wC ad cA σF) (some (.int rF)) H locs (F0 m 21 ls []) := by
    intro n21
    induction n21 with
    | zero => intro σ x1 x2 x3 x4 H locs ls hP hD hS hl hf; exact absurd hf (by simp [fX3_bestToAsk_21])
    | succ n21 ih21 =>
      intro σ x1 x2 x3 x4 H locs ls hP hD hS hl hf
      rw [fX3_bestToAsk_21] at hf
      refine lv_iload (pc := 21) hx hb dX3_bestToAsk_21 (lv_at hl 4 rfl) ?_
      refine lv_aload_n (pc := 23) hx hb dX3_bestToAsk_23 rfl (lv_at hl 0 rfl) ?_
      refine gc_22_hill (pc := 24) CF hK hP mF_X3_9 dX3_bestToAsk_24 ?_
      refine gcN_3_people (pc := 27) CF hK hP hN (nf 1) dX3_bestToAsk_27 ?_
      refine lv_icmp_ge (pc := 30) (tgt := 60) hx hb dX3_bestToAsk_30 (by decide) (fun c30 => ?_) (fun c30 => ?_)
      · have hf := zz_t c30 hf
        refine lv_iload_n (pc := 60) hx hb dX3_bestToAsk_60 rfl (lv_at hl 2 rfl) ?_
        exact retIw (wf := wC ad cA) hx hb hr hlk hf hP hD hS dX3_bestToAsk_61
      · have hf := zz_f c30 hf
        refine lv_aload_n (pc := 33) hx hb dX3_bestToAsk_33 rfl (lv_at hl 0 rfl) ?_
        refine lv_iload (pc := 34) hx hb dX3_bestToAsk_34 (lv_at hl 4 rfl) ?_
        refine lv_iload_n (pc := 36) hx hb dX3_bestToAsk_36 rfl (lv_at hl 1 rfl) ?_
        obtain ⟨v37, σ37, h37, hf⟩ := zz_b hf
        refine cV (pc := 37) (rest := []) (st1 := [.int v37]) (q0 := 22) CF (tX3_leftAtWorst h37) hK hP hD hS hA hN hW mL_X3_37 kX3_leftAtWorst nX3_leftAtWorst rfl rfl rfl rfl ⟨by decide, by decide⟩ hl.1 (Nat.le_of_ble_eq_true rfl) ⟨Nat.le_refl _, Nat.le_refl _⟩ rfl dX3_bestToAsk_37 (fun H locs hP hD hS => ?_)
        refine lv_istore (pc := 40) (lv' := [(5, .int v37), (0, .ref (ad 22)), (1, .int x1), (2, .int x2), (3, .int x3), (4, .int x4)]) hx hb dX3_bestToAsk_40 hl (by decide) rfl (fun ls hl => ?_)
        refine lv_iload (pc := 42) hx hb dX3_bestToAsk_42 (lv_at hl 0 rfl) ?_
        refine lv_iload_n (pc := 44) hx hb dX3_bestToAsk_44 rfl (lv_at hl 4 rfl) ?_
        refine lv_icmp_ge (pc := 45) (tgt := 54) hx hb dX3_bestToAsk_45 (by decide) (fun c45 => ?_) (fun c45 => ?_)
        · have hf := zz_t c45 hf
          refine lv_iinc (pc := 54) (v := (x4 + 1)) (lv' := [(4, .int (x4 + 1)), (5, .int v37), (0, .ref (ad 22)), (1, .int x1), (2, .int x2), (3, .int x3)]) hx hb dX3_bestToAsk_54 hl (k := 5) rfl rfl (by decide) rfl (fun ls hl => ?_)
          refine lv_goto (pc := 57) (tgt := 21) hx hb dX3_bestToAsk_57 (by decide) ?_
          exact ih21 σ37 x1 x2 x3 (x4 + 1) _ _ _ hP hD hS (lv_sub hl [2, 3, 4, 5, 0] rfl) hf
        · have hf := zz_f c45 hf
          refine lv_iload (pc := 48) hx hb dX3_bestToAsk_48 (lv_at hl 5 rfl) ?_
          refine lv_istore_n (pc := 50) (lv' := [(2, .int x4), (5, .int v37), (0, .ref (ad 22)), (1, .int x1), (3, .int x3), (4, .int x4)]) hx hb dX3_bestToAsk_50 rfl hl (by decide) rfl (fun ls hl => ?_)
          refine lv_iload (pc := 51) hx hb dX3_bestToAsk_51 (lv_at hl 1 rfl) ?_
          refine lv_istore_n (pc := 53) (lv' := [(3, .int v37), (2, .int x4), (5, .int v37), (0, .ref (ad 22)), (1, .int x1), (4, .int x4)]) hx hb dX3_bestToAsk_53 rfl hl (by decide) rfl (fun ls hl => ?_)
          refine lv_iinc (pc := 54) (v := (x4 + 1)) (lv' := [(4, .int (x4 + 1)), (3, .int v37), (2, .int x4), (5, .int v37), (0, .ref (ad 22)), (1, .int x1)]) hx hb dX3_bestToAsk_54 hl (k := 5) rfl rfl (by decide) rfl (fun ls hl => ?_)
          refine lv_goto (pc := 57) (tgt := 21) hx hb dX3_bestToAsk_57 (by decide) ?_
          exact ih21 σ37 x1 x4 v37 (x4 + 1) _ _ _ hP hD hS (lv_sub hl [4, 5, 2, 1, 0] rfl) hf
  refine lv_iload_n (pc := 0) hx hb dX3_bestToAsk_0 rfl (lv_at hl 1 rfl) ?_
  refine lv_if_ne (pc := 1) (tgt := 6) hx hb dX3_bestToAsk_1 (by decide) (fun c1 => ?_) (fun c1 => ?_)
  · have hf := zz_f c1 hf
    refine lv_iconst (pc := 6) (v := (-1)) hx hb dX3_bestToAsk_6 (by decide) ?_
    refine lv_istore_n (pc := 7) (lv' := [(2, .int (-1)), (0, .ref (ad 22)), (1, .int x1)]) hx hb dX3_bestToAsk_7 rfl hl (by decide) rfl (fun ls hl => ?_)
    refine lv_aload_n (pc := 8) hx hb dX3_bestToAsk_8 rfl (lv_at hl 1 rfl) ?_
    refine gc_22_hill (pc := 9) CF hK hP mF_X3_9 dX3_bestToAsk_9 ?_
    refine gcN_3_people (pc := 12) CF hK hP hN (nf 1) dX3_bestToAsk_12 ?_
    refine lv_iconst (pc := 15) (v := 1) hx hb dX3_bestToAsk_15 (by decide) ?_
    refine lv_iadd (pc := 16) hx hb dX3_bestToAsk_16 ?_
    refine lv_istore_n (pc := 17) (lv' := [(3, .int ((c_people σ) + 1)), (2, .int (-1)), (0, .ref (ad 22)), (1, .int x1)]) hx hb dX3_bestToAsk_17 rfl hl (by decide) rfl (fun ls hl => ?_)
    refine lv_iconst (pc := 18) (v := 0) hx hb dX3_bestToAsk_18 (by decide) ?_
    refine lv_istore (pc := 19) (lv' := [(4, .int 0), (3, .int ((c_people σ) + 1)), (2, .int (-1)), (0, .ref (ad 22)), (1, .int x1)]) hx hb dX3_bestToAsk_19 hl (by decide) rfl (fun ls hl => ?_)
    exact L21 N σ x1 (-1) ((c_people σ) + 1) 0 _ _ _ hP hD hS (lv_sub hl [3, 4, 2, 1, 0] rfl) hf
  · have hf := zz_t c1 hf
    refine lv_iconst (pc := 4) (v := (-1)) hx hb dX3_bestToAsk_4 (by decide) ?_
    exact retIw (wf := wC ad cA) hx hb hr hlk hf hP hD hS dX3_bestToAsk_5
set_option maxHeartbeats 4000000 in
set_option maxRecDepth 100000 in
theorem tX5_ask {l : Launch} {kv : Nat × Nat} {D : va_G} {N : Nat} {ad : Nat → Nat} {cA : ClassId} {σ : SC} {rF : Int32} {σF : SC} (hf : fX5_ask N σ = some (rF, σF)) : Ct l kv D [(cA, .int)] yX5_ask cX5_ask 1 (some .int) 5 120 (wC ad cA σ) (wC ad cA σF) [.ref (ad 0)] (some (.int rF)) := by
  refine Ct.ofW (by decide) (Nat.le_of_ble_eq_true rfl) ?_
  intro p e s m below meth c A args CF hr hlk hA hP hK hD hN hW hS ls hl
  have hx := CF.1
  have hb := CF.2.1
  have hml := CF.2.2.1
  have hown := CF.2.2.2.1
  have hw : ∀ w ∈ wsA, w.before args s = true := fun w h => CF.2.2.2.2 w (List.mem_cons_of_mem _ h)
  have hl : lv_has ls 1 [(0, .ref (ad 0))] := hl
  unfold fX5_ask at hf
  refine lv_aload_n (pc := 0) hx hb dX5_ask_0 rfl (lv_at hl 0 rfl) ?_
  refine gc_0_ground (pc := 1) CF hK hP mF_X5_19 dX5_ask_1 ?_
  obtain ⟨v4, h4, hf⟩ := zz_o hf
  refine cV (pc := 4) (rest := []) (st1 := [.int v4]) (q0 := 3) CF (tX0_isThere h4) hK hP hD hS hA hN hW mL_X5_144 kX0_isThere nX0_isThere rfl rfl rfl rfl ⟨by decide, by decide⟩ hl.1 (Nat.le_of_ble_eq_true rfl) ⟨Nat.le_refl _, Nat.le_refl _⟩ rfl dX5_ask_4 (fun H locs hP hD hS => ?_)
  refine lv_if_eq (pc := 7) (tgt := 27) hx hb dX5_ask_7 (by decide) (fun c7 => ?_) (fun c7 => ?_)
  · have hf := zz_t c7 hf
    refine lv_bipush (pc := 27) (v := (-103)) hx hb dX5_ask_27 (by decide) ?_
    exact retIw (wf := wC ad cA) hx hb hr hlk hf hP hD hS dX5_ask_29
  · have hf := zz_f c7 hf
    refine lv_aload_n (pc := 10) hx hb dX5_ask_10 rfl (lv_at hl 0 rfl) ?_
    refine gc_0_riddle (pc := 11) CF hK hP mF_X5_47 dX5_ask_11 ?_
    refine lv_aload_n (pc := 14) hx hb dX5_ask_14 rfl (lv_at hl 0 rfl) ?_
    refine gc_0_riddle (pc := 15) CF hK hP mF_X5_47 dX5_ask_15 ?_
    obtain ⟨v18, h18, hf⟩ := zz_o hf
    refine cV (pc := 18) (rest := [.ref (ad 22)]) (st1 := [.int v18, .ref (ad 22)]) (q0 := 22) CF (tX3_beginners h18) hK hP hD hS hA hN hW mL_X5_176 kX3_beginners nX3_beginners rfl rfl rfl rfl ⟨by decide, by decide⟩ hl.1 (Nat.le_of_ble_eq_true rfl) ⟨Nat.le_refl _, Nat.le_refl _⟩ rfl dX5_ask_18 (fun H locs hP hD hS => ?_)
    obtain ⟨v21, σ21, h21, hf⟩ := zz_b hf
    refine cV (pc := 21) (rest := []) (st1 := [.int v21]) (q0 := 22) CF (tX3_bestToAsk h21) hK hP hD hS hA hN hW mL_X5_179 kX3_bestToAsk nX3_bestToAsk rfl rfl rfl rfl ⟨by decide, by decide⟩ hl.1 (Nat.le_of_ble_eq_true rfl) ⟨Nat.le_refl _, Nat.le_refl _⟩ rfl dX5_ask_21 (fun H locs hP hD hS => ?_)
    refine lv_goto (pc := 24) (tgt := 29) hx hb dX5_ask_24 (by decide) ?_
    exact retIw (wf := wC ad cA) hx hb hr hlk hf hP hD hS dX5_ask_29
set_option maxHeartbeats 4000000 in
set_option maxRecDepth 100000 in
theorem tX5_seedBehind {l : Launch} {kv : Nat × Nat} {D : va_G} {N : Nat} {tys : List (ClassId × FieldType)} {ws : va_W} {x0 : Int32} {rF : Int32} (hf : fX5_seedBehind N x0 = some rF) : Ct l kv D tys yX5_seedBehind cX5_seedBehind 1 (some .int) 0 0 ws ws [.int x0] (some (.int rF)) := by
  refine Ct.ofW (by decide) (Nat.le_of_ble_eq_true rfl) ?_
  intro p e s m below meth c A args CF hr hlk hA hP hK hD hN hW hS ls hl
  have hx := CF.1
  have hb := CF.2.1
  have hml := CF.2.2.1
  have hown := CF.2.2.2.1
  have hw : ∀ w ∈ wsA, w.before args s = true := fun w h => CF.2.2.2.2 w (List.mem_cons_of_mem _ h)
  have hl : lv_has ls 1 [(0, .int x0)] := hl
  unfold fX5_seedBehind at hf
  refine lv_ldc (pc := 0) hx hb hown (hw _ mK_X5_191) dX5_seedBehind_0 ?_
  refine lv_iload_n (pc := 2) hx hb dX5_seedBehind_2 rfl (lv_at hl 0 rfl) ?_
  refine lv_imul (pc := 3) hx hb dX5_seedBehind_3 ?_
  refine lv_sipush (pc := 4) (v := 12345) hx hb dX5_seedBehind_4 (by decide) ?_
  refine lv_iadd (pc := 7) hx hb dX5_seedBehind_7 ?_
  refine lv_ldc (pc := 8) hx hb hown (hw _ mK_X5_192) dX5_seedBehind_8 ?_
  refine lv_iand (pc := 10) hx hb dX5_seedBehind_10 ?_
  exact retI hx hb hr hlk hf hP hD hS dX5_seedBehind_11
set_option maxHeartbeats 4000000 in
set_option maxRecDepth 100000 in
theorem tX5_markets {l : Launch} {kv : Nat × Nat} {D : va_G} {N : Nat} {ad : Nat → Nat} {cA : ClassId} {σ : SC} {x1 : Int32} {x2 : Int32} {x3 : Int32} {rF : Int32} (hf : fX5_markets N σ x1 x2 x3 = some rF) : Ct l kv D [(cA, .int)] yX5_markets cX5_markets 10 (some .int) 4 93 (wC ad cA σ) (wC ad cA σ) [.ref (ad 0), .int x1, .int x2, .int x3] (some (.int rF)) := by
  refine Ct.ofW (by decide) (Nat.le_of_ble_eq_true rfl) ?_
  intro p e s m below meth c A args CF hr hlk hA hP hK hD hN hW hS ls hl
  have hx := CF.1
  have hb := CF.2.1
  have hml := CF.2.2.1
  have hown := CF.2.2.2.1
  have hw : ∀ w ∈ wsA, w.before args s = true := fun w h => CF.2.2.2.2 w (List.mem_cons_of_mem _ h)
  have hl : lv_has ls 10 [(0, .ref (ad 0)), (1, .int x1), (2, .int x2), (3, .int x3)] := hl
  unfold fX5_markets at hf
  have L57 : ∀ (n57 : Nat) (x1 : Int32) (x3 : Int32) (x4 : Int32) (x5 : Int32) (x6 : Int32) (x7 : Int32) (x8 : Int32) (H : Heap) (locs : List Loc) (ls : Array Slot), va_P D vwCl (wC ad cA σ) H → va_D A (wC ad cA σ) → va_S A s.heap H locs → lv_has ls 10 [(0, .ref (ad 0)), (1, .int x1), (3, .int x3), (4, .int x4), (5, .int x5), (6, .int x6), (7, .int x7), (8, .int x8)] → fX5_markets_57 N n57 σ x1 x3 x4 x5 x6 x7 x8 = some rF → G p l e 4 93 s m args below meth c D A (wC ad cA σ) (some (.int rF)) H locs (F0 m 57 ls []) := by
    intro n57
    induction n57 with
    | zero => intro x1 x3 x4 x5 x6 x7 x8 H locs ls hP hD hS hl hf; exact absurd hf (by simp [fX5_markets_57])
    | succ n57 ih57 =>
      intro x1 x3 x4 x5 x6 x7 x8 H locs ls hP hD hS hl hf
      rw [fX5_markets_57] at hf
      refine lv_iload (pc := 57) hx hb dX5_markets_57 (lv_at hl 7 rfl) ?_
      refine lv_iload_n (pc := 59) hx hb dX5_markets_59 rfl (lv_at hl 1 rfl) ?_
      refine lv_icmp_ge (pc := 60) (tgt := 111) hx hb dX5_markets_60 (by decide) (fun c60 => ?_) (fun c60 => ?_)
      · have hf := zz_t c60 hf
        refine lv_iload_n (pc := 111) hx hb dX5_markets_111 rfl (lv_at hl 2 rfl) ?_
        by_cases c112_0 : x3 = 0
        · have hf := zz_t c112_0 hf
          refine lv_lookup (pc := 112) (tgt := 140) (off := 28) hx hb dX5_markets_112 (by decide) (by rw [c112_0] <;> rfl) (by decide) ?_
          refine lv_iload (pc := 140) hx hb dX5_markets_140 (lv_at hl 5 rfl) ?_
          exact retI hx hb hr hlk hf hP hD hS dX5_markets_142
        have hf := zz_f c112_0 hf
        by_cases c112_1 : x3 = 1
        · have hf := zz_t c112_1 hf
          refine lv_lookup (pc := 112) (tgt := 143) (off := 31) hx hb dX5_markets_112 (by decide) (by rw [c112_1] <;> rfl) (by decide) ?_
          refine lv_iload (pc := 143) hx hb dX5_markets_143 (lv_at hl 6 rfl) ?_
          exact retI hx hb hr hlk hf hP hD hS dX5_markets_145
        have hf := zz_f c112_1 hf
        refine lv_lookup (pc := 112) (tgt := 146) (off := 34) hx hb dX5_markets_112 (by decide) ((lv_osw c112_0 rfl).trans ((lv_osw c112_1 rfl).trans rfl)) (by decide) ?_
        refine lv_iload (pc := 146) hx hb dX5_markets_146 (lv_at hl 4 rfl) ?_
        exact retI hx hb hr hlk hf hP hD hS dX5_markets_148
      · have hf := zz_f c60 hf
        refine lv_iload (pc := 63) hx hb dX5_markets_63 (lv_at hl 4 rfl) ?_
        obtain ⟨v65, h65, hf⟩ := zz_o hf
        refine cSt (pc := 65) (rest := []) (st1 := [.int v65]) CF (tX5_seedBehind h65) hK hP hD hS hA hN hW mL_X5_182 kX5_seedBehind nX5_seedBehind rfl rfl ⟨by decide, by decide⟩ hl.1 (Nat.le_of_ble_eq_true rfl) ⟨Nat.le_refl _, Nat.le_refl _⟩ rfl dX5_markets_65 (fun H locs hP hD hS => ?_)
        refine lv_istore (pc := 68) (lv' := [(5, .int v65), (0, .ref (ad 0)), (1, .int x1), (3, .int x3), (4, .int x4), (6, .int x6), (7, .int x7), (8, .int x8)]) hx hb dX5_markets_68 hl (by decide) rfl (fun ls hl => ?_)
        refine lv_aload_n (pc := 70) hx hb dX5_markets_70 rfl (lv_at hl 1 rfl) ?_
        refine gc_0_talk (pc := 71) CF hK hP mF_X5_38 dX5_markets_71 ?_
        refine lv_iconst (pc := 74) (v := 1) hx hb dX5_markets_74 (by decide) ?_
        refine lv_iload (pc := 75) hx hb dX5_markets_75 (lv_at hl 0 rfl) ?_
        refine lv_ldc (pc := 77) hx hb hown (hw _ mK_X5_185) dX5_markets_77 ?_
        refine lv_idiv (pc := 79) hx hb dX5_markets_79 (by decide) ?_
        refine lv_iload (pc := 80) hx hb dX5_markets_80 (lv_at hl 4 rfl) ?_
        obtain ⟨c82, hf⟩ := zz_k hf
        refine lv_irem (pc := 82) hx hb dX5_markets_82 c82 ?_
        refine lv_ishl (pc := 83) hx hb dX5_markets_83 ?_
        obtain ⟨v84, h84, hf⟩ := zz_o hf
        refine cV (pc := 84) (rest := []) (st1 := [.int v84]) (q0 := 21) CF (tX4_ends h84) hK hP hD hS hA hN hW mL_X5_110 kX4_ends nX4_ends rfl rfl rfl rfl ⟨by decide, by decide⟩ hl.1 (Nat.le_of_ble_eq_true rfl) ⟨Nat.le_refl _, Nat.le_refl _⟩ rfl dX5_markets_84 (fun H locs hP hD hS => ?_)
        refine lv_istore (pc := 87) (lv' := [(9, .int v84), (5, .int v65), (0, .ref (ad 0)), (1, .int x1), (3, .int x3), (4, .int x4), (6, .int x6), (7, .int x7), (8, .int x8)]) hx hb dX5_markets_87 hl (by decide) rfl (fun ls hl => ?_)
        refine lv_iload (pc := 89) hx hb dX5_markets_89 (lv_at hl 6 rfl) ?_
        refine lv_iload (pc := 91) hx hb dX5_markets_91 (lv_at hl 0 rfl) ?_
        refine lv_iadd (pc := 93) hx hb dX5_markets_93 ?_
        refine lv_istore (pc := 94) (lv' := [(6, .int (x6 + v84)), (9, .int v84), (5, .int v65), (0, .ref (ad 0)), (1, .int x1), (3, .int x3), (4, .int x4), (7, .int x7), (8, .int x8)]) hx hb dX5_markets_94 hl (by decide) rfl (fun ls hl => ?_)
        refine lv_iload (pc := 96) hx hb dX5_markets_96 (lv_at hl 7 rfl) ?_
        refine lv_iload (pc := 98) hx hb dX5_markets_98 (lv_at hl 1 rfl) ?_
        refine va_mmax (pc := 100) hx hb (hml.trans hl.1.symm) hown (hw _ mL_X5_186) (hw _ mT_Lib_Math_max_name) (hw _ mN_J9) (hw _ mC_Lib_Math_max_name) (by decide) (Nat.le_of_ble_eq_true rfl) (Nat.le_refl _) (Nat.le_refl _) dX5_markets_100 ?_
        refine lv_istore (pc := 103) (lv' := [(7, .int (if x7 < v84 then v84 else x7)), (6, .int (x6 + v84)), (9, .int v84), (5, .int v65), (0, .ref (ad 0)), (1, .int x1), (3, .int x3), (4, .int x4), (8, .int x8)]) hx hb dX5_markets_103 hl (by decide) rfl (fun ls hl => ?_)
        refine lv_iinc (pc := 105) (v := (x8 + 1)) (lv' := [(8, .int (x8 + 1)), (7, .int (if x7 < v84 then v84 else x7)), (6, .int (x6 + v84)), (9, .int v84), (5, .int v65), (0, .ref (ad 0)), (1, .int x1), (3, .int x3), (4, .int x4)]) hx hb dX5_markets_105 hl (k := 8) rfl rfl (by decide) rfl (fun ls hl => ?_)
        refine lv_goto (pc := 108) (tgt := 57) hx hb dX5_markets_108 (by decide) ?_
        exact ih57 x1 x3 x4 v65 (x6 + v84) (if x7 < v84 then v84 else x7) (x8 + 1) _ _ _ hP hD hS (lv_sub hl [5, 6, 7, 8, 4, 2, 1, 0] rfl) hf
  refine lv_iload_n (pc := 0) hx hb dX5_markets_0 rfl (lv_at hl 1 rfl) ?_
  refine lv_iconst (pc := 1) (v := 1) hx hb dX5_markets_1 (by decide) ?_
  refine lv_icmp_lt (pc := 2) (tgt := 24) hx hb dX5_markets_2 (by decide) (fun c2 => ?_) (fun c2 => ?_)
  · have hf := zz_t c2 hf
    refine lv_bipush (pc := 24) (v := (-102)) hx hb dX5_markets_24 (by decide) ?_
    exact retI hx hb hr hlk hf hP hD hS dX5_markets_26
  · have hf := zz_f c2 hf
    refine lv_iload_n (pc := 5) hx hb dX5_markets_5 rfl (lv_at hl 1 rfl) ?_
    refine lv_bipush (pc := 6) (v := 60) hx hb dX5_markets_6 (by decide) ?_
    refine lv_icmp_gt (pc := 8) (tgt := 24) hx hb dX5_markets_8 (by decide) (fun c8 => ?_) (fun c8 => ?_)
    · have hf := zz_t c8 hf
      refine lv_bipush (pc := 24) (v := (-102)) hx hb dX5_markets_24 (by decide) ?_
      exact retI hx hb hr hlk hf hP hD hS dX5_markets_26
    · have hf := zz_f c8 hf
      refine lv_iload_n (pc := 11) hx hb dX5_markets_11 rfl (lv_at hl 2 rfl) ?_
      refine lv_if_lt (pc := 12) (tgt := 24) hx hb dX5_markets_12 (by decide) (fun c12 => ?_) (fun c12 => ?_)
      · have hf := zz_t c12 hf
        refine lv_bipush (pc := 24) (v := (-102)) hx hb dX5_markets_24 (by decide) ?_
        exact retI hx hb hr hlk hf hP hD hS dX5_markets_26
      · have hf := zz_f c12 hf
        refine lv_iload_n (pc := 15) hx hb dX5_markets_15 rfl (lv_at hl 3 rfl) ?_
        refine lv_if_lt (pc := 16) (tgt := 24) hx hb dX5_markets_16 (by decide) (fun c16 => ?_) (fun c16 => ?_)
        · have hf := zz_t c16 hf
          refine lv_bipush (pc := 24) (v := (-102)) hx hb dX5_markets_24 (by decide) ?_
          exact retI hx hb hr hlk hf hP hD hS dX5_markets_26
        · have hf := zz_f c16 hf
          refine lv_iload_n (pc := 19) hx hb dX5_markets_19 rfl (lv_at hl 3 rfl) ?_
          refine lv_iconst (pc := 20) (v := 3) hx hb dX5_markets_20 (by decide) ?_
          refine lv_icmp_lt (pc := 21) (tgt := 27) hx hb dX5_markets_21 (by decide) (fun c21 => ?_) (fun c21 => ?_)
          · have hf := zz_t c21 hf
            refine lv_aload_n (pc := 27) hx hb dX5_markets_27 rfl (lv_at hl 0 rfl) ?_
            refine gc_0_ground (pc := 28) CF hK hP mF_X5_19 dX5_markets_28 ?_
            refine gcN_3_people (pc := 31) CF hK hP hN (nf 3) dX5_markets_31 ?_
            refine lv_istore (pc := 34) (lv' := [(4, .int (c_people σ)), (0, .ref (ad 0)), (1, .int x1), (2, .int x2), (3, .int x3)]) hx hb dX5_markets_34 hl (by decide) rfl (fun ls hl => ?_)
            refine lv_iload (pc := 36) hx hb dX5_markets_36 (lv_at hl 0 rfl) ?_
            refine lv_iconst (pc := 38) (v := 1) hx hb dX5_markets_38 (by decide) ?_
            refine lv_icmp_ge (pc := 39) (tgt := 45) hx hb dX5_markets_39 (by decide) (fun c39 => ?_) (fun c39 => ?_)
            · have hf := zz_t c39 hf
              refine lv_iload_n (pc := 45) hx hb dX5_markets_45 rfl (lv_at hl 3 rfl) ?_
              refine lv_istore (pc := 46) (lv' := [(5, .int x2), (4, .int (c_people σ)), (0, .ref (ad 0)), (1, .int x1), (2, .int x2), (3, .int x3)]) hx hb dX5_markets_46 hl (by decide) rfl (fun ls hl => ?_)
              refine lv_iconst (pc := 48) (v := 0) hx hb dX5_markets_48 (by decide) ?_
              refine lv_istore (pc := 49) (lv' := [(6, .int 0), (5, .int x2), (4, .int (c_people σ)), (0, .ref (ad 0)), (1, .int x1), (2, .int x2), (3, .int x3)]) hx hb dX5_markets_49 hl (by decide) rfl (fun ls hl => ?_)
              refine lv_iconst (pc := 51) (v := 0) hx hb dX5_markets_51 (by decide) ?_
              refine lv_istore (pc := 52) (lv' := [(7, .int 0), (6, .int 0), (5, .int x2), (4, .int (c_people σ)), (0, .ref (ad 0)), (1, .int x1), (2, .int x2), (3, .int x3)]) hx hb dX5_markets_52 hl (by decide) rfl (fun ls hl => ?_)
              refine lv_iconst (pc := 54) (v := 0) hx hb dX5_markets_54 (by decide) ?_
              refine lv_istore (pc := 55) (lv' := [(8, .int 0), (7, .int 0), (6, .int 0), (5, .int x2), (4, .int (c_people σ)), (0, .ref (ad 0)), (1, .int x1), (2, .int x2), (3, .int x3)]) hx hb dX5_markets_55 hl (by decide) rfl (fun ls hl => ?_)
              exact L57 N x1 x3 (c_people σ) x2 0 0 0 _ _ _ hP hD hS (lv_sub hl [5, 6, 8, 4, 3, 2, 1, 0] rfl) hf
            · have hf := zz_f c39 hf
              refine lv_bipush (pc := 42) (v := (-103)) hx hb dX5_markets_42 (by decide) ?_
              exact retI hx hb hr hlk hf hP hD hS dX5_markets_44
          · have hf := zz_f c21 hf
            refine lv_bipush (pc := 24) (v := (-102)) hx hb dX5_markets_24 (by decide) ?_
            exact retI hx hb hr hlk hf hP hD hS dX5_markets_26
set_option maxHeartbeats 4000000 in
set_option maxRecDepth 100000 in
theorem tX2_copy_13_5 {l : Launch} {kv : Nat × Nat} {D : va_G} {N : Nat} {ad : Nat → Nat} {cA : ClassId} {σ : SC} {σF : SC} (hf : fX2_copy_13_5 N σ = some σF) : Ct l kv D [(cA, .int)] yX2_copy cX2_copy 2 none 1 18 (wC ad cA σ) (wC ad cA σF) [.ref (ad 13), .ref (ad 5)] (none) := by
  refine Ct.ofW (by decide) (Nat.le_of_ble_eq_true rfl) ?_
  intro p e s m below meth c A args CF hr hlk hA hP hK hD hN hW hS ls hl
  have hx := CF.1
  have hb := CF.2.1
  have hml := CF.2.2.1
  have hown := CF.2.2.2.1
  have hw : ∀ w ∈ wsA, w.before args s = true := fun w h => CF.2.2.2.2 w (List.mem_cons_of_mem _ h)
  have hl : lv_has ls 2 [(0, .ref (ad 13)), (1, .ref (ad 5))] := hl
  unfold fX2_copy_13_5 at hf
  refine lv_aload_n (pc := 0) hx hb dX2_copy_0 rfl (lv_at hl 1 rfl) ?_
  refine gc_5_nexts (pc := 1) CF hK hP mF_X2_9 dX2_copy_1 ?_
  refine lv_iconst (pc := 4) (v := 0) hx hb dX2_copy_4 (by decide) ?_
  refine lv_aload_n (pc := 5) hx hb dX2_copy_5 rfl (lv_at hl 0 rfl) ?_
  refine gc_13_nexts (pc := 6) CF hK hP mF_X2_9 dX2_copy_6 ?_
  refine lv_iconst (pc := 9) (v := 0) hx hb dX2_copy_9 (by decide) ?_
  refine lv_bipush (pc := 10) (v := 6) hx hb dX2_copy_10 (by decide) ?_
  refine yc_knexts_nexts (pc := 12) CF hl.1 hK hP hD hS mL_X2_47 (by decide) (by decide) dX2_copy_12 (fun H locs hP hD hS => ?_)
  obtain ⟨σ12, hP, hD, hf⟩ := zz_g (w := wC ad cA) hP hD hf
  refine lv_aload_n (pc := 15) hx hb dX2_copy_15 rfl (lv_at hl 1 rfl) ?_
  refine gc_5_listeners (pc := 16) CF hK hP mF_X2_15 dX2_copy_16 ?_
  refine lv_iconst (pc := 19) (v := 0) hx hb dX2_copy_19 (by decide) ?_
  refine lv_aload_n (pc := 20) hx hb dX2_copy_20 rfl (lv_at hl 0 rfl) ?_
  refine gc_13_listeners (pc := 21) CF hK hP mF_X2_15 dX2_copy_21 ?_
  refine lv_iconst (pc := 24) (v := 0) hx hb dX2_copy_24 (by decide) ?_
  refine lv_bipush (pc := 25) (v := 6) hx hb dX2_copy_25 (by decide) ?_
  refine yc_klsts_lsts (pc := 27) CF hl.1 hK hP hD hS mL_X2_47 (by decide) (by decide) dX2_copy_27 (fun H locs hP hD hS => ?_)
  obtain ⟨σ27, hP, hD, hf⟩ := zz_g (w := wC ad cA) hP hD hf
  refine lv_aload_n (pc := 30) hx hb dX2_copy_30 rfl (lv_at hl 1 rfl) ?_
  refine gc_5_heard (pc := 31) CF hK hP mF_X2_18 dX2_copy_31 ?_
  refine lv_iconst (pc := 34) (v := 0) hx hb dX2_copy_34 (by decide) ?_
  refine lv_aload_n (pc := 35) hx hb dX2_copy_35 rfl (lv_at hl 0 rfl) ?_
  refine gc_13_heard (pc := 36) CF hK hP mF_X2_18 dX2_copy_36 ?_
  refine lv_iconst (pc := 39) (v := 0) hx hb dX2_copy_39 (by decide) ?_
  refine lv_iconst (pc := 40) (v := 3) hx hb dX2_copy_40 (by decide) ?_
  refine yc_kheard_heard (pc := 41) CF hl.1 hK hP hD hS mL_X2_47 (by decide) (by decide) dX2_copy_41 (fun H locs hP hD hS => ?_)
  obtain ⟨σ41, hP, hD, hf⟩ := zz_g (w := wC ad cA) hP hD hf
  refine lv_aload_n (pc := 44) hx hb dX2_copy_44 rfl (lv_at hl 1 rfl) ?_
  refine gc_5_last (pc := 45) CF hK hP mF_X2_21 dX2_copy_45 ?_
  refine lv_iconst (pc := 48) (v := 0) hx hb dX2_copy_48 (by decide) ?_
  refine lv_aload_n (pc := 49) hx hb dX2_copy_49 rfl (lv_at hl 0 rfl) ?_
  refine gc_13_last (pc := 50) CF hK hP mF_X2_21 dX2_copy_50 ?_
  refine lv_iconst (pc := 53) (v := 0) hx hb dX2_copy_53 (by decide) ?_
  refine lv_iconst (pc := 54) (v := 3) hx hb dX2_copy_54 (by decide) ?_
  refine yc_klast_last (pc := 55) CF hl.1 hK hP hD hS mL_X2_47 (by decide) (by decide) dX2_copy_55 (fun H locs hP hD hS => ?_)
  obtain ⟨σ55, hP, hD, hf⟩ := zz_g (w := wC ad cA) hP hD hf
  refine lv_aload_n (pc := 58) hx hb dX2_copy_58 rfl (lv_at hl 1 rfl) ?_
  refine gc_5_denied (pc := 59) CF hK hP mF_X2_24 dX2_copy_59 ?_
  refine lv_iconst (pc := 62) (v := 0) hx hb dX2_copy_62 (by decide) ?_
  refine lv_aload_n (pc := 63) hx hb dX2_copy_63 rfl (lv_at hl 0 rfl) ?_
  refine gc_13_denied (pc := 64) CF hK hP mF_X2_24 dX2_copy_64 ?_
  refine lv_iconst (pc := 67) (v := 0) hx hb dX2_copy_67 (by decide) ?_
  refine lv_iconst (pc := 68) (v := 3) hx hb dX2_copy_68 (by decide) ?_
  refine yc_kdenied_denied (pc := 69) CF hl.1 hK hP hD hS mL_X2_47 (by decide) (by decide) dX2_copy_69 (fun H locs hP hD hS => ?_)
  obtain ⟨σ69, hP, hD, hf⟩ := zz_g (w := wC ad cA) hP hD hf
  refine lv_aload_n (pc := 72) hx hb dX2_copy_72 rfl (lv_at hl 1 rfl) ?_
  refine gc_5_askedWhom (pc := 73) CF hK hP mF_X2_27 dX2_copy_73 ?_
  refine lv_iconst (pc := 76) (v := 0) hx hb dX2_copy_76 (by decide) ?_
  refine lv_aload_n (pc := 77) hx hb dX2_copy_77 rfl (lv_at hl 0 rfl) ?_
  refine gc_13_askedWhom (pc := 78) CF hK hP mF_X2_27 dX2_copy_78 ?_
  refine lv_iconst (pc := 81) (v := 0) hx hb dX2_copy_81 (by decide) ?_
  refine lv_bipush (pc := 82) (v := 8) hx hb dX2_copy_82 (by decide) ?_
  refine yc_kwhom_whom (pc := 84) CF hl.1 hK hP hD hS mL_X2_47 (by decide) (by decide) dX2_copy_84 (fun H locs hP hD hS => ?_)
  obtain ⟨σ84, hP, hD, hf⟩ := zz_g (w := wC ad cA) hP hD hf
  refine lv_aload_n (pc := 87) hx hb dX2_copy_87 rfl (lv_at hl 1 rfl) ?_
  refine gc_5_askedDay (pc := 88) CF hK hP mF_X2_30 dX2_copy_88 ?_
  refine lv_iconst (pc := 91) (v := 0) hx hb dX2_copy_91 (by decide) ?_
  refine lv_aload_n (pc := 92) hx hb dX2_copy_92 rfl (lv_at hl 0 rfl) ?_
  refine gc_13_askedDay (pc := 93) CF hK hP mF_X2_30 dX2_copy_93 ?_
  refine lv_iconst (pc := 96) (v := 0) hx hb dX2_copy_96 (by decide) ?_
  refine lv_bipush (pc := 97) (v := 8) hx hb dX2_copy_97 (by decide) ?_
  refine yc_kwday_wday (pc := 99) CF hl.1 hK hP hD hS mL_X2_47 (by decide) (by decide) dX2_copy_99 (fun H locs hP hD hS => ?_)
  obtain ⟨σ99, hP, hD, hf⟩ := zz_g (w := wC ad cA) hP hD hf
  refine lv_aload_n (pc := 102) hx hb dX2_copy_102 rfl (lv_at hl 0 rfl) ?_
  refine lv_aload_n (pc := 103) hx hb dX2_copy_103 rfl (lv_at hl 1 rfl) ?_
  refine gc_5_asked (pc := 104) CF hK hP mF_X2_33 dX2_copy_104 ?_
  refine pc_13_asked (pc := 107) CF hK hP hD hS mF_X2_33 dX2_copy_107 (fun H locs hP hD hS => ?_)
  obtain ⟨σ107, hP, hD, hf⟩ := zz_g (w := wC ad cA) hP hD hf
  refine lv_aload_n (pc := 110) hx hb dX2_copy_110 rfl (lv_at hl 0 rfl) ?_
  refine lv_aload_n (pc := 111) hx hb dX2_copy_111 rfl (lv_at hl 1 rfl) ?_
  refine gc_5_days (pc := 112) CF hK hP mF_X2_37 dX2_copy_112 ?_
  refine pc_13_days (pc := 115) CF hK hP hD hS mF_X2_37 dX2_copy_115 (fun H locs hP hD hS => ?_)
  obtain ⟨σ115, hP, hD, hf⟩ := zz_g (w := wC ad cA) hP hD hf
  refine lv_aload_n (pc := 118) hx hb dX2_copy_118 rfl (lv_at hl 0 rfl) ?_
  refine lv_aload_n (pc := 119) hx hb dX2_copy_119 rfl (lv_at hl 1 rfl) ?_
  refine gc_5_changes (pc := 120) CF hK hP mF_X2_40 dX2_copy_120 ?_
  refine pc_13_changes (pc := 123) CF hK hP hD hS mF_X2_40 dX2_copy_123 (fun H locs hP hD hS => ?_)
  obtain ⟨σ123, hP, hD, hf⟩ := zz_g (w := wC ad cA) hP hD hf
  exact retVw (wf := wC ad cA) hx hb hr hlk hf hP hD hS dX2_copy_126
