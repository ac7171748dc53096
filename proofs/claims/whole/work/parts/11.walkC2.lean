set_option maxHeartbeats 4000000 in
set_option maxRecDepth 100000 in
theorem tX2_tunnelsHeardBy {l : Launch} {kv : Nat × Nat} {D : va_G} {N : Nat} {ad : Nat → Nat} {cA : ClassId} {σ : SC} {x1 : Int32} {rF : Int32} (hf : fX2_tunnelsHeardBy N σ x1 = some rF) : Ct l kv D [(cA, .int)] yX2_tunnelsHeardBy cX2_tunnelsHeardBy 4 (some .int) 1 21 (wC ad cA σ) (wC ad cA σ) [.ref (ad 5), .int x1] (some (.int rF)) := by
  refine Ct.ofW (by decide) (Nat.le_of_ble_eq_true rfl) ?_
  intro p e s m below meth c A args CF hr hlk hA hP hK hD hN hW hS ls hl
  have hx := CF.1
  have hb := CF.2.1
  have hml := CF.2.2.1
  have hown := CF.2.2.2.1
  have hw : ∀ w ∈ wsA, w.before args s = true := fun w h => CF.2.2.2.2 w (List.mem_cons_of_mem _ h)
  have hl : lv_has ls 4 [(0, .ref (ad 5)), (1, .int x1)] := hl
  unfold fX2_tunnelsHeardBy at hf
  have L4 : ∀ (n4 : Nat) (x1 : Int32) (x2 : Int32) (x3 : Int32) (H : Heap) (locs : List Loc) (ls : Array Slot), va_P D vwCl (wC ad cA σ) H → va_D A (wC ad cA σ) → va_S A s.heap H locs → lv_has ls 4 [(0, .ref (ad 5)), (1, .int x1), (2, .int x2), (3, .int x3)] → fX2_tunnelsHeardBy_4 N n4 σ x1 x2 x3 = some rF → G p l e 1 21 s m args below meth c D A (wC ad cA σ) (some (.int rF)) H locs (F0 m 4 ls []) := by
    intro n4
    induction n4 with
    | zero => intro x1 x2 x3 H locs ls hP hD hS hl hf; exact absurd hf (by simp [fX2_tunnelsHeardBy_4])
    | succ n4 ih4 =>
      intro x1 x2 x3 H locs ls hP hD hS hl hf
      rw [fX2_tunnelsHeardBy_4] at hf
      refine lv_iload_n (pc := 4) hx hb dX2_tunnelsHeardBy_4 rfl (lv_at hl 3 rfl) ?_
      refine lv_iconst (pc := 5) (v := 3) hx hb dX2_tunnelsHeardBy_5 (by decide) ?_
      refine lv_icmp_ge (pc := 6) (tgt := 34) hx hb dX2_tunnelsHeardBy_6 (by decide) (fun c6 => ?_) (fun c6 => ?_)
      · have hf := zz_t c6 hf
        refine lv_iload_n (pc := 34) hx hb dX2_tunnelsHeardBy_34 rfl (lv_at hl 2 rfl) ?_
        exact retI hx hb hr hlk hf hP hD hS dX2_tunnelsHeardBy_35
      · have hf := zz_f c6 hf
        refine lv_iload_n (pc := 9) hx hb dX2_tunnelsHeardBy_9 rfl (lv_at hl 1 rfl) ?_
        refine lv_aload_n (pc := 10) hx hb dX2_tunnelsHeardBy_10 rfl (lv_at hl 0 rfl) ?_
        refine gc_5_heard (pc := 11) CF hK hP mF_X2_18 dX2_tunnelsHeardBy_11 ?_
        refine lv_iload_n (pc := 14) hx hb dX2_tunnelsHeardBy_14 rfl (lv_at hl 3 rfl) ?_
        obtain ⟨c15, hf⟩ := zz_k hf
        refine lc_heard (pc := 15) hx hb hK hP c15 dX2_tunnelsHeardBy_15 ?_
        obtain ⟨v16, h16, hf⟩ := zz_o hf
        refine cSN (pc := 16) (rest := []) (st1 := [.int v16]) CF (tX5_isIn h16) hK hP hD hS hA hN hW (nm 1) kX5_isIn nX5_isIn rfl rfl ⟨by decide, by decide⟩ hl.1 (Nat.le_of_ble_eq_true rfl) ⟨Nat.le_refl _, Nat.le_refl _⟩ rfl dX2_tunnelsHeardBy_16 (fun H locs hP hD hS => ?_)
        refine lv_if_eq (pc := 19) (tgt := 28) hx hb dX2_tunnelsHeardBy_19 (by decide) (fun c19 => ?_) (fun c19 => ?_)
        · have hf := zz_t c19 hf
          refine lv_iinc (pc := 28) (v := (x3 + 1)) (lv' := [(3, .int (x3 + 1)), (0, .ref (ad 5)), (1, .int x1), (2, .int x2)]) hx hb dX2_tunnelsHeardBy_28 hl (k := 3) rfl rfl (by decide) rfl (fun ls hl => ?_)
          refine lv_goto (pc := 31) (tgt := 4) hx hb dX2_tunnelsHeardBy_31 (by decide) ?_
          exact ih4 x1 x2 (x3 + 1) _ _ _ hP hD hS (lv_sub hl [1, 2, 3, 0] rfl) hf
        · have hf := zz_f c19 hf
          refine lv_iload_n (pc := 22) hx hb dX2_tunnelsHeardBy_22 rfl (lv_at hl 2 rfl) ?_
          refine lv_iconst (pc := 23) (v := 1) hx hb dX2_tunnelsHeardBy_23 (by decide) ?_
          refine lv_iload_n (pc := 24) hx hb dX2_tunnelsHeardBy_24 rfl (lv_at hl 3 rfl) ?_
          refine lv_ishl (pc := 25) hx hb dX2_tunnelsHeardBy_25 ?_
          refine lv_ior (pc := 26) hx hb dX2_tunnelsHeardBy_26 ?_
          refine lv_istore_n (pc := 27) (lv' := [(2, .int (x2 ||| (1 <<< (x3 &&& 31)))), (0, .ref (ad 5)), (1, .int x1), (3, .int x3)]) hx hb dX2_tunnelsHeardBy_27 rfl hl (by decide) rfl (fun ls hl => ?_)
          refine lv_iinc (pc := 28) (v := (x3 + 1)) (lv' := [(3, .int (x3 + 1)), (2, .int (x2 ||| (1 <<< (x3 &&& 31)))), (0, .ref (ad 5)), (1, .int x1)]) hx hb dX2_tunnelsHeardBy_28 hl (k := 3) rfl rfl (by decide) rfl (fun ls hl => ?_)
          refine lv_goto (pc := 31) (tgt := 4) hx hb dX2_tunnelsHeardBy_31 (by decide) ?_
          exact ih4 x1 (x2 ||| (1 <<< (x3 &&& 31))) (x3 + 1) _ _ _ hP hD hS (lv_sub hl [2, 3, 1, 0] rfl) hf
  refine lv_iconst (pc := 0) (v := 0) hx hb dX2_tunnelsHeardBy_0 (by decide) ?_
  refine lv_istore_n (pc := 1) (lv' := [(2, .int 0), (0, .ref (ad 5)), (1, .int x1)]) hx hb dX2_tunnelsHeardBy_1 rfl hl (by decide) rfl (fun ls hl => ?_)
  refine lv_iconst (pc := 2) (v := 0) hx hb dX2_tunnelsHeardBy_2 (by decide) ?_
  refine lv_istore_n (pc := 3) (lv' := [(3, .int 0), (2, .int 0), (0, .ref (ad 5)), (1, .int x1)]) hx hb dX2_tunnelsHeardBy_3 rfl hl (by decide) rfl (fun ls hl => ?_)
  exact L4 N x1 0 0 _ _ _ hP hD hS (lv_sub hl [2, 3, 1, 0] rfl) hf
set_option maxHeartbeats 4000000 in
set_option maxRecDepth 100000 in
theorem tX4_hearers {l : Launch} {kv : Nat × Nat} {D : va_G} {N : Nat} {ad : Nat → Nat} {cA : ClassId} {σ : SC} {x1 : Int32} {x2 : Int32} {rF : Int32} (hf : fX4_hearers N σ x1 x2 = some rF) : Ct l kv D [(cA, .int)] yX4_hearers cX4_hearers 5 (some .int) 1 21 (wC ad cA σ) (wC ad cA σ) [.ref (ad 21), .int x1, .int x2] (some (.int rF)) := by
  refine Ct.ofW (by decide) (Nat.le_of_ble_eq_true rfl) ?_
  intro p e s m below meth c A args CF hr hlk hA hP hK hD hN hW hS ls hl
  have hx := CF.1
  have hb := CF.2.1
  have hml := CF.2.2.1
  have hown := CF.2.2.2.1
  have hw : ∀ w ∈ wsA, w.before args s = true := fun w h => CF.2.2.2.2 w (List.mem_cons_of_mem _ h)
  have hl : lv_has ls 5 [(0, .ref (ad 21)), (1, .int x1), (2, .int x2)] := hl
  unfold fX4_hearers at hf
  have L5 : ∀ (n5 : Nat) (x1 : Int32) (x2 : Int32) (x3 : Int32) (x4 : Int32) (H : Heap) (locs : List Loc) (ls : Array Slot), va_P D vwCl (wC ad cA σ) H → va_D A (wC ad cA σ) → va_S A s.heap H locs → lv_has ls 5 [(0, .ref (ad 21)), (1, .int x1), (2, .int x2), (3, .int x3), (4, .int x4)] → fX4_hearers_5 N n5 σ x1 x2 x3 x4 = some rF → G p l e 1 21 s m args below meth c D A (wC ad cA σ) (some (.int rF)) H locs (F0 m 5 ls []) := by
    intro n5
    induction n5 with
    | zero => intro x1 x2 x3 x4 H locs ls hP hD hS hl hf; exact absurd hf (by simp [fX4_hearers_5])
    | succ n5 ih5 =>
      intro x1 x2 x3 x4 H locs ls hP hD hS hl hf
      rw [fX4_hearers_5] at hf
      refine lv_iload (pc := 5) hx hb dX4_hearers_5 (lv_at hl 4 rfl) ?_
      refine lv_aload_n (pc := 7) hx hb dX4_hearers_7 rfl (lv_at hl 0 rfl) ?_
      refine gc_21_hill (pc := 8) CF hK hP mF_X4_9 dX4_hearers_8 ?_
      refine gcN_3_people (pc := 11) CF hK hP hN (nf 2) dX4_hearers_11 ?_
      refine lv_icmp_ge (pc := 14) (tgt := 44) hx hb dX4_hearers_14 (by decide) (fun c14 => ?_) (fun c14 => ?_)
      · have hf := zz_t c14 hf
        refine lv_iload_n (pc := 44) hx hb dX4_hearers_44 rfl (lv_at hl 3 rfl) ?_
        refine lv_iload_n (pc := 45) hx hb dX4_hearers_45 rfl (lv_at hl 1 rfl) ?_
        refine lv_iconst (pc := 46) (v := (-1)) hx hb dX4_hearers_46 (by decide) ?_
        refine lv_ixor (pc := 47) hx hb dX4_hearers_47 ?_
        refine lv_iand (pc := 48) hx hb dX4_hearers_48 ?_
        exact retI hx hb hr hlk hf hP hD hS dX4_hearers_49
      · have hf := zz_f c14 hf
        refine lv_iload (pc := 17) hx hb dX4_hearers_17 (lv_at hl 4 rfl) ?_
        refine lv_iload_n (pc := 19) hx hb dX4_hearers_19 rfl (lv_at hl 2 rfl) ?_
        obtain ⟨v20, h20, hf⟩ := zz_o hf
        refine cSN (pc := 20) (rest := []) (st1 := [.int v20]) CF (tX5_isIn h20) hK hP hD hS hA hN hW (nm 2) kX5_isIn nX5_isIn rfl rfl ⟨by decide, by decide⟩ hl.1 (Nat.le_of_ble_eq_true rfl) ⟨Nat.le_refl _, Nat.le_refl _⟩ rfl dX4_hearers_20 (fun H locs hP hD hS => ?_)
        refine lv_if_eq (pc := 23) (tgt := 38) hx hb dX4_hearers_23 (by decide) (fun c23 => ?_) (fun c23 => ?_)
        · have hf := zz_t c23 hf
          refine lv_iinc (pc := 38) (v := (x4 + 1)) (lv' := [(4, .int (x4 + 1)), (0, .ref (ad 21)), (1, .int x1), (2, .int x2), (3, .int x3)]) hx hb dX4_hearers_38 hl (k := 4) rfl rfl (by decide) rfl (fun ls hl => ?_)
          refine lv_goto (pc := 41) (tgt := 5) hx hb dX4_hearers_41 (by decide) ?_
          exact ih5 x1 x2 x3 (x4 + 1) _ _ _ hP hD hS (lv_sub hl [1, 2, 3, 4, 0] rfl) hf
        · have hf := zz_f c23 hf
          refine lv_iload_n (pc := 26) hx hb dX4_hearers_26 rfl (lv_at hl 3 rfl) ?_
          refine lv_aload_n (pc := 27) hx hb dX4_hearers_27 rfl (lv_at hl 0 rfl) ?_
          refine gc_21_past (pc := 28) CF hK hP mF_X4_15 dX4_hearers_28 ?_
          refine lv_iload (pc := 31) hx hb dX4_hearers_31 (lv_at hl 4 rfl) ?_
          obtain ⟨v33, h33, hf⟩ := zz_o hf
          refine cV (pc := 33) (rest := [.int x3]) (st1 := [.int v33, .int x3]) (q0 := 5) CF (tX2_listenersOf h33) hK hP hD hS hA hN hW mL_X4_29 kX2_listenersOf nX2_listenersOf rfl rfl rfl rfl ⟨by decide, by decide⟩ hl.1 (Nat.le_of_ble_eq_true rfl) ⟨Nat.le_refl _, Nat.le_refl _⟩ rfl dX4_hearers_33 (fun H locs hP hD hS => ?_)
          refine lv_ior (pc := 36) hx hb dX4_hearers_36 ?_
          refine lv_istore_n (pc := 37) (lv' := [(3, .int (x3 ||| v33)), (0, .ref (ad 21)), (1, .int x1), (2, .int x2), (4, .int x4)]) hx hb dX4_hearers_37 rfl hl (by decide) rfl (fun ls hl => ?_)
          refine lv_iinc (pc := 38) (v := (x4 + 1)) (lv' := [(4, .int (x4 + 1)), (3, .int (x3 ||| v33)), (0, .ref (ad 21)), (1, .int x1), (2, .int x2)]) hx hb dX4_hearers_38 hl (k := 4) rfl rfl (by decide) rfl (fun ls hl => ?_)
          refine lv_goto (pc := 41) (tgt := 5) hx hb dX4_hearers_41 (by decide) ?_
          exact ih5 x1 x2 (x3 ||| v33) (x4 + 1) _ _ _ hP hD hS (lv_sub hl [2, 3, 4, 1, 0] rfl) hf
  refine lv_iconst (pc := 0) (v := 0) hx hb dX4_hearers_0 (by decide) ?_
  refine lv_istore_n (pc := 1) (lv' := [(3, .int 0), (0, .ref (ad 21)), (1, .int x1), (2, .int x2)]) hx hb dX4_hearers_1 rfl hl (by decide) rfl (fun ls hl => ?_)
  refine lv_iconst (pc := 2) (v := 0) hx hb dX4_hearers_2 (by decide) ?_
  refine lv_istore (pc := 3) (lv' := [(4, .int 0), (3, .int 0), (0, .ref (ad 21)), (1, .int x1), (2, .int x2)]) hx hb dX4_hearers_3 hl (by decide) rfl (fun ls hl => ?_)
  exact L5 N x1 x2 0 0 _ _ _ hP hD hS (lv_sub hl [2, 3, 4, 1, 0] rfl) hf
set_option maxHeartbeats 4000000 in
set_option maxRecDepth 100000 in
theorem tX0_yardsBy {l : Launch} {kv : Nat × Nat} {D : va_G} {N : Nat} {tys : List (ClassId × FieldType)} {ws : va_W} {x0 : Int32} {rF : Int32} (hf : fX0_yardsBy N x0 = some rF) : Ct l kv D tys yX0_yardsBy cX0_yardsBy 1 (some .int) 0 0 ws ws [.int x0] (some (.int rF)) := by
  refine Ct.ofW (by decide) (Nat.le_of_ble_eq_true rfl) ?_
  intro p e s m below meth c A args CF hr hlk hA hP hK hD hN hW hS ls hl
  have hx := CF.1
  have hb := CF.2.1
  have hml := CF.2.2.1
  have hown := CF.2.2.2.1
  have hw : ∀ w ∈ wsA, w.before args s = true := fun w h => CF.2.2.2.2 w (List.mem_cons_of_mem _ h)
  have hl : lv_has ls 1 [(0, .int x0)] := hl
  unfold fX0_yardsBy at hf
  refine lv_iload_n (pc := 0) hx hb dX0_yardsBy_0 rfl (lv_at hl 0 rfl) ?_
  by_cases c1_0 : x0 = 1
  · have hf := zz_t c1_0 hf
    refine lv_tableIn (pc := 1) (tgt := 32) hx hb dX0_yardsBy_1 (by rw [c1_0] <;> decide) (by rw [c1_0] <;> decide) (by rw [c1_0] <;> rfl) (by decide) ?_
    refine lv_iconst (pc := 32) (v := (-1)) hx hb dX0_yardsBy_32 (by decide) ?_
    exact retI hx hb hr hlk hf hP hD hS dX0_yardsBy_33
  have hf := zz_f c1_0 hf
  by_cases c1_1 : x0 = 2
  · have hf := zz_t c1_1 hf
    refine lv_tableIn (pc := 1) (tgt := 36) hx hb dX0_yardsBy_1 (by rw [c1_1] <;> decide) (by rw [c1_1] <;> decide) (by rw [c1_1] <;> rfl) (by decide) ?_
    refine lv_iconst (pc := 36) (v := 1) hx hb dX0_yardsBy_36 (by decide) ?_
    exact retI hx hb hr hlk hf hP hD hS dX0_yardsBy_37
  have hf := zz_f c1_1 hf
  by_cases c1_2 : x0 = 3
  · have hf := zz_t c1_2 hf
    refine lv_tableIn (pc := 1) (tgt := 34) hx hb dX0_yardsBy_1 (by rw [c1_2] <;> decide) (by rw [c1_2] <;> decide) (by rw [c1_2] <;> rfl) (by decide) ?_
    refine lv_iconst (pc := 34) (v := 2) hx hb dX0_yardsBy_34 (by decide) ?_
    exact retI hx hb hr hlk hf hP hD hS dX0_yardsBy_35
  have hf := zz_f c1_2 hf
  by_cases c1_3 : x0 = 4
  · have hf := zz_t c1_3 hf
    refine lv_tableIn (pc := 1) (tgt := 34) hx hb dX0_yardsBy_1 (by rw [c1_3] <;> decide) (by rw [c1_3] <;> decide) (by rw [c1_3] <;> rfl) (by decide) ?_
    refine lv_iconst (pc := 34) (v := 2) hx hb dX0_yardsBy_34 (by decide) ?_
    exact retI hx hb hr hlk hf hP hD hS dX0_yardsBy_35
  have hf := zz_f c1_3 hf
  refine lv_tableOut (pc := 1) (tgt := 36) hx hb dX0_yardsBy_1 (sw_1_4 (lv_neT (a := 1) c1_0 rfl) (lv_neT (a := 2) c1_1 rfl) (lv_neT (a := 3) c1_2 rfl) (lv_neT (a := 4) c1_3 rfl)) (by decide) ?_
  refine lv_iconst (pc := 36) (v := 1) hx hb dX0_yardsBy_36 (by decide) ?_
  exact retI hx hb hr hlk hf hP hD hS dX0_yardsBy_37
set_option maxHeartbeats 4000000 in
set_option maxRecDepth 100000 in
theorem tX0_length {l : Launch} {kv : Nat × Nat} {D : va_G} {N : Nat} {ad : Nat → Nat} {cA : ClassId} {σ : SC} {x1 : Int32} {x2 : Int32} {rF : Int32} (hf : fX0_length N σ x1 x2 = some rF) : Ct l kv D [(cA, .int)] yX0_length cX0_length 6 (some .int) 1 21 (wC ad cA σ) (wC ad cA σ) [.ref (ad 3), .int x1, .int x2] (some (.int rF)) := by
  refine Ct.ofW (by decide) (Nat.le_of_ble_eq_true rfl) ?_
  intro p e s m below meth c A args CF hr hlk hA hP hK hD hN hW hS ls hl
  have hx := CF.1
  have hb := CF.2.1
  have hml := CF.2.2.1
  have hown := CF.2.2.2.1
  have hw : ∀ w ∈ wsA, w.before args s = true := fun w h => CF.2.2.2.2 w (List.mem_cons_of_mem _ h)
  have hl : lv_has ls 6 [(0, .ref (ad 3)), (1, .int x1), (2, .int x2)] := hl
  unfold fX0_length at hf
  have L9 : ∀ (n9 : Nat) (x1 : Int32) (x3 : Int32) (x4 : Int32) (x5 : Int32) (H : Heap) (locs : List Loc) (ls : Array Slot), va_P D vwCl (wC ad cA σ) H → va_D A (wC ad cA σ) → va_S A s.heap H locs → lv_has ls 6 [(0, .ref (ad 3)), (1, .int x1), (3, .int x3), (4, .int x4), (5, .int x5)] → fX0_length_9 N n9 σ x1 x3 x4 x5 = some rF → G p l e 1 21 s m args below meth c D A (wC ad cA σ) (some (.int rF)) H locs (F0 m 9 ls []) := by
    intro n9
    induction n9 with
    | zero => intro x1 x3 x4 x5 H locs ls hP hD hS hl hf; exact absurd hf (by simp [fX0_length_9])
    | succ n9 ih9 =>
      intro x1 x3 x4 x5 H locs ls hP hD hS hl hf
      rw [fX0_length_9] at hf
      refine lv_iload (pc := 9) hx hb dX0_length_9 (lv_at hl 4 rfl) ?_
      refine lv_aload_n (pc := 11) hx hb dX0_length_11 rfl (lv_at hl 0 rfl) ?_
      refine gc_3_people (pc := 12) CF hK hP mF_X0_15 dX0_length_12 ?_
      refine lv_icmp_ge (pc := 15) (tgt := 65) hx hb dX0_length_15 (by decide) (fun c15 => ?_) (fun c15 => ?_)
      · have hf := zz_t c15 hf
        refine lv_iload_n (pc := 65) hx hb dX0_length_65 rfl (lv_at hl 2 rfl) ?_
        refine lv_iconst (pc := 66) (v := 0) hx hb dX0_length_66 (by decide) ?_
        refine va_mmax (pc := 67) hx hb (hml.trans hl.1.symm) hown (hw _ mL_X0_58) (hw _ mT_Lib_Math_max_name) (hw _ mN_J9) (hw _ mC_Lib_Math_max_name) (by decide) (Nat.le_of_ble_eq_true rfl) (Nat.le_refl _) (Nat.le_refl _) dX0_length_67 ?_
        refine lv_istore (pc := 70) (lv' := [(5, .int (if x3 < 0 then 0 else x3)), (0, .ref (ad 3)), (1, .int x1), (3, .int x3), (4, .int x4)]) hx hb dX0_length_70 hl (by decide) rfl (fun ls hl => ?_)
        refine lv_iload (pc := 72) hx hb dX0_length_72 (lv_at hl 4 rfl) ?_
        refine lv_if_eq (pc := 74) (tgt := 82) hx hb dX0_length_74 (by decide) (fun c74 => ?_) (fun c74 => ?_)
        · have hf := zz_t c74 hf
          refine lv_iload (pc := 82) hx hb dX0_length_82 (lv_at hl 0 rfl) ?_
          refine lv_aload_n (pc := 84) hx hb dX0_length_84 rfl (lv_at hl 1 rfl) ?_
          refine gc_3_river (pc := 85) CF hK hP mF_X0_19 dX0_length_85 ?_
          refine va_mmin (pc := 88) hx hb (hml.trans hl.1.symm) hown (hw _ mL_X0_28) (hw _ mT_Lib_Math_min_name) (hw _ mN_J9) (hw _ mC_Lib_Math_min_name) (by decide) (Nat.le_of_ble_eq_true rfl) (Nat.le_refl _) (Nat.le_refl _) dX0_length_88 ?_
          exact retI hx hb hr hlk hf hP hD hS dX0_length_91
        · have hf := zz_f c74 hf
          refine lv_iload (pc := 77) hx hb dX0_length_77 (lv_at hl 0 rfl) ?_
          refine lv_goto (pc := 79) (tgt := 91) hx hb dX0_length_79 (by decide) ?_
          exact retI hx hb hr hlk hf hP hD hS dX0_length_91
      · have hf := zz_f c15 hf
        refine lv_iload (pc := 18) hx hb dX0_length_18 (lv_at hl 4 rfl) ?_
        refine lv_iload_n (pc := 20) hx hb dX0_length_20 rfl (lv_at hl 1 rfl) ?_
        obtain ⟨v21, h21, hf⟩ := zz_o hf
        refine cSN (pc := 21) (rest := []) (st1 := [.int v21]) CF (tX5_isIn h21) hK hP hD hS hA hN hW (nm 3) kX5_isIn nX5_isIn rfl rfl ⟨by decide, by decide⟩ hl.1 (Nat.le_of_ble_eq_true rfl) ⟨Nat.le_refl _, Nat.le_refl _⟩ rfl dX0_length_21 (fun H locs hP hD hS => ?_)
        refine lv_if_eq (pc := 24) (tgt := 59) hx hb dX0_length_24 (by decide) (fun c24 => ?_) (fun c24 => ?_)
        · have hf := zz_t c24 hf
          refine lv_iinc (pc := 59) (v := (x5 + 1)) (lv' := [(5, .int (x5 + 1)), (0, .ref (ad 3)), (1, .int x1), (3, .int x3), (4, .int x4)]) hx hb dX0_length_59 hl (k := 4) rfl rfl (by decide) rfl (fun ls hl => ?_)
          refine lv_goto (pc := 62) (tgt := 9) hx hb dX0_length_62 (by decide) ?_
          exact ih9 x1 x3 x4 (x5 + 1) _ _ _ hP hD hS (lv_sub hl [1, 2, 3, 4, 0] rfl) hf
        · have hf := zz_f c24 hf
          refine lv_iload_n (pc := 27) hx hb dX0_length_27 rfl (lv_at hl 2 rfl) ?_
          refine lv_aload_n (pc := 28) hx hb dX0_length_28 rfl (lv_at hl 0 rfl) ?_
          refine lv_iload (pc := 29) hx hb dX0_length_29 (lv_at hl 4 rfl) ?_
          obtain ⟨v31, h31, hf⟩ := zz_o hf
          refine cV (pc := 31) (rest := [.int x3]) (st1 := [.int v31, .int x3]) (q0 := 3) CF (tX0_kindOf h31) hK hP hD hS hA hN hW mL_X0_41 kX0_kindOf nX0_kindOf rfl rfl rfl rfl ⟨by decide, by decide⟩ hl.1 (Nat.le_of_ble_eq_true rfl) ⟨Nat.le_refl _, Nat.le_refl _⟩ rfl dX0_length_31 (fun H locs hP hD hS => ?_)
          obtain ⟨v34, h34, hf⟩ := zz_o hf
          refine cSt (pc := 34) (rest := [.int x3]) (st1 := [.int v34, .int x3]) CF (tX0_yardsBy h34) hK hP hD hS hA hN hW mL_X0_55 kX0_yardsBy nX0_yardsBy rfl rfl ⟨by decide, by decide⟩ hl.1 (Nat.le_of_ble_eq_true rfl) ⟨Nat.le_refl _, Nat.le_refl _⟩ rfl dX0_length_34 (fun H locs hP hD hS => ?_)
          refine lv_iadd (pc := 37) hx hb dX0_length_37 ?_
          refine lv_istore_n (pc := 38) (lv' := [(3, .int (x3 + v34)), (0, .ref (ad 3)), (1, .int x1), (4, .int x4), (5, .int x5)]) hx hb dX0_length_38 rfl hl (by decide) rfl (fun ls hl => ?_)
          refine lv_iload (pc := 39) hx hb dX0_length_39 (lv_at hl 3 rfl) ?_
          refine lv_aload_n (pc := 41) hx hb dX0_length_41 rfl (lv_at hl 1 rfl) ?_
          refine lv_iload (pc := 42) hx hb dX0_length_42 (lv_at hl 4 rfl) ?_
          obtain ⟨v44, h44, hf⟩ := zz_o hf
          refine cV (pc := 44) (rest := [.int x4]) (st1 := [.int v44, .int x4]) (q0 := 3) CF (tX0_kindOf h44) hK hP hD hS hA hN hW mL_X0_41 kX0_kindOf nX0_kindOf rfl rfl rfl rfl ⟨by decide, by decide⟩ hl.1 (Nat.le_of_ble_eq_true rfl) ⟨Nat.le_refl _, Nat.le_refl _⟩ rfl dX0_length_44 (fun H locs hP hD hS => ?_)
          refine lv_iconst (pc := 47) (v := 4) hx hb dX0_length_47 (by decide) ?_
          refine lv_icmp_ne (pc := 48) (tgt := 55) hx hb dX0_length_48 (by decide) (fun c48 => ?_) (fun c48 => ?_)
          · have hf := zz_f c48 hf
            refine lv_iconst (pc := 55) (v := 0) hx hb dX0_length_55 (by decide) ?_
            refine lv_ior (pc := 56) hx hb dX0_length_56 ?_
            refine lv_istore (pc := 57) (lv' := [(4, .int (x4 ||| 0)), (3, .int (x3 + v34)), (0, .ref (ad 3)), (1, .int x1), (5, .int x5)]) hx hb dX0_length_57 hl (by decide) rfl (fun ls hl => ?_)
            refine lv_iinc (pc := 59) (v := (x5 + 1)) (lv' := [(5, .int (x5 + 1)), (4, .int (x4 ||| 0)), (3, .int (x3 + v34)), (0, .ref (ad 3)), (1, .int x1)]) hx hb dX0_length_59 hl (k := 4) rfl rfl (by decide) rfl (fun ls hl => ?_)
            refine lv_goto (pc := 62) (tgt := 9) hx hb dX0_length_62 (by decide) ?_
            exact ih9 x1 (x3 + v34) (x4 ||| 0) (x5 + 1) _ _ _ hP hD hS (lv_sub hl [3, 4, 2, 1, 0] rfl) hf
          · have hf := zz_t c48 hf
            refine lv_iconst (pc := 51) (v := 1) hx hb dX0_length_51 (by decide) ?_
            refine lv_goto (pc := 52) (tgt := 56) hx hb dX0_length_52 (by decide) ?_
            refine lv_ior (pc := 56) hx hb dX0_length_56 ?_
            refine lv_istore (pc := 57) (lv' := [(4, .int (x4 ||| 1)), (3, .int (x3 + v34)), (0, .ref (ad 3)), (1, .int x1), (5, .int x5)]) hx hb dX0_length_57 hl (by decide) rfl (fun ls hl => ?_)
            refine lv_iinc (pc := 59) (v := (x5 + 1)) (lv' := [(5, .int (x5 + 1)), (4, .int (x4 ||| 1)), (3, .int (x3 + v34)), (0, .ref (ad 3)), (1, .int x1)]) hx hb dX0_length_59 hl (k := 4) rfl rfl (by decide) rfl (fun ls hl => ?_)
            refine lv_goto (pc := 62) (tgt := 9) hx hb dX0_length_62 (by decide) ?_
            exact ih9 x1 (x3 + v34) (x4 ||| 1) (x5 + 1) _ _ _ hP hD hS (lv_sub hl [3, 4, 2, 1, 0] rfl) hf
  refine lv_iload_n (pc := 0) hx hb dX0_length_0 rfl (lv_at hl 2 rfl) ?_
  refine lv_ineg (pc := 1) hx hb dX0_length_1 ?_
  refine lv_istore_n (pc := 2) (lv' := [(3, .int (-x2)), (0, .ref (ad 3)), (1, .int x1), (2, .int x2)]) hx hb dX0_length_2 rfl hl (by decide) rfl (fun ls hl => ?_)
  refine lv_iconst (pc := 3) (v := 0) hx hb dX0_length_3 (by decide) ?_
  refine lv_istore (pc := 4) (lv' := [(4, .int 0), (3, .int (-x2)), (0, .ref (ad 3)), (1, .int x1), (2, .int x2)]) hx hb dX0_length_4 hl (by decide) rfl (fun ls hl => ?_)
  refine lv_iconst (pc := 6) (v := 0) hx hb dX0_length_6 (by decide) ?_
  refine lv_istore (pc := 7) (lv' := [(5, .int 0), (4, .int 0), (3, .int (-x2)), (0, .ref (ad 3)), (1, .int x1), (2, .int x2)]) hx hb dX0_length_7 hl (by decide) rfl (fun ls hl => ?_)
  exact L9 N x1 (-x2) 0 0 _ _ _ hP hD hS (lv_sub hl [3, 4, 2, 1, 0] rfl) hf
set_option maxHeartbeats 4000000 in
set_option maxRecDepth 100000 in
theorem tX4_lengthInTheEnd {l : Launch} {kv : Nat × Nat} {D : va_G} {N : Nat} {ad : Nat → Nat} {cA : ClassId} {σ : SC} {x1 : Int32} {x2 : Int32} {x3 : Int32} {rF : Int32} (hf : fX4_lengthInTheEnd N σ x1 x2 x3 = some rF) : Ct l kv D [(cA, .int)] yX4_lengthInTheEnd cX4_lengthInTheEnd 7 (some .int) 2 46 (wC ad cA σ) (wC ad cA σ) [.ref (ad 21), .int x1, .int x2, .int x3] (some (.int rF)) := by
  refine Ct.ofW (by decide) (Nat.le_of_ble_eq_true rfl) ?_
  intro p e s m below meth c A args CF hr hlk hA hP hK hD hN hW hS ls hl
  have hx := CF.1
  have hb := CF.2.1
  have hml := CF.2.2.1
  have hown := CF.2.2.2.1
  have hw : ∀ w ∈ wsA, w.before args s = true := fun w h => CF.2.2.2.2 w (List.mem_cons_of_mem _ h)
  have hl : lv_has ls 7 [(0, .ref (ad 21)), (1, .int x1), (2, .int x2), (3, .int x3)] := hl
  unfold fX4_lengthInTheEnd at hf
  have J49 : ∀ (x3 : Int32) (x4 : Int32) (H : Heap) (locs : List Loc) (ls : Array Slot), va_P D vwCl (wC ad cA σ) H → va_D A (wC ad cA σ) → va_S A s.heap H locs → lv_has ls 7 [(0, .ref (ad 21)), (3, .int x3), (4, .int x4)] → fX4_lengthInTheEnd_49 N σ x3 x4 = some rF → G p l e 2 46 s m args below meth c D A (wC ad cA σ) (some (.int rF)) H locs (F0 m 49 ls []) := by
    intro x3 x4 H locs ls hP hD hS hl hf
    unfold fX4_lengthInTheEnd_49 at hf
    refine lv_aload_n (pc := 49) hx hb dX4_lengthInTheEnd_49 rfl (lv_at hl 0 rfl) ?_
    refine gc_21_hill (pc := 50) CF hK hP mF_X4_9 dX4_lengthInTheEnd_50 ?_
    refine lv_iload (pc := 53) hx hb dX4_lengthInTheEnd_53 (lv_at hl 2 rfl) ?_
    refine lv_iload_n (pc := 55) hx hb dX4_lengthInTheEnd_55 rfl (lv_at hl 1 rfl) ?_
    obtain ⟨v56, h56, hf⟩ := zz_o hf
    refine cV (pc := 56) (rest := []) (st1 := [.int v56]) (q0 := 3) CF (tX0_length h56) hK hP hD hS hA hN hW mL_X4_43 kX0_length nX0_length rfl rfl rfl rfl ⟨by decide, by decide⟩ hl.1 (Nat.le_of_ble_eq_true rfl) ⟨Nat.le_refl _, Nat.le_refl _⟩ rfl dX4_lengthInTheEnd_56 (fun H locs hP hD hS => ?_)
    exact retI hx hb hr hlk hf hP hD hS dX4_lengthInTheEnd_59
  have L9 : ∀ (n9 : Nat) (x3 : Int32) (x4 : Int32) (x5 : Int32) (x6 : Int32) (H : Heap) (locs : List Loc) (ls : Array Slot), va_P D vwCl (wC ad cA σ) H → va_D A (wC ad cA σ) → va_S A s.heap H locs → lv_has ls 7 [(0, .ref (ad 21)), (3, .int x3), (4, .int x4), (5, .int x5), (6, .int x6)] → fX4_lengthInTheEnd_9 N n9 σ x3 x4 x5 x6 = some rF → G p l e 2 46 s m args below meth c D A (wC ad cA σ) (some (.int rF)) H locs (F0 m 9 ls []) := by
    intro n9
    induction n9 with
    | zero => intro x3 x4 x5 x6 H locs ls hP hD hS hl hf; exact absurd hf (by simp [fX4_lengthInTheEnd_9])
    | succ n9 ih9 =>
      intro x3 x4 x5 x6 H locs ls hP hD hS hl hf
      rw [fX4_lengthInTheEnd_9] at hf
      refine lv_iload (pc := 9) hx hb dX4_lengthInTheEnd_9 (lv_at hl 4 rfl) ?_
      refine lv_aload_n (pc := 11) hx hb dX4_lengthInTheEnd_11 rfl (lv_at hl 0 rfl) ?_
      refine gc_21_hill (pc := 12) CF hK hP mF_X4_9 dX4_lengthInTheEnd_12 ?_
      refine gcN_3_people (pc := 15) CF hK hP hN (nf 2) dX4_lengthInTheEnd_15 ?_
      refine lv_icmp_ge (pc := 18) (tgt := 49) hx hb dX4_lengthInTheEnd_18 (by decide) (fun c18 => ?_) (fun c18 => ?_)
      · have hf := zz_t c18 hf
        exact J49 x3 x4 _ _ _ hP hD hS (lv_sub hl [0, 1, 2] rfl) hf
      · have hf := zz_f c18 hf
        refine lv_iload (pc := 21) hx hb dX4_lengthInTheEnd_21 (lv_at hl 3 rfl) ?_
        refine lv_if_eq (pc := 23) (tgt := 49) hx hb dX4_lengthInTheEnd_23 (by decide) (fun c23 => ?_) (fun c23 => ?_)
        · have hf := zz_t c23 hf
          exact J49 x3 x4 _ _ _ hP hD hS (lv_sub hl [0, 1, 2] rfl) hf
        · have hf := zz_f c23 hf
          refine lv_aload_n (pc := 26) hx hb dX4_lengthInTheEnd_26 rfl (lv_at hl 0 rfl) ?_
          refine lv_iload (pc := 27) hx hb dX4_lengthInTheEnd_27 (lv_at hl 2 rfl) ?_
          refine lv_iload (pc := 29) hx hb dX4_lengthInTheEnd_29 (lv_at hl 3 rfl) ?_
          obtain ⟨v31, h31, hf⟩ := zz_o hf
          refine cV (pc := 31) (rest := []) (st1 := [.int v31]) (q0 := 21) CF (tX4_hearers h31) hK hP hD hS hA hN hW mL_X4_39 kX4_hearers nX4_hearers rfl rfl rfl rfl ⟨by decide, by decide⟩ hl.1 (Nat.le_of_ble_eq_true rfl) ⟨Nat.le_refl _, Nat.le_refl _⟩ rfl dX4_lengthInTheEnd_31 (fun H locs hP hD hS => ?_)
          refine lv_istore (pc := 34) (lv' := [(5, .int v31), (0, .ref (ad 21)), (3, .int x3), (4, .int x4), (6, .int x6)]) hx hb dX4_lengthInTheEnd_34 hl (by decide) rfl (fun ls hl => ?_)
          refine lv_iload (pc := 36) hx hb dX4_lengthInTheEnd_36 (lv_at hl 3 rfl) ?_
          refine lv_iload (pc := 38) hx hb dX4_lengthInTheEnd_38 (lv_at hl 0 rfl) ?_
          refine lv_ior (pc := 40) hx hb dX4_lengthInTheEnd_40 ?_
          refine lv_istore (pc := 41) (lv' := [(4, .int (x4 ||| v31)), (5, .int v31), (0, .ref (ad 21)), (3, .int x3), (6, .int x6)]) hx hb dX4_lengthInTheEnd_41 hl (by decide) rfl (fun ls hl => ?_)
          refine lv_iinc (pc := 43) (v := (x6 + 1)) (lv' := [(6, .int (x6 + 1)), (4, .int (x4 ||| v31)), (5, .int v31), (0, .ref (ad 21)), (3, .int x3)]) hx hb dX4_lengthInTheEnd_43 hl (k := 4) rfl rfl (by decide) rfl (fun ls hl => ?_)
          refine lv_goto (pc := 46) (tgt := 9) hx hb dX4_lengthInTheEnd_46 (by decide) ?_
          exact ih9 x3 (x4 ||| v31) v31 (x6 + 1) _ _ _ hP hD hS (lv_sub hl [3, 4, 1, 2, 0] rfl) hf
  refine lv_iload_n (pc := 0) hx hb dX4_lengthInTheEnd_0 rfl (lv_at hl 1 rfl) ?_
  refine lv_istore (pc := 1) (lv' := [(4, .int x1), (0, .ref (ad 21)), (1, .int x1), (2, .int x2), (3, .int x3)]) hx hb dX4_lengthInTheEnd_1 hl (by decide) rfl (fun ls hl => ?_)
  refine lv_iload_n (pc := 3) hx hb dX4_lengthInTheEnd_3 rfl (lv_at hl 3 rfl) ?_
  refine lv_istore (pc := 4) (lv' := [(5, .int x2), (4, .int x1), (0, .ref (ad 21)), (1, .int x1), (2, .int x2), (3, .int x3)]) hx hb dX4_lengthInTheEnd_4 hl (by decide) rfl (fun ls hl => ?_)
  refine lv_iconst (pc := 6) (v := 0) hx hb dX4_lengthInTheEnd_6 (by decide) ?_
  refine lv_istore (pc := 7) (lv' := [(6, .int 0), (5, .int x2), (4, .int x1), (0, .ref (ad 21)), (1, .int x1), (2, .int x2), (3, .int x3)]) hx hb dX4_lengthInTheEnd_7 hl (by decide) rfl (fun ls hl => ?_)
  exact L9 N x3 x1 x2 0 _ _ _ hP hD hS (lv_sub hl [3, 6, 2, 1, 0] rfl) hf
set_option maxHeartbeats 4000000 in
set_option maxRecDepth 100000 in
theorem tX4_ends {l : Launch} {kv : Nat × Nat} {D : va_G} {N : Nat} {ad : Nat → Nat} {cA : ClassId} {σ : SC} {x1 : Int32} {rF : Int32} (hf : fX4_ends N σ x1 = some rF) : Ct l kv D [(cA, .int)] yX4_ends cX4_ends 2 (some .int) 3 72 (wC ad cA σ) (wC ad cA σ) [.ref (ad 21), .int x1] (some (.int rF)) := by
  refine Ct.ofW (by decide) (Nat.le_of_ble_eq_true rfl) ?_
  intro p e s m below meth c A args CF hr hlk hA hP hK hD hN hW hS ls hl
  have hx := CF.1
  have hb := CF.2.1
  have hml := CF.2.2.1
  have hown := CF.2.2.2.1
  have hw : ∀ w ∈ wsA, w.before args s = true := fun w h => CF.2.2.2.2 w (List.mem_cons_of_mem _ h)
  have hl : lv_has ls 2 [(0, .ref (ad 21)), (1, .int x1)] := hl
  unfold fX4_ends at hf
  refine lv_aload_n (pc := 0) hx hb dX4_ends_0 rfl (lv_at hl 0 rfl) ?_
  refine lv_iload_n (pc := 1) hx hb dX4_ends_1 rfl (lv_at hl 1 rfl) ?_
  refine lv_iload_n (pc := 2) hx hb dX4_ends_2 rfl (lv_at hl 1 rfl) ?_
  refine lv_iconst (pc := 3) (v := 0) hx hb dX4_ends_3 (by decide) ?_
  obtain ⟨v4, h4, hf⟩ := zz_o hf
  refine cV (pc := 4) (rest := []) (st1 := [.int v4]) (q0 := 21) CF (tX4_lengthInTheEnd h4) hK hP hD hS hA hN hW mL_X4_35 kX4_lengthInTheEnd nX4_lengthInTheEnd rfl rfl rfl rfl ⟨by decide, by decide⟩ hl.1 (Nat.le_of_ble_eq_true rfl) ⟨Nat.le_refl _, Nat.le_refl _⟩ rfl dX4_ends_4 (fun H locs hP hD hS => ?_)
  exact retI hx hb hr hlk hf hP hD hS dX4_ends_7
set_option maxHeartbeats 4000000 in
set_option maxRecDepth 100000 in
theorem tX4_dayHeard {l : Launch} {kv : Nat × Nat} {D : va_G} {N : Nat} {ad : Nat → Nat} {cA : ClassId} {σ : SC} {x1 : Int32} {x2 : Int32} {rF : Int32} (hf : fX4_dayHeard N σ x1 x2 = some rF) : Ct l kv D [(cA, .int)] yX4_dayHeard cX4_dayHeard 6 (some .int) 2 45 (wC ad cA σ) (wC ad cA σ) [.ref (ad 21), .int x1, .int x2] (some (.int rF)) := by
  refine Ct.ofW (by decide) (Nat.le_of_ble_eq_true rfl) ?_
  intro p e s m below meth c A args CF hr hlk hA hP hK hD hN hW hS ls hl
  have hx := CF.1
  have hb := CF.2.1
  have hml := CF.2.2.1
  have hown := CF.2.2.2.1
  have hw : ∀ w ∈ wsA, w.before args s = true := fun w h => CF.2.2.2.2 w (List.mem_cons_of_mem _ h)
  have hl : lv_has ls 6 [(0, .ref (ad 21)), (1, .int x1), (2, .int x2)] := hl
  unfold fX4_dayHeard at hf
  have L10 : ∀ (n10 : Nat) (x2 : Int32) (x3 : Int32) (x4 : Int32) (x5 : Int32) (H : Heap) (locs : List Loc) (ls : Array Slot), va_P D vwCl (wC ad cA σ) H → va_D A (wC ad cA σ) → va_S A s.heap H locs → lv_has ls 6 [(0, .ref (ad 21)), (2, .int x2), (3, .int x3), (4, .int x4), (5, .int x5)] → fX4_dayHeard_10 N n10 σ x2 x3 x4 x5 = some rF → G p l e 2 45 s m args below meth c D A (wC ad cA σ) (some (.int rF)) H locs (F0 m 10 ls []) := by
    intro n10
    induction n10 with
    | zero => intro x2 x3 x4 x5 H locs ls hP hD hS hl hf; exact absurd hf (by simp [fX4_dayHeard_10])
    | succ n10 ih10 =>
      intro x2 x3 x4 x5 H locs ls hP hD hS hl hf
      rw [fX4_dayHeard_10] at hf
      refine lv_iload (pc := 10) hx hb dX4_dayHeard_10 (lv_at hl 4 rfl) ?_
      refine lv_aload_n (pc := 12) hx hb dX4_dayHeard_12 rfl (lv_at hl 0 rfl) ?_
      refine gc_21_hill (pc := 13) CF hK hP mF_X4_9 dX4_dayHeard_13 ?_
      refine gcN_3_people (pc := 16) CF hK hP hN (nf 2) dX4_dayHeard_16 ?_
      refine lv_icmp_ge (pc := 19) (tgt := 59) hx hb dX4_dayHeard_19 (by decide) (fun c19 => ?_) (fun c19 => ?_)
      · have hf := zz_t c19 hf
        refine lv_iconst (pc := 59) (v := (-1)) hx hb dX4_dayHeard_59 (by decide) ?_
        exact retI hx hb hr hlk hf hP hD hS dX4_dayHeard_60
      · have hf := zz_f c19 hf
        refine lv_iload (pc := 22) hx hb dX4_dayHeard_22 (lv_at hl 3 rfl) ?_
        refine lv_if_eq (pc := 24) (tgt := 59) hx hb dX4_dayHeard_24 (by decide) (fun c24 => ?_) (fun c24 => ?_)
        · have hf := zz_t c24 hf
          refine lv_iconst (pc := 59) (v := (-1)) hx hb dX4_dayHeard_59 (by decide) ?_
          exact retI hx hb hr hlk hf hP hD hS dX4_dayHeard_60
        · have hf := zz_f c24 hf
          refine lv_iload_n (pc := 27) hx hb dX4_dayHeard_27 rfl (lv_at hl 1 rfl) ?_
          refine lv_iload (pc := 28) hx hb dX4_dayHeard_28 (lv_at hl 3 rfl) ?_
          obtain ⟨v30, h30, hf⟩ := zz_o hf
          refine cSN (pc := 30) (rest := []) (st1 := [.int v30]) CF (tX5_isIn h30) hK hP hD hS hA hN hW (nm 2) kX5_isIn nX5_isIn rfl rfl ⟨by decide, by decide⟩ hl.1 (Nat.le_of_ble_eq_true rfl) ⟨Nat.le_refl _, Nat.le_refl _⟩ rfl dX4_dayHeard_30 (fun H locs hP hD hS => ?_)
          refine lv_if_eq (pc := 33) (tgt := 39) hx hb dX4_dayHeard_33 (by decide) (fun c33 => ?_) (fun c33 => ?_)
          · have hf := zz_t c33 hf
            refine lv_aload_n (pc := 39) hx hb dX4_dayHeard_39 rfl (lv_at hl 0 rfl) ?_
            refine lv_iload_n (pc := 40) hx hb dX4_dayHeard_40 rfl (lv_at hl 2 rfl) ?_
            refine lv_iload (pc := 41) hx hb dX4_dayHeard_41 (lv_at hl 3 rfl) ?_
            obtain ⟨v43, h43, hf⟩ := zz_o hf
            refine cV (pc := 43) (rest := []) (st1 := [.int v43]) (q0 := 21) CF (tX4_hearers h43) hK hP hD hS hA hN hW mL_X4_39 kX4_hearers nX4_hearers rfl rfl rfl rfl ⟨by decide, by decide⟩ hl.1 (Nat.le_of_ble_eq_true rfl) ⟨Nat.le_refl _, Nat.le_refl _⟩ rfl dX4_dayHeard_43 (fun H locs hP hD hS => ?_)
            refine lv_istore (pc := 46) (lv' := [(4, .int v43), (0, .ref (ad 21)), (2, .int x2), (3, .int x3), (5, .int x5)]) hx hb dX4_dayHeard_46 hl (by decide) rfl (fun ls hl => ?_)
            refine lv_iload_n (pc := 48) hx hb dX4_dayHeard_48 rfl (lv_at hl 3 rfl) ?_
            refine lv_iload (pc := 49) hx hb dX4_dayHeard_49 (lv_at hl 0 rfl) ?_
            refine lv_ior (pc := 51) hx hb dX4_dayHeard_51 ?_
            refine lv_istore_n (pc := 52) (lv' := [(3, .int (x3 ||| v43)), (4, .int v43), (0, .ref (ad 21)), (2, .int x2), (5, .int x5)]) hx hb dX4_dayHeard_52 rfl hl (by decide) rfl (fun ls hl => ?_)
            refine lv_iinc (pc := 53) (v := (x5 + 1)) (lv' := [(5, .int (x5 + 1)), (3, .int (x3 ||| v43)), (4, .int v43), (0, .ref (ad 21)), (2, .int x2)]) hx hb dX4_dayHeard_53 hl (k := 4) rfl rfl (by decide) rfl (fun ls hl => ?_)
            refine lv_goto (pc := 56) (tgt := 10) hx hb dX4_dayHeard_56 (by decide) ?_
            exact ih10 x2 (x3 ||| v43) v43 (x5 + 1) _ _ _ hP hD hS (lv_sub hl [3, 4, 1, 2, 0] rfl) hf
          · have hf := zz_f c33 hf
            refine lv_iload (pc := 36) hx hb dX4_dayHeard_36 (lv_at hl 4 rfl) ?_
            exact retI hx hb hr hlk hf hP hD hS dX4_dayHeard_38
  refine lv_iconst (pc := 0) (v := 1) hx hb dX4_dayHeard_0 (by decide) ?_
  refine lv_iload_n (pc := 1) hx hb dX4_dayHeard_1 rfl (lv_at hl 1 rfl) ?_
  refine lv_ishl (pc := 2) hx hb dX4_dayHeard_2 ?_
  refine lv_istore_n (pc := 3) (lv' := [(3, .int (1 <<< (x1 &&& 31))), (0, .ref (ad 21)), (1, .int x1), (2, .int x2)]) hx hb dX4_dayHeard_3 rfl hl (by decide) rfl (fun ls hl => ?_)
  refine lv_iload_n (pc := 4) hx hb dX4_dayHeard_4 rfl (lv_at hl 0 rfl) ?_
  refine lv_istore (pc := 5) (lv' := [(4, .int (1 <<< (x1 &&& 31))), (3, .int (1 <<< (x1 &&& 31))), (0, .ref (ad 21)), (1, .int x1), (2, .int x2)]) hx hb dX4_dayHeard_5 hl (by decide) rfl (fun ls hl => ?_)
  refine lv_iconst (pc := 7) (v := 0) hx hb dX4_dayHeard_7 (by decide) ?_
  refine lv_istore (pc := 8) (lv' := [(5, .int 0), (4, .int (1 <<< (x1 &&& 31))), (3, .int (1 <<< (x1 &&& 31))), (0, .ref (ad 21)), (1, .int x1), (2, .int x2)]) hx hb dX4_dayHeard_8 hl (by decide) rfl (fun ls hl => ?_)
  exact L10 N x2 (1 <<< (x1 &&& 31)) (1 <<< (x1 &&& 31)) 0 _ _ _ hP hD hS (lv_sub hl [3, 5, 2, 1, 0] rfl) hf
set_option maxHeartbeats 4000000 in
set_option maxRecDepth 100000 in
theorem tX4_lasts {l : Launch} {kv : Nat × Nat} {D : va_G} {N : Nat} {ad : Nat → Nat} {cA : ClassId} {σ : SC} {x1 : Int32} {rF : Int32} (hf : fX4_lasts N σ x1 = some rF) : Ct l kv D [(cA, .int)] yX4_lasts cX4_lasts 4 (some .int) 3 70 (wC ad cA σ) (wC ad cA σ) [.ref (ad 21), .int x1] (some (.int rF)) := by
  refine Ct.ofW (by decide) (Nat.le_of_ble_eq_true rfl) ?_
  intro p e s m below meth c A args CF hr hlk hA hP hK hD hN hW hS ls hl
  have hx := CF.1
  have hb := CF.2.1
  have hml := CF.2.2.1
  have hown := CF.2.2.2.1
  have hw : ∀ w ∈ wsA, w.before args s = true := fun w h => CF.2.2.2.2 w (List.mem_cons_of_mem _ h)
  have hl : lv_has ls 4 [(0, .ref (ad 21)), (1, .int x1)] := hl
  unfold fX4_lasts at hf
  have L4 : ∀ (n4 : Nat) (x1 : Int32) (x2 : Int32) (x3 : Int32) (H : Heap) (locs : List Loc) (ls : Array Slot), va_P D vwCl (wC ad cA σ) H → va_D A (wC ad cA σ) → va_S A s.heap H locs → lv_has ls 4 [(0, .ref (ad 21)), (1, .int x1), (2, .int x2), (3, .int x3)] → fX4_lasts_4 N n4 σ x1 x2 x3 = some rF → G p l e 3 70 s m args below meth c D A (wC ad cA σ) (some (.int rF)) H locs (F0 m 4 ls []) := by
    intro n4
    induction n4 with
    | zero => intro x1 x2 x3 H locs ls hP hD hS hl hf; exact absurd hf (by simp [fX4_lasts_4])
    | succ n4 ih4 =>
      intro x1 x2 x3 H locs ls hP hD hS hl hf
      rw [fX4_lasts_4] at hf
      refine lv_iload_n (pc := 4) hx hb dX4_lasts_4 rfl (lv_at hl 3 rfl) ?_
      refine lv_aload_n (pc := 5) hx hb dX4_lasts_5 rfl (lv_at hl 0 rfl) ?_
      refine gc_21_hill (pc := 6) CF hK hP mF_X4_9 dX4_lasts_6 ?_
      refine gcN_3_people (pc := 9) CF hK hP hN (nf 2) dX4_lasts_9 ?_
      refine lv_icmp_ge (pc := 12) (tgt := 32) hx hb dX4_lasts_12 (by decide) (fun c12 => ?_) (fun c12 => ?_)
      · have hf := zz_t c12 hf
        refine lv_iload_n (pc := 32) hx hb dX4_lasts_32 rfl (lv_at hl 2 rfl) ?_
        exact retI hx hb hr hlk hf hP hD hS dX4_lasts_33
      · have hf := zz_f c12 hf
        refine lv_iload_n (pc := 15) hx hb dX4_lasts_15 rfl (lv_at hl 2 rfl) ?_
        refine lv_aload_n (pc := 16) hx hb dX4_lasts_16 rfl (lv_at hl 0 rfl) ?_
        refine lv_iload_n (pc := 17) hx hb dX4_lasts_17 rfl (lv_at hl 1 rfl) ?_
        refine lv_iload_n (pc := 18) hx hb dX4_lasts_18 rfl (lv_at hl 3 rfl) ?_
        obtain ⟨v19, h19, hf⟩ := zz_o hf
        refine cV (pc := 19) (rest := [.int x2]) (st1 := [.int v19, .int x2]) (q0 := 21) CF (tX4_dayHeard h19) hK hP hD hS hA hN hW mL_X4_46 kX4_dayHeard nX4_dayHeard rfl rfl rfl rfl ⟨by decide, by decide⟩ hl.1 (Nat.le_of_ble_eq_true rfl) ⟨Nat.le_refl _, Nat.le_refl _⟩ rfl dX4_lasts_19 (fun H locs hP hD hS => ?_)
        refine va_mmax (pc := 22) hx hb (hml.trans hl.1.symm) hown (hw _ mL_X4_49) (hw _ mT_Lib_Math_max_name) (hw _ mN_J9) (hw _ mC_Lib_Math_max_name) (by decide) (Nat.le_of_ble_eq_true rfl) (Nat.le_refl _) (Nat.le_refl _) dX4_lasts_22 ?_
        refine lv_istore_n (pc := 25) (lv' := [(2, .int (if x2 < v19 then v19 else x2)), (0, .ref (ad 21)), (1, .int x1), (3, .int x3)]) hx hb dX4_lasts_25 rfl hl (by decide) rfl (fun ls hl => ?_)
        refine lv_iinc (pc := 26) (v := (x3 + 1)) (lv' := [(3, .int (x3 + 1)), (2, .int (if x2 < v19 then v19 else x2)), (0, .ref (ad 21)), (1, .int x1)]) hx hb dX4_lasts_26 hl (k := 3) rfl rfl (by decide) rfl (fun ls hl => ?_)
        refine lv_goto (pc := 29) (tgt := 4) hx hb dX4_lasts_29 (by decide) ?_
        exact ih4 x1 (if x2 < v19 then v19 else x2) (x3 + 1) _ _ _ hP hD hS (lv_sub hl [2, 3, 1, 0] rfl) hf
  refine lv_iconst (pc := 0) (v := 0) hx hb dX4_lasts_0 (by decide) ?_
  refine lv_istore_n (pc := 1) (lv' := [(2, .int 0), (0, .ref (ad 21)), (1, .int x1)]) hx hb dX4_lasts_1 rfl hl (by decide) rfl (fun ls hl => ?_)
  refine lv_iconst (pc := 2) (v := 0) hx hb dX4_lasts_2 (by decide) ?_
  refine lv_istore_n (pc := 3) (lv' := [(3, .int 0), (2, .int 0), (0, .ref (ad 21)), (1, .int x1)]) hx hb dX4_lasts_3 rfl hl (by decide) rfl (fun ls hl => ?_)
  exact L4 N x1 0 0 _ _ _ hP hD hS (lv_sub hl [2, 3, 1, 0] rfl) hf
set_option maxHeartbeats 4000000 in
set_option maxRecDepth 100000 in
theorem tX5_person {l : Launch} {kv : Nat × Nat} {D : va_G} {N : Nat} {ad : Nat → Nat} {cA : ClassId} {σ : SC} {x1 : Int32} {x2 : Int32} {rF : Int32} (hf : fX5_person N σ x1 x2 = some rF) : Ct l kv D [(cA, .int)] yX5_person cX5_person 3 (some .int) 4 93 (wC ad cA σ) (wC ad cA σ) [.ref (ad 0), .int x1, .int x2] (some (.int rF)) := by
  refine Ct.ofW (by decide) (Nat.le_of_ble_eq_true rfl) ?_
  intro p e s m below meth c A args CF hr hlk hA hP hK hD hN hW hS ls hl
  have hx := CF.1
  have hb := CF.2.1
  have hml := CF.2.2.1
  have hown := CF.2.2.2.1
  have hw : ∀ w ∈ wsA, w.before args s = true := fun w h => CF.2.2.2.2 w (List.mem_cons_of_mem _ h)
  have hl : lv_has ls 3 [(0, .ref (ad 0)), (1, .int x1), (2, .int x2)] := hl
  unfold fX5_person at hf
  refine lv_aload_n (pc := 0) hx hb dX5_person_0 rfl (lv_at hl 0 rfl) ?_
  refine gc_0_ground (pc := 1) CF hK hP mF_X5_19 dX5_person_1 ?_
  refine lv_iload_n (pc := 4) hx hb dX5_person_4 rfl (lv_at hl 1 rfl) ?_
  obtain ⟨v5, h5, hf⟩ := zz_o hf
  refine cV (pc := 5) (rest := []) (st1 := [.int v5]) (q0 := 3) CF (tX0_has h5) hK hP hD hS hA hN hW mL_X5_91 kX0_has nX0_has rfl rfl rfl rfl ⟨by decide, by decide⟩ hl.1 (Nat.le_of_ble_eq_true rfl) ⟨Nat.le_refl _, Nat.le_refl _⟩ rfl dX5_person_5 (fun H locs hP hD hS => ?_)
  refine lv_if_ne (pc := 8) (tgt := 14) hx hb dX5_person_8 (by decide) (fun c8 => ?_) (fun c8 => ?_)
  · have hf := zz_f c8 hf
    refine lv_iload_n (pc := 14) hx hb dX5_person_14 rfl (lv_at hl 2 rfl) ?_
    by_cases c15_0 : x2 = 0
    · have hf := zz_t c15_0 hf
      refine lv_tableIn (pc := 15) (tgt := 52) hx hb dX5_person_15 (by rw [c15_0] <;> decide) (by rw [c15_0] <;> decide) (by rw [c15_0] <;> rfl) (by decide) ?_
      refine lv_aload_n (pc := 52) hx hb dX5_person_52 rfl (lv_at hl 0 rfl) ?_
      refine gc_0_ground (pc := 53) CF hK hP mF_X5_19 dX5_person_53 ?_
      refine lv_iload_n (pc := 56) hx hb dX5_person_56 rfl (lv_at hl 1 rfl) ?_
      obtain ⟨v57, h57, hf⟩ := zz_o hf
      refine cV (pc := 57) (rest := []) (st1 := [.int v57]) (q0 := 3) CF (tX0_kindOf h57) hK hP hD hS hA hN hW mL_X5_98 kX0_kindOf nX0_kindOf rfl rfl rfl rfl ⟨by decide, by decide⟩ hl.1 (Nat.le_of_ble_eq_true rfl) ⟨Nat.le_refl _, Nat.le_refl _⟩ rfl dX5_person_57 (fun H locs hP hD hS => ?_)
      exact retI hx hb hr hlk hf hP hD hS dX5_person_60
    have hf := zz_f c15_0 hf
    by_cases c15_1 : x2 = 1
    · have hf := zz_t c15_1 hf
      refine lv_tableIn (pc := 15) (tgt := 61) hx hb dX5_person_15 (by rw [c15_1] <;> decide) (by rw [c15_1] <;> decide) (by rw [c15_1] <;> rfl) (by decide) ?_
      refine lv_aload_n (pc := 61) hx hb dX5_person_61 rfl (lv_at hl 0 rfl) ?_
      refine gc_0_now (pc := 62) CF hK hP mF_X5_26 dX5_person_62 ?_
      refine lv_iload_n (pc := 65) hx hb dX5_person_65 rfl (lv_at hl 1 rfl) ?_
      obtain ⟨v66, h66, hf⟩ := zz_o hf
      refine cV (pc := 66) (rest := []) (st1 := [.int v66]) (q0 := 5) CF (tX2_nextOf h66) hK hP hD hS hA hN hW mL_X5_101 kX2_nextOf nX2_nextOf rfl rfl rfl rfl ⟨by decide, by decide⟩ hl.1 (Nat.le_of_ble_eq_true rfl) ⟨Nat.le_refl _, Nat.le_refl _⟩ rfl dX5_person_66 (fun H locs hP hD hS => ?_)
      exact retI hx hb hr hlk hf hP hD hS dX5_person_69
    have hf := zz_f c15_1 hf
    by_cases c15_2 : x2 = 2
    · have hf := zz_t c15_2 hf
      refine lv_tableIn (pc := 15) (tgt := 70) hx hb dX5_person_15 (by rw [c15_2] <;> decide) (by rw [c15_2] <;> decide) (by rw [c15_2] <;> rfl) (by decide) ?_
      refine lv_aload_n (pc := 70) hx hb dX5_person_70 rfl (lv_at hl 0 rfl) ?_
      refine gc_0_now (pc := 71) CF hK hP mF_X5_26 dX5_person_71 ?_
      refine lv_iload_n (pc := 74) hx hb dX5_person_74 rfl (lv_at hl 1 rfl) ?_
      obtain ⟨v75, h75, hf⟩ := zz_o hf
      refine cV (pc := 75) (rest := []) (st1 := [.int v75]) (q0 := 5) CF (tX2_listenersOf h75) hK hP hD hS hA hN hW mL_X5_104 kX2_listenersOf nX2_listenersOf rfl rfl rfl rfl ⟨by decide, by decide⟩ hl.1 (Nat.le_of_ble_eq_true rfl) ⟨Nat.le_refl _, Nat.le_refl _⟩ rfl dX5_person_75 (fun H locs hP hD hS => ?_)
      exact retI hx hb hr hlk hf hP hD hS dX5_person_78
    have hf := zz_f c15_2 hf
    by_cases c15_3 : x2 = 3
    · have hf := zz_t c15_3 hf
      refine lv_tableIn (pc := 15) (tgt := 79) hx hb dX5_person_15 (by rw [c15_3] <;> decide) (by rw [c15_3] <;> decide) (by rw [c15_3] <;> rfl) (by decide) ?_
      refine lv_aload_n (pc := 79) hx hb dX5_person_79 rfl (lv_at hl 0 rfl) ?_
      refine gc_0_now (pc := 80) CF hK hP mF_X5_26 dX5_person_80 ?_
      refine lv_iload_n (pc := 83) hx hb dX5_person_83 rfl (lv_at hl 1 rfl) ?_
      obtain ⟨v84, h84, hf⟩ := zz_o hf
      refine cV (pc := 84) (rest := []) (st1 := [.int v84]) (q0 := 5) CF (tX2_tunnelsHeardBy h84) hK hP hD hS hA hN hW mL_X5_107 kX2_tunnelsHeardBy nX2_tunnelsHeardBy rfl rfl rfl rfl ⟨by decide, by decide⟩ hl.1 (Nat.le_of_ble_eq_true rfl) ⟨Nat.le_refl _, Nat.le_refl _⟩ rfl dX5_person_84 (fun H locs hP hD hS => ?_)
      exact retI hx hb hr hlk hf hP hD hS dX5_person_87
    have hf := zz_f c15_3 hf
    by_cases c15_4 : x2 = 4
    · have hf := zz_t c15_4 hf
      refine lv_tableIn (pc := 15) (tgt := 88) hx hb dX5_person_15 (by rw [c15_4] <;> decide) (by rw [c15_4] <;> decide) (by rw [c15_4] <;> rfl) (by decide) ?_
      refine lv_aload_n (pc := 88) hx hb dX5_person_88 rfl (lv_at hl 0 rfl) ?_
      refine gc_0_talk (pc := 89) CF hK hP mF_X5_38 dX5_person_89 ?_
      refine lv_iconst (pc := 92) (v := 1) hx hb dX5_person_92 (by decide) ?_
      refine lv_iload_n (pc := 93) hx hb dX5_person_93 rfl (lv_at hl 1 rfl) ?_
      refine lv_ishl (pc := 94) hx hb dX5_person_94 ?_
      obtain ⟨v95, h95, hf⟩ := zz_o hf
      refine cV (pc := 95) (rest := []) (st1 := [.int v95]) (q0 := 21) CF (tX4_ends h95) hK hP hD hS hA hN hW mL_X5_110 kX4_ends nX4_ends rfl rfl rfl rfl ⟨by decide, by decide⟩ hl.1 (Nat.le_of_ble_eq_true rfl) ⟨Nat.le_refl _, Nat.le_refl _⟩ rfl dX5_person_95 (fun H locs hP hD hS => ?_)
      exact retI hx hb hr hlk hf hP hD hS dX5_person_98
    have hf := zz_f c15_4 hf
    by_cases c15_5 : x2 = 5
    · have hf := zz_t c15_5 hf
      refine lv_tableIn (pc := 15) (tgt := 99) hx hb dX5_person_15 (by rw [c15_5] <;> decide) (by rw [c15_5] <;> decide) (by rw [c15_5] <;> rfl) (by decide) ?_
      refine lv_aload_n (pc := 99) hx hb dX5_person_99 rfl (lv_at hl 0 rfl) ?_
      refine gc_0_talk (pc := 100) CF hK hP mF_X5_38 dX5_person_100 ?_
      refine lv_iload_n (pc := 103) hx hb dX5_person_103 rfl (lv_at hl 1 rfl) ?_
      obtain ⟨v104, h104, hf⟩ := zz_o hf
      refine cV (pc := 104) (rest := []) (st1 := [.int v104]) (q0 := 21) CF (tX4_lasts h104) hK hP hD hS hA hN hW mL_X5_113 kX4_lasts nX4_lasts rfl rfl rfl rfl ⟨by decide, by decide⟩ hl.1 (Nat.le_of_ble_eq_true rfl) ⟨Nat.le_refl _, Nat.le_refl _⟩ rfl dX5_person_104 (fun H locs hP hD hS => ?_)
      exact retI hx hb hr hlk hf hP hD hS dX5_person_107
    have hf := zz_f c15_5 hf
    refine lv_tableOut (pc := 15) (tgt := 108) hx hb dX5_person_15 (sw_0_5 (lv_neT (a := 0) c15_0 rfl) (lv_neT (a := 1) c15_1 rfl) (lv_neT (a := 2) c15_2 rfl) (lv_neT (a := 3) c15_3 rfl) (lv_neT (a := 4) c15_4 rfl) (lv_neT (a := 5) c15_5 rfl)) (by decide) ?_
    refine lv_bipush (pc := 108) (v := (-102)) hx hb dX5_person_108 (by decide) ?_
    exact retI hx hb hr hlk hf hP hD hS dX5_person_110
  · have hf := zz_t c8 hf
    refine lv_bipush (pc := 11) (v := (-101)) hx hb dX5_person_11 (by decide) ?_
    exact retI hx hb hr hlk hf hP hD hS dX5_person_13
set_option maxHeartbeats 4000000 in
set_option maxRecDepth 100000 in
theorem tX5_as {l : Launch} {kv : Nat × Nat} {D : va_G} {N : Nat} {ad : Nat → Nat} {cA : ClassId} {σ : SC} {x1 : Int32} {x2 : Int32} {rF : Int32} (hf : fX5_as N σ x1 x2 = some rF) : Ct l kv D [(cA, .int)] yX5_as cX5_as 3 (some .int) 1 21 (wC ad cA σ) (wC ad cA σ) [.ref (ad 0), .int x1, .int x2] (some (.int rF)) := by
  refine Ct.ofW (by decide) (Nat.le_of_ble_eq_true rfl) ?_
  intro p e s m below meth c A args CF hr hlk hA hP hK hD hN hW hS ls hl
  have hx := CF.1
  have hb := CF.2.1
  have hml := CF.2.2.1
  have hown := CF.2.2.2.1
  have hw : ∀ w ∈ wsA, w.before args s = true := fun w h => CF.2.2.2.2 w (List.mem_cons_of_mem _ h)
  have hl : lv_has ls 3 [(0, .ref (ad 0)), (1, .int x1), (2, .int x2)] := hl
  unfold fX5_as at hf
  refine lv_aload_n (pc := 0) hx hb dX5_as_0 rfl (lv_at hl 0 rfl) ?_
  refine gc_0_ground (pc := 1) CF hK hP mF_X5_19 dX5_as_1 ?_
  refine lv_iload_n (pc := 4) hx hb dX5_as_4 rfl (lv_at hl 1 rfl) ?_
  obtain ⟨v5, h5, hf⟩ := zz_o hf
  refine cV (pc := 5) (rest := []) (st1 := [.int v5]) (q0 := 3) CF (tX0_has h5) hK hP hD hS hA hN hW mL_X5_91 kX0_has nX0_has rfl rfl rfl rfl ⟨by decide, by decide⟩ hl.1 (Nat.le_of_ble_eq_true rfl) ⟨Nat.le_refl _, Nat.le_refl _⟩ rfl dX5_as_5 (fun H locs hP hD hS => ?_)
  refine lv_if_ne (pc := 8) (tgt := 14) hx hb dX5_as_8 (by decide) (fun c8 => ?_) (fun c8 => ?_)
  · have hf := zz_f c8 hf
    refine lv_iload_n (pc := 14) hx hb dX5_as_14 rfl (lv_at hl 2 rfl) ?_
    refine lv_if_lt (pc := 15) (tgt := 23) hx hb dX5_as_15 (by decide) (fun c15 => ?_) (fun c15 => ?_)
    · have hf := zz_t c15 hf
      refine lv_bipush (pc := 23) (v := (-102)) hx hb dX5_as_23 (by decide) ?_
      exact retI hx hb hr hlk hf hP hD hS dX5_as_25
    · have hf := zz_f c15 hf
      refine lv_iload_n (pc := 18) hx hb dX5_as_18 rfl (lv_at hl 2 rfl) ?_
      refine lv_iconst (pc := 19) (v := 5) hx hb dX5_as_19 (by decide) ?_
      refine lv_icmp_lt (pc := 20) (tgt := 26) hx hb dX5_as_20 (by decide) (fun c20 => ?_) (fun c20 => ?_)
      · have hf := zz_t c20 hf
        refine lv_aload_n (pc := 26) hx hb dX5_as_26 rfl (lv_at hl 0 rfl) ?_
        refine gc_0_ground (pc := 27) CF hK hP mF_X5_19 dX5_as_27 ?_
        refine lv_iload_n (pc := 30) hx hb dX5_as_30 rfl (lv_at hl 1 rfl) ?_
        obtain ⟨v31, h31, hf⟩ := zz_o hf
        refine cV (pc := 31) (rest := []) (st1 := [.int v31]) (q0 := 3) CF (tX0_kindOf h31) hK hP hD hS hA hN hW mL_X5_98 kX0_kindOf nX0_kindOf rfl rfl rfl rfl ⟨by decide, by decide⟩ hl.1 (Nat.le_of_ble_eq_true rfl) ⟨Nat.le_refl _, Nat.le_refl _⟩ rfl dX5_as_31 (fun H locs hP hD hS => ?_)
        refine lv_iload_n (pc := 34) hx hb dX5_as_34 rfl (lv_at hl 2 rfl) ?_
        obtain ⟨v35, h35, hf⟩ := zz_o hf
        refine cSt (pc := 35) (rest := []) (st1 := [.int v35]) CF (tX5_isOfKind h35) hK hP hD hS hA hN hW mL_X5_116 kX5_isOfKind nX5_isOfKind rfl rfl ⟨by decide, by decide⟩ hl.1 (Nat.le_of_ble_eq_true rfl) ⟨Nat.le_refl _, Nat.le_refl _⟩ rfl dX5_as_35 (fun H locs hP hD hS => ?_)
        refine lv_if_eq (pc := 38) (tgt := 45) hx hb dX5_as_38 (by decide) (fun c38 => ?_) (fun c38 => ?_)
        · have hf := zz_t c38 hf
          refine lv_iconst (pc := 45) (v := (-1)) hx hb dX5_as_45 (by decide) ?_
          exact retI hx hb hr hlk hf hP hD hS dX5_as_46
        · have hf := zz_f c38 hf
          refine lv_iload_n (pc := 41) hx hb dX5_as_41 rfl (lv_at hl 1 rfl) ?_
          refine lv_goto (pc := 42) (tgt := 46) hx hb dX5_as_42 (by decide) ?_
          exact retI hx hb hr hlk hf hP hD hS dX5_as_46
      · have hf := zz_f c20 hf
        refine lv_bipush (pc := 23) (v := (-102)) hx hb dX5_as_23 (by decide) ?_
        exact retI hx hb hr hlk hf hP hD hS dX5_as_25
  · have hf := zz_t c8 hf
    refine lv_bipush (pc := 11) (v := (-101)) hx hb dX5_as_11 (by decide) ?_
    exact retI hx hb hr hlk hf hP hD hS dX5_as_13
set_option maxHeartbeats 4000000 in
set_option maxRecDepth 100000 in
theorem tX5_next {l : Launch} {kv : Nat × Nat} {D : va_G} {N : Nat} {ad : Nat → Nat} {cA : ClassId} {σ : SC} {x1 : Int32} {x2 : Int32} {rF : Int32} {σF : SC} (hf : fX5_next N σ x1 x2 = some (rF, σF)) : Ct l kv D [(cA, .int)] yX5_next cX5_next 4 (some .int) 3 69 (wC ad cA σ) (wC ad cA σF) [.ref (ad 0), .int x1, .int x2] (some (.int rF)) := by
  refine Ct.ofW (by decide) (Nat.le_of_ble_eq_true rfl) ?_
  intro p e s m below meth c A args CF hr hlk hA hP hK hD hN hW hS ls hl
  have hx := CF.1
  have hb := CF.2.1
  have hml := CF.2.2.1
  have hown := CF.2.2.2.1
  have hw : ∀ w ∈ wsA, w.before args s = true := fun w h => CF.2.2.2.2 w (List.mem_cons_of_mem _ h)
  have hl : lv_has ls 4 [(0, .ref (ad 0)), (1, .int x1), (2, .int x2)] := hl
  unfold fX5_next at hf
  have J30 : ∀ (σ : SC) (x1 : Int32) (x2 : Int32) (H : Heap) (locs : List Loc) (ls : Array Slot), va_P D vwCl (wC ad cA σ) H → va_D A (wC ad cA σ) → va_S A s.heap H locs → lv_has ls 4 [(0, .ref (ad 0)), (1, .int x1), (2, .int x2)] → fX5_next_30 N σ x1 x2 = some (rF, σF) → G p l e 3 69 s m args below meth c D A (wC ad cA σF) (some (.int rF)) H locs (F0 m 30 ls []) := by
    intro σ x1 x2 H locs ls hP hD hS hl hf
    unfold fX5_next_30 at hf
    refine lv_aload_n (pc := 30) hx hb dX5_next_30 rfl (lv_at hl 0 rfl) ?_
    refine gc_0_now (pc := 31) CF hK hP mF_X5_26 dX5_next_31 ?_
    refine lv_iload_n (pc := 34) hx hb dX5_next_34 rfl (lv_at hl 1 rfl) ?_
    obtain ⟨v35, h35, hf⟩ := zz_o hf
    refine cV (pc := 35) (rest := []) (st1 := [.int v35]) (q0 := 5) CF (tX2_nextOf h35) hK hP hD hS hA hN hW mL_X5_101 kX2_nextOf nX2_nextOf rfl rfl rfl rfl ⟨by decide, by decide⟩ hl.1 (Nat.le_of_ble_eq_true rfl) ⟨Nat.le_refl _, Nat.le_refl _⟩ rfl dX5_next_35 (fun H locs hP hD hS => ?_)
    refine lv_istore_n (pc := 38) (lv' := [(3, .int v35), (0, .ref (ad 0)), (1, .int x1), (2, .int x2)]) hx hb dX5_next_38 rfl hl (by decide) rfl (fun ls hl => ?_)
    refine lv_aload_n (pc := 39) hx hb dX5_next_39 rfl (lv_at hl 1 rfl) ?_
    refine lv_iload_n (pc := 40) hx hb dX5_next_40 rfl (lv_at hl 2 rfl) ?_
    refine lv_iload_n (pc := 41) hx hb dX5_next_41 rfl (lv_at hl 3 rfl) ?_
    obtain ⟨σ42, h42, hf⟩ := zz_o hf
    refine cV (pc := 42) (rest := []) (st1 := []) (q0 := 0) CF (tX5_point h42) hK hP hD hS hA hN hW mL_X5_94 kX5_point nX5_point rfl rfl rfl rfl ⟨by decide, by decide⟩ hl.1 (Nat.le_of_ble_eq_true rfl) ⟨Nat.le_refl _, Nat.le_refl _⟩ rfl dX5_next_42 (fun H locs hP hD hS => ?_)
    refine lv_aload_n (pc := 45) hx hb dX5_next_45 rfl (lv_at hl 1 rfl) ?_
    refine gc_0_now (pc := 46) CF hK hP mF_X5_26 dX5_next_46 ?_
    refine lv_dup (pc := 49) hx hb dX5_next_49 rfl ?_
    refine gcN_5_changes (pc := 50) CF hK hP hN (nf 13) dX5_next_50 ?_
    refine lv_iconst (pc := 53) (v := 1) hx hb dX5_next_53 (by decide) ?_
    refine lv_iadd (pc := 54) hx hb dX5_next_54 ?_
    refine pcN_5_changes (pc := 55) CF hK hP hD hS hN (nf 13) dX5_next_55 (fun H locs hP hD hS => ?_)
    obtain ⟨σ55, hP, hD, hf⟩ := zz_g (w := wC ad cA) hP hD hf
    refine lv_iload_n (pc := 58) hx hb dX5_next_58 rfl (lv_at hl 0 rfl) ?_
    exact retIw (wf := wC ad cA) hx hb hr hlk hf hP hD hS dX5_next_59
  refine lv_aload_n (pc := 0) hx hb dX5_next_0 rfl (lv_at hl 0 rfl) ?_
  refine gc_0_ground (pc := 1) CF hK hP mF_X5_19 dX5_next_1 ?_
  refine lv_iload_n (pc := 4) hx hb dX5_next_4 rfl (lv_at hl 1 rfl) ?_
  obtain ⟨v5, h5, hf⟩ := zz_o hf
  refine cV (pc := 5) (rest := []) (st1 := [.int v5]) (q0 := 3) CF (tX0_has h5) hK hP hD hS hA hN hW mL_X5_91 kX0_has nX0_has rfl rfl rfl rfl ⟨by decide, by decide⟩ hl.1 (Nat.le_of_ble_eq_true rfl) ⟨Nat.le_refl _, Nat.le_refl _⟩ rfl dX5_next_5 (fun H locs hP hD hS => ?_)
  refine lv_if_eq (pc := 8) (tgt := 27) hx hb dX5_next_8 (by decide) (fun c8 => ?_) (fun c8 => ?_)
  · have hf := zz_t c8 hf
    refine lv_bipush (pc := 27) (v := (-101)) hx hb dX5_next_27 (by decide) ?_
    exact retIw (wf := wC ad cA) hx hb hr hlk hf hP hD hS dX5_next_29
  · have hf := zz_f c8 hf
    refine lv_iload_n (pc := 11) hx hb dX5_next_11 rfl (lv_at hl 2 rfl) ?_
    refine lv_iconst (pc := 12) (v := (-1)) hx hb dX5_next_12 (by decide) ?_
    refine lv_icmp_eq (pc := 13) (tgt := 30) hx hb dX5_next_13 (by decide) (fun c13 => ?_) (fun c13 => ?_)
    · have hf := zz_t c13 hf
      exact J30 σ x1 x2 _ _ _ hP hD hS (lv_sub hl [0, 1, 2] rfl) hf
    · have hf := zz_f c13 hf
      refine lv_aload_n (pc := 16) hx hb dX5_next_16 rfl (lv_at hl 0 rfl) ?_
      refine gc_0_ground (pc := 17) CF hK hP mF_X5_19 dX5_next_17 ?_
      refine lv_iload_n (pc := 20) hx hb dX5_next_20 rfl (lv_at hl 2 rfl) ?_
      obtain ⟨v21, h21, hf⟩ := zz_o hf
      refine cV (pc := 21) (rest := []) (st1 := [.int v21]) (q0 := 3) CF (tX0_has h21) hK hP hD hS hA hN hW mL_X5_91 kX0_has nX0_has rfl rfl rfl rfl ⟨by decide, by decide⟩ hl.1 (Nat.le_of_ble_eq_true rfl) ⟨Nat.le_refl _, Nat.le_refl _⟩ rfl dX5_next_21 (fun H locs hP hD hS => ?_)
      refine lv_if_ne (pc := 24) (tgt := 30) hx hb dX5_next_24 (by decide) (fun c24 => ?_) (fun c24 => ?_)
      · have hf := zz_f c24 hf
        exact J30 σ x1 x2 _ _ _ hP hD hS (lv_sub hl [0, 1, 2] rfl) hf
      · have hf := zz_t c24 hf
        refine lv_bipush (pc := 27) (v := (-101)) hx hb dX5_next_27 (by decide) ?_
        exact retIw (wf := wC ad cA) hx hb hr hlk hf hP hD hS dX5_next_29
set_option maxHeartbeats 4000000 in
set_option maxRecDepth 100000 in
theorem tX0_isThere {l : Launch} {kv : Nat × Nat} {D : va_G} {N : Nat} {ad : Nat → Nat} {cA : ClassId} {σ : SC} {rF : Int32} (hf : fX0_isThere N σ = some rF) : Ct l kv D [(cA, .int)] yX0_isThere cX0_isThere 1 (some .boolean) 0 0 (wC ad cA σ) (wC ad cA σ) [.ref (ad 3)] (some (.int rF)) := by
  refine Ct.ofW (by decide) (Nat.le_of_ble_eq_true rfl) ?_
  intro p e s m below meth c A args CF hr hlk hA hP hK hD hN hW hS ls hl
  have hx := CF.1
  have hb := CF.2.1
  have hml := CF.2.2.1
  have hown := CF.2.2.2.1
  have hw : ∀ w ∈ wsA, w.before args s = true := fun w h => CF.2.2.2.2 w (List.mem_cons_of_mem _ h)
  have hl : lv_has ls 1 [(0, .ref (ad 3))] := hl
  unfold fX0_isThere at hf
  refine lv_aload_n (pc := 0) hx hb dX0_isThere_0 rfl (lv_at hl 0 rfl) ?_
  refine gc_3_people (pc := 1) CF hK hP mF_X0_15 dX0_isThere_1 ?_
  refine lv_if_le (pc := 4) (tgt := 11) hx hb dX0_isThere_4 (by decide) (fun c4 => ?_) (fun c4 => ?_)
  · have hf := zz_t c4 hf
    refine lv_iconst (pc := 11) (v := 0) hx hb dX0_isThere_11 (by decide) ?_
    exact retZ hx hb hr hlk rfl hf hP hD hS dX0_isThere_12
  · have hf := zz_f c4 hf
    refine lv_iconst (pc := 7) (v := 1) hx hb dX0_isThere_7 (by decide) ?_
    refine lv_goto (pc := 8) (tgt := 12) hx hb dX0_isThere_8 (by decide) ?_
    exact retZ hx hb hr hlk rfl hf hP hD hS dX0_isThere_12
set_option maxHeartbeats 4000000 in
set_option maxRecDepth 100000 in
theorem tX5_isTunnel {l : Launch} {kv : Nat × Nat} {D : va_G} {N : Nat} {ad : Nat → Nat} {cA : ClassId} {σ : SC} {x1 : Int32} {rF : Int32} (hf : fX5_isTunnel N σ x1 = some rF) : Ct l kv D [(cA, .int)] yX5_isTunnel cX5_isTunnel 2 (some .boolean) 1 20 (wC ad cA σ) (wC ad cA σ) [.ref (ad 0), .int x1] (some (.int rF)) := by
  refine Ct.ofW (by decide) (Nat.le_of_ble_eq_true rfl) ?_
  intro p e s m below meth c A args CF hr hlk hA hP hK hD hN hW hS ls hl
  have hx := CF.1
  have hb := CF.2.1
  have hml := CF.2.2.1
  have hown := CF.2.2.2.1
  have hw : ∀ w ∈ wsA, w.before args s = true := fun w h => CF.2.2.2.2 w (List.mem_cons_of_mem _ h)
  have hl : lv_has ls 2 [(0, .ref (ad 0)), (1, .int x1)] := hl
  unfold fX5_isTunnel at hf
  refine lv_aload_n (pc := 0) hx hb dX5_isTunnel_0 rfl (lv_at hl 0 rfl) ?_
  refine gc_0_ground (pc := 1) CF hK hP mF_X5_19 dX5_isTunnel_1 ?_
  obtain ⟨v4, h4, hf⟩ := zz_o hf
  refine cV (pc := 4) (rest := []) (st1 := [.int v4]) (q0 := 3) CF (tX0_isThere h4) hK hP hD hS hA hN hW mL_X5_144 kX0_isThere nX0_isThere rfl rfl rfl rfl ⟨by decide, by decide⟩ hl.1 (Nat.le_of_ble_eq_true rfl) ⟨Nat.le_refl _, Nat.le_refl _⟩ rfl dX5_isTunnel_4 (fun H locs hP hD hS => ?_)
  refine lv_if_eq (pc := 7) (tgt := 23) hx hb dX5_isTunnel_7 (by decide) (fun c7 => ?_) (fun c7 => ?_)
  · have hf := zz_t c7 hf
    refine lv_iconst (pc := 23) (v := 0) hx hb dX5_isTunnel_23 (by decide) ?_
    exact retZ hx hb hr hlk rfl hf hP hD hS dX5_isTunnel_24
  · have hf := zz_f c7 hf
    refine lv_iload_n (pc := 10) hx hb dX5_isTunnel_10 rfl (lv_at hl 1 rfl) ?_
    refine lv_if_lt (pc := 11) (tgt := 23) hx hb dX5_isTunnel_11 (by decide) (fun c11 => ?_) (fun c11 => ?_)
    · have hf := zz_t c11 hf
      refine lv_iconst (pc := 23) (v := 0) hx hb dX5_isTunnel_23 (by decide) ?_
      exact retZ hx hb hr hlk rfl hf hP hD hS dX5_isTunnel_24
    · have hf := zz_f c11 hf
      refine lv_iload_n (pc := 14) hx hb dX5_isTunnel_14 rfl (lv_at hl 1 rfl) ?_
      refine lv_iconst (pc := 15) (v := 3) hx hb dX5_isTunnel_15 (by decide) ?_
      refine lv_icmp_ge (pc := 16) (tgt := 23) hx hb dX5_isTunnel_16 (by decide) (fun c16 => ?_) (fun c16 => ?_)
      · have hf := zz_t c16 hf
        refine lv_iconst (pc := 23) (v := 0) hx hb dX5_isTunnel_23 (by decide) ?_
        exact retZ hx hb hr hlk rfl hf hP hD hS dX5_isTunnel_24
      · have hf := zz_f c16 hf
        refine lv_iconst (pc := 19) (v := 1) hx hb dX5_isTunnel_19 (by decide) ?_
        refine lv_goto (pc := 20) (tgt := 24) hx hb dX5_isTunnel_20 (by decide) ?_
        exact retZ hx hb hr hlk rfl hf hP hD hS dX5_isTunnel_24
