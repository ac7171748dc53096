set_option maxHeartbeats 4000000 in
set_option maxRecDepth 100000 in
theorem tX6_dayOf {l : Launch} {kv : Nat × Nat} {D : va_G} {N : Nat} {ad : Nat → Nat} {cA : ClassId} {σ : SM} {x1 : Int32} {x2 : Int32} {rF : Int32} (hf : fX6_dayOf N σ x1 x2 = some rF) : Ct l kv D [(cA, .int)] yX6_dayOf cX6_dayOf 6 (some .int) 2 48 (wM ad cA σ) (wM ad cA σ) [.ref (ad 0), .int x1, .int x2] (some (.int rF)) := by
  refine Ct.ofW (by decide) (Nat.le_of_ble_eq_true rfl) ?_
  intro p e s m below meth c A args CF hr hlk hA hP hK hD hN hW hS ls hl
  have hx := CF.1
  have hb := CF.2.1
  have hml := CF.2.2.1
  have hown := CF.2.2.2.1
  have hw : ∀ w ∈ wsA, w.before args s = true := fun w h => CF.2.2.2.2 w (List.mem_cons_of_mem _ h)
  have hl : lv_has ls 6 [(0, .ref (ad 0)), (1, .int x1), (2, .int x2)] := hl
  unfold fX6_dayOf at hf
  have J47 : ∀ (x4 : Int32) (x5 : Int32) (H : Heap) (locs : List Loc) (ls : Array Slot), va_P D vwCl (wM ad cA σ) H → va_D A (wM ad cA σ) → va_S A s.heap H locs → lv_has ls 6 [(4, .int x4), (5, .int x5)] → fX6_dayOf_47 N σ x4 x5 = some rF → G p l e 2 48 s m args below meth c D A (wM ad cA σ) (some (.int rF)) H locs (F0 m 47 ls []) := by
    intro x4 x5 H locs ls hP hD hS hl hf
    unfold fX6_dayOf_47 at hf
    refine lv_iload (pc := 47) hx hb dX6_dayOf_47 (lv_at hl 0 rfl) ?_
    refine lv_if_ne (pc := 49) (tgt := 56) hx hb dX6_dayOf_49 (by decide) (fun c49 => ?_) (fun c49 => ?_)
    · have hf := zz_f c49 hf
      refine lv_iload (pc := 56) hx hb dX6_dayOf_56 (lv_at hl 1 rfl) ?_
      exact retI hx hb hr hlk hf hP hD hS dX6_dayOf_58
    · have hf := zz_t c49 hf
      refine lv_iconst (pc := 52) (v := (-1)) hx hb dX6_dayOf_52 (by decide) ?_
      refine lv_goto (pc := 53) (tgt := 58) hx hb dX6_dayOf_53 (by decide) ?_
      exact retI hx hb hr hlk hf hP hD hS dX6_dayOf_58
  have L10 : ∀ (n10 : Nat) (x1 : Int32) (x3 : Int32) (x4 : Int32) (x5 : Int32) (H : Heap) (locs : List Loc) (ls : Array Slot), va_P D vwCl (wM ad cA σ) H → va_D A (wM ad cA σ) → va_S A s.heap H locs → lv_has ls 6 [(0, .ref (ad 0)), (1, .int x1), (3, .int x3), (4, .int x4), (5, .int x5)] → fX6_dayOf_10 N n10 σ x1 x3 x4 x5 = some rF → G p l e 2 48 s m args below meth c D A (wM ad cA σ) (some (.int rF)) H locs (F0 m 10 ls []) := by
    intro n10
    induction n10 with
    | zero => intro x1 x3 x4 x5 H locs ls hP hD hS hl hf; exact absurd hf (by simp [fX6_dayOf_10])
    | succ n10 ih10 =>
      intro x1 x3 x4 x5 H locs ls hP hD hS hl hf
      rw [fX6_dayOf_10] at hf
      refine lv_iload (pc := 10) hx hb dX6_dayOf_10 (lv_at hl 3 rfl) ?_
      refine lv_if_eq (pc := 12) (tgt := 47) hx hb dX6_dayOf_12 (by decide) (fun c12 => ?_) (fun c12 => ?_)
      · have hf := zz_t c12 hf
        exact J47 x4 x5 _ _ _ hP hD hS (lv_sub hl [3, 4] rfl) hf
      · have hf := zz_f c12 hf
        refine lv_iload (pc := 15) hx hb dX6_dayOf_15 (lv_at hl 3 rfl) ?_
        refine lv_iload_n (pc := 17) hx hb dX6_dayOf_17 rfl (lv_at hl 1 rfl) ?_
        refine lv_ishr (pc := 18) hx hb dX6_dayOf_18 ?_
        refine lv_iconst (pc := 19) (v := 1) hx hb dX6_dayOf_19 (by decide) ?_
        refine lv_iand (pc := 20) hx hb dX6_dayOf_20 ?_
        refine lv_if_ne (pc := 21) (tgt := 47) hx hb dX6_dayOf_21 (by decide) (fun c21 => ?_) (fun c21 => ?_)
        · have hf := zz_f c21 hf
          exact J47 x4 x5 _ _ _ hP hD hS (lv_sub hl [3, 4] rfl) hf
        · have hf := zz_t c21 hf
          refine lv_aload_n (pc := 24) hx hb dX6_dayOf_24 rfl (lv_at hl 0 rfl) ?_
          refine lv_iload (pc := 25) hx hb dX6_dayOf_25 (lv_at hl 3 rfl) ?_
          obtain ⟨v27, h27, hf⟩ := zz_o hf
          refine cV (pc := 27) (rest := []) (st1 := [.int v27]) (q0 := 0) CF (tX6_toldBy h27) hK hP hD hS hA hN hW mL_X6_95 kX6_toldBy nX6_toldBy rfl rfl rfl rfl ⟨by decide, by decide⟩ hl.1 (Nat.le_of_ble_eq_true rfl) ⟨Nat.le_refl _, Nat.le_refl _⟩ rfl dX6_dayOf_27 (fun H locs hP hD hS => ?_)
          refine lv_iload_n (pc := 30) hx hb dX6_dayOf_30 rfl (lv_at hl 2 rfl) ?_
          refine lv_iconst (pc := 31) (v := (-1)) hx hb dX6_dayOf_31 (by decide) ?_
          refine lv_ixor (pc := 32) hx hb dX6_dayOf_32 ?_
          refine lv_iand (pc := 33) hx hb dX6_dayOf_33 ?_
          refine lv_istore (pc := 34) (lv' := [(4, .int (v27 &&& (x3 ^^^ (-1)))), (0, .ref (ad 0)), (1, .int x1), (3, .int x3), (5, .int x5)]) hx hb dX6_dayOf_34 hl (by decide) rfl (fun ls hl => ?_)
          refine lv_iload_n (pc := 36) hx hb dX6_dayOf_36 rfl (lv_at hl 3 rfl) ?_
          refine lv_iload (pc := 37) hx hb dX6_dayOf_37 (lv_at hl 0 rfl) ?_
          refine lv_ior (pc := 39) hx hb dX6_dayOf_39 ?_
          refine lv_istore_n (pc := 40) (lv' := [(3, .int (x3 ||| (v27 &&& (x3 ^^^ (-1))))), (4, .int (v27 &&& (x3 ^^^ (-1)))), (0, .ref (ad 0)), (1, .int x1), (5, .int x5)]) hx hb dX6_dayOf_40 rfl hl (by decide) rfl (fun ls hl => ?_)
          refine lv_iinc (pc := 41) (v := (x5 + 1)) (lv' := [(5, .int (x5 + 1)), (3, .int (x3 ||| (v27 &&& (x3 ^^^ (-1))))), (4, .int (v27 &&& (x3 ^^^ (-1)))), (0, .ref (ad 0)), (1, .int x1)]) hx hb dX6_dayOf_41 hl (k := 4) rfl rfl (by decide) rfl (fun ls hl => ?_)
          refine lv_goto (pc := 44) (tgt := 10) hx hb dX6_dayOf_44 (by decide) ?_
          exact ih10 x1 (x3 ||| (v27 &&& (x3 ^^^ (-1)))) (v27 &&& (x3 ^^^ (-1))) (x5 + 1) _ _ _ hP hD hS (lv_sub hl [3, 4, 1, 2, 0] rfl) hf
  refine lv_iconst (pc := 0) (v := 1) hx hb dX6_dayOf_0 (by decide) ?_
  refine lv_iload_n (pc := 1) hx hb dX6_dayOf_1 rfl (lv_at hl 2 rfl) ?_
  refine lv_ishl (pc := 2) hx hb dX6_dayOf_2 ?_
  refine lv_istore_n (pc := 3) (lv' := [(3, .int (1 <<< (x2 &&& 31))), (0, .ref (ad 0)), (1, .int x1), (2, .int x2)]) hx hb dX6_dayOf_3 rfl hl (by decide) rfl (fun ls hl => ?_)
  refine lv_iload_n (pc := 4) hx hb dX6_dayOf_4 rfl (lv_at hl 0 rfl) ?_
  refine lv_istore (pc := 5) (lv' := [(4, .int (1 <<< (x2 &&& 31))), (3, .int (1 <<< (x2 &&& 31))), (0, .ref (ad 0)), (1, .int x1), (2, .int x2)]) hx hb dX6_dayOf_5 hl (by decide) rfl (fun ls hl => ?_)
  refine lv_iconst (pc := 7) (v := 0) hx hb dX6_dayOf_7 (by decide) ?_
  refine lv_istore (pc := 8) (lv' := [(5, .int 0), (4, .int (1 <<< (x2 &&& 31))), (3, .int (1 <<< (x2 &&& 31))), (0, .ref (ad 0)), (1, .int x1), (2, .int x2)]) hx hb dX6_dayOf_8 hl (by decide) rfl (fun ls hl => ?_)
  exact L10 N x1 (1 <<< (x2 &&& 31)) (1 <<< (x2 &&& 31)) 0 _ _ _ hP hD hS (lv_sub hl [3, 4, 2, 1, 0] rfl) hf
set_option maxHeartbeats 4000000 in
set_option maxRecDepth 100000 in
theorem tX6_lastsOf {l : Launch} {kv : Nat × Nat} {D : va_G} {N : Nat} {ad : Nat → Nat} {cA : ClassId} {σ : SM} {x1 : Int32} {rF : Int32} (hf : fX6_lastsOf N σ x1 = some rF) : Ct l kv D [(cA, .int)] yX6_lastsOf cX6_lastsOf 5 (some .int) 3 73 (wM ad cA σ) (wM ad cA σ) [.ref (ad 0), .int x1] (some (.int rF)) := by
  refine Ct.ofW (by decide) (Nat.le_of_ble_eq_true rfl) ?_
  intro p e s m below meth c A args CF hr hlk hA hP hK hD hN hW hS ls hl
  have hx := CF.1
  have hb := CF.2.1
  have hml := CF.2.2.1
  have hown := CF.2.2.2.1
  have hw : ∀ w ∈ wsA, w.before args s = true := fun w h => CF.2.2.2.2 w (List.mem_cons_of_mem _ h)
  have hl : lv_has ls 5 [(0, .ref (ad 0)), (1, .int x1)] := hl
  unfold fX6_lastsOf at hf
  have L4 : ∀ (n4 : Nat) (x1 : Int32) (x2 : Int32) (x3 : Int32) (H : Heap) (locs : List Loc) (ls : Array Slot), va_P D vwCl (wM ad cA σ) H → va_D A (wM ad cA σ) → va_S A s.heap H locs → lv_has ls 5 [(0, .ref (ad 0)), (1, .int x1), (2, .int x2), (3, .int x3)] → fX6_lastsOf_4 N n4 σ x1 x2 x3 = some rF → G p l e 3 73 s m args below meth c D A (wM ad cA σ) (some (.int rF)) H locs (F0 m 4 ls []) := by
    intro n4
    induction n4 with
    | zero => intro x1 x2 x3 H locs ls hP hD hS hl hf; exact absurd hf (by simp [fX6_lastsOf_4])
    | succ n4 ih4 =>
      intro x1 x2 x3 H locs ls hP hD hS hl hf
      rw [fX6_lastsOf_4] at hf
      refine lv_iload_n (pc := 4) hx hb dX6_lastsOf_4 rfl (lv_at hl 3 rfl) ?_
      refine lv_aload_n (pc := 5) hx hb dX6_lastsOf_5 rfl (lv_at hl 0 rfl) ?_
      refine gm_0_people (pc := 6) CF hK hP mF_X6_68 dX6_lastsOf_6 ?_
      refine lv_icmp_ge (pc := 9) (tgt := 39) hx hb dX6_lastsOf_9 (by decide) (fun c9 => ?_) (fun c9 => ?_)
      · have hf := zz_t c9 hf
        refine lv_iload_n (pc := 39) hx hb dX6_lastsOf_39 rfl (lv_at hl 2 rfl) ?_
        exact retI hx hb hr hlk hf hP hD hS dX6_lastsOf_40
      · have hf := zz_f c9 hf
        refine lv_aload_n (pc := 12) hx hb dX6_lastsOf_12 rfl (lv_at hl 0 rfl) ?_
        refine lv_iload_n (pc := 13) hx hb dX6_lastsOf_13 rfl (lv_at hl 3 rfl) ?_
        refine lv_iload_n (pc := 14) hx hb dX6_lastsOf_14 rfl (lv_at hl 1 rfl) ?_
        obtain ⟨v15, h15, hf⟩ := zz_o hf
        refine cV (pc := 15) (rest := []) (st1 := [.int v15]) (q0 := 0) CF (tX6_dayOf h15) hK hP hD hS hA hN hW mL_X6_108 kX6_dayOf nX6_dayOf rfl rfl rfl rfl ⟨by decide, by decide⟩ hl.1 (Nat.le_of_ble_eq_true rfl) ⟨Nat.le_refl _, Nat.le_refl _⟩ rfl dX6_lastsOf_15 (fun H locs hP hD hS => ?_)
        refine lv_istore (pc := 18) (lv' := [(4, .int v15), (0, .ref (ad 0)), (1, .int x1), (2, .int x2), (3, .int x3)]) hx hb dX6_lastsOf_18 hl (by decide) rfl (fun ls hl => ?_)
        refine lv_iload (pc := 20) hx hb dX6_lastsOf_20 (lv_at hl 0 rfl) ?_
        refine lv_iload_n (pc := 22) hx hb dX6_lastsOf_22 rfl (lv_at hl 3 rfl) ?_
        refine lv_icmp_le (pc := 23) (tgt := 31) hx hb dX6_lastsOf_23 (by decide) (fun c23 => ?_) (fun c23 => ?_)
        · have hf := zz_t c23 hf
          refine lv_iload_n (pc := 31) hx hb dX6_lastsOf_31 rfl (lv_at hl 3 rfl) ?_
          refine lv_istore_n (pc := 32) (lv' := [(2, .int x2), (4, .int v15), (0, .ref (ad 0)), (1, .int x1), (3, .int x3)]) hx hb dX6_lastsOf_32 rfl hl (by decide) rfl (fun ls hl => ?_)
          refine lv_iinc (pc := 33) (v := (x3 + 1)) (lv' := [(3, .int (x3 + 1)), (2, .int x2), (4, .int v15), (0, .ref (ad 0)), (1, .int x1)]) hx hb dX6_lastsOf_33 hl (k := 4) rfl rfl (by decide) rfl (fun ls hl => ?_)
          refine lv_goto (pc := 36) (tgt := 4) hx hb dX6_lastsOf_36 (by decide) ?_
          exact ih4 x1 x2 (x3 + 1) _ _ _ hP hD hS (lv_sub hl [3, 4, 1, 0] rfl) hf
        · have hf := zz_f c23 hf
          refine lv_iload (pc := 26) hx hb dX6_lastsOf_26 (lv_at hl 0 rfl) ?_
          refine lv_goto (pc := 28) (tgt := 32) hx hb dX6_lastsOf_28 (by decide) ?_
          refine lv_istore_n (pc := 32) (lv' := [(2, .int v15), (4, .int v15), (0, .ref (ad 0)), (1, .int x1), (3, .int x3)]) hx hb dX6_lastsOf_32 rfl hl (by decide) rfl (fun ls hl => ?_)
          refine lv_iinc (pc := 33) (v := (x3 + 1)) (lv' := [(3, .int (x3 + 1)), (2, .int v15), (4, .int v15), (0, .ref (ad 0)), (1, .int x1)]) hx hb dX6_lastsOf_33 hl (k := 4) rfl rfl (by decide) rfl (fun ls hl => ?_)
          refine lv_goto (pc := 36) (tgt := 4) hx hb dX6_lastsOf_36 (by decide) ?_
          exact ih4 x1 v15 (x3 + 1) _ _ _ hP hD hS (lv_sub hl [3, 4, 1, 0] rfl) hf
  refine lv_iconst (pc := 0) (v := 0) hx hb dX6_lastsOf_0 (by decide) ?_
  refine lv_istore_n (pc := 1) (lv' := [(2, .int 0), (0, .ref (ad 0)), (1, .int x1)]) hx hb dX6_lastsOf_1 rfl hl (by decide) rfl (fun ls hl => ?_)
  refine lv_iconst (pc := 2) (v := 0) hx hb dX6_lastsOf_2 (by decide) ?_
  refine lv_istore_n (pc := 3) (lv' := [(3, .int 0), (2, .int 0), (0, .ref (ad 0)), (1, .int x1)]) hx hb dX6_lastsOf_3 rfl hl (by decide) rfl (fun ls hl => ?_)
  exact L4 N x1 0 0 _ _ _ hP hD hS (lv_sub hl [2, 3, 1, 0] rfl) hf
set_option maxHeartbeats 4000000 in
set_option maxRecDepth 100000 in
theorem tX6_tunnelsOf {l : Launch} {kv : Nat × Nat} {D : va_G} {N : Nat} {ad : Nat → Nat} {cA : ClassId} {σ : SM} {x1 : Int32} {rF : Int32} (hf : fX6_tunnelsOf N σ x1 = some rF) : Ct l kv D [(cA, .int)] yX6_tunnelsOf cX6_tunnelsOf 4 (some .int) 0 0 (wM ad cA σ) (wM ad cA σ) [.ref (ad 0), .int x1] (some (.int rF)) := by
  refine Ct.ofW (by decide) (Nat.le_of_ble_eq_true rfl) ?_
  intro p e s m below meth c A args CF hr hlk hA hP hK hD hN hW hS ls hl
  have hx := CF.1
  have hb := CF.2.1
  have hml := CF.2.2.1
  have hown := CF.2.2.2.1
  have hw : ∀ w ∈ wsA, w.before args s = true := fun w h => CF.2.2.2.2 w (List.mem_cons_of_mem _ h)
  have hl : lv_has ls 4 [(0, .ref (ad 0)), (1, .int x1)] := hl
  unfold fX6_tunnelsOf at hf
  have L4 : ∀ (n4 : Nat) (x1 : Int32) (x2 : Int32) (x3 : Int32) (H : Heap) (locs : List Loc) (ls : Array Slot), va_P D vwCl (wM ad cA σ) H → va_D A (wM ad cA σ) → va_S A s.heap H locs → lv_has ls 4 [(0, .ref (ad 0)), (1, .int x1), (2, .int x2), (3, .int x3)] → fX6_tunnelsOf_4 N n4 σ x1 x2 x3 = some rF → G p l e 0 0 s m args below meth c D A (wM ad cA σ) (some (.int rF)) H locs (F0 m 4 ls []) := by
    intro n4
    induction n4 with
    | zero => intro x1 x2 x3 H locs ls hP hD hS hl hf; exact absurd hf (by simp [fX6_tunnelsOf_4])
    | succ n4 ih4 =>
      intro x1 x2 x3 H locs ls hP hD hS hl hf
      rw [fX6_tunnelsOf_4] at hf
      refine lv_iload_n (pc := 4) hx hb dX6_tunnelsOf_4 rfl (lv_at hl 3 rfl) ?_
      refine lv_iconst (pc := 5) (v := 3) hx hb dX6_tunnelsOf_5 (by decide) ?_
      refine lv_icmp_ge (pc := 6) (tgt := 32) hx hb dX6_tunnelsOf_6 (by decide) (fun c6 => ?_) (fun c6 => ?_)
      · have hf := zz_t c6 hf
        refine lv_iload_n (pc := 32) hx hb dX6_tunnelsOf_32 rfl (lv_at hl 2 rfl) ?_
        exact retI hx hb hr hlk hf hP hD hS dX6_tunnelsOf_33
      · have hf := zz_f c6 hf
        refine lv_iload_n (pc := 9) hx hb dX6_tunnelsOf_9 rfl (lv_at hl 2 rfl) ?_
        refine lv_aload_n (pc := 10) hx hb dX6_tunnelsOf_10 rfl (lv_at hl 0 rfl) ?_
        refine gm_0_tunnels (pc := 11) CF hK hP mF_X6_16 dX6_tunnelsOf_11 ?_
        refine lv_iconst (pc := 14) (v := 3) hx hb dX6_tunnelsOf_14 (by decide) ?_
        refine lv_iload_n (pc := 15) hx hb dX6_tunnelsOf_15 rfl (lv_at hl 3 rfl) ?_
        refine lv_imul (pc := 16) hx hb dX6_tunnelsOf_16 ?_
        obtain ⟨c17, hf⟩ := zz_k hf
        refine lm_tunnels (pc := 17) hx hb hK hP c17 dX6_tunnelsOf_17 ?_
        refine lv_iload_n (pc := 18) hx hb dX6_tunnelsOf_18 rfl (lv_at hl 1 rfl) ?_
        refine lv_ishr (pc := 19) hx hb dX6_tunnelsOf_19 ?_
        refine lv_iconst (pc := 20) (v := 1) hx hb dX6_tunnelsOf_20 (by decide) ?_
        refine lv_iand (pc := 21) hx hb dX6_tunnelsOf_21 ?_
        refine lv_iload_n (pc := 22) hx hb dX6_tunnelsOf_22 rfl (lv_at hl 3 rfl) ?_
        refine lv_ishl (pc := 23) hx hb dX6_tunnelsOf_23 ?_
        refine lv_ior (pc := 24) hx hb dX6_tunnelsOf_24 ?_
        refine lv_topi (fun y25 e25 => ?_)
        have hf := zz_l e25 hf
        refine lv_istore_n (pc := 25) (lv' := [(2, .int y25), (0, .ref (ad 0)), (1, .int x1), (3, .int x3)]) hx hb dX6_tunnelsOf_25 rfl hl (by decide) rfl (fun ls hl => ?_)
        refine lv_iinc (pc := 26) (v := (x3 + 1)) (lv' := [(3, .int (x3 + 1)), (2, .int y25), (0, .ref (ad 0)), (1, .int x1)]) hx hb dX6_tunnelsOf_26 hl (k := 3) rfl rfl (by decide) rfl (fun ls hl => ?_)
        refine lv_goto (pc := 29) (tgt := 4) hx hb dX6_tunnelsOf_29 (by decide) ?_
        exact ih4 x1 y25 (x3 + 1) _ _ _ hP hD hS (lv_sub hl [2, 3, 1, 0] rfl) hf
  refine lv_iconst (pc := 0) (v := 0) hx hb dX6_tunnelsOf_0 (by decide) ?_
  refine lv_istore_n (pc := 1) (lv' := [(2, .int 0), (0, .ref (ad 0)), (1, .int x1)]) hx hb dX6_tunnelsOf_1 rfl hl (by decide) rfl (fun ls hl => ?_)
  refine lv_iconst (pc := 2) (v := 0) hx hb dX6_tunnelsOf_2 (by decide) ?_
  refine lv_istore_n (pc := 3) (lv' := [(3, .int 0), (2, .int 0), (0, .ref (ad 0)), (1, .int x1)]) hx hb dX6_tunnelsOf_3 rfl hl (by decide) rfl (fun ls hl => ?_)
  exact L4 N x1 0 0 _ _ _ hP hD hS (lv_sub hl [2, 3, 1, 0] rfl) hf
set_option maxHeartbeats 4000000 in
set_option maxRecDepth 100000 in
theorem tX6_tellPerson {l : Launch} {kv : Nat × Nat} {D : va_G} {N : Nat} {ad : Nat → Nat} {cA : ClassId} {σ : SM} {x1 : Int32} {x2 : Int32} {rF : Int32} (hf : fX6_tellPerson N σ x1 x2 = some rF) : Ct l kv D [(cA, .int)] yX6_tellPerson cX6_tellPerson 3 (some .int) 4 97 (wM ad cA σ) (wM ad cA σ) [.ref (ad 0), .int x1, .int x2] (some (.int rF)) := by
  refine Ct.ofW (by decide) (Nat.le_of_ble_eq_true rfl) ?_
  intro p e s m below meth c A args CF hr hlk hA hP hK hD hN hW hS ls hl
  have hx := CF.1
  have hb := CF.2.1
  have hml := CF.2.2.1
  have hown := CF.2.2.2.1
  have hw : ∀ w ∈ wsA, w.before args s = true := fun w h => CF.2.2.2.2 w (List.mem_cons_of_mem _ h)
  have hl : lv_has ls 3 [(0, .ref (ad 0)), (1, .int x1), (2, .int x2)] := hl
  unfold fX6_tellPerson at hf
  refine lv_iload_n (pc := 0) hx hb dX6_tellPerson_0 rfl (lv_at hl 2 rfl) ?_
  by_cases c1_0 : x2 = 0
  · have hf := zz_t c1_0 hf
    refine lv_tableIn (pc := 1) (tgt := 40) hx hb dX6_tellPerson_1 (by rw [c1_0] <;> decide) (by rw [c1_0] <;> decide) (by rw [c1_0] <;> rfl) (by decide) ?_
    refine lv_aload_n (pc := 40) hx hb dX6_tellPerson_40 rfl (lv_at hl 0 rfl) ?_
    refine gm_0_rows (pc := 41) CF hK hP mF_X6_13 dX6_tellPerson_41 ?_
    refine lv_iconst (pc := 44) (v := 2) hx hb dX6_tellPerson_44 (by decide) ?_
    refine lv_iload_n (pc := 45) hx hb dX6_tellPerson_45 rfl (lv_at hl 1 rfl) ?_
    refine lv_imul (pc := 46) hx hb dX6_tellPerson_46 ?_
    refine lv_iload_n (pc := 47) hx hb dX6_tellPerson_47 rfl (lv_at hl 2 rfl) ?_
    refine lv_iadd (pc := 48) hx hb dX6_tellPerson_48 ?_
    obtain ⟨c49, hf⟩ := zz_k hf
    refine lm_rows (pc := 49) hx hb hK hP c49 dX6_tellPerson_49 ?_
    exact retI hx hb hr hlk hf hP hD hS dX6_tellPerson_50
  have hf := zz_f c1_0 hf
  by_cases c1_1 : x2 = 1
  · have hf := zz_t c1_1 hf
    refine lv_tableIn (pc := 1) (tgt := 40) hx hb dX6_tellPerson_1 (by rw [c1_1] <;> decide) (by rw [c1_1] <;> decide) (by rw [c1_1] <;> rfl) (by decide) ?_
    refine lv_aload_n (pc := 40) hx hb dX6_tellPerson_40 rfl (lv_at hl 0 rfl) ?_
    refine gm_0_rows (pc := 41) CF hK hP mF_X6_13 dX6_tellPerson_41 ?_
    refine lv_iconst (pc := 44) (v := 2) hx hb dX6_tellPerson_44 (by decide) ?_
    refine lv_iload_n (pc := 45) hx hb dX6_tellPerson_45 rfl (lv_at hl 1 rfl) ?_
    refine lv_imul (pc := 46) hx hb dX6_tellPerson_46 ?_
    refine lv_iload_n (pc := 47) hx hb dX6_tellPerson_47 rfl (lv_at hl 2 rfl) ?_
    refine lv_iadd (pc := 48) hx hb dX6_tellPerson_48 ?_
    obtain ⟨c49, hf⟩ := zz_k hf
    refine lm_rows (pc := 49) hx hb hK hP c49 dX6_tellPerson_49 ?_
    exact retI hx hb hr hlk hf hP hD hS dX6_tellPerson_50
  have hf := zz_f c1_1 hf
  by_cases c1_2 : x2 = 2
  · have hf := zz_t c1_2 hf
    refine lv_tableIn (pc := 1) (tgt := 51) hx hb dX6_tellPerson_1 (by rw [c1_2] <;> decide) (by rw [c1_2] <;> decide) (by rw [c1_2] <;> rfl) (by decide) ?_
    refine lv_aload_n (pc := 51) hx hb dX6_tellPerson_51 rfl (lv_at hl 0 rfl) ?_
    refine lv_iload_n (pc := 52) hx hb dX6_tellPerson_52 rfl (lv_at hl 1 rfl) ?_
    obtain ⟨v53, h53, hf⟩ := zz_o hf
    refine cV (pc := 53) (rest := []) (st1 := [.int v53]) (q0 := 0) CF (tX6_tellsOf h53) hK hP hD hS hA hN hW mL_X6_92 kX6_tellsOf nX6_tellsOf rfl rfl rfl rfl ⟨by decide, by decide⟩ hl.1 (Nat.le_of_ble_eq_true rfl) ⟨Nat.le_refl _, Nat.le_refl _⟩ rfl dX6_tellPerson_53 (fun H locs hP hD hS => ?_)
    exact retI hx hb hr hlk hf hP hD hS dX6_tellPerson_56
  have hf := zz_f c1_2 hf
  by_cases c1_3 : x2 = 3
  · have hf := zz_t c1_3 hf
    refine lv_tableIn (pc := 1) (tgt := 57) hx hb dX6_tellPerson_1 (by rw [c1_3] <;> decide) (by rw [c1_3] <;> decide) (by rw [c1_3] <;> rfl) (by decide) ?_
    refine lv_aload_n (pc := 57) hx hb dX6_tellPerson_57 rfl (lv_at hl 0 rfl) ?_
    refine lv_iload_n (pc := 58) hx hb dX6_tellPerson_58 rfl (lv_at hl 1 rfl) ?_
    obtain ⟨v59, h59, hf⟩ := zz_o hf
    refine cV (pc := 59) (rest := []) (st1 := [.int v59]) (q0 := 0) CF (tX6_tunnelsOf h59) hK hP hD hS hA hN hW mL_X6_111 kX6_tunnelsOf nX6_tunnelsOf rfl rfl rfl rfl ⟨by decide, by decide⟩ hl.1 (Nat.le_of_ble_eq_true rfl) ⟨Nat.le_refl _, Nat.le_refl _⟩ rfl dX6_tellPerson_59 (fun H locs hP hD hS => ?_)
    exact retI hx hb hr hlk hf hP hD hS dX6_tellPerson_62
  have hf := zz_f c1_3 hf
  by_cases c1_4 : x2 = 4
  · have hf := zz_t c1_4 hf
    refine lv_tableIn (pc := 1) (tgt := 63) hx hb dX6_tellPerson_1 (by rw [c1_4] <;> decide) (by rw [c1_4] <;> decide) (by rw [c1_4] <;> rfl) (by decide) ?_
    refine lv_aload_n (pc := 63) hx hb dX6_tellPerson_63 rfl (lv_at hl 0 rfl) ?_
    refine lv_iconst (pc := 64) (v := 1) hx hb dX6_tellPerson_64 (by decide) ?_
    refine lv_iload_n (pc := 65) hx hb dX6_tellPerson_65 rfl (lv_at hl 1 rfl) ?_
    refine lv_ishl (pc := 66) hx hb dX6_tellPerson_66 ?_
    obtain ⟨v67, h67, hf⟩ := zz_o hf
    refine cV (pc := 67) (rest := []) (st1 := [.int v67]) (q0 := 0) CF (tX6_endsOf h67) hK hP hD hS hA hN hW mL_X6_114 kX6_endsOf nX6_endsOf rfl rfl rfl rfl ⟨by decide, by decide⟩ hl.1 (Nat.le_of_ble_eq_true rfl) ⟨Nat.le_refl _, Nat.le_refl _⟩ rfl dX6_tellPerson_67 (fun H locs hP hD hS => ?_)
    exact retI hx hb hr hlk hf hP hD hS dX6_tellPerson_70
  have hf := zz_f c1_4 hf
  by_cases c1_5 : x2 = 5
  · have hf := zz_t c1_5 hf
    refine lv_tableIn (pc := 1) (tgt := 71) hx hb dX6_tellPerson_1 (by rw [c1_5] <;> decide) (by rw [c1_5] <;> decide) (by rw [c1_5] <;> rfl) (by decide) ?_
    refine lv_aload_n (pc := 71) hx hb dX6_tellPerson_71 rfl (lv_at hl 0 rfl) ?_
    refine lv_iload_n (pc := 72) hx hb dX6_tellPerson_72 rfl (lv_at hl 1 rfl) ?_
    obtain ⟨v73, h73, hf⟩ := zz_o hf
    refine cV (pc := 73) (rest := []) (st1 := [.int v73]) (q0 := 0) CF (tX6_lastsOf h73) hK hP hD hS hA hN hW mL_X6_117 kX6_lastsOf nX6_lastsOf rfl rfl rfl rfl ⟨by decide, by decide⟩ hl.1 (Nat.le_of_ble_eq_true rfl) ⟨Nat.le_refl _, Nat.le_refl _⟩ rfl dX6_tellPerson_73 (fun H locs hP hD hS => ?_)
    exact retI hx hb hr hlk hf hP hD hS dX6_tellPerson_76
  have hf := zz_f c1_5 hf
  refine lv_tableOut (pc := 1) (tgt := 77) hx hb dX6_tellPerson_1 (sw_0_5 (lv_neT (a := 0) c1_0 rfl) (lv_neT (a := 1) c1_1 rfl) (lv_neT (a := 2) c1_2 rfl) (lv_neT (a := 3) c1_3 rfl) (lv_neT (a := 4) c1_4 rfl) (lv_neT (a := 5) c1_5 rfl)) (by decide) ?_
  refine lv_bipush (pc := 77) (v := (-102)) hx hb dX6_tellPerson_77 (by decide) ?_
  exact retI hx hb hr hlk hf hP hD hS dX6_tellPerson_79
set_option maxHeartbeats 4000000 in
set_option maxRecDepth 100000 in
theorem tX6_person {l : Launch} {kv : Nat × Nat} {D : va_G} {N : Nat} {ad : Nat → Nat} {cA : ClassId} {σ : SM} {x1 : Int32} {x2 : Int32} {rF : Int32} (hf : fX6_person N σ x1 x2 = some rF) : Ct l kv D [(cA, .int)] yX6_person cX6_person 3 (some .int) 5 119 (wM ad cA σ) (wM ad cA σ) [.ref (ad 0), .int x1, .int x2] (some (.int rF)) := by
  refine Ct.ofW (by decide) (Nat.le_of_ble_eq_true rfl) ?_
  intro p e s m below meth c A args CF hr hlk hA hP hK hD hN hW hS ls hl
  have hx := CF.1
  have hb := CF.2.1
  have hml := CF.2.2.1
  have hown := CF.2.2.2.1
  have hw : ∀ w ∈ wsA, w.before args s = true := fun w h => CF.2.2.2.2 w (List.mem_cons_of_mem _ h)
  have hl : lv_has ls 3 [(0, .ref (ad 0)), (1, .int x1), (2, .int x2)] := hl
  unfold fX6_person at hf
  refine lv_aload_n (pc := 0) hx hb dX6_person_0 rfl (lv_at hl 0 rfl) ?_
  refine lv_iload_n (pc := 1) hx hb dX6_person_1 rfl (lv_at hl 1 rfl) ?_
  obtain ⟨v2, h2, hf⟩ := zz_o hf
  refine cV (pc := 2) (rest := []) (st1 := [.int v2]) (q0 := 0) CF (tX6_isPerson h2) hK hP hD hS hA hN hW mL_X6_120 kX6_isPerson nX6_isPerson rfl rfl rfl rfl ⟨by decide, by decide⟩ hl.1 (Nat.le_of_ble_eq_true rfl) ⟨Nat.le_refl _, Nat.le_refl _⟩ rfl dX6_person_2 (fun H locs hP hD hS => ?_)
  refine lv_if_eq (pc := 5) (tgt := 17) hx hb dX6_person_5 (by decide) (fun c5 => ?_) (fun c5 => ?_)
  · have hf := zz_t c5 hf
    refine lv_bipush (pc := 17) (v := (-101)) hx hb dX6_person_17 (by decide) ?_
    exact retI hx hb hr hlk hf hP hD hS dX6_person_19
  · have hf := zz_f c5 hf
    refine lv_aload_n (pc := 8) hx hb dX6_person_8 rfl (lv_at hl 0 rfl) ?_
    refine lv_iload_n (pc := 9) hx hb dX6_person_9 rfl (lv_at hl 1 rfl) ?_
    refine lv_iload_n (pc := 10) hx hb dX6_person_10 rfl (lv_at hl 2 rfl) ?_
    obtain ⟨v11, h11, hf⟩ := zz_o hf
    refine cV (pc := 11) (rest := []) (st1 := [.int v11]) (q0 := 0) CF (tX6_tellPerson h11) hK hP hD hS hA hN hW mL_X6_123 kX6_tellPerson nX6_tellPerson rfl rfl rfl rfl ⟨by decide, by decide⟩ hl.1 (Nat.le_of_ble_eq_true rfl) ⟨Nat.le_refl _, Nat.le_refl _⟩ rfl dX6_person_11 (fun H locs hP hD hS => ?_)
    refine lv_goto (pc := 14) (tgt := 19) hx hb dX6_person_14 (by decide) ?_
    exact retI hx hb hr hlk hf hP hD hS dX6_person_19
set_option maxHeartbeats 4000000 in
set_option maxRecDepth 100000 in
theorem tX6_as {l : Launch} {kv : Nat × Nat} {D : va_G} {N : Nat} {ad : Nat → Nat} {cA : ClassId} {σ : SM} {x1 : Int32} {x2 : Int32} {rF : Int32} (hf : fX6_as N σ x1 x2 = some rF) : Ct l kv D [(cA, .int)] yX6_as cX6_as 5 (some .int) 2 46 (wM ad cA σ) (wM ad cA σ) [.ref (ad 0), .int x1, .int x2] (some (.int rF)) := by
  refine Ct.ofW (by decide) (Nat.le_of_ble_eq_true rfl) ?_
  intro p e s m below meth c A args CF hr hlk hA hP hK hD hN hW hS ls hl
  have hx := CF.1
  have hb := CF.2.1
  have hml := CF.2.2.1
  have hown := CF.2.2.2.1
  have hw : ∀ w ∈ wsA, w.before args s = true := fun w h => CF.2.2.2.2 w (List.mem_cons_of_mem _ h)
  have hl : lv_has ls 5 [(0, .ref (ad 0)), (1, .int x1), (2, .int x2)] := hl
  unfold fX6_as at hf
  have J59 : ∀ (x1 : Int32) (z0 : Int32) (H : Heap) (locs : List Loc) (ls : Array Slot), va_P D vwCl (wM ad cA σ) H → va_D A (wM ad cA σ) → va_S A s.heap H locs → lv_has ls 5 [(1, .int x1)] → fX6_as_59 N σ x1 z0 = some rF → G p l e 2 46 s m args below meth c D A (wM ad cA σ) (some (.int rF)) H locs (F0 m 59 ls [.int z0]) := by
    intro x1 z0 H locs ls hP hD hS hl hf
    unfold fX6_as_59 at hf
    refine lv_istore (pc := 59) (lv' := [(4, .int z0), (1, .int x1)]) hx hb dX6_as_59 hl (by decide) rfl (fun ls hl => ?_)
    refine lv_iload (pc := 61) hx hb dX6_as_61 (lv_at hl 0 rfl) ?_
    refine lv_if_eq (pc := 63) (tgt := 70) hx hb dX6_as_63 (by decide) (fun c63 => ?_) (fun c63 => ?_)
    · have hf := zz_t c63 hf
      refine lv_iconst (pc := 70) (v := (-1)) hx hb dX6_as_70 (by decide) ?_
      exact retI hx hb hr hlk hf hP hD hS dX6_as_71
    · have hf := zz_f c63 hf
      refine lv_iload_n (pc := 66) hx hb dX6_as_66 rfl (lv_at hl 1 rfl) ?_
      refine lv_goto (pc := 67) (tgt := 71) hx hb dX6_as_67 (by decide) ?_
      exact retI hx hb hr hlk hf hP hD hS dX6_as_71
  have J58 : ∀ (x1 : Int32) (H : Heap) (locs : List Loc) (ls : Array Slot), va_P D vwCl (wM ad cA σ) H → va_D A (wM ad cA σ) → va_S A s.heap H locs → lv_has ls 5 [(1, .int x1)] → fX6_as_58 N σ x1 = some rF → G p l e 2 46 s m args below meth c D A (wM ad cA σ) (some (.int rF)) H locs (F0 m 58 ls []) := by
    intro x1 H locs ls hP hD hS hl hf
    unfold fX6_as_58 at hf
    refine lv_iconst (pc := 58) (v := 0) hx hb dX6_as_58 (by decide) ?_
    exact J59 x1 0 _ _ _ hP hD hS (lv_sub hl [0] rfl) hf
  have J54 : ∀ (x1 : Int32) (H : Heap) (locs : List Loc) (ls : Array Slot), va_P D vwCl (wM ad cA σ) H → va_D A (wM ad cA σ) → va_S A s.heap H locs → lv_has ls 5 [(1, .int x1)] → fX6_as_54 N σ x1 = some rF → G p l e 2 46 s m args below meth c D A (wM ad cA σ) (some (.int rF)) H locs (F0 m 54 ls []) := by
    intro x1 H locs ls hP hD hS hl hf
    unfold fX6_as_54 at hf
    refine lv_iconst (pc := 54) (v := 1) hx hb dX6_as_54 (by decide) ?_
    refine lv_goto (pc := 55) (tgt := 59) hx hb dX6_as_55 (by decide) ?_
    exact J59 x1 1 _ _ _ hP hD hS (lv_sub hl [0] rfl) hf
  refine lv_aload_n (pc := 0) hx hb dX6_as_0 rfl (lv_at hl 0 rfl) ?_
  refine lv_iload_n (pc := 1) hx hb dX6_as_1 rfl (lv_at hl 1 rfl) ?_
  obtain ⟨v2, h2, hf⟩ := zz_o hf
  refine cV (pc := 2) (rest := []) (st1 := [.int v2]) (q0 := 0) CF (tX6_isPerson h2) hK hP hD hS hA hN hW mL_X6_120 kX6_isPerson nX6_isPerson rfl rfl rfl rfl ⟨by decide, by decide⟩ hl.1 (Nat.le_of_ble_eq_true rfl) ⟨Nat.le_refl _, Nat.le_refl _⟩ rfl dX6_as_2 (fun H locs hP hD hS => ?_)
  refine lv_if_ne (pc := 5) (tgt := 11) hx hb dX6_as_5 (by decide) (fun c5 => ?_) (fun c5 => ?_)
  · have hf := zz_f c5 hf
    refine lv_iload_n (pc := 11) hx hb dX6_as_11 rfl (lv_at hl 2 rfl) ?_
    refine lv_i2l (pc := 12) (v := x2.toInt64) hx hb dX6_as_12 rfl ?_
    refine lv_lconst (pc := 13) (v := 0) hx hb dX6_as_13 (by decide) ?_
    refine lv_ldc2 (pc := 14) hx hb hown (hw _ mK_X6_126) dX6_as_14 ?_
    obtain ⟨v17, h17, hf⟩ := zz_o hf
    refine cSt (pc := 17) (rest := []) (st1 := [.int v17]) CF (tX6_in h17) hK hP hD hS hA hN hW mL_X6_40 kX6_in nX6_in rfl rfl ⟨by decide, by decide⟩ hl.1 (Nat.le_of_ble_eq_true rfl) ⟨Nat.le_refl _, Nat.le_refl _⟩ rfl dX6_as_17 (fun H locs hP hD hS => ?_)
    refine lv_if_ne (pc := 20) (tgt := 26) hx hb dX6_as_20 (by decide) (fun c20 => ?_) (fun c20 => ?_)
    · have hf := zz_f c20 hf
      refine lv_aload_n (pc := 26) hx hb dX6_as_26 rfl (lv_at hl 0 rfl) ?_
      refine gm_0_rows (pc := 27) CF hK hP mF_X6_13 dX6_as_27 ?_
      refine lv_iconst (pc := 30) (v := 2) hx hb dX6_as_30 (by decide) ?_
      refine lv_iload_n (pc := 31) hx hb dX6_as_31 rfl (lv_at hl 1 rfl) ?_
      refine lv_imul (pc := 32) hx hb dX6_as_32 ?_
      obtain ⟨c33, hf⟩ := zz_k hf
      refine lm_rows (pc := 33) hx hb hK hP c33 dX6_as_33 ?_
      refine lv_istore_n (pc := 34) (lv' := [(3, .int (m_rows σ (2 * x1).toNatClampNeg)), (0, .ref (ad 0)), (1, .int x1), (2, .int x2)]) hx hb dX6_as_34 rfl hl (by decide) rfl (fun ls hl => ?_)
      refine lv_iload_n (pc := 35) hx hb dX6_as_35 rfl (lv_at hl 3 rfl) ?_
      refine lv_if_eq (pc := 36) (tgt := 54) hx hb dX6_as_36 (by decide) (fun c36 => ?_) (fun c36 => ?_)
      · have hf := zz_t c36 hf
        exact J54 x1 _ _ _ hP hD hS (lv_sub hl [2] rfl) hf
      · have hf := zz_f c36 hf
        refine lv_iload_n (pc := 39) hx hb dX6_as_39 rfl (lv_at hl 3 rfl) ?_
        refine lv_iload_n (pc := 40) hx hb dX6_as_40 rfl (lv_at hl 0 rfl) ?_
        refine lv_icmp_eq (pc := 41) (tgt := 54) hx hb dX6_as_41 (by decide) (fun c41 => ?_) (fun c41 => ?_)
        · have hf := zz_t c41 hf
          exact J54 x1 _ _ _ hP hD hS (lv_sub hl [2] rfl) hf
        · have hf := zz_f c41 hf
          refine lv_iload_n (pc := 44) hx hb dX6_as_44 rfl (lv_at hl 3 rfl) ?_
          refine lv_iconst (pc := 45) (v := 2) hx hb dX6_as_45 (by decide) ?_
          refine lv_icmp_ne (pc := 46) (tgt := 58) hx hb dX6_as_46 (by decide) (fun c46 => ?_) (fun c46 => ?_)
          · have hf := zz_f c46 hf
            exact J58 x1 _ _ _ hP hD hS (lv_sub hl [2] rfl) hf
          · have hf := zz_t c46 hf
            refine lv_iload_n (pc := 49) hx hb dX6_as_49 rfl (lv_at hl 0 rfl) ?_
            refine lv_iconst (pc := 50) (v := 4) hx hb dX6_as_50 (by decide) ?_
            refine lv_icmp_ne (pc := 51) (tgt := 58) hx hb dX6_as_51 (by decide) (fun c51 => ?_) (fun c51 => ?_)
            · have hf := zz_f c51 hf
              exact J58 x1 _ _ _ hP hD hS (lv_sub hl [2] rfl) hf
            · have hf := zz_t c51 hf
              exact J54 x1 _ _ _ hP hD hS (lv_sub hl [2] rfl) hf
    · have hf := zz_t c20 hf
      refine lv_bipush (pc := 23) (v := (-102)) hx hb dX6_as_23 (by decide) ?_
      exact retI hx hb hr hlk hf hP hD hS dX6_as_25
  · have hf := zz_t c5 hf
    refine lv_bipush (pc := 8) (v := (-101)) hx hb dX6_as_8 (by decide) ?_
    exact retI hx hb hr hlk hf hP hD hS dX6_as_10
set_option maxHeartbeats 4000000 in
set_option maxRecDepth 100000 in
theorem tX6_next {l : Launch} {kv : Nat × Nat} {D : va_G} {N : Nat} {ad : Nat → Nat} {cA : ClassId} {σ : SM} {x1 : Int32} {x2 : Int32} {rF : Int32} {σF : SM} (hf : fX6_next N σ x1 x2 = some (rF, σF)) : Ct l kv D [(cA, .int)] yX6_next cX6_next 4 (some .int) 2 46 (wM ad cA σ) (wM ad cA σF) [.ref (ad 0), .int x1, .int x2] (some (.int rF)) := by
  refine Ct.ofW (by decide) (Nat.le_of_ble_eq_true rfl) ?_
  intro p e s m below meth c A args CF hr hlk hA hP hK hD hN hW hS ls hl
  have hx := CF.1
  have hb := CF.2.1
  have hml := CF.2.2.1
  have hown := CF.2.2.2.1
  have hw : ∀ w ∈ wsA, w.before args s = true := fun w h => CF.2.2.2.2 w (List.mem_cons_of_mem _ h)
  have hl : lv_has ls 4 [(0, .ref (ad 0)), (1, .int x1), (2, .int x2)] := hl
  unfold fX6_next at hf
  have J54 : ∀ (σ : SM) (x3 : Int32) (z0 : Int32) (z1 : Int32) (H : Heap) (locs : List Loc) (ls : Array Slot), va_P D vwCl (wM ad cA σ) H → va_D A (wM ad cA σ) → va_S A s.heap H locs → lv_has ls 4 [(0, .ref (ad 0)), (3, .int x3)] → fX6_next_54 N σ x3 z0 z1 = some (rF, σF) → G p l e 2 46 s m args below meth c D A (wM ad cA σF) (some (.int rF)) H locs (F0 m 54 ls [.int z0, .int z1, .ref (ad 2)]) := by
    intro σ x3 z0 z1 H locs ls hP hD hS hl hf
    unfold fX6_next_54 at hf
    obtain ⟨c54, hf⟩ := zz_k hf
    refine am_rows (pc := 54) hx hb hK hP hD hS c54 dX6_next_54 (fun H locs hP hD hS => ?_)
    obtain ⟨σ54, hP, hD, hf⟩ := zz_g (w := wM ad cA) hP hD hf
    refine lv_aload_n (pc := 55) hx hb dX6_next_55 rfl (lv_at hl 0 rfl) ?_
    refine lv_dup (pc := 56) hx hb dX6_next_56 rfl ?_
    refine gm_0_changes (pc := 57) CF hK hP mF_X6_77 dX6_next_57 ?_
    refine lv_iconst (pc := 60) (v := 1) hx hb dX6_next_60 (by decide) ?_
    refine lv_iadd (pc := 61) hx hb dX6_next_61 ?_
    refine pm_0_changes (pc := 62) CF hK hP hD hS mF_X6_77 dX6_next_62 (fun H locs hP hD hS => ?_)
    obtain ⟨σ62, hP, hD, hf⟩ := zz_g (w := wM ad cA) hP hD hf
    refine lv_iload_n (pc := 65) hx hb dX6_next_65 rfl (lv_at hl 1 rfl) ?_
    exact retIw (wf := wM ad cA) hx hb hr hlk hf hP hD hS dX6_next_66
  have J24 : ∀ (σ : SM) (x1 : Int32) (x2 : Int32) (H : Heap) (locs : List Loc) (ls : Array Slot), va_P D vwCl (wM ad cA σ) H → va_D A (wM ad cA σ) → va_S A s.heap H locs → lv_has ls 4 [(0, .ref (ad 0)), (1, .int x1), (2, .int x2)] → fX6_next_24 N σ x1 x2 = some (rF, σF) → G p l e 2 46 s m args below meth c D A (wM ad cA σF) (some (.int rF)) H locs (F0 m 24 ls []) := by
    intro σ x1 x2 H locs ls hP hD hS hl hf
    unfold fX6_next_24 at hf
    refine lv_aload_n (pc := 24) hx hb dX6_next_24 rfl (lv_at hl 0 rfl) ?_
    refine gm_0_rows (pc := 25) CF hK hP mF_X6_13 dX6_next_25 ?_
    refine lv_iconst (pc := 28) (v := 2) hx hb dX6_next_28 (by decide) ?_
    refine lv_iload_n (pc := 29) hx hb dX6_next_29 rfl (lv_at hl 1 rfl) ?_
    refine lv_imul (pc := 30) hx hb dX6_next_30 ?_
    refine lv_iconst (pc := 31) (v := 1) hx hb dX6_next_31 (by decide) ?_
    refine lv_iadd (pc := 32) hx hb dX6_next_32 ?_
    obtain ⟨c33, hf⟩ := zz_k hf
    refine lm_rows (pc := 33) hx hb hK hP c33 dX6_next_33 ?_
    refine lv_istore_n (pc := 34) (lv' := [(3, .int (m_rows σ ((2 * x1) + 1).toNatClampNeg)), (0, .ref (ad 0)), (1, .int x1), (2, .int x2)]) hx hb dX6_next_34 rfl hl (by decide) rfl (fun ls hl => ?_)
    refine lv_aload_n (pc := 35) hx hb dX6_next_35 rfl (lv_at hl 1 rfl) ?_
    refine gm_0_rows (pc := 36) CF hK hP mF_X6_13 dX6_next_36 ?_
    refine lv_iconst (pc := 39) (v := 2) hx hb dX6_next_39 (by decide) ?_
    refine lv_iload_n (pc := 40) hx hb dX6_next_40 rfl (lv_at hl 2 rfl) ?_
    refine lv_imul (pc := 41) hx hb dX6_next_41 ?_
    refine lv_iconst (pc := 42) (v := 1) hx hb dX6_next_42 (by decide) ?_
    refine lv_iadd (pc := 43) hx hb dX6_next_43 ?_
    refine lv_iload_n (pc := 44) hx hb dX6_next_44 rfl (lv_at hl 3 rfl) ?_
    refine lv_iload_n (pc := 45) hx hb dX6_next_45 rfl (lv_at hl 2 rfl) ?_
    refine lv_icmp_ne (pc := 46) (tgt := 53) hx hb dX6_next_46 (by decide) (fun c46 => ?_) (fun c46 => ?_)
    · have hf := zz_f c46 hf
      refine lv_iload_n (pc := 53) hx hb dX6_next_53 rfl (lv_at hl 3 rfl) ?_
      exact J54 σ (m_rows σ ((2 * x1) + 1).toNatClampNeg) x2 ((2 * x1) + 1) _ _ _ hP hD hS (lv_sub hl [1, 0] rfl) hf
    · have hf := zz_t c46 hf
      refine lv_iconst (pc := 49) (v := (-1)) hx hb dX6_next_49 (by decide) ?_
      refine lv_goto (pc := 50) (tgt := 54) hx hb dX6_next_50 (by decide) ?_
      exact J54 σ (m_rows σ ((2 * x1) + 1).toNatClampNeg) (-1) ((2 * x1) + 1) _ _ _ hP hD hS (lv_sub hl [1, 0] rfl) hf
  refine lv_aload_n (pc := 0) hx hb dX6_next_0 rfl (lv_at hl 0 rfl) ?_
  refine lv_iload_n (pc := 1) hx hb dX6_next_1 rfl (lv_at hl 1 rfl) ?_
  obtain ⟨v2, h2, hf⟩ := zz_o hf
  refine cV (pc := 2) (rest := []) (st1 := [.int v2]) (q0 := 0) CF (tX6_isPerson h2) hK hP hD hS hA hN hW mL_X6_120 kX6_isPerson nX6_isPerson rfl rfl rfl rfl ⟨by decide, by decide⟩ hl.1 (Nat.le_of_ble_eq_true rfl) ⟨Nat.le_refl _, Nat.le_refl _⟩ rfl dX6_next_2 (fun H locs hP hD hS => ?_)
  refine lv_if_eq (pc := 5) (tgt := 21) hx hb dX6_next_5 (by decide) (fun c5 => ?_) (fun c5 => ?_)
  · have hf := zz_t c5 hf
    refine lv_bipush (pc := 21) (v := (-101)) hx hb dX6_next_21 (by decide) ?_
    exact retIw (wf := wM ad cA) hx hb hr hlk hf hP hD hS dX6_next_23
  · have hf := zz_f c5 hf
    refine lv_iload_n (pc := 8) hx hb dX6_next_8 rfl (lv_at hl 2 rfl) ?_
    refine lv_iconst (pc := 9) (v := (-1)) hx hb dX6_next_9 (by decide) ?_
    refine lv_icmp_eq (pc := 10) (tgt := 24) hx hb dX6_next_10 (by decide) (fun c10 => ?_) (fun c10 => ?_)
    · have hf := zz_t c10 hf
      exact J24 σ x1 x2 _ _ _ hP hD hS (lv_sub hl [0, 1, 2] rfl) hf
    · have hf := zz_f c10 hf
      refine lv_aload_n (pc := 13) hx hb dX6_next_13 rfl (lv_at hl 0 rfl) ?_
      refine lv_iload_n (pc := 14) hx hb dX6_next_14 rfl (lv_at hl 2 rfl) ?_
      obtain ⟨v15, h15, hf⟩ := zz_o hf
      refine cV (pc := 15) (rest := []) (st1 := [.int v15]) (q0 := 0) CF (tX6_isPerson h15) hK hP hD hS hA hN hW mL_X6_120 kX6_isPerson nX6_isPerson rfl rfl rfl rfl ⟨by decide, by decide⟩ hl.1 (Nat.le_of_ble_eq_true rfl) ⟨Nat.le_refl _, Nat.le_refl _⟩ rfl dX6_next_15 (fun H locs hP hD hS => ?_)
      refine lv_if_ne (pc := 18) (tgt := 24) hx hb dX6_next_18 (by decide) (fun c18 => ?_) (fun c18 => ?_)
      · have hf := zz_f c18 hf
        exact J24 σ x1 x2 _ _ _ hP hD hS (lv_sub hl [0, 1, 2] rfl) hf
      · have hf := zz_t c18 hf
        refine lv_bipush (pc := 21) (v := (-101)) hx hb dX6_next_21 (by decide) ?_
        exact retIw (wf := wM ad cA) hx hb hr hlk hf hP hD hS dX6_next_23
set_option maxHeartbeats 4000000 in
set_option maxRecDepth 100000 in
theorem tX6_lengthOf {l : Launch} {kv : Nat × Nat} {D : va_G} {N : Nat} {ad : Nat → Nat} {cA : ClassId} {σ : SM} {x1 : Int32} {rF : Int32} (hf : fX6_lengthOf N σ x1 = some rF) : Ct l kv D [(cA, .int)] yX6_lengthOf cX6_lengthOf 2 (some .int) 2 46 (wM ad cA σ) (wM ad cA σ) [.ref (ad 0), .int x1] (some (.int rF)) := by
  refine Ct.ofW (by decide) (Nat.le_of_ble_eq_true rfl) ?_
  intro p e s m below meth c A args CF hr hlk hA hP hK hD hN hW hS ls hl
  have hx := CF.1
  have hb := CF.2.1
  have hml := CF.2.2.1
  have hown := CF.2.2.2.1
  have hw : ∀ w ∈ wsA, w.before args s = true := fun w h => CF.2.2.2.2 w (List.mem_cons_of_mem _ h)
  have hl : lv_has ls 2 [(0, .ref (ad 0)), (1, .int x1)] := hl
  unfold fX6_lengthOf at hf
  refine lv_aload_n (pc := 0) hx hb dX6_lengthOf_0 rfl (lv_at hl 0 rfl) ?_
  refine lv_aload_n (pc := 1) hx hb dX6_lengthOf_1 rfl (lv_at hl 0 rfl) ?_
  refine gm_0_tunnels (pc := 2) CF hK hP mF_X6_16 dX6_lengthOf_2 ?_
  refine lv_iconst (pc := 5) (v := 3) hx hb dX6_lengthOf_5 (by decide) ?_
  refine lv_iload_n (pc := 6) hx hb dX6_lengthOf_6 rfl (lv_at hl 1 rfl) ?_
  refine lv_imul (pc := 7) hx hb dX6_lengthOf_7 ?_
  obtain ⟨c8, hf⟩ := zz_k hf
  refine lm_tunnels (pc := 8) hx hb hK hP c8 dX6_lengthOf_8 ?_
  refine lv_aload_n (pc := 9) hx hb dX6_lengthOf_9 rfl (lv_at hl 0 rfl) ?_
  refine gm_0_tunnels (pc := 10) CF hK hP mF_X6_16 dX6_lengthOf_10 ?_
  refine lv_iconst (pc := 13) (v := 3) hx hb dX6_lengthOf_13 (by decide) ?_
  refine lv_iload_n (pc := 14) hx hb dX6_lengthOf_14 rfl (lv_at hl 1 rfl) ?_
  refine lv_imul (pc := 15) hx hb dX6_lengthOf_15 ?_
  refine lv_iconst (pc := 16) (v := 2) hx hb dX6_lengthOf_16 (by decide) ?_
  refine lv_iadd (pc := 17) hx hb dX6_lengthOf_17 ?_
  obtain ⟨c18, hf⟩ := zz_k hf
  refine lm_tunnels (pc := 18) hx hb hK hP c18 dX6_lengthOf_18 ?_
  obtain ⟨v19, h19, hf⟩ := zz_o hf
  refine cV (pc := 19) (rest := []) (st1 := [.int v19]) (q0 := 0) CF (tX6_lengthBy h19) hK hP hD hS hA hN hW mL_X6_105 kX6_lengthBy nX6_lengthBy rfl rfl rfl rfl ⟨by decide, by decide⟩ hl.1 (Nat.le_of_ble_eq_true rfl) ⟨Nat.le_refl _, Nat.le_refl _⟩ rfl dX6_lengthOf_19 (fun H locs hP hD hS => ?_)
  exact retI hx hb hr hlk hf hP hD hS dX6_lengthOf_22
set_option maxHeartbeats 4000000 in
set_option maxRecDepth 100000 in
theorem tX6_tell {l : Launch} {kv : Nat × Nat} {D : va_G} {N : Nat} {ad : Nat → Nat} {cA : ClassId} {σ : SM} {x1 : Int32} {x2 : Int32} {rF : Int32} {σF : SM} (hf : fX6_tell N σ x1 x2 = some (rF, σF)) : Ct l kv D [(cA, .int)] yX6_tell cX6_tell 3 (some .int) 3 67 (wM ad cA σ) (wM ad cA σF) [.ref (ad 0), .int x1, .int x2] (some (.int rF)) := by
  refine Ct.ofW (by decide) (Nat.le_of_ble_eq_true rfl) ?_
  intro p e s m below meth c A args CF hr hlk hA hP hK hD hN hW hS ls hl
  have hx := CF.1
  have hb := CF.2.1
  have hml := CF.2.2.1
  have hown := CF.2.2.2.1
  have hw : ∀ w ∈ wsA, w.before args s = true := fun w h => CF.2.2.2.2 w (List.mem_cons_of_mem _ h)
  have hl : lv_has ls 3 [(0, .ref (ad 0)), (1, .int x1), (2, .int x2)] := hl
  unfold fX6_tell at hf
  refine lv_aload_n (pc := 0) hx hb dX6_tell_0 rfl (lv_at hl 0 rfl) ?_
  refine lv_iload_n (pc := 1) hx hb dX6_tell_1 rfl (lv_at hl 1 rfl) ?_
  obtain ⟨v2, h2, hf⟩ := zz_o hf
  refine cV (pc := 2) (rest := []) (st1 := [.int v2]) (q0 := 0) CF (tX6_isTunnel h2) hK hP hD hS hA hN hW mL_X6_128 kX6_isTunnel nX6_isTunnel rfl rfl rfl rfl ⟨by decide, by decide⟩ hl.1 (Nat.le_of_ble_eq_true rfl) ⟨Nat.le_refl _, Nat.le_refl _⟩ rfl dX6_tell_2 (fun H locs hP hD hS => ?_)
  refine lv_if_eq (pc := 5) (tgt := 16) hx hb dX6_tell_5 (by decide) (fun c5 => ?_) (fun c5 => ?_)
  · have hf := zz_t c5 hf
    refine lv_bipush (pc := 16) (v := (-101)) hx hb dX6_tell_16 (by decide) ?_
    exact retIw (wf := wM ad cA) hx hb hr hlk hf hP hD hS dX6_tell_18
  · have hf := zz_f c5 hf
    refine lv_aload_n (pc := 8) hx hb dX6_tell_8 rfl (lv_at hl 0 rfl) ?_
    refine lv_iload_n (pc := 9) hx hb dX6_tell_9 rfl (lv_at hl 2 rfl) ?_
    obtain ⟨v10, h10, hf⟩ := zz_o hf
    refine cV (pc := 10) (rest := []) (st1 := [.int v10]) (q0 := 0) CF (tX6_isPerson h10) hK hP hD hS hA hN hW mL_X6_120 kX6_isPerson nX6_isPerson rfl rfl rfl rfl ⟨by decide, by decide⟩ hl.1 (Nat.le_of_ble_eq_true rfl) ⟨Nat.le_refl _, Nat.le_refl _⟩ rfl dX6_tell_10 (fun H locs hP hD hS => ?_)
    refine lv_if_ne (pc := 13) (tgt := 19) hx hb dX6_tell_13 (by decide) (fun c13 => ?_) (fun c13 => ?_)
    · have hf := zz_f c13 hf
      refine lv_aload_n (pc := 19) hx hb dX6_tell_19 rfl (lv_at hl 0 rfl) ?_
      refine gm_0_tunnels (pc := 20) CF hK hP mF_X6_16 dX6_tell_20 ?_
      refine lv_iconst (pc := 23) (v := 3) hx hb dX6_tell_23 (by decide) ?_
      refine lv_iload_n (pc := 24) hx hb dX6_tell_24 rfl (lv_at hl 1 rfl) ?_
      refine lv_imul (pc := 25) hx hb dX6_tell_25 ?_
      obtain ⟨c26, hf⟩ := zz_k hf
      refine lm_tunnels (pc := 26) hx hb hK hP c26 dX6_tell_26 ?_
      refine lv_iload_n (pc := 27) hx hb dX6_tell_27 rfl (lv_at hl 2 rfl) ?_
      refine lv_ishr (pc := 28) hx hb dX6_tell_28 ?_
      refine lv_iconst (pc := 29) (v := 1) hx hb dX6_tell_29 (by decide) ?_
      refine lv_iand (pc := 30) hx hb dX6_tell_30 ?_
      refine lv_iconst (pc := 31) (v := 1) hx hb dX6_tell_31 (by decide) ?_
      refine lv_icmp_ne (pc := 32) (tgt := 38) hx hb dX6_tell_32 (by decide) (fun c32 => ?_) (fun c32 => ?_)
      · have hf := zz_f c32 hf
        refine lv_aload_n (pc := 38) hx hb dX6_tell_38 rfl (lv_at hl 0 rfl) ?_
        refine gm_0_tunnels (pc := 39) CF hK hP mF_X6_16 dX6_tell_39 ?_
        refine lv_iconst (pc := 42) (v := 3) hx hb dX6_tell_42 (by decide) ?_
        refine lv_iload_n (pc := 43) hx hb dX6_tell_43 rfl (lv_at hl 1 rfl) ?_
        refine lv_imul (pc := 44) hx hb dX6_tell_44 ?_
        refine lv_dup2_11 (pc := 45) hx hb dX6_tell_45 rfl rfl ?_
        obtain ⟨c46, hf⟩ := zz_k hf
        refine lm_tunnels (pc := 46) hx hb hK hP c46 dX6_tell_46 ?_
        refine lv_iconst (pc := 47) (v := 1) hx hb dX6_tell_47 (by decide) ?_
        refine lv_iload_n (pc := 48) hx hb dX6_tell_48 rfl (lv_at hl 2 rfl) ?_
        refine lv_ishl (pc := 49) hx hb dX6_tell_49 ?_
        refine lv_ior (pc := 50) hx hb dX6_tell_50 ?_
        obtain ⟨c51, hf⟩ := zz_k hf
        refine am_tunnels (pc := 51) hx hb hK hP hD hS c51 dX6_tell_51 (fun H locs hP hD hS => ?_)
        obtain ⟨σ51, hP, hD, hf⟩ := zz_g (w := wM ad cA) hP hD hf
        refine lv_aload_n (pc := 52) hx hb dX6_tell_52 rfl (lv_at hl 0 rfl) ?_
        refine gm_0_tunnels (pc := 53) CF hK hP mF_X6_16 dX6_tell_53 ?_
        refine lv_iconst (pc := 56) (v := 3) hx hb dX6_tell_56 (by decide) ?_
        refine lv_iload_n (pc := 57) hx hb dX6_tell_57 rfl (lv_at hl 1 rfl) ?_
        refine lv_imul (pc := 58) hx hb dX6_tell_58 ?_
        refine lv_iconst (pc := 59) (v := 1) hx hb dX6_tell_59 (by decide) ?_
        refine lv_iadd (pc := 60) hx hb dX6_tell_60 ?_
        refine lv_dup2_11 (pc := 61) hx hb dX6_tell_61 rfl rfl ?_
        obtain ⟨c62, hf⟩ := zz_k hf
        refine lm_tunnels (pc := 62) hx hb hK hP c62 dX6_tell_62 ?_
        refine lv_iconst (pc := 63) (v := 1) hx hb dX6_tell_63 (by decide) ?_
        refine lv_iload_n (pc := 64) hx hb dX6_tell_64 rfl (lv_at hl 2 rfl) ?_
        refine lv_ishl (pc := 65) hx hb dX6_tell_65 ?_
        refine lv_ior (pc := 66) hx hb dX6_tell_66 ?_
        obtain ⟨c67, hf⟩ := zz_k hf
        refine am_tunnels (pc := 67) hx hb hK hP hD hS c67 dX6_tell_67 (fun H locs hP hD hS => ?_)
        obtain ⟨σ67, hP, hD, hf⟩ := zz_g (w := wM ad cA) hP hD hf
        refine lv_aload_n (pc := 68) hx hb dX6_tell_68 rfl (lv_at hl 0 rfl) ?_
        refine lv_iload_n (pc := 69) hx hb dX6_tell_69 rfl (lv_at hl 1 rfl) ?_
        obtain ⟨v70, h70, hf⟩ := zz_o hf
        refine cV (pc := 70) (rest := []) (st1 := [.int v70]) (q0 := 0) CF (tX6_lengthOf h70) hK hP hD hS hA hN hW mL_X6_131 kX6_lengthOf nX6_lengthOf rfl rfl rfl rfl ⟨by decide, by decide⟩ hl.1 (Nat.le_of_ble_eq_true rfl) ⟨Nat.le_refl _, Nat.le_refl _⟩ rfl dX6_tell_70 (fun H locs hP hD hS => ?_)
        exact retIw (wf := wM ad cA) hx hb hr hlk hf hP hD hS dX6_tell_73
      · have hf := zz_t c32 hf
        refine lv_bipush (pc := 35) (v := (-103)) hx hb dX6_tell_35 (by decide) ?_
        exact retIw (wf := wM ad cA) hx hb hr hlk hf hP hD hS dX6_tell_37
    · have hf := zz_t c13 hf
      refine lv_bipush (pc := 16) (v := (-101)) hx hb dX6_tell_16 (by decide) ?_
      exact retIw (wf := wM ad cA) hx hb hr hlk hf hP hD hS dX6_tell_18
set_option maxHeartbeats 4000000 in
set_option maxRecDepth 100000 in
theorem tX6_day {l : Launch} {kv : Nat × Nat} {D : va_G} {N : Nat} {ad : Nat → Nat} {cA : ClassId} {σ : SM} {rF : Int32} {σF : SM} (hf : fX6_day N σ = some (rF, σF)) : Ct l kv D [(cA, .int)] yX6_day cX6_day 4 (some .int) 2 48 (wM ad cA σ) (wM ad cA σF) [.ref (ad 0)] (some (.int rF)) := by
  refine Ct.ofW (by decide) (Nat.le_of_ble_eq_true rfl) ?_
  intro p e s m below meth c A args CF hr hlk hA hP hK hD hN hW hS ls hl
  have hx := CF.1
  have hb := CF.2.1
  have hml := CF.2.2.1
  have hown := CF.2.2.2.1
  have hw : ∀ w ∈ wsA, w.before args s = true := fun w h => CF.2.2.2.2 w (List.mem_cons_of_mem _ h)
  have hl : lv_has ls 4 [(0, .ref (ad 0))] := hl
  unfold fX6_day at hf
  have L36 : ∀ (n36 : Nat) (σ : SM) (x1 : Int32) (x2 : Int32) (H : Heap) (locs : List Loc) (ls : Array Slot), va_P D vwCl (wM ad cA σ) H → va_D A (wM ad cA σ) → va_S A s.heap H locs → lv_has ls 4 [(0, .ref (ad 0)), (1, .int x1), (2, .int x2)] → fX6_day_36 N n36 σ x1 x2 = some (rF, σF) → G p l e 2 48 s m args below meth c D A (wM ad cA σF) (some (.int rF)) H locs (F0 m 36 ls []) := by
    intro n36
    induction n36 with
    | zero => intro σ x1 x2 H locs ls hP hD hS hl hf; exact absurd hf (by simp [fX6_day_36])
    | succ n36 ih36 =>
      intro σ x1 x2 H locs ls hP hD hS hl hf
      rw [fX6_day_36] at hf
      refine lv_iload_n (pc := 36) hx hb dX6_day_36 rfl (lv_at hl 2 rfl) ?_
      refine lv_iconst (pc := 37) (v := 3) hx hb dX6_day_37 (by decide) ?_
      refine lv_icmp_ge (pc := 38) (tgt := 103) hx hb dX6_day_38 (by decide) (fun c38 => ?_) (fun c38 => ?_)
      · have hf := zz_t c38 hf
        refine lv_iload_n (pc := 103) hx hb dX6_day_103 rfl (lv_at hl 1 rfl) ?_
        exact retIw (wf := wM ad cA) hx hb hr hlk hf hP hD hS dX6_day_104
      · have hf := zz_f c38 hf
        refine lv_aload_n (pc := 41) hx hb dX6_day_41 rfl (lv_at hl 0 rfl) ?_
        refine lv_aload_n (pc := 42) hx hb dX6_day_42 rfl (lv_at hl 0 rfl) ?_
        refine gm_0_tunnels (pc := 43) CF hK hP mF_X6_16 dX6_day_43 ?_
        refine lv_iconst (pc := 46) (v := 3) hx hb dX6_day_46 (by decide) ?_
        refine lv_iload_n (pc := 47) hx hb dX6_day_47 rfl (lv_at hl 2 rfl) ?_
        refine lv_imul (pc := 48) hx hb dX6_day_48 ?_
        refine lv_iconst (pc := 49) (v := 1) hx hb dX6_day_49 (by decide) ?_
        refine lv_iadd (pc := 50) hx hb dX6_day_50 ?_
        obtain ⟨c51, hf⟩ := zz_k hf
        refine lm_tunnels (pc := 51) hx hb hK hP c51 dX6_day_51 ?_
        obtain ⟨v52, h52, hf⟩ := zz_o hf
        refine cV (pc := 52) (rest := []) (st1 := [.int v52]) (q0 := 0) CF (tX6_toldBy h52) hK hP hD hS hA hN hW mL_X6_95 kX6_toldBy nX6_toldBy rfl rfl rfl rfl ⟨by decide, by decide⟩ hl.1 (Nat.le_of_ble_eq_true rfl) ⟨Nat.le_refl _, Nat.le_refl _⟩ rfl dX6_day_52 (fun H locs hP hD hS => ?_)
        refine lv_aload_n (pc := 55) hx hb dX6_day_55 rfl (lv_at hl 0 rfl) ?_
        refine gm_0_tunnels (pc := 56) CF hK hP mF_X6_16 dX6_day_56 ?_
        refine lv_iconst (pc := 59) (v := 3) hx hb dX6_day_59 (by decide) ?_
        refine lv_iload_n (pc := 60) hx hb dX6_day_60 rfl (lv_at hl 2 rfl) ?_
        refine lv_imul (pc := 61) hx hb dX6_day_61 ?_
        obtain ⟨c62, hf⟩ := zz_k hf
        refine lm_tunnels (pc := 62) hx hb hK hP c62 dX6_day_62 ?_
        refine lv_iconst (pc := 63) (v := (-1)) hx hb dX6_day_63 (by decide) ?_
        refine lv_ixor (pc := 64) hx hb dX6_day_64 ?_
        refine lv_iand (pc := 65) hx hb dX6_day_65 ?_
        refine lv_topi (fun y66 e66 => ?_)
        have hf := zz_l e66 hf
        refine lv_istore_n (pc := 66) (lv' := [(3, .int y66), (0, .ref (ad 0)), (1, .int x1), (2, .int x2)]) hx hb dX6_day_66 rfl hl (by decide) rfl (fun ls hl => ?_)
        refine lv_aload_n (pc := 67) hx hb dX6_day_67 rfl (lv_at hl 1 rfl) ?_
        refine gm_0_tunnels (pc := 68) CF hK hP mF_X6_16 dX6_day_68 ?_
        refine lv_iconst (pc := 71) (v := 3) hx hb dX6_day_71 (by decide) ?_
        refine lv_iload_n (pc := 72) hx hb dX6_day_72 rfl (lv_at hl 3 rfl) ?_
        refine lv_imul (pc := 73) hx hb dX6_day_73 ?_
        refine lv_dup2_11 (pc := 74) hx hb dX6_day_74 rfl rfl ?_
        obtain ⟨c75, hf⟩ := zz_k hf
        refine lm_tunnels (pc := 75) hx hb hK hP c75 dX6_day_75 ?_
        refine lv_iload_n (pc := 76) hx hb dX6_day_76 rfl (lv_at hl 0 rfl) ?_
        refine lv_ior (pc := 77) hx hb dX6_day_77 ?_
        obtain ⟨c78, hf⟩ := zz_k hf
        refine am_tunnels (pc := 78) hx hb hK hP hD hS c78 dX6_day_78 (fun H locs hP hD hS => ?_)
        obtain ⟨σ78, hP, hD, hf⟩ := zz_g (w := wM ad cA) hP hD hf
        refine lv_aload_n (pc := 79) hx hb dX6_day_79 rfl (lv_at hl 1 rfl) ?_
        refine gm_0_tunnels (pc := 80) CF hK hP mF_X6_16 dX6_day_80 ?_
        refine lv_iconst (pc := 83) (v := 3) hx hb dX6_day_83 (by decide) ?_
        refine lv_iload_n (pc := 84) hx hb dX6_day_84 rfl (lv_at hl 3 rfl) ?_
        refine lv_imul (pc := 85) hx hb dX6_day_85 ?_
        refine lv_iconst (pc := 86) (v := 1) hx hb dX6_day_86 (by decide) ?_
        refine lv_iadd (pc := 87) hx hb dX6_day_87 ?_
        refine lv_iload_n (pc := 88) hx hb dX6_day_88 rfl (lv_at hl 0 rfl) ?_
        obtain ⟨c89, hf⟩ := zz_k hf
        refine am_tunnels (pc := 89) hx hb hK hP hD hS c89 dX6_day_89 (fun H locs hP hD hS => ?_)
        obtain ⟨σ89, hP, hD, hf⟩ := zz_g (w := wM ad cA) hP hD hf
        refine lv_iload_n (pc := 90) hx hb dX6_day_90 rfl (lv_at hl 2 rfl) ?_
        refine lv_iload_n (pc := 91) hx hb dX6_day_91 rfl (lv_at hl 0 rfl) ?_
        obtain ⟨v92, h92, hf⟩ := zz_o hf
        refine cSt (pc := 92) (rest := [.int x1]) (st1 := [.int v92, .int x1]) CF (tX6_ones h92) hK hP hD hS hA hN hW mL_X6_134 kX6_ones nX6_ones rfl rfl ⟨by decide, by decide⟩ hl.1 (Nat.le_of_ble_eq_true rfl) ⟨Nat.le_refl _, Nat.le_refl _⟩ rfl dX6_day_92 (fun H locs hP hD hS => ?_)
        refine lv_iadd (pc := 95) hx hb dX6_day_95 ?_
        refine lv_istore_n (pc := 96) (lv' := [(1, .int (x1 + v92)), (3, .int y66), (0, .ref (ad 0)), (2, .int x2)]) hx hb dX6_day_96 rfl hl (by decide) rfl (fun ls hl => ?_)
        refine lv_iinc (pc := 97) (v := (x2 + 1)) (lv' := [(2, .int (x2 + 1)), (1, .int (x1 + v92)), (3, .int y66), (0, .ref (ad 0))]) hx hb dX6_day_97 hl (k := 3) rfl rfl (by decide) rfl (fun ls hl => ?_)
        refine lv_goto (pc := 100) (tgt := 36) hx hb dX6_day_100 (by decide) ?_
        exact ih36 σ89 (x1 + v92) (x2 + 1) _ _ _ hP hD hS (lv_sub hl [3, 1, 0] rfl) hf
  refine lv_aload_n (pc := 0) hx hb dX6_day_0 rfl (lv_at hl 0 rfl) ?_
  obtain ⟨v1, h1, hf⟩ := zz_o hf
  refine cV (pc := 1) (rest := []) (st1 := [.int v1]) (q0 := 0) CF (tX6_lacks h1) hK hP hD hS hA hN hW mL_X6_86 kX6_lacks nX6_lacks rfl rfl rfl rfl ⟨by decide, by decide⟩ hl.1 (Nat.le_of_ble_eq_true rfl) ⟨Nat.le_refl _, Nat.le_refl _⟩ rfl dX6_day_1 (fun H locs hP hD hS => ?_)
  refine lv_if_eq (pc := 4) (tgt := 10) hx hb dX6_day_4 (by decide) (fun c4 => ?_) (fun c4 => ?_)
  · have hf := zz_t c4 hf
    refine lv_aload_n (pc := 10) hx hb dX6_day_10 rfl (lv_at hl 0 rfl) ?_
    refine gm_0_days (pc := 11) CF hK hP mF_X6_74 dX6_day_11 ?_
    refine lv_bipush (pc := 14) (v := 99) hx hb dX6_day_14 (by decide) ?_
    refine lv_icmp_ne (pc := 16) (tgt := 22) hx hb dX6_day_16 (by decide) (fun c16 => ?_) (fun c16 => ?_)
    · have hf := zz_f c16 hf
      refine lv_aload_n (pc := 22) hx hb dX6_day_22 rfl (lv_at hl 0 rfl) ?_
      refine lv_dup (pc := 23) hx hb dX6_day_23 rfl ?_
      refine gm_0_days (pc := 24) CF hK hP mF_X6_74 dX6_day_24 ?_
      refine lv_iconst (pc := 27) (v := 1) hx hb dX6_day_27 (by decide) ?_
      refine lv_iadd (pc := 28) hx hb dX6_day_28 ?_
      refine pm_0_days (pc := 29) CF hK hP hD hS mF_X6_74 dX6_day_29 (fun H locs hP hD hS => ?_)
      obtain ⟨σ29, hP, hD, hf⟩ := zz_g (w := wM ad cA) hP hD hf
      refine lv_iconst (pc := 32) (v := 0) hx hb dX6_day_32 (by decide) ?_
      refine lv_istore_n (pc := 33) (lv' := [(1, .int 0), (0, .ref (ad 0))]) hx hb dX6_day_33 rfl hl (by decide) rfl (fun ls hl => ?_)
      refine lv_iconst (pc := 34) (v := 0) hx hb dX6_day_34 (by decide) ?_
      refine lv_istore_n (pc := 35) (lv' := [(2, .int 0), (1, .int 0), (0, .ref (ad 0))]) hx hb dX6_day_35 rfl hl (by decide) rfl (fun ls hl => ?_)
      exact L36 N σ29 0 0 _ _ _ hP hD hS (lv_sub hl [2, 1, 0] rfl) hf
    · have hf := zz_t c16 hf
      refine lv_bipush (pc := 19) (v := (-104)) hx hb dX6_day_19 (by decide) ?_
      exact retIw (wf := wM ad cA) hx hb hr hlk hf hP hD hS dX6_day_21
  · have hf := zz_f c4 hf
    refine lv_bipush (pc := 7) (v := (-103)) hx hb dX6_day_7 (by decide) ?_
    exact retIw (wf := wM ad cA) hx hb hr hlk hf hP hD hS dX6_day_9
