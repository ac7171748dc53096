set_option maxHeartbeats 4000000 in
set_option maxRecDepth 100000 in
theorem tX6_in {l : Launch} {kv : Nat × Nat} {D : va_G} {N : Nat} {tys : List (ClassId × FieldType)} {ws : va_W} {x0 : Int64} {x2 : Int64} {x4 : Int64} {rF : Int32} (hf : fX6_in N x0 x2 x4 = some rF) : Ct l kv D tys yX6_in cX6_in 6 (some .boolean) 0 0 ws ws [.long x0, .long x2, .long x4] (some (.int rF)) := by
  refine Ct.ofW (by decide) (Nat.le_of_ble_eq_true rfl) ?_
  intro p e s m below meth c A args CF hr hlk hA hP hK hD hN hW hS ls hl
  have hx := CF.1
  have hb := CF.2.1
  have hml := CF.2.2.1
  have hown := CF.2.2.2.1
  have hw : ∀ w ∈ wsA, w.before args s = true := fun w h => CF.2.2.2.2 w (List.mem_cons_of_mem _ h)
  have hl : lv_has ls 6 [(0, .long x0), (2, .long x2), (4, .long x4)] := hl
  unfold fX6_in at hf
  refine lv_lload_n (pc := 0) hx hb dX6_in_0 rfl (lv_at hl 0 rfl) ?_
  refine lv_lload_n (pc := 1) hx hb dX6_in_1 rfl (lv_at hl 1 rfl) ?_
  refine W.lcmp (pc := 2) hx hb dX6_in_2 ?_
  refine lv_if_lt (pc := 3) (tgt := 17) hx hb dX6_in_3 (by decide) (fun c3 => ?_) (fun c3 => ?_)
  · have hf := zz_t c3 hf
    refine lv_iconst (pc := 17) (v := 0) hx hb dX6_in_17 (by decide) ?_
    exact retZ hx hb hr hlk rfl hf hP hD hS dX6_in_18
  · have hf := zz_f c3 hf
    refine lv_lload_n (pc := 6) hx hb dX6_in_6 rfl (lv_at hl 0 rfl) ?_
    refine lv_lload (pc := 7) hx hb dX6_in_7 (lv_at hl 2 rfl) ?_
    refine W.lcmp (pc := 9) hx hb dX6_in_9 ?_
    refine lv_if_gt (pc := 10) (tgt := 17) hx hb dX6_in_10 (by decide) (fun c10 => ?_) (fun c10 => ?_)
    · have hf := zz_t c10 hf
      refine lv_iconst (pc := 17) (v := 0) hx hb dX6_in_17 (by decide) ?_
      exact retZ hx hb hr hlk rfl hf hP hD hS dX6_in_18
    · have hf := zz_f c10 hf
      refine lv_iconst (pc := 13) (v := 1) hx hb dX6_in_13 (by decide) ?_
      refine lv_goto (pc := 14) (tgt := 18) hx hb dX6_in_14 (by decide) ?_
      exact retZ hx hb hr hlk rfl hf hP hD hS dX6_in_18
set_option maxHeartbeats 4000000 in
set_option maxRecDepth 100000 in
theorem tX6_copy_2_6 {l : Launch} {kv : Nat × Nat} {D : va_G} {N : Nat} {ad : Nat → Nat} {cA : ClassId} {σ : SM} {σF : SM} (hf : fX6_copy_2_6 N σ = some σF) : Ct l kv D [(cA, .int)] yX6_copy cX6_copy 3 none 0 0 (wM ad cA σ) (wM ad cA σF) [.ref (ad 2), .ref (ad 6)] (none) := by
  refine Ct.ofW (by decide) (Nat.le_of_ble_eq_true rfl) ?_
  intro p e s m below meth c A args CF hr hlk hA hP hK hD hN hW hS ls hl
  have hx := CF.1
  have hb := CF.2.1
  have hml := CF.2.2.1
  have hown := CF.2.2.2.1
  have hw : ∀ w ∈ wsA, w.before args s = true := fun w h => CF.2.2.2.2 w (List.mem_cons_of_mem _ h)
  have hl : lv_has ls 3 [(0, .ref (ad 2)), (1, .ref (ad 6))] := hl
  unfold fX6_copy_2_6 at hf
  have L2 : ∀ (n2 : Nat) (σ : SM) (x2 : Int32) (H : Heap) (locs : List Loc) (ls : Array Slot), va_P D vwCl (wM ad cA σ) H → va_D A (wM ad cA σ) → va_S A s.heap H locs → lv_has ls 3 [(0, .ref (ad 2)), (1, .ref (ad 6)), (2, .int x2)] → fX6_copy_2_6_2 N n2 σ x2 = some σF → G p l e 0 0 s m args below meth c D A (wM ad cA σF) (none) H locs (F0 m 2 ls []) := by
    intro n2
    induction n2 with
    | zero => intro σ x2 H locs ls hP hD hS hl hf; exact absurd hf (by simp [fX6_copy_2_6_2])
    | succ n2 ih2 =>
      intro σ x2 H locs ls hP hD hS hl hf
      rw [fX6_copy_2_6_2] at hf
      refine lv_iload_n (pc := 2) hx hb dX6_copy_2 rfl (lv_at hl 2 rfl) ?_
      refine lv_aload_n (pc := 3) hx hb dX6_copy_3 rfl (lv_at hl 0 rfl) ?_
      refine nm_rows (pc := 4) hx hb hK hP dX6_copy_4 ?_
      refine lv_icmp_ge (pc := 5) (tgt := 20) hx hb dX6_copy_5 (by decide) (fun c5 => ?_) (fun c5 => ?_)
      · have hf := zz_t c5 hf
        exact retVw (wf := wM ad cA) hx hb hr hlk hf hP hD hS dX6_copy_20
      · have hf := zz_f c5 hf
        refine lv_aload_n (pc := 8) hx hb dX6_copy_8 rfl (lv_at hl 1 rfl) ?_
        refine lv_iload_n (pc := 9) hx hb dX6_copy_9 rfl (lv_at hl 2 rfl) ?_
        refine lv_aload_n (pc := 10) hx hb dX6_copy_10 rfl (lv_at hl 0 rfl) ?_
        refine lv_iload_n (pc := 11) hx hb dX6_copy_11 rfl (lv_at hl 2 rfl) ?_
        obtain ⟨c12, hf⟩ := zz_k hf
        refine lm_rows (pc := 12) hx hb hK hP c12 dX6_copy_12 ?_
        obtain ⟨c13, hf⟩ := zz_k hf
        refine am_keptRows (pc := 13) hx hb hK hP hD hS c13 dX6_copy_13 (fun H locs hP hD hS => ?_)
        obtain ⟨σ13, hP, hD, hf⟩ := zz_g (w := wM ad cA) hP hD hf
        refine lv_iinc (pc := 14) (v := (x2 + 1)) (lv' := [(2, .int (x2 + 1)), (0, .ref (ad 2)), (1, .ref (ad 6))]) hx hb dX6_copy_14 hl (k := 2) rfl rfl (by decide) rfl (fun ls hl => ?_)
        refine lv_goto (pc := 17) (tgt := 2) hx hb dX6_copy_17 (by decide) ?_
        exact ih2 σ13 (x2 + 1) _ _ _ hP hD hS (lv_sub hl [1, 2, 0] rfl) hf
  refine lv_iconst (pc := 0) (v := 0) hx hb dX6_copy_0 (by decide) ?_
  refine lv_istore_n (pc := 1) (lv' := [(2, .int 0), (0, .ref (ad 2)), (1, .ref (ad 6))]) hx hb dX6_copy_1 rfl hl (by decide) rfl (fun ls hl => ?_)
  exact L2 N σ 0 _ _ _ hP hD hS (lv_sub hl [1, 2, 0] rfl) hf
set_option maxHeartbeats 4000000 in
set_option maxRecDepth 100000 in
theorem tX6_copy_3_7 {l : Launch} {kv : Nat × Nat} {D : va_G} {N : Nat} {ad : Nat → Nat} {cA : ClassId} {σ : SM} {σF : SM} (hf : fX6_copy_3_7 N σ = some σF) : Ct l kv D [(cA, .int)] yX6_copy cX6_copy 3 none 0 0 (wM ad cA σ) (wM ad cA σF) [.ref (ad 3), .ref (ad 7)] (none) := by
  refine Ct.ofW (by decide) (Nat.le_of_ble_eq_true rfl) ?_
  intro p e s m below meth c A args CF hr hlk hA hP hK hD hN hW hS ls hl
  have hx := CF.1
  have hb := CF.2.1
  have hml := CF.2.2.1
  have hown := CF.2.2.2.1
  have hw : ∀ w ∈ wsA, w.before args s = true := fun w h => CF.2.2.2.2 w (List.mem_cons_of_mem _ h)
  have hl : lv_has ls 3 [(0, .ref (ad 3)), (1, .ref (ad 7))] := hl
  unfold fX6_copy_3_7 at hf
  have L2 : ∀ (n2 : Nat) (σ : SM) (x2 : Int32) (H : Heap) (locs : List Loc) (ls : Array Slot), va_P D vwCl (wM ad cA σ) H → va_D A (wM ad cA σ) → va_S A s.heap H locs → lv_has ls 3 [(0, .ref (ad 3)), (1, .ref (ad 7)), (2, .int x2)] → fX6_copy_3_7_2 N n2 σ x2 = some σF → G p l e 0 0 s m args below meth c D A (wM ad cA σF) (none) H locs (F0 m 2 ls []) := by
    intro n2
    induction n2 with
    | zero => intro σ x2 H locs ls hP hD hS hl hf; exact absurd hf (by simp [fX6_copy_3_7_2])
    | succ n2 ih2 =>
      intro σ x2 H locs ls hP hD hS hl hf
      rw [fX6_copy_3_7_2] at hf
      refine lv_iload_n (pc := 2) hx hb dX6_copy_2 rfl (lv_at hl 2 rfl) ?_
      refine lv_aload_n (pc := 3) hx hb dX6_copy_3 rfl (lv_at hl 0 rfl) ?_
      refine nm_tunnels (pc := 4) hx hb hK hP dX6_copy_4 ?_
      refine lv_icmp_ge (pc := 5) (tgt := 20) hx hb dX6_copy_5 (by decide) (fun c5 => ?_) (fun c5 => ?_)
      · have hf := zz_t c5 hf
        exact retVw (wf := wM ad cA) hx hb hr hlk hf hP hD hS dX6_copy_20
      · have hf := zz_f c5 hf
        refine lv_aload_n (pc := 8) hx hb dX6_copy_8 rfl (lv_at hl 1 rfl) ?_
        refine lv_iload_n (pc := 9) hx hb dX6_copy_9 rfl (lv_at hl 2 rfl) ?_
        refine lv_aload_n (pc := 10) hx hb dX6_copy_10 rfl (lv_at hl 0 rfl) ?_
        refine lv_iload_n (pc := 11) hx hb dX6_copy_11 rfl (lv_at hl 2 rfl) ?_
        obtain ⟨c12, hf⟩ := zz_k hf
        refine lm_tunnels (pc := 12) hx hb hK hP c12 dX6_copy_12 ?_
        obtain ⟨c13, hf⟩ := zz_k hf
        refine am_keptTunnels (pc := 13) hx hb hK hP hD hS c13 dX6_copy_13 (fun H locs hP hD hS => ?_)
        obtain ⟨σ13, hP, hD, hf⟩ := zz_g (w := wM ad cA) hP hD hf
        refine lv_iinc (pc := 14) (v := (x2 + 1)) (lv' := [(2, .int (x2 + 1)), (0, .ref (ad 3)), (1, .ref (ad 7))]) hx hb dX6_copy_14 hl (k := 2) rfl rfl (by decide) rfl (fun ls hl => ?_)
        refine lv_goto (pc := 17) (tgt := 2) hx hb dX6_copy_17 (by decide) ?_
        exact ih2 σ13 (x2 + 1) _ _ _ hP hD hS (lv_sub hl [1, 2, 0] rfl) hf
  refine lv_iconst (pc := 0) (v := 0) hx hb dX6_copy_0 (by decide) ?_
  refine lv_istore_n (pc := 1) (lv' := [(2, .int 0), (0, .ref (ad 3)), (1, .ref (ad 7))]) hx hb dX6_copy_1 rfl hl (by decide) rfl (fun ls hl => ?_)
  exact L2 N σ 0 _ _ _ hP hD hS (lv_sub hl [1, 2, 0] rfl) hf
set_option maxHeartbeats 4000000 in
set_option maxRecDepth 100000 in
theorem tX6_copy_4_8 {l : Launch} {kv : Nat × Nat} {D : va_G} {N : Nat} {ad : Nat → Nat} {cA : ClassId} {σ : SM} {σF : SM} (hf : fX6_copy_4_8 N σ = some σF) : Ct l kv D [(cA, .int)] yX6_copy cX6_copy 3 none 0 0 (wM ad cA σ) (wM ad cA σF) [.ref (ad 4), .ref (ad 8)] (none) := by
  refine Ct.ofW (by decide) (Nat.le_of_ble_eq_true rfl) ?_
  intro p e s m below meth c A args CF hr hlk hA hP hK hD hN hW hS ls hl
  have hx := CF.1
  have hb := CF.2.1
  have hml := CF.2.2.1
  have hown := CF.2.2.2.1
  have hw : ∀ w ∈ wsA, w.before args s = true := fun w h => CF.2.2.2.2 w (List.mem_cons_of_mem _ h)
  have hl : lv_has ls 3 [(0, .ref (ad 4)), (1, .ref (ad 8))] := hl
  unfold fX6_copy_4_8 at hf
  have L2 : ∀ (n2 : Nat) (σ : SM) (x2 : Int32) (H : Heap) (locs : List Loc) (ls : Array Slot), va_P D vwCl (wM ad cA σ) H → va_D A (wM ad cA σ) → va_S A s.heap H locs → lv_has ls 3 [(0, .ref (ad 4)), (1, .ref (ad 8)), (2, .int x2)] → fX6_copy_4_8_2 N n2 σ x2 = some σF → G p l e 0 0 s m args below meth c D A (wM ad cA σF) (none) H locs (F0 m 2 ls []) := by
    intro n2
    induction n2 with
    | zero => intro σ x2 H locs ls hP hD hS hl hf; exact absurd hf (by simp [fX6_copy_4_8_2])
    | succ n2 ih2 =>
      intro σ x2 H locs ls hP hD hS hl hf
      rw [fX6_copy_4_8_2] at hf
      refine lv_iload_n (pc := 2) hx hb dX6_copy_2 rfl (lv_at hl 2 rfl) ?_
      refine lv_aload_n (pc := 3) hx hb dX6_copy_3 rfl (lv_at hl 0 rfl) ?_
      refine nm_askeds (pc := 4) hx hb hK hP dX6_copy_4 ?_
      refine lv_icmp_ge (pc := 5) (tgt := 20) hx hb dX6_copy_5 (by decide) (fun c5 => ?_) (fun c5 => ?_)
      · have hf := zz_t c5 hf
        exact retVw (wf := wM ad cA) hx hb hr hlk hf hP hD hS dX6_copy_20
      · have hf := zz_f c5 hf
        refine lv_aload_n (pc := 8) hx hb dX6_copy_8 rfl (lv_at hl 1 rfl) ?_
        refine lv_iload_n (pc := 9) hx hb dX6_copy_9 rfl (lv_at hl 2 rfl) ?_
        refine lv_aload_n (pc := 10) hx hb dX6_copy_10 rfl (lv_at hl 0 rfl) ?_
        refine lv_iload_n (pc := 11) hx hb dX6_copy_11 rfl (lv_at hl 2 rfl) ?_
        obtain ⟨c12, hf⟩ := zz_k hf
        refine lm_askeds (pc := 12) hx hb hK hP c12 dX6_copy_12 ?_
        obtain ⟨c13, hf⟩ := zz_k hf
        refine am_keptAskeds (pc := 13) hx hb hK hP hD hS c13 dX6_copy_13 (fun H locs hP hD hS => ?_)
        obtain ⟨σ13, hP, hD, hf⟩ := zz_g (w := wM ad cA) hP hD hf
        refine lv_iinc (pc := 14) (v := (x2 + 1)) (lv' := [(2, .int (x2 + 1)), (0, .ref (ad 4)), (1, .ref (ad 8))]) hx hb dX6_copy_14 hl (k := 2) rfl rfl (by decide) rfl (fun ls hl => ?_)
        refine lv_goto (pc := 17) (tgt := 2) hx hb dX6_copy_17 (by decide) ?_
        exact ih2 σ13 (x2 + 1) _ _ _ hP hD hS (lv_sub hl [1, 2, 0] rfl) hf
  refine lv_iconst (pc := 0) (v := 0) hx hb dX6_copy_0 (by decide) ?_
  refine lv_istore_n (pc := 1) (lv' := [(2, .int 0), (0, .ref (ad 4)), (1, .ref (ad 8))]) hx hb dX6_copy_1 rfl hl (by decide) rfl (fun ls hl => ?_)
  exact L2 N σ 0 _ _ _ hP hD hS (lv_sub hl [1, 2, 0] rfl) hf
set_option maxHeartbeats 4000000 in
set_option maxRecDepth 100000 in
theorem tX6_copy_6_2 {l : Launch} {kv : Nat × Nat} {D : va_G} {N : Nat} {ad : Nat → Nat} {cA : ClassId} {σ : SM} {σF : SM} (hf : fX6_copy_6_2 N σ = some σF) : Ct l kv D [(cA, .int)] yX6_copy cX6_copy 3 none 0 0 (wM ad cA σ) (wM ad cA σF) [.ref (ad 6), .ref (ad 2)] (none) := by
  refine Ct.ofW (by decide) (Nat.le_of_ble_eq_true rfl) ?_
  intro p e s m below meth c A args CF hr hlk hA hP hK hD hN hW hS ls hl
  have hx := CF.1
  have hb := CF.2.1
  have hml := CF.2.2.1
  have hown := CF.2.2.2.1
  have hw : ∀ w ∈ wsA, w.before args s = true := fun w h => CF.2.2.2.2 w (List.mem_cons_of_mem _ h)
  have hl : lv_has ls 3 [(0, .ref (ad 6)), (1, .ref (ad 2))] := hl
  unfold fX6_copy_6_2 at hf
  have L2 : ∀ (n2 : Nat) (σ : SM) (x2 : Int32) (H : Heap) (locs : List Loc) (ls : Array Slot), va_P D vwCl (wM ad cA σ) H → va_D A (wM ad cA σ) → va_S A s.heap H locs → lv_has ls 3 [(0, .ref (ad 6)), (1, .ref (ad 2)), (2, .int x2)] → fX6_copy_6_2_2 N n2 σ x2 = some σF → G p l e 0 0 s m args below meth c D A (wM ad cA σF) (none) H locs (F0 m 2 ls []) := by
    intro n2
    induction n2 with
    | zero => intro σ x2 H locs ls hP hD hS hl hf; exact absurd hf (by simp [fX6_copy_6_2_2])
    | succ n2 ih2 =>
      intro σ x2 H locs ls hP hD hS hl hf
      rw [fX6_copy_6_2_2] at hf
      refine lv_iload_n (pc := 2) hx hb dX6_copy_2 rfl (lv_at hl 2 rfl) ?_
      refine lv_aload_n (pc := 3) hx hb dX6_copy_3 rfl (lv_at hl 0 rfl) ?_
      refine nm_keptRows (pc := 4) hx hb hK hP dX6_copy_4 ?_
      refine lv_icmp_ge (pc := 5) (tgt := 20) hx hb dX6_copy_5 (by decide) (fun c5 => ?_) (fun c5 => ?_)
      · have hf := zz_t c5 hf
        exact retVw (wf := wM ad cA) hx hb hr hlk hf hP hD hS dX6_copy_20
      · have hf := zz_f c5 hf
        refine lv_aload_n (pc := 8) hx hb dX6_copy_8 rfl (lv_at hl 1 rfl) ?_
        refine lv_iload_n (pc := 9) hx hb dX6_copy_9 rfl (lv_at hl 2 rfl) ?_
        refine lv_aload_n (pc := 10) hx hb dX6_copy_10 rfl (lv_at hl 0 rfl) ?_
        refine lv_iload_n (pc := 11) hx hb dX6_copy_11 rfl (lv_at hl 2 rfl) ?_
        obtain ⟨c12, hf⟩ := zz_k hf
        refine lm_keptRows (pc := 12) hx hb hK hP c12 dX6_copy_12 ?_
        obtain ⟨c13, hf⟩ := zz_k hf
        refine am_rows (pc := 13) hx hb hK hP hD hS c13 dX6_copy_13 (fun H locs hP hD hS => ?_)
        obtain ⟨σ13, hP, hD, hf⟩ := zz_g (w := wM ad cA) hP hD hf
        refine lv_iinc (pc := 14) (v := (x2 + 1)) (lv' := [(2, .int (x2 + 1)), (0, .ref (ad 6)), (1, .ref (ad 2))]) hx hb dX6_copy_14 hl (k := 2) rfl rfl (by decide) rfl (fun ls hl => ?_)
        refine lv_goto (pc := 17) (tgt := 2) hx hb dX6_copy_17 (by decide) ?_
        exact ih2 σ13 (x2 + 1) _ _ _ hP hD hS (lv_sub hl [1, 2, 0] rfl) hf
  refine lv_iconst (pc := 0) (v := 0) hx hb dX6_copy_0 (by decide) ?_
  refine lv_istore_n (pc := 1) (lv' := [(2, .int 0), (0, .ref (ad 6)), (1, .ref (ad 2))]) hx hb dX6_copy_1 rfl hl (by decide) rfl (fun ls hl => ?_)
  exact L2 N σ 0 _ _ _ hP hD hS (lv_sub hl [1, 2, 0] rfl) hf
set_option maxHeartbeats 4000000 in
set_option maxRecDepth 100000 in
theorem tX6_copy_7_3 {l : Launch} {kv : Nat × Nat} {D : va_G} {N : Nat} {ad : Nat → Nat} {cA : ClassId} {σ : SM} {σF : SM} (hf : fX6_copy_7_3 N σ = some σF) : Ct l kv D [(cA, .int)] yX6_copy cX6_copy 3 none 0 0 (wM ad cA σ) (wM ad cA σF) [.ref (ad 7), .ref (ad 3)] (none) := by
  refine Ct.ofW (by decide) (Nat.le_of_ble_eq_true rfl) ?_
  intro p e s m below meth c A args CF hr hlk hA hP hK hD hN hW hS ls hl
  have hx := CF.1
  have hb := CF.2.1
  have hml := CF.2.2.1
  have hown := CF.2.2.2.1
  have hw : ∀ w ∈ wsA, w.before args s = true := fun w h => CF.2.2.2.2 w (List.mem_cons_of_mem _ h)
  have hl : lv_has ls 3 [(0, .ref (ad 7)), (1, .ref (ad 3))] := hl
  unfold fX6_copy_7_3 at hf
  have L2 : ∀ (n2 : Nat) (σ : SM) (x2 : Int32) (H : Heap) (locs : List Loc) (ls : Array Slot), va_P D vwCl (wM ad cA σ) H → va_D A (wM ad cA σ) → va_S A s.heap H locs → lv_has ls 3 [(0, .ref (ad 7)), (1, .ref (ad 3)), (2, .int x2)] → fX6_copy_7_3_2 N n2 σ x2 = some σF → G p l e 0 0 s m args below meth c D A (wM ad cA σF) (none) H locs (F0 m 2 ls []) := by
    intro n2
    induction n2 with
    | zero => intro σ x2 H locs ls hP hD hS hl hf; exact absurd hf (by simp [fX6_copy_7_3_2])
    | succ n2 ih2 =>
      intro σ x2 H locs ls hP hD hS hl hf
      rw [fX6_copy_7_3_2] at hf
      refine lv_iload_n (pc := 2) hx hb dX6_copy_2 rfl (lv_at hl 2 rfl) ?_
      refine lv_aload_n (pc := 3) hx hb dX6_copy_3 rfl (lv_at hl 0 rfl) ?_
      refine nm_keptTunnels (pc := 4) hx hb hK hP dX6_copy_4 ?_
      refine lv_icmp_ge (pc := 5) (tgt := 20) hx hb dX6_copy_5 (by decide) (fun c5 => ?_) (fun c5 => ?_)
      · have hf := zz_t c5 hf
        exact retVw (wf := wM ad cA) hx hb hr hlk hf hP hD hS dX6_copy_20
      · have hf := zz_f c5 hf
        refine lv_aload_n (pc := 8) hx hb dX6_copy_8 rfl (lv_at hl 1 rfl) ?_
        refine lv_iload_n (pc := 9) hx hb dX6_copy_9 rfl (lv_at hl 2 rfl) ?_
        refine lv_aload_n (pc := 10) hx hb dX6_copy_10 rfl (lv_at hl 0 rfl) ?_
        refine lv_iload_n (pc := 11) hx hb dX6_copy_11 rfl (lv_at hl 2 rfl) ?_
        obtain ⟨c12, hf⟩ := zz_k hf
        refine lm_keptTunnels (pc := 12) hx hb hK hP c12 dX6_copy_12 ?_
        obtain ⟨c13, hf⟩ := zz_k hf
        refine am_tunnels (pc := 13) hx hb hK hP hD hS c13 dX6_copy_13 (fun H locs hP hD hS => ?_)
        obtain ⟨σ13, hP, hD, hf⟩ := zz_g (w := wM ad cA) hP hD hf
        refine lv_iinc (pc := 14) (v := (x2 + 1)) (lv' := [(2, .int (x2 + 1)), (0, .ref (ad 7)), (1, .ref (ad 3))]) hx hb dX6_copy_14 hl (k := 2) rfl rfl (by decide) rfl (fun ls hl => ?_)
        refine lv_goto (pc := 17) (tgt := 2) hx hb dX6_copy_17 (by decide) ?_
        exact ih2 σ13 (x2 + 1) _ _ _ hP hD hS (lv_sub hl [1, 2, 0] rfl) hf
  refine lv_iconst (pc := 0) (v := 0) hx hb dX6_copy_0 (by decide) ?_
  refine lv_istore_n (pc := 1) (lv' := [(2, .int 0), (0, .ref (ad 7)), (1, .ref (ad 3))]) hx hb dX6_copy_1 rfl hl (by decide) rfl (fun ls hl => ?_)
  exact L2 N σ 0 _ _ _ hP hD hS (lv_sub hl [1, 2, 0] rfl) hf
set_option maxHeartbeats 4000000 in
set_option maxRecDepth 100000 in
theorem tX6_copy_8_4 {l : Launch} {kv : Nat × Nat} {D : va_G} {N : Nat} {ad : Nat → Nat} {cA : ClassId} {σ : SM} {σF : SM} (hf : fX6_copy_8_4 N σ = some σF) : Ct l kv D [(cA, .int)] yX6_copy cX6_copy 3 none 0 0 (wM ad cA σ) (wM ad cA σF) [.ref (ad 8), .ref (ad 4)] (none) := by
  refine Ct.ofW (by decide) (Nat.le_of_ble_eq_true rfl) ?_
  intro p e s m below meth c A args CF hr hlk hA hP hK hD hN hW hS ls hl
  have hx := CF.1
  have hb := CF.2.1
  have hml := CF.2.2.1
  have hown := CF.2.2.2.1
  have hw : ∀ w ∈ wsA, w.before args s = true := fun w h => CF.2.2.2.2 w (List.mem_cons_of_mem _ h)
  have hl : lv_has ls 3 [(0, .ref (ad 8)), (1, .ref (ad 4))] := hl
  unfold fX6_copy_8_4 at hf
  have L2 : ∀ (n2 : Nat) (σ : SM) (x2 : Int32) (H : Heap) (locs : List Loc) (ls : Array Slot), va_P D vwCl (wM ad cA σ) H → va_D A (wM ad cA σ) → va_S A s.heap H locs → lv_has ls 3 [(0, .ref (ad 8)), (1, .ref (ad 4)), (2, .int x2)] → fX6_copy_8_4_2 N n2 σ x2 = some σF → G p l e 0 0 s m args below meth c D A (wM ad cA σF) (none) H locs (F0 m 2 ls []) := by
    intro n2
    induction n2 with
    | zero => intro σ x2 H locs ls hP hD hS hl hf; exact absurd hf (by simp [fX6_copy_8_4_2])
    | succ n2 ih2 =>
      intro σ x2 H locs ls hP hD hS hl hf
      rw [fX6_copy_8_4_2] at hf
      refine lv_iload_n (pc := 2) hx hb dX6_copy_2 rfl (lv_at hl 2 rfl) ?_
      refine lv_aload_n (pc := 3) hx hb dX6_copy_3 rfl (lv_at hl 0 rfl) ?_
      refine nm_keptAskeds (pc := 4) hx hb hK hP dX6_copy_4 ?_
      refine lv_icmp_ge (pc := 5) (tgt := 20) hx hb dX6_copy_5 (by decide) (fun c5 => ?_) (fun c5 => ?_)
      · have hf := zz_t c5 hf
        exact retVw (wf := wM ad cA) hx hb hr hlk hf hP hD hS dX6_copy_20
      · have hf := zz_f c5 hf
        refine lv_aload_n (pc := 8) hx hb dX6_copy_8 rfl (lv_at hl 1 rfl) ?_
        refine lv_iload_n (pc := 9) hx hb dX6_copy_9 rfl (lv_at hl 2 rfl) ?_
        refine lv_aload_n (pc := 10) hx hb dX6_copy_10 rfl (lv_at hl 0 rfl) ?_
        refine lv_iload_n (pc := 11) hx hb dX6_copy_11 rfl (lv_at hl 2 rfl) ?_
        obtain ⟨c12, hf⟩ := zz_k hf
        refine lm_keptAskeds (pc := 12) hx hb hK hP c12 dX6_copy_12 ?_
        obtain ⟨c13, hf⟩ := zz_k hf
        refine am_askeds (pc := 13) hx hb hK hP hD hS c13 dX6_copy_13 (fun H locs hP hD hS => ?_)
        obtain ⟨σ13, hP, hD, hf⟩ := zz_g (w := wM ad cA) hP hD hf
        refine lv_iinc (pc := 14) (v := (x2 + 1)) (lv' := [(2, .int (x2 + 1)), (0, .ref (ad 8)), (1, .ref (ad 4))]) hx hb dX6_copy_14 hl (k := 2) rfl rfl (by decide) rfl (fun ls hl => ?_)
        refine lv_goto (pc := 17) (tgt := 2) hx hb dX6_copy_17 (by decide) ?_
        exact ih2 σ13 (x2 + 1) _ _ _ hP hD hS (lv_sub hl [1, 2, 0] rfl) hf
  refine lv_iconst (pc := 0) (v := 0) hx hb dX6_copy_0 (by decide) ?_
  refine lv_istore_n (pc := 1) (lv' := [(2, .int 0), (0, .ref (ad 8)), (1, .ref (ad 4))]) hx hb dX6_copy_1 rfl hl (by decide) rfl (fun ls hl => ?_)
  exact L2 N σ 0 _ _ _ hP hD hS (lv_sub hl [1, 2, 0] rfl) hf
set_option maxHeartbeats 4000000 in
set_option maxRecDepth 100000 in
theorem tX6_ones {l : Launch} {kv : Nat × Nat} {D : va_G} {N : Nat} {tys : List (ClassId × FieldType)} {ws : va_W} {x0 : Int32} {rF : Int32} (hf : fX6_ones N x0 = some rF) : Ct l kv D tys yX6_ones cX6_ones 3 (some .int) 0 0 ws ws [.int x0] (some (.int rF)) := by
  refine Ct.ofW (by decide) (Nat.le_of_ble_eq_true rfl) ?_
  intro p e s m below meth c A args CF hr hlk hA hP hK hD hN hW hS ls hl
  have hx := CF.1
  have hb := CF.2.1
  have hml := CF.2.2.1
  have hown := CF.2.2.2.1
  have hw : ∀ w ∈ wsA, w.before args s = true := fun w h => CF.2.2.2.2 w (List.mem_cons_of_mem _ h)
  have hl : lv_has ls 3 [(0, .int x0)] := hl
  unfold fX6_ones at hf
  have L4 : ∀ (n4 : Nat) (x0 : Int32) (x1 : Int32) (x2 : Int32) (H : Heap) (locs : List Loc) (ls : Array Slot), va_P D vwCl ws H → va_D A ws → va_S A s.heap H locs → lv_has ls 3 [(0, .int x0), (1, .int x1), (2, .int x2)] → fX6_ones_4 N n4 x0 x1 x2 = some rF → G p l e 0 0 s m args below meth c D A ws (some (.int rF)) H locs (F0 m 4 ls []) := by
    intro n4
    induction n4 with
    | zero => intro x0 x1 x2 H locs ls hP hD hS hl hf; exact absurd hf (by simp [fX6_ones_4])
    | succ n4 ih4 =>
      intro x0 x1 x2 H locs ls hP hD hS hl hf
      rw [fX6_ones_4] at hf
      refine lv_iload_n (pc := 4) hx hb dX6_ones_4 rfl (lv_at hl 2 rfl) ?_
      refine lv_bipush (pc := 5) (v := 6) hx hb dX6_ones_5 (by decide) ?_
      refine lv_icmp_ge (pc := 7) (tgt := 24) hx hb dX6_ones_7 (by decide) (fun c7 => ?_) (fun c7 => ?_)
      · have hf := zz_t c7 hf
        refine lv_iload_n (pc := 24) hx hb dX6_ones_24 rfl (lv_at hl 1 rfl) ?_
        exact retI hx hb hr hlk hf hP hD hS dX6_ones_25
      · have hf := zz_f c7 hf
        refine lv_iload_n (pc := 10) hx hb dX6_ones_10 rfl (lv_at hl 1 rfl) ?_
        refine lv_iload_n (pc := 11) hx hb dX6_ones_11 rfl (lv_at hl 0 rfl) ?_
        refine lv_iload_n (pc := 12) hx hb dX6_ones_12 rfl (lv_at hl 2 rfl) ?_
        refine lv_ishr (pc := 13) hx hb dX6_ones_13 ?_
        refine lv_iconst (pc := 14) (v := 1) hx hb dX6_ones_14 (by decide) ?_
        refine lv_iand (pc := 15) hx hb dX6_ones_15 ?_
        refine lv_iadd (pc := 16) hx hb dX6_ones_16 ?_
        refine lv_istore_n (pc := 17) (lv' := [(1, .int (x1 + ((x0 >>> (x2 &&& 31)) &&& 1))), (0, .int x0), (2, .int x2)]) hx hb dX6_ones_17 rfl hl (by decide) rfl (fun ls hl => ?_)
        refine lv_iinc (pc := 18) (v := (x2 + 1)) (lv' := [(2, .int (x2 + 1)), (1, .int (x1 + ((x0 >>> (x2 &&& 31)) &&& 1))), (0, .int x0)]) hx hb dX6_ones_18 hl (k := 2) rfl rfl (by decide) rfl (fun ls hl => ?_)
        refine lv_goto (pc := 21) (tgt := 4) hx hb dX6_ones_21 (by decide) ?_
        exact ih4 x0 (x1 + ((x0 >>> (x2 &&& 31)) &&& 1)) (x2 + 1) _ _ _ hP hD hS (lv_sub hl [2, 1, 0] rfl) hf
  refine lv_iconst (pc := 0) (v := 0) hx hb dX6_ones_0 (by decide) ?_
  refine lv_istore_n (pc := 1) (lv' := [(1, .int 0), (0, .int x0)]) hx hb dX6_ones_1 rfl hl (by decide) rfl (fun ls hl => ?_)
  refine lv_iconst (pc := 2) (v := 0) hx hb dX6_ones_2 (by decide) ?_
  refine lv_istore_n (pc := 3) (lv' := [(2, .int 0), (1, .int 0), (0, .int x0)]) hx hb dX6_ones_3 rfl hl (by decide) rfl (fun ls hl => ?_)
  exact L4 N x0 0 0 _ _ _ hP hD hS (lv_sub hl [2, 1, 0] rfl) hf
set_option maxHeartbeats 4000000 in
set_option maxRecDepth 100000 in
theorem tX6_letter {l : Launch} {kv : Nat × Nat} {D : va_G} {N : Nat} {ad : Nat → Nat} {cA : ClassId} {σ : SM} {x1 : Int32} {rF : Int32} {σF : SM} (hf : fX6_letter N σ x1 = some (rF, σF)) : Ct l kv D [(cA, .int)] yX6_letter cX6_letter 2 (some .int) 1 25 (wM ad cA σ) (wM ad cA σF) [.ref (ad 0), .int x1] (some (.int rF)) := by
  refine Ct.ofW (by decide) (Nat.le_of_ble_eq_true rfl) ?_
  intro p e s m below meth c A args CF hr hlk hA hP hK hD hN hW hS ls hl
  have hx := CF.1
  have hb := CF.2.1
  have hml := CF.2.2.1
  have hown := CF.2.2.2.1
  have hw : ∀ w ∈ wsA, w.before args s = true := fun w h => CF.2.2.2.2 w (List.mem_cons_of_mem _ h)
  have hl : lv_has ls 2 [(0, .ref (ad 0)), (1, .int x1)] := hl
  unfold fX6_letter at hf
  refine lv_iload_n (pc := 0) hx hb dX6_letter_0 rfl (lv_at hl 1 rfl) ?_
  refine lv_i2l (pc := 1) (v := x1.toInt64) hx hb dX6_letter_1 rfl ?_
  refine lv_lconst (pc := 2) (v := 1) hx hb dX6_letter_2 (by decide) ?_
  refine lv_ldc2 (pc := 3) hx hb hown (hw _ mK_X6_38) dX6_letter_3 ?_
  obtain ⟨v6, h6, hf⟩ := zz_o hf
  refine cSt (pc := 6) (rest := []) (st1 := [.int v6]) CF (tX6_in h6) hK hP hD hS hA hN hW mL_X6_40 kX6_in nX6_in rfl rfl ⟨by decide, by decide⟩ hl.1 (Nat.le_of_ble_eq_true rfl) ⟨Nat.le_refl _, Nat.le_refl _⟩ rfl dX6_letter_6 (fun H locs hP hD hS => ?_)
  refine lv_if_ne (pc := 9) (tgt := 15) hx hb dX6_letter_9 (by decide) (fun c9 => ?_) (fun c9 => ?_)
  · have hf := zz_f c9 hf
    refine lv_aload_n (pc := 15) hx hb dX6_letter_15 rfl (lv_at hl 0 rfl) ?_
    refine gm_0_pageMany (pc := 16) CF hK hP mF_X6_44 dX6_letter_16 ?_
    refine lv_bipush (pc := 19) (v := 22) hx hb dX6_letter_19 (by decide) ?_
    refine lv_icmp_ne (pc := 21) (tgt := 27) hx hb dX6_letter_21 (by decide) (fun c21 => ?_) (fun c21 => ?_)
    · have hf := zz_f c21 hf
      refine lv_aload_n (pc := 27) hx hb dX6_letter_27 rfl (lv_at hl 0 rfl) ?_
      refine gm_0_page (pc := 28) CF hK hP mF_X6_7 dX6_letter_28 ?_
      refine lv_aload_n (pc := 31) hx hb dX6_letter_31 rfl (lv_at hl 0 rfl) ?_
      refine gm_0_pageMany (pc := 32) CF hK hP mF_X6_44 dX6_letter_32 ?_
      refine lv_iload_n (pc := 35) hx hb dX6_letter_35 rfl (lv_at hl 1 rfl) ?_
      obtain ⟨c36, hf⟩ := zz_k hf
      refine am_page (pc := 36) hx hb hK hP hD hS c36 dX6_letter_36 (fun H locs hP hD hS => ?_)
      obtain ⟨σ36, hP, hD, hf⟩ := zz_g (w := wM ad cA) hP hD hf
      refine lv_aload_n (pc := 37) hx hb dX6_letter_37 rfl (lv_at hl 0 rfl) ?_
      refine lv_dup (pc := 38) hx hb dX6_letter_38 rfl ?_
      refine gm_0_pageMany (pc := 39) CF hK hP mF_X6_44 dX6_letter_39 ?_
      refine lv_iconst (pc := 42) (v := 1) hx hb dX6_letter_42 (by decide) ?_
      refine lv_iadd (pc := 43) hx hb dX6_letter_43 ?_
      refine pm_0_pageMany (pc := 44) CF hK hP hD hS mF_X6_44 dX6_letter_44 (fun H locs hP hD hS => ?_)
      obtain ⟨σ44, hP, hD, hf⟩ := zz_g (w := wM ad cA) hP hD hf
      refine lv_aload_n (pc := 47) hx hb dX6_letter_47 rfl (lv_at hl 0 rfl) ?_
      refine gm_0_pageMany (pc := 48) CF hK hP mF_X6_44 dX6_letter_48 ?_
      exact retIw (wf := wM ad cA) hx hb hr hlk hf hP hD hS dX6_letter_51
    · have hf := zz_t c21 hf
      refine lv_bipush (pc := 24) (v := (-104)) hx hb dX6_letter_24 (by decide) ?_
      exact retIw (wf := wM ad cA) hx hb hr hlk hf hP hD hS dX6_letter_26
  · have hf := zz_t c9 hf
    refine lv_bipush (pc := 12) (v := (-102)) hx hb dX6_letter_12 (by decide) ?_
    exact retIw (wf := wM ad cA) hx hb hr hlk hf hP hD hS dX6_letter_14
set_option maxHeartbeats 4000000 in
set_option maxRecDepth 100000 in
theorem tX6_blank {l : Launch} {kv : Nat × Nat} {D : va_G} {N : Nat} {ad : Nat → Nat} {cA : ClassId} {σ : SM} {rF : Int32} {σF : SM} (hf : fX6_blank N σ = some (rF, σF)) : Ct l kv D [(cA, .int)] yX6_blank cX6_blank 2 (some .int) 0 0 (wM ad cA σ) (wM ad cA σF) [.ref (ad 0)] (some (.int rF)) := by
  refine Ct.ofW (by decide) (Nat.le_of_ble_eq_true rfl) ?_
  intro p e s m below meth c A args CF hr hlk hA hP hK hD hN hW hS ls hl
  have hx := CF.1
  have hb := CF.2.1
  have hml := CF.2.2.1
  have hown := CF.2.2.2.1
  have hw : ∀ w ∈ wsA, w.before args s = true := fun w h => CF.2.2.2.2 w (List.mem_cons_of_mem _ h)
  have hl : lv_has ls 2 [(0, .ref (ad 0))] := hl
  unfold fX6_blank at hf
  refine lv_aload_n (pc := 0) hx hb dX6_blank_0 rfl (lv_at hl 0 rfl) ?_
  refine gm_0_pageMany (pc := 1) CF hK hP mF_X6_44 dX6_blank_1 ?_
  refine lv_istore_n (pc := 4) (lv' := [(1, .int (m_pageMany σ)), (0, .ref (ad 0))]) hx hb dX6_blank_4 rfl hl (by decide) rfl (fun ls hl => ?_)
  refine lv_aload_n (pc := 5) hx hb dX6_blank_5 rfl (lv_at hl 1 rfl) ?_
  refine lv_iconst (pc := 6) (v := 0) hx hb dX6_blank_6 (by decide) ?_
  refine pm_0_pageMany (pc := 7) CF hK hP hD hS mF_X6_44 dX6_blank_7 (fun H locs hP hD hS => ?_)
  obtain ⟨σ7, hP, hD, hf⟩ := zz_g (w := wM ad cA) hP hD hf
  refine lv_iload_n (pc := 10) hx hb dX6_blank_10 rfl (lv_at hl 0 rfl) ?_
  exact retIw (wf := wM ad cA) hx hb hr hlk hf hP hD hS dX6_blank_11
set_option maxHeartbeats 4000000 in
set_option maxRecDepth 100000 in
theorem tX6_kindBy {l : Launch} {kv : Nat × Nat} {D : va_G} {N : Nat} {tys : List (ClassId × FieldType)} {ws : va_W} {x0 : Int32} {rF : Int32} (hf : fX6_kindBy N x0 = some rF) : Ct l kv D tys yX6_kindBy cX6_kindBy 1 (some .int) 0 0 ws ws [.int x0] (some (.int rF)) := by
  refine Ct.ofW (by decide) (Nat.le_of_ble_eq_true rfl) ?_
  intro p e s m below meth c A args CF hr hlk hA hP hK hD hN hW hS ls hl
  have hx := CF.1
  have hb := CF.2.1
  have hml := CF.2.2.1
  have hown := CF.2.2.2.1
  have hw : ∀ w ∈ wsA, w.before args s = true := fun w h => CF.2.2.2.2 w (List.mem_cons_of_mem _ h)
  have hl : lv_has ls 1 [(0, .int x0)] := hl
  unfold fX6_kindBy at hf
  refine lv_iload_n (pc := 0) hx hb dX6_kindBy_0 rfl (lv_at hl 0 rfl) ?_
  refine lv_bipush (pc := 1) (v := 109) hx hb dX6_kindBy_1 (by decide) ?_
  refine lv_icmp_ne (pc := 3) (tgt := 10) hx hb dX6_kindBy_3 (by decide) (fun c3 => ?_) (fun c3 => ?_)
  · have hf := zz_f c3 hf
    refine lv_iload_n (pc := 10) hx hb dX6_kindBy_10 rfl (lv_at hl 0 rfl) ?_
    refine lv_bipush (pc := 11) (v := 115) hx hb dX6_kindBy_11 (by decide) ?_
    refine lv_icmp_ne (pc := 13) (tgt := 20) hx hb dX6_kindBy_13 (by decide) (fun c13 => ?_) (fun c13 => ?_)
    · have hf := zz_f c13 hf
      refine lv_iload_n (pc := 20) hx hb dX6_kindBy_20 rfl (lv_at hl 0 rfl) ?_
      refine lv_bipush (pc := 21) (v := 103) hx hb dX6_kindBy_21 (by decide) ?_
      refine lv_icmp_ne (pc := 23) (tgt := 30) hx hb dX6_kindBy_23 (by decide) (fun c23 => ?_) (fun c23 => ?_)
      · have hf := zz_f c23 hf
        refine lv_iload_n (pc := 30) hx hb dX6_kindBy_30 rfl (lv_at hl 0 rfl) ?_
        refine lv_bipush (pc := 31) (v := 99) hx hb dX6_kindBy_31 (by decide) ?_
        refine lv_icmp_ne (pc := 33) (tgt := 40) hx hb dX6_kindBy_33 (by decide) (fun c33 => ?_) (fun c33 => ?_)
        · have hf := zz_f c33 hf
          refine lv_iload_n (pc := 40) hx hb dX6_kindBy_40 rfl (lv_at hl 0 rfl) ?_
          refine lv_bipush (pc := 41) (v := 112) hx hb dX6_kindBy_41 (by decide) ?_
          refine lv_icmp_ne (pc := 43) (tgt := 50) hx hb dX6_kindBy_43 (by decide) (fun c43 => ?_) (fun c43 => ?_)
          · have hf := zz_f c43 hf
            refine lv_iconst (pc := 50) (v := (-1)) hx hb dX6_kindBy_50 (by decide) ?_
            exact retI hx hb hr hlk hf hP hD hS dX6_kindBy_51
          · have hf := zz_t c43 hf
            refine lv_iconst (pc := 46) (v := 4) hx hb dX6_kindBy_46 (by decide) ?_
            refine lv_goto (pc := 47) (tgt := 51) hx hb dX6_kindBy_47 (by decide) ?_
            exact retI hx hb hr hlk hf hP hD hS dX6_kindBy_51
        · have hf := zz_t c33 hf
          refine lv_iconst (pc := 36) (v := 3) hx hb dX6_kindBy_36 (by decide) ?_
          refine lv_goto (pc := 37) (tgt := 51) hx hb dX6_kindBy_37 (by decide) ?_
          exact retI hx hb hr hlk hf hP hD hS dX6_kindBy_51
      · have hf := zz_t c23 hf
        refine lv_iconst (pc := 26) (v := 2) hx hb dX6_kindBy_26 (by decide) ?_
        refine lv_goto (pc := 27) (tgt := 51) hx hb dX6_kindBy_27 (by decide) ?_
        exact retI hx hb hr hlk hf hP hD hS dX6_kindBy_51
    · have hf := zz_t c13 hf
      refine lv_iconst (pc := 16) (v := 1) hx hb dX6_kindBy_16 (by decide) ?_
      refine lv_goto (pc := 17) (tgt := 51) hx hb dX6_kindBy_17 (by decide) ?_
      exact retI hx hb hr hlk hf hP hD hS dX6_kindBy_51
  · have hf := zz_t c3 hf
    refine lv_iconst (pc := 6) (v := 0) hx hb dX6_kindBy_6 (by decide) ?_
    refine lv_goto (pc := 7) (tgt := 51) hx hb dX6_kindBy_7 (by decide) ?_
    exact retI hx hb hr hlk hf hP hD hS dX6_kindBy_51
set_option maxHeartbeats 4000000 in
set_option maxRecDepth 100000 in
theorem tX6_isGood {l : Launch} {kv : Nat × Nat} {D : va_G} {N : Nat} {ad : Nat → Nat} {cA : ClassId} {σ : SM} {x1 : Int32} {rF : Int32} {σF : SM} (hf : fX6_isGood N σ x1 = some (rF, σF)) : Ct l kv D [(cA, .int)] yX6_isGood cX6_isGood 3 (some .boolean) 1 25 (wM ad cA σ) (wM ad cA σF) [.ref (ad 0), .int x1] (some (.int rF)) := by
  refine Ct.ofW (by decide) (Nat.le_of_ble_eq_true rfl) ?_
  intro p e s m below meth c A args CF hr hlk hA hP hK hD hN hW hS ls hl
  have hx := CF.1
  have hb := CF.2.1
  have hml := CF.2.2.1
  have hown := CF.2.2.2.1
  have hw : ∀ w ∈ wsA, w.before args s = true := fun w h => CF.2.2.2.2 w (List.mem_cons_of_mem _ h)
  have hl : lv_has ls 3 [(0, .ref (ad 0)), (1, .int x1)] := hl
  unfold fX6_isGood at hf
  have J70 : ∀ (σ : SM) (x1 : Int32) (x2 : Int32) (H : Heap) (locs : List Loc) (ls : Array Slot), va_P D vwCl (wM ad cA σ) H → va_D A (wM ad cA σ) → va_S A s.heap H locs → lv_has ls 3 [(1, .int x1), (2, .int x2)] → fX6_isGood_70 N σ x1 x2 = some (rF, σF) → G p l e 1 25 s m args below meth c D A (wM ad cA σF) (some (.int rF)) H locs (F0 m 70 ls []) := by
    intro σ x1 x2 H locs ls hP hD hS hl hf
    unfold fX6_isGood_70 at hf
    refine lv_iload_n (pc := 70) hx hb dX6_isGood_70 rfl (lv_at hl 1 rfl) ?_
    refine lv_bipush (pc := 71) (v := 44) hx hb dX6_isGood_71 (by decide) ?_
    refine lv_icmp_ne (pc := 73) (tgt := 86) hx hb dX6_isGood_73 (by decide) (fun c73 => ?_) (fun c73 => ?_)
    · have hf := zz_f c73 hf
      refine lv_iconst (pc := 86) (v := 0) hx hb dX6_isGood_86 (by decide) ?_
      exact retZw (wf := wM ad cA) hx hb hr hlk rfl hf hP hD hS dX6_isGood_87
    · have hf := zz_t c73 hf
      refine lv_iload_n (pc := 76) hx hb dX6_isGood_76 rfl (lv_at hl 0 rfl) ?_
      refine lv_bipush (pc := 77) (v := 17) hx hb dX6_isGood_77 (by decide) ?_
      refine lv_icmp_ge (pc := 79) (tgt := 86) hx hb dX6_isGood_79 (by decide) (fun c79 => ?_) (fun c79 => ?_)
      · have hf := zz_t c79 hf
        refine lv_iconst (pc := 86) (v := 0) hx hb dX6_isGood_86 (by decide) ?_
        exact retZw (wf := wM ad cA) hx hb hr hlk rfl hf hP hD hS dX6_isGood_87
      · have hf := zz_f c79 hf
        refine lv_iconst (pc := 82) (v := 1) hx hb dX6_isGood_82 (by decide) ?_
        refine lv_goto (pc := 83) (tgt := 87) hx hb dX6_isGood_83 (by decide) ?_
        exact retZw (wf := wM ad cA) hx hb hr hlk rfl hf hP hD hS dX6_isGood_87
  refine lv_aload_n (pc := 0) hx hb dX6_isGood_0 rfl (lv_at hl 0 rfl) ?_
  refine gm_0_page (pc := 1) CF hK hP mF_X6_7 dX6_isGood_1 ?_
  refine lv_iload_n (pc := 4) hx hb dX6_isGood_4 rfl (lv_at hl 1 rfl) ?_
  obtain ⟨c5, hf⟩ := zz_k hf
  refine lm_page (pc := 5) hx hb hK hP c5 dX6_isGood_5 ?_
  refine lv_istore_n (pc := 6) (lv' := [(2, .int (m_page σ x1.toNatClampNeg)), (0, .ref (ad 0)), (1, .int x1)]) hx hb dX6_isGood_6 rfl hl (by decide) rfl (fun ls hl => ?_)
  refine lv_aload_n (pc := 7) hx hb dX6_isGood_7 rfl (lv_at hl 1 rfl) ?_
  refine gm_0_endAt (pc := 8) CF hK hP mF_X6_47 dX6_isGood_8 ?_
  refine lv_iconst (pc := 11) (v := (-1)) hx hb dX6_isGood_11 (by decide) ?_
  refine lv_icmp_eq (pc := 12) (tgt := 45) hx hb dX6_isGood_12 (by decide) (fun c12 => ?_) (fun c12 => ?_)
  · have hf := zz_t c12 hf
    refine lv_iload_n (pc := 45) hx hb dX6_isGood_45 rfl (lv_at hl 2 rfl) ?_
    refine lv_iconst (pc := 46) (v := 3) hx hb dX6_isGood_46 (by decide) ?_
    refine lv_irem (pc := 47) hx hb dX6_isGood_47 (by decide) ?_
    refine lv_iconst (pc := 48) (v := 2) hx hb dX6_isGood_48 (by decide) ?_
    refine lv_icmp_ne (pc := 49) (tgt := 88) hx hb dX6_isGood_49 (by decide) (fun c49 => ?_) (fun c49 => ?_)
    · have hf := zz_f c49 hf
      refine lv_iload_n (pc := 88) hx hb dX6_isGood_88 rfl (lv_at hl 2 rfl) ?_
      refine lv_iconst (pc := 89) (v := 3) hx hb dX6_isGood_89 (by decide) ?_
      refine lv_irem (pc := 90) hx hb dX6_isGood_90 (by decide) ?_
      refine lv_if_ne (pc := 91) (tgt := 110) hx hb dX6_isGood_91 (by decide) (fun c91 => ?_) (fun c91 => ?_)
      · have hf := zz_f c91 hf
        refine lv_iload_n (pc := 110) hx hb dX6_isGood_110 rfl (lv_at hl 0 rfl) ?_
        refine lv_i2l (pc := 111) (v := (m_page σ x1.toNatClampNeg).toInt64) hx hb dX6_isGood_111 rfl ?_
        refine lv_ldc2 (pc := 112) hx hb hown (hw _ mK_X6_58) dX6_isGood_112 ?_
        refine lv_ldc2 (pc := 115) hx hb hown (hw _ mK_X6_52) dX6_isGood_115 ?_
        obtain ⟨v118, h118, hf⟩ := zz_o hf
        refine cSt (pc := 118) (rest := []) (st1 := [.int v118]) CF (tX6_in h118) hK hP hD hS hA hN hW mL_X6_40 kX6_in nX6_in rfl rfl ⟨by decide, by decide⟩ hl.1 (Nat.le_of_ble_eq_true rfl) ⟨Nat.le_refl _, Nat.le_refl _⟩ rfl dX6_isGood_118 (fun H locs hP hD hS => ?_)
        obtain ⟨cz, hf⟩ := zz_k hf
        exact retZw (wf := wM ad cA) hx hb hr hlk (nar_z cz) hf hP hD hS dX6_isGood_121
      · have hf := zz_t c91 hf
        refine lv_iload_n (pc := 94) hx hb dX6_isGood_94 rfl (lv_at hl 0 rfl) ?_
        obtain ⟨v95, h95, hf⟩ := zz_o hf
        refine cSt (pc := 95) (rest := []) (st1 := [.int v95]) CF (tX6_kindBy h95) hK hP hD hS hA hN hW mL_X6_54 kX6_kindBy nX6_kindBy rfl rfl ⟨by decide, by decide⟩ hl.1 (Nat.le_of_ble_eq_true rfl) ⟨Nat.le_refl _, Nat.le_refl _⟩ rfl dX6_isGood_95 (fun H locs hP hD hS => ?_)
        refine lv_iconst (pc := 98) (v := (-1)) hx hb dX6_isGood_98 (by decide) ?_
        refine lv_icmp_eq (pc := 99) (tgt := 106) hx hb dX6_isGood_99 (by decide) (fun c99 => ?_) (fun c99 => ?_)
        · have hf := zz_t c99 hf
          refine lv_iconst (pc := 106) (v := 0) hx hb dX6_isGood_106 (by decide) ?_
          refine lv_goto (pc := 107) (tgt := 121) hx hb dX6_isGood_107 (by decide) ?_
          exact retZw (wf := wM ad cA) hx hb hr hlk rfl hf hP hD hS dX6_isGood_121
        · have hf := zz_f c99 hf
          refine lv_iconst (pc := 102) (v := 1) hx hb dX6_isGood_102 (by decide) ?_
          refine lv_goto (pc := 103) (tgt := 121) hx hb dX6_isGood_103 (by decide) ?_
          exact retZw (wf := wM ad cA) hx hb hr hlk rfl hf hP hD hS dX6_isGood_121
    · have hf := zz_t c49 hf
      refine lv_iload_n (pc := 52) hx hb dX6_isGood_52 rfl (lv_at hl 0 rfl) ?_
      refine lv_bipush (pc := 53) (v := 59) hx hb dX6_isGood_53 (by decide) ?_
      refine lv_icmp_ne (pc := 55) (tgt := 70) hx hb dX6_isGood_55 (by decide) (fun c55 => ?_) (fun c55 => ?_)
      · have hf := zz_f c55 hf
        exact J70 σ x1 (m_page σ x1.toNatClampNeg) _ _ _ hP hD hS (lv_sub hl [2, 0] rfl) hf
      · have hf := zz_t c55 hf
        refine lv_iload_n (pc := 58) hx hb dX6_isGood_58 rfl (lv_at hl 2 rfl) ?_
        refine lv_iconst (pc := 59) (v := 4) hx hb dX6_isGood_59 (by decide) ?_
        refine lv_icmp_le (pc := 60) (tgt := 70) hx hb dX6_isGood_60 (by decide) (fun c60 => ?_) (fun c60 => ?_)
        · have hf := zz_t c60 hf
          exact J70 σ x1 (m_page σ x1.toNatClampNeg) _ _ _ hP hD hS (lv_sub hl [2, 0] rfl) hf
        · have hf := zz_f c60 hf
          refine lv_aload_n (pc := 63) hx hb dX6_isGood_63 rfl (lv_at hl 1 rfl) ?_
          refine lv_iload_n (pc := 64) hx hb dX6_isGood_64 rfl (lv_at hl 2 rfl) ?_
          refine pm_0_endAt (pc := 65) CF hK hP hD hS mF_X6_47 dX6_isGood_65 (fun H locs hP hD hS => ?_)
          obtain ⟨σ65, hP, hD, hf⟩ := zz_g (w := wM ad cA) hP hD hf
          refine lv_iconst (pc := 68) (v := 1) hx hb dX6_isGood_68 (by decide) ?_
          exact retZw (wf := wM ad cA) hx hb hr hlk rfl hf hP hD hS dX6_isGood_69
  · have hf := zz_f c12 hf
    refine lv_iload_n (pc := 15) hx hb dX6_isGood_15 rfl (lv_at hl 2 rfl) ?_
    refine lv_aload_n (pc := 16) hx hb dX6_isGood_16 rfl (lv_at hl 1 rfl) ?_
    refine gm_0_endAt (pc := 17) CF hK hP mF_X6_47 dX6_isGood_17 ?_
    refine lv_iconst (pc := 20) (v := 1) hx hb dX6_isGood_20 (by decide) ?_
    refine lv_iadd (pc := 21) hx hb dX6_isGood_21 ?_
    refine lv_icmp_ne (pc := 22) (tgt := 43) hx hb dX6_isGood_22 (by decide) (fun c22 => ?_) (fun c22 => ?_)
    · have hf := zz_f c22 hf
      refine lv_iconst (pc := 43) (v := 0) hx hb dX6_isGood_43 (by decide) ?_
      exact retZw (wf := wM ad cA) hx hb hr hlk rfl hf hP hD hS dX6_isGood_44
    · have hf := zz_t c22 hf
      refine lv_iload_n (pc := 25) hx hb dX6_isGood_25 rfl (lv_at hl 0 rfl) ?_
      refine lv_i2l (pc := 26) (v := (m_page σ x1.toNatClampNeg).toInt64) hx hb dX6_isGood_26 rfl ?_
      refine lv_ldc2 (pc := 27) hx hb hown (hw _ mK_X6_50) dX6_isGood_27 ?_
      refine lv_ldc2 (pc := 30) hx hb hown (hw _ mK_X6_52) dX6_isGood_30 ?_
      obtain ⟨v33, h33, hf⟩ := zz_o hf
      refine cSt (pc := 33) (rest := []) (st1 := [.int v33]) CF (tX6_in h33) hK hP hD hS hA hN hW mL_X6_40 kX6_in nX6_in rfl rfl ⟨by decide, by decide⟩ hl.1 (Nat.le_of_ble_eq_true rfl) ⟨Nat.le_refl _, Nat.le_refl _⟩ rfl dX6_isGood_33 (fun H locs hP hD hS => ?_)
      refine lv_if_eq (pc := 36) (tgt := 43) hx hb dX6_isGood_36 (by decide) (fun c36 => ?_) (fun c36 => ?_)
      · have hf := zz_t c36 hf
        refine lv_iconst (pc := 43) (v := 0) hx hb dX6_isGood_43 (by decide) ?_
        exact retZw (wf := wM ad cA) hx hb hr hlk rfl hf hP hD hS dX6_isGood_44
      · have hf := zz_f c36 hf
        refine lv_iconst (pc := 39) (v := 1) hx hb dX6_isGood_39 (by decide) ?_
        refine lv_goto (pc := 40) (tgt := 44) hx hb dX6_isGood_40 (by decide) ?_
        exact retZw (wf := wM ad cA) hx hb hr hlk rfl hf hP hD hS dX6_isGood_44
set_option maxHeartbeats 4000000 in
set_option maxRecDepth 100000 in
theorem tX6_faultOf {l : Launch} {kv : Nat × Nat} {D : va_G} {N : Nat} {ad : Nat → Nat} {cA : ClassId} {σ : SM} {rF : Int32} {σF : SM} (hf : fX6_faultOf N σ = some (rF, σF)) : Ct l kv D [(cA, .int)] yX6_faultOf cX6_faultOf 2 (some .int) 2 47 (wM ad cA σ) (wM ad cA σF) [.ref (ad 0)] (some (.int rF)) := by
  refine Ct.ofW (by decide) (Nat.le_of_ble_eq_true rfl) ?_
  intro p e s m below meth c A args CF hr hlk hA hP hK hD hN hW hS ls hl
  have hx := CF.1
  have hb := CF.2.1
  have hml := CF.2.2.1
  have hown := CF.2.2.2.1
  have hw : ∀ w ∈ wsA, w.before args s = true := fun w h => CF.2.2.2.2 w (List.mem_cons_of_mem _ h)
  have hl : lv_has ls 2 [(0, .ref (ad 0))] := hl
  unfold fX6_faultOf at hf
  have L7 : ∀ (n7 : Nat) (σ : SM) (x1 : Int32) (H : Heap) (locs : List Loc) (ls : Array Slot), va_P D vwCl (wM ad cA σ) H → va_D A (wM ad cA σ) → va_S A s.heap H locs → lv_has ls 2 [(0, .ref (ad 0)), (1, .int x1)] → fX6_faultOf_7 N n7 σ x1 = some (rF, σF) → G p l e 2 47 s m args below meth c D A (wM ad cA σF) (some (.int rF)) H locs (F0 m 7 ls []) := by
    intro n7
    induction n7 with
    | zero => intro σ x1 H locs ls hP hD hS hl hf; exact absurd hf (by simp [fX6_faultOf_7])
    | succ n7 ih7 =>
      intro σ x1 H locs ls hP hD hS hl hf
      rw [fX6_faultOf_7] at hf
      refine lv_iload_n (pc := 7) hx hb dX6_faultOf_7 rfl (lv_at hl 1 rfl) ?_
      refine lv_aload_n (pc := 8) hx hb dX6_faultOf_8 rfl (lv_at hl 0 rfl) ?_
      refine gm_0_pageMany (pc := 9) CF hK hP mF_X6_44 dX6_faultOf_9 ?_
      refine lv_icmp_ge (pc := 12) (tgt := 29) hx hb dX6_faultOf_12 (by decide) (fun c12 => ?_) (fun c12 => ?_)
      · have hf := zz_t c12 hf
        refine lv_iload_n (pc := 29) hx hb dX6_faultOf_29 rfl (lv_at hl 1 rfl) ?_
        exact retIw (wf := wM ad cA) hx hb hr hlk hf hP hD hS dX6_faultOf_30
      · have hf := zz_f c12 hf
        refine lv_aload_n (pc := 15) hx hb dX6_faultOf_15 rfl (lv_at hl 0 rfl) ?_
        refine lv_iload_n (pc := 16) hx hb dX6_faultOf_16 rfl (lv_at hl 1 rfl) ?_
        obtain ⟨v17, σ17, h17, hf⟩ := zz_b hf
        refine cV (pc := 17) (rest := []) (st1 := [.int v17]) (q0 := 0) CF (tX6_isGood h17) hK hP hD hS hA hN hW mL_X6_60 kX6_isGood nX6_isGood rfl rfl rfl rfl ⟨by decide, by decide⟩ hl.1 (Nat.le_of_ble_eq_true rfl) ⟨Nat.le_refl _, Nat.le_refl _⟩ rfl dX6_faultOf_17 (fun H locs hP hD hS => ?_)
        refine lv_if_eq (pc := 20) (tgt := 29) hx hb dX6_faultOf_20 (by decide) (fun c20 => ?_) (fun c20 => ?_)
        · have hf := zz_t c20 hf
          refine lv_iload_n (pc := 29) hx hb dX6_faultOf_29 rfl (lv_at hl 1 rfl) ?_
          exact retIw (wf := wM ad cA) hx hb hr hlk hf hP hD hS dX6_faultOf_30
        · have hf := zz_f c20 hf
          refine lv_iinc (pc := 23) (v := (x1 + 1)) (lv' := [(1, .int (x1 + 1)), (0, .ref (ad 0))]) hx hb dX6_faultOf_23 hl (k := 1) rfl rfl (by decide) rfl (fun ls hl => ?_)
          refine lv_goto (pc := 26) (tgt := 7) hx hb dX6_faultOf_26 (by decide) ?_
          exact ih7 σ17 (x1 + 1) _ _ _ hP hD hS (lv_sub hl [1, 0] rfl) hf
  refine lv_aload_n (pc := 0) hx hb dX6_faultOf_0 rfl (lv_at hl 0 rfl) ?_
  refine lv_iconst (pc := 1) (v := (-1)) hx hb dX6_faultOf_1 (by decide) ?_
  refine pm_0_endAt (pc := 2) CF hK hP hD hS mF_X6_47 dX6_faultOf_2 (fun H locs hP hD hS => ?_)
  obtain ⟨σ2, hP, hD, hf⟩ := zz_g (w := wM ad cA) hP hD hf
  refine lv_iconst (pc := 5) (v := 0) hx hb dX6_faultOf_5 (by decide) ?_
  refine lv_istore_n (pc := 6) (lv' := [(1, .int 0), (0, .ref (ad 0))]) hx hb dX6_faultOf_6 rfl hl (by decide) rfl (fun ls hl => ?_)
  exact L7 N σ2 0 _ _ _ hP hD hS (lv_sub hl [1, 0] rfl) hf
set_option maxHeartbeats 4000000 in
set_option maxRecDepth 100000 in
theorem tX6_fault {l : Launch} {kv : Nat × Nat} {D : va_G} {N : Nat} {ad : Nat → Nat} {cA : ClassId} {σ : SM} {rF : Int32} {σF : SM} (hf : fX6_fault N σ = some (rF, σF)) : Ct l kv D [(cA, .int)] yX6_fault cX6_fault 1 (some .int) 3 68 (wM ad cA σ) (wM ad cA σF) [.ref (ad 0)] (some (.int rF)) := by
  refine Ct.ofW (by decide) (Nat.le_of_ble_eq_true rfl) ?_
  intro p e s m below meth c A args CF hr hlk hA hP hK hD hN hW hS ls hl
  have hx := CF.1
  have hb := CF.2.1
  have hml := CF.2.2.1
  have hown := CF.2.2.2.1
  have hw : ∀ w ∈ wsA, w.before args s = true := fun w h => CF.2.2.2.2 w (List.mem_cons_of_mem _ h)
  have hl : lv_has ls 1 [(0, .ref (ad 0))] := hl
  unfold fX6_fault at hf
  refine lv_aload_n (pc := 0) hx hb dX6_fault_0 rfl (lv_at hl 0 rfl) ?_
  obtain ⟨v1, σ1, h1, hf⟩ := zz_b hf
  refine cV (pc := 1) (rest := []) (st1 := [.int v1]) (q0 := 0) CF (tX6_faultOf h1) hK hP hD hS hA hN hW mL_X6_64 kX6_faultOf nX6_faultOf rfl rfl rfl rfl ⟨by decide, by decide⟩ hl.1 (Nat.le_of_ble_eq_true rfl) ⟨Nat.le_refl _, Nat.le_refl _⟩ rfl dX6_fault_1 (fun H locs hP hD hS => ?_)
  exact retIw (wf := wM ad cA) hx hb hr hlk hf hP hD hS dX6_fault_4
