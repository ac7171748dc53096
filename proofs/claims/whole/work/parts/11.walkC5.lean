set_option maxHeartbeats 4000000 in
set_option maxRecDepth 100000 in
theorem tX2_copy_5_13 {l : Launch} {kv : Nat × Nat} {D : va_G} {N : Nat} {ad : Nat → Nat} {cA : ClassId} {σ : SC} {σF : SC} (hf : fX2_copy_5_13 N σ = some σF) : Ct l kv D [(cA, .int)] yX2_copy cX2_copy 2 none 1 18 (wC ad cA σ) (wC ad cA σF) [.ref (ad 5), .ref (ad 13)] (none) := by
  refine Ct.ofW (by decide) (Nat.le_of_ble_eq_true rfl) ?_
  intro p e s m below meth c A args CF hr hlk hA hP hK hD hN hW hS ls hl
  have hx := CF.1
  have hb := CF.2.1
  have hml := CF.2.2.1
  have hown := CF.2.2.2.1
  have hw : ∀ w ∈ wsA, w.before args s = true := fun w h => CF.2.2.2.2 w (List.mem_cons_of_mem _ h)
  have hl : lv_has ls 2 [(0, .ref (ad 5)), (1, .ref (ad 13))] := hl
  unfold fX2_copy_5_13 at hf
  refine lv_aload_n (pc := 0) hx hb dX2_copy_0 rfl (lv_at hl 1 rfl) ?_
  refine gc_13_nexts (pc := 1) CF hK hP mF_X2_9 dX2_copy_1 ?_
  refine lv_iconst (pc := 4) (v := 0) hx hb dX2_copy_4 (by decide) ?_
  refine lv_aload_n (pc := 5) hx hb dX2_copy_5 rfl (lv_at hl 0 rfl) ?_
  refine gc_5_nexts (pc := 6) CF hK hP mF_X2_9 dX2_copy_6 ?_
  refine lv_iconst (pc := 9) (v := 0) hx hb dX2_copy_9 (by decide) ?_
  refine lv_bipush (pc := 10) (v := 6) hx hb dX2_copy_10 (by decide) ?_
  refine yc_nexts_knexts (pc := 12) CF hl.1 hK hP hD hS mL_X2_47 (by decide) (by decide) dX2_copy_12 (fun H locs hP hD hS => ?_)
  obtain ⟨σ12, hP, hD, hf⟩ := zz_g (w := wC ad cA) hP hD hf
  refine lv_aload_n (pc := 15) hx hb dX2_copy_15 rfl (lv_at hl 1 rfl) ?_
  refine gc_13_listeners (pc := 16) CF hK hP mF_X2_15 dX2_copy_16 ?_
  refine lv_iconst (pc := 19) (v := 0) hx hb dX2_copy_19 (by decide) ?_
  refine lv_aload_n (pc := 20) hx hb dX2_copy_20 rfl (lv_at hl 0 rfl) ?_
  refine gc_5_listeners (pc := 21) CF hK hP mF_X2_15 dX2_copy_21 ?_
  refine lv_iconst (pc := 24) (v := 0) hx hb dX2_copy_24 (by decide) ?_
  refine lv_bipush (pc := 25) (v := 6) hx hb dX2_copy_25 (by decide) ?_
  refine yc_lsts_klsts (pc := 27) CF hl.1 hK hP hD hS mL_X2_47 (by decide) (by decide) dX2_copy_27 (fun H locs hP hD hS => ?_)
  obtain ⟨σ27, hP, hD, hf⟩ := zz_g (w := wC ad cA) hP hD hf
  refine lv_aload_n (pc := 30) hx hb dX2_copy_30 rfl (lv_at hl 1 rfl) ?_
  refine gc_13_heard (pc := 31) CF hK hP mF_X2_18 dX2_copy_31 ?_
  refine lv_iconst (pc := 34) (v := 0) hx hb dX2_copy_34 (by decide) ?_
  refine lv_aload_n (pc := 35) hx hb dX2_copy_35 rfl (lv_at hl 0 rfl) ?_
  refine gc_5_heard (pc := 36) CF hK hP mF_X2_18 dX2_copy_36 ?_
  refine lv_iconst (pc := 39) (v := 0) hx hb dX2_copy_39 (by decide) ?_
  refine lv_iconst (pc := 40) (v := 3) hx hb dX2_copy_40 (by decide) ?_
  refine yc_heard_kheard (pc := 41) CF hl.1 hK hP hD hS mL_X2_47 (by decide) (by decide) dX2_copy_41 (fun H locs hP hD hS => ?_)
  obtain ⟨σ41, hP, hD, hf⟩ := zz_g (w := wC ad cA) hP hD hf
  refine lv_aload_n (pc := 44) hx hb dX2_copy_44 rfl (lv_at hl 1 rfl) ?_
  refine gc_13_last (pc := 45) CF hK hP mF_X2_21 dX2_copy_45 ?_
  refine lv_iconst (pc := 48) (v := 0) hx hb dX2_copy_48 (by decide) ?_
  refine lv_aload_n (pc := 49) hx hb dX2_copy_49 rfl (lv_at hl 0 rfl) ?_
  refine gc_5_last (pc := 50) CF hK hP mF_X2_21 dX2_copy_50 ?_
  refine lv_iconst (pc := 53) (v := 0) hx hb dX2_copy_53 (by decide) ?_
  refine lv_iconst (pc := 54) (v := 3) hx hb dX2_copy_54 (by decide) ?_
  refine yc_last_klast (pc := 55) CF hl.1 hK hP hD hS mL_X2_47 (by decide) (by decide) dX2_copy_55 (fun H locs hP hD hS => ?_)
  obtain ⟨σ55, hP, hD, hf⟩ := zz_g (w := wC ad cA) hP hD hf
  refine lv_aload_n (pc := 58) hx hb dX2_copy_58 rfl (lv_at hl 1 rfl) ?_
  refine gc_13_denied (pc := 59) CF hK hP mF_X2_24 dX2_copy_59 ?_
  refine lv_iconst (pc := 62) (v := 0) hx hb dX2_copy_62 (by decide) ?_
  refine lv_aload_n (pc := 63) hx hb dX2_copy_63 rfl (lv_at hl 0 rfl) ?_
  refine gc_5_denied (pc := 64) CF hK hP mF_X2_24 dX2_copy_64 ?_
  refine lv_iconst (pc := 67) (v := 0) hx hb dX2_copy_67 (by decide) ?_
  refine lv_iconst (pc := 68) (v := 3) hx hb dX2_copy_68 (by decide) ?_
  refine yc_denied_kdenied (pc := 69) CF hl.1 hK hP hD hS mL_X2_47 (by decide) (by decide) dX2_copy_69 (fun H locs hP hD hS => ?_)
  obtain ⟨σ69, hP, hD, hf⟩ := zz_g (w := wC ad cA) hP hD hf
  refine lv_aload_n (pc := 72) hx hb dX2_copy_72 rfl (lv_at hl 1 rfl) ?_
  refine gc_13_askedWhom (pc := 73) CF hK hP mF_X2_27 dX2_copy_73 ?_
  refine lv_iconst (pc := 76) (v := 0) hx hb dX2_copy_76 (by decide) ?_
  refine lv_aload_n (pc := 77) hx hb dX2_copy_77 rfl (lv_at hl 0 rfl) ?_
  refine gc_5_askedWhom (pc := 78) CF hK hP mF_X2_27 dX2_copy_78 ?_
  refine lv_iconst (pc := 81) (v := 0) hx hb dX2_copy_81 (by decide) ?_
  refine lv_bipush (pc := 82) (v := 8) hx hb dX2_copy_82 (by decide) ?_
  refine yc_whom_kwhom (pc := 84) CF hl.1 hK hP hD hS mL_X2_47 (by decide) (by decide) dX2_copy_84 (fun H locs hP hD hS => ?_)
  obtain ⟨σ84, hP, hD, hf⟩ := zz_g (w := wC ad cA) hP hD hf
  refine lv_aload_n (pc := 87) hx hb dX2_copy_87 rfl (lv_at hl 1 rfl) ?_
  refine gc_13_askedDay (pc := 88) CF hK hP mF_X2_30 dX2_copy_88 ?_
  refine lv_iconst (pc := 91) (v := 0) hx hb dX2_copy_91 (by decide) ?_
  refine lv_aload_n (pc := 92) hx hb dX2_copy_92 rfl (lv_at hl 0 rfl) ?_
  refine gc_5_askedDay (pc := 93) CF hK hP mF_X2_30 dX2_copy_93 ?_
  refine lv_iconst (pc := 96) (v := 0) hx hb dX2_copy_96 (by decide) ?_
  refine lv_bipush (pc := 97) (v := 8) hx hb dX2_copy_97 (by decide) ?_
  refine yc_wday_kwday (pc := 99) CF hl.1 hK hP hD hS mL_X2_47 (by decide) (by decide) dX2_copy_99 (fun H locs hP hD hS => ?_)
  obtain ⟨σ99, hP, hD, hf⟩ := zz_g (w := wC ad cA) hP hD hf
  refine lv_aload_n (pc := 102) hx hb dX2_copy_102 rfl (lv_at hl 0 rfl) ?_
  refine lv_aload_n (pc := 103) hx hb dX2_copy_103 rfl (lv_at hl 1 rfl) ?_
  refine gc_13_asked (pc := 104) CF hK hP mF_X2_33 dX2_copy_104 ?_
  refine pc_5_asked (pc := 107) CF hK hP hD hS mF_X2_33 dX2_copy_107 (fun H locs hP hD hS => ?_)
  obtain ⟨σ107, hP, hD, hf⟩ := zz_g (w := wC ad cA) hP hD hf
  refine lv_aload_n (pc := 110) hx hb dX2_copy_110 rfl (lv_at hl 0 rfl) ?_
  refine lv_aload_n (pc := 111) hx hb dX2_copy_111 rfl (lv_at hl 1 rfl) ?_
  refine gc_13_days (pc := 112) CF hK hP mF_X2_37 dX2_copy_112 ?_
  refine pc_5_days (pc := 115) CF hK hP hD hS mF_X2_37 dX2_copy_115 (fun H locs hP hD hS => ?_)
  obtain ⟨σ115, hP, hD, hf⟩ := zz_g (w := wC ad cA) hP hD hf
  refine lv_aload_n (pc := 118) hx hb dX2_copy_118 rfl (lv_at hl 0 rfl) ?_
  refine lv_aload_n (pc := 119) hx hb dX2_copy_119 rfl (lv_at hl 1 rfl) ?_
  refine gc_13_changes (pc := 120) CF hK hP mF_X2_40 dX2_copy_120 ?_
  refine pc_5_changes (pc := 123) CF hK hP hD hS mF_X2_40 dX2_copy_123 (fun H locs hP hD hS => ?_)
  obtain ⟨σ123, hP, hD, hf⟩ := zz_g (w := wC ad cA) hP hD hf
  exact retVw (wf := wC ad cA) hx hb hr hlk hf hP hD hS dX2_copy_126
set_option maxHeartbeats 4000000 in
set_option maxRecDepth 100000 in
theorem tX5_image {l : Launch} {kv : Nat × Nat} {D : va_G} {N : Nat} {ad : Nat → Nat} {cA : ClassId} {σ : SC} {rF : Int32} {σF : SC} (hf : fX5_image N σ = some (rF, σF)) : Ct l kv D [(cA, .int)] yX5_image cX5_image 1 (some .int) 2 39 (wC ad cA σ) (wC ad cA σF) [.ref (ad 0)] (some (.int rF)) := by
  refine Ct.ofW (by decide) (Nat.le_of_ble_eq_true rfl) ?_
  intro p e s m below meth c A args CF hr hlk hA hP hK hD hN hW hS ls hl
  have hx := CF.1
  have hb := CF.2.1
  have hml := CF.2.2.1
  have hown := CF.2.2.2.1
  have hw : ∀ w ∈ wsA, w.before args s = true := fun w h => CF.2.2.2.2 w (List.mem_cons_of_mem _ h)
  have hl : lv_has ls 1 [(0, .ref (ad 0))] := hl
  unfold fX5_image at hf
  refine lv_aload_n (pc := 0) hx hb dX5_image_0 rfl (lv_at hl 0 rfl) ?_
  refine gc_0_ground (pc := 1) CF hK hP mF_X5_19 dX5_image_1 ?_
  obtain ⟨v4, h4, hf⟩ := zz_o hf
  refine cV (pc := 4) (rest := []) (st1 := [.int v4]) (q0 := 3) CF (tX0_isThere h4) hK hP hD hS hA hN hW mL_X5_144 kX0_isThere nX0_isThere rfl rfl rfl rfl ⟨by decide, by decide⟩ hl.1 (Nat.le_of_ble_eq_true rfl) ⟨Nat.le_refl _, Nat.le_refl _⟩ rfl dX5_image_4 (fun H locs hP hD hS => ?_)
  refine lv_if_ne (pc := 7) (tgt := 13) hx hb dX5_image_7 (by decide) (fun c7 => ?_) (fun c7 => ?_)
  · have hf := zz_f c7 hf
    refine lv_aload_n (pc := 13) hx hb dX5_image_13 rfl (lv_at hl 0 rfl) ?_
    refine gc_0_kept (pc := 14) CF hK hP mF_X5_30 dX5_image_14 ?_
    refine lv_aload_n (pc := 17) hx hb dX5_image_17 rfl (lv_at hl 0 rfl) ?_
    refine gc_0_now (pc := 18) CF hK hP mF_X5_26 dX5_image_18 ?_
    obtain ⟨σ21, h21, hf⟩ := zz_o hf
    refine cV (pc := 21) (rest := []) (st1 := []) (q0 := 13) CF (tX2_copy_13_5 h21) hK hP hD hS hA hN hW mL_X5_193 kX2_copy nX2_copy rfl rfl rfl rfl ⟨by decide, by decide⟩ hl.1 (Nat.le_of_ble_eq_true rfl) ⟨Nat.le_refl _, Nat.le_refl _⟩ rfl dX5_image_21 (fun H locs hP hD hS => ?_)
    refine lv_aload_n (pc := 24) hx hb dX5_image_24 rfl (lv_at hl 0 rfl) ?_
    refine lv_iconst (pc := 25) (v := 1) hx hb dX5_image_25 (by decide) ?_
    refine pc_0_hasImage (pc := 26) CF hK hP hD hS ⟨rfl, rfl⟩ mF_X5_51 dX5_image_26 (fun H locs hP hD hS => ?_)
    obtain ⟨σ26, hP, hD, hf⟩ := zz_g (w := wC ad cA) hP hD hf
    refine lv_aload_n (pc := 29) hx hb dX5_image_29 rfl (lv_at hl 0 rfl) ?_
    refine gc_0_kept (pc := 30) CF hK hP mF_X5_30 dX5_image_30 ?_
    refine gcN_13_days (pc := 33) CF hK hP hN (nf 12) dX5_image_33 ?_
    exact retIw (wf := wC ad cA) hx hb hr hlk hf hP hD hS dX5_image_36
  · have hf := zz_t c7 hf
    refine lv_bipush (pc := 10) (v := (-103)) hx hb dX5_image_10 (by decide) ?_
    exact retIw (wf := wC ad cA) hx hb hr hlk hf hP hD hS dX5_image_12
set_option maxHeartbeats 4000000 in
set_option maxRecDepth 100000 in
theorem tX5_restore {l : Launch} {kv : Nat × Nat} {D : va_G} {N : Nat} {ad : Nat → Nat} {cA : ClassId} {σ : SC} {rF : Int32} {σF : SC} (hf : fX5_restore N σ = some (rF, σF)) : Ct l kv D [(cA, .int)] yX5_restore cX5_restore 1 (some .int) 2 39 (wC ad cA σ) (wC ad cA σF) [.ref (ad 0)] (some (.int rF)) := by
  refine Ct.ofW (by decide) (Nat.le_of_ble_eq_true rfl) ?_
  intro p e s m below meth c A args CF hr hlk hA hP hK hD hN hW hS ls hl
  have hx := CF.1
  have hb := CF.2.1
  have hml := CF.2.2.1
  have hown := CF.2.2.2.1
  have hw : ∀ w ∈ wsA, w.before args s = true := fun w h => CF.2.2.2.2 w (List.mem_cons_of_mem _ h)
  have hl : lv_has ls 1 [(0, .ref (ad 0))] := hl
  unfold fX5_restore at hf
  refine lv_aload_n (pc := 0) hx hb dX5_restore_0 rfl (lv_at hl 0 rfl) ?_
  refine gc_0_hasImage (pc := 1) CF hK hP mF_X5_51 dX5_restore_1 ?_
  refine lv_if_ne (pc := 4) (tgt := 10) hx hb dX5_restore_4 (by decide) (fun c4 => ?_) (fun c4 => ?_)
  · have hf := zz_f c4 hf
    refine lv_aload_n (pc := 10) hx hb dX5_restore_10 rfl (lv_at hl 0 rfl) ?_
    refine gc_0_now (pc := 11) CF hK hP mF_X5_26 dX5_restore_11 ?_
    refine lv_aload_n (pc := 14) hx hb dX5_restore_14 rfl (lv_at hl 0 rfl) ?_
    refine gc_0_kept (pc := 15) CF hK hP mF_X5_30 dX5_restore_15 ?_
    obtain ⟨σ18, h18, hf⟩ := zz_o hf
    refine cV (pc := 18) (rest := []) (st1 := []) (q0 := 5) CF (tX2_copy_5_13 h18) hK hP hD hS hA hN hW mL_X5_193 kX2_copy nX2_copy rfl rfl rfl rfl ⟨by decide, by decide⟩ hl.1 (Nat.le_of_ble_eq_true rfl) ⟨Nat.le_refl _, Nat.le_refl _⟩ rfl dX5_restore_18 (fun H locs hP hD hS => ?_)
    refine lv_aload_n (pc := 21) hx hb dX5_restore_21 rfl (lv_at hl 0 rfl) ?_
    refine gc_0_now (pc := 22) CF hK hP mF_X5_26 dX5_restore_22 ?_
    refine gcN_5_days (pc := 25) CF hK hP hN (nf 12) dX5_restore_25 ?_
    exact retIw (wf := wC ad cA) hx hb hr hlk hf hP hD hS dX5_restore_28
  · have hf := zz_t c4 hf
    refine lv_bipush (pc := 7) (v := (-103)) hx hb dX5_restore_7 (by decide) ?_
    exact retIw (wf := wC ad cA) hx hb hr hlk hf hP hD hS dX5_restore_9
set_option maxHeartbeats 4000000 in
set_option maxRecDepth 100000 in
theorem tX5_lengthOfAll {l : Launch} {kv : Nat × Nat} {D : va_G} {N : Nat} {ad : Nat → Nat} {cA : ClassId} {σ : SC} {rF : Int32} (hf : fX5_lengthOfAll N σ = some rF) : Ct l kv D [(cA, .int)] yX5_lengthOfAll cX5_lengthOfAll 3 (some .int) 3 67 (wC ad cA σ) (wC ad cA σ) [.ref (ad 0)] (some (.int rF)) := by
  refine Ct.ofW (by decide) (Nat.le_of_ble_eq_true rfl) ?_
  intro p e s m below meth c A args CF hr hlk hA hP hK hD hN hW hS ls hl
  have hx := CF.1
  have hb := CF.2.1
  have hml := CF.2.2.1
  have hown := CF.2.2.2.1
  have hw : ∀ w ∈ wsA, w.before args s = true := fun w h => CF.2.2.2.2 w (List.mem_cons_of_mem _ h)
  have hl : lv_has ls 3 [(0, .ref (ad 0))] := hl
  unfold fX5_lengthOfAll at hf
  have L4 : ∀ (n4 : Nat) (x1 : Int32) (x2 : Int32) (H : Heap) (locs : List Loc) (ls : Array Slot), va_P D vwCl (wC ad cA σ) H → va_D A (wC ad cA σ) → va_S A s.heap H locs → lv_has ls 3 [(0, .ref (ad 0)), (1, .int x1), (2, .int x2)] → fX5_lengthOfAll_4 N n4 σ x1 x2 = some rF → G p l e 3 67 s m args below meth c D A (wC ad cA σ) (some (.int rF)) H locs (F0 m 4 ls []) := by
    intro n4
    induction n4 with
    | zero => intro x1 x2 H locs ls hP hD hS hl hf; exact absurd hf (by simp [fX5_lengthOfAll_4])
    | succ n4 ih4 =>
      intro x1 x2 H locs ls hP hD hS hl hf
      rw [fX5_lengthOfAll_4] at hf
      refine lv_iload_n (pc := 4) hx hb dX5_lengthOfAll_4 rfl (lv_at hl 2 rfl) ?_
      refine lv_iconst (pc := 5) (v := 3) hx hb dX5_lengthOfAll_5 (by decide) ?_
      refine lv_icmp_ge (pc := 6) (tgt := 23) hx hb dX5_lengthOfAll_6 (by decide) (fun c6 => ?_) (fun c6 => ?_)
      · have hf := zz_t c6 hf
        refine lv_iload_n (pc := 23) hx hb dX5_lengthOfAll_23 rfl (lv_at hl 1 rfl) ?_
        exact retI hx hb hr hlk hf hP hD hS dX5_lengthOfAll_24
      · have hf := zz_f c6 hf
        refine lv_iload_n (pc := 9) hx hb dX5_lengthOfAll_9 rfl (lv_at hl 1 rfl) ?_
        refine lv_aload_n (pc := 10) hx hb dX5_lengthOfAll_10 rfl (lv_at hl 0 rfl) ?_
        refine lv_iload_n (pc := 11) hx hb dX5_lengthOfAll_11 rfl (lv_at hl 2 rfl) ?_
        obtain ⟨v12, h12, hf⟩ := zz_o hf
        refine cV (pc := 12) (rest := [.int x1]) (st1 := [.int v12, .int x1]) (q0 := 0) CF (tX5_lengthOf h12) hK hP hD hS hA hN hW mL_X5_141 kX5_lengthOf nX5_lengthOf rfl rfl rfl rfl ⟨by decide, by decide⟩ hl.1 (Nat.le_of_ble_eq_true rfl) ⟨Nat.le_refl _, Nat.le_refl _⟩ rfl dX5_lengthOfAll_12 (fun H locs hP hD hS => ?_)
        refine lv_iadd (pc := 15) hx hb dX5_lengthOfAll_15 ?_
        refine lv_istore_n (pc := 16) (lv' := [(1, .int (x1 + v12)), (0, .ref (ad 0)), (2, .int x2)]) hx hb dX5_lengthOfAll_16 rfl hl (by decide) rfl (fun ls hl => ?_)
        refine lv_iinc (pc := 17) (v := (x2 + 1)) (lv' := [(2, .int (x2 + 1)), (1, .int (x1 + v12)), (0, .ref (ad 0))]) hx hb dX5_lengthOfAll_17 hl (k := 2) rfl rfl (by decide) rfl (fun ls hl => ?_)
        refine lv_goto (pc := 20) (tgt := 4) hx hb dX5_lengthOfAll_20 (by decide) ?_
        exact ih4 (x1 + v12) (x2 + 1) _ _ _ hP hD hS (lv_sub hl [2, 1, 0] rfl) hf
  refine lv_iconst (pc := 0) (v := 0) hx hb dX5_lengthOfAll_0 (by decide) ?_
  refine lv_istore_n (pc := 1) (lv' := [(1, .int 0), (0, .ref (ad 0))]) hx hb dX5_lengthOfAll_1 rfl hl (by decide) rfl (fun ls hl => ?_)
  refine lv_iconst (pc := 2) (v := 0) hx hb dX5_lengthOfAll_2 (by decide) ?_
  refine lv_istore_n (pc := 3) (lv' := [(2, .int 0), (1, .int 0), (0, .ref (ad 0))]) hx hb dX5_lengthOfAll_3 rfl hl (by decide) rfl (fun ls hl => ?_)
  exact L4 N 0 0 _ _ _ hP hD hS (lv_sub hl [2, 1, 0] rfl) hf
set_option maxHeartbeats 4000000 in
set_option maxRecDepth 100000 in
theorem tX2_hearings {l : Launch} {kv : Nat × Nat} {D : va_G} {N : Nat} {ad : Nat → Nat} {cA : ClassId} {σ : SC} {rF : Int32} (hf : fX2_hearings N σ = some rF) : Ct l kv D [(cA, .int)] yX2_hearings cX2_hearings 3 (some .int) 1 20 (wC ad cA σ) (wC ad cA σ) [.ref (ad 5)] (some (.int rF)) := by
  refine Ct.ofW (by decide) (Nat.le_of_ble_eq_true rfl) ?_
  intro p e s m below meth c A args CF hr hlk hA hP hK hD hN hW hS ls hl
  have hx := CF.1
  have hb := CF.2.1
  have hml := CF.2.2.1
  have hown := CF.2.2.2.1
  have hw : ∀ w ∈ wsA, w.before args s = true := fun w h => CF.2.2.2.2 w (List.mem_cons_of_mem _ h)
  have hl : lv_has ls 3 [(0, .ref (ad 5))] := hl
  unfold fX2_hearings at hf
  have L4 : ∀ (n4 : Nat) (x1 : Int32) (x2 : Int32) (H : Heap) (locs : List Loc) (ls : Array Slot), va_P D vwCl (wC ad cA σ) H → va_D A (wC ad cA σ) → va_S A s.heap H locs → lv_has ls 3 [(0, .ref (ad 5)), (1, .int x1), (2, .int x2)] → fX2_hearings_4 N n4 σ x1 x2 = some rF → G p l e 1 20 s m args below meth c D A (wC ad cA σ) (some (.int rF)) H locs (F0 m 4 ls []) := by
    intro n4
    induction n4 with
    | zero => intro x1 x2 H locs ls hP hD hS hl hf; exact absurd hf (by simp [fX2_hearings_4])
    | succ n4 ih4 =>
      intro x1 x2 H locs ls hP hD hS hl hf
      rw [fX2_hearings_4] at hf
      refine lv_iload_n (pc := 4) hx hb dX2_hearings_4 rfl (lv_at hl 2 rfl) ?_
      refine lv_iconst (pc := 5) (v := 3) hx hb dX2_hearings_5 (by decide) ?_
      refine lv_icmp_ge (pc := 6) (tgt := 27) hx hb dX2_hearings_6 (by decide) (fun c6 => ?_) (fun c6 => ?_)
      · have hf := zz_t c6 hf
        refine lv_iload_n (pc := 27) hx hb dX2_hearings_27 rfl (lv_at hl 1 rfl) ?_
        exact retI hx hb hr hlk hf hP hD hS dX2_hearings_28
      · have hf := zz_f c6 hf
        refine lv_iload_n (pc := 9) hx hb dX2_hearings_9 rfl (lv_at hl 1 rfl) ?_
        refine lv_aload_n (pc := 10) hx hb dX2_hearings_10 rfl (lv_at hl 0 rfl) ?_
        refine gc_5_heard (pc := 11) CF hK hP mF_X2_18 dX2_hearings_11 ?_
        refine lv_iload_n (pc := 14) hx hb dX2_hearings_14 rfl (lv_at hl 2 rfl) ?_
        obtain ⟨c15, hf⟩ := zz_k hf
        refine lc_heard (pc := 15) hx hb hK hP c15 dX2_hearings_15 ?_
        obtain ⟨v16, h16, hf⟩ := zz_o hf
        refine cSt (pc := 16) (rest := [.int x1]) (st1 := [.int v16, .int x1]) CF (tJ6_bitCount_0f7a4 h16) hK hP hD hS hA hN hW mL_X2_57 kJ6_bitCount_0f7a4 nJ6_bitCount_0f7a4 rfl rfl ⟨by decide, by decide⟩ hl.1 (Nat.le_of_ble_eq_true rfl) ⟨Nat.le_refl _, Nat.le_refl _⟩ rfl dX2_hearings_16 (fun H locs hP hD hS => ?_)
        refine lv_iadd (pc := 19) hx hb dX2_hearings_19 ?_
        refine lv_istore_n (pc := 20) (lv' := [(1, .int (x1 + v16)), (0, .ref (ad 5)), (2, .int x2)]) hx hb dX2_hearings_20 rfl hl (by decide) rfl (fun ls hl => ?_)
        refine lv_iinc (pc := 21) (v := (x2 + 1)) (lv' := [(2, .int (x2 + 1)), (1, .int (x1 + v16)), (0, .ref (ad 5))]) hx hb dX2_hearings_21 hl (k := 2) rfl rfl (by decide) rfl (fun ls hl => ?_)
        refine lv_goto (pc := 24) (tgt := 4) hx hb dX2_hearings_24 (by decide) ?_
        exact ih4 (x1 + v16) (x2 + 1) _ _ _ hP hD hS (lv_sub hl [2, 1, 0] rfl) hf
  refine lv_iconst (pc := 0) (v := 0) hx hb dX2_hearings_0 (by decide) ?_
  refine lv_istore_n (pc := 1) (lv' := [(1, .int 0), (0, .ref (ad 5))]) hx hb dX2_hearings_1 rfl hl (by decide) rfl (fun ls hl => ?_)
  refine lv_iconst (pc := 2) (v := 0) hx hb dX2_hearings_2 (by decide) ?_
  refine lv_istore_n (pc := 3) (lv' := [(2, .int 0), (1, .int 0), (0, .ref (ad 5))]) hx hb dX2_hearings_3 rfl hl (by decide) rfl (fun ls hl => ?_)
  exact L4 N 0 0 _ _ _ hP hD hS (lv_sub hl [2, 1, 0] rfl) hf
set_option maxHeartbeats 4000000 in
set_option maxRecDepth 100000 in
theorem tX5_count {l : Launch} {kv : Nat × Nat} {D : va_G} {N : Nat} {ad : Nat → Nat} {cA : ClassId} {σ : SC} {x1 : Int32} {rF : Int32} (hf : fX5_count N σ x1 = some rF) : Ct l kv D [(cA, .int)] yX5_count cX5_count 2 (some .int) 4 89 (wC ad cA σ) (wC ad cA σ) [.ref (ad 0), .int x1] (some (.int rF)) := by
  refine Ct.ofW (by decide) (Nat.le_of_ble_eq_true rfl) ?_
  intro p e s m below meth c A args CF hr hlk hA hP hK hD hN hW hS ls hl
  have hx := CF.1
  have hb := CF.2.1
  have hml := CF.2.2.1
  have hown := CF.2.2.2.1
  have hw : ∀ w ∈ wsA, w.before args s = true := fun w h => CF.2.2.2.2 w (List.mem_cons_of_mem _ h)
  have hl : lv_has ls 2 [(0, .ref (ad 0)), (1, .int x1)] := hl
  unfold fX5_count at hf
  refine lv_iload_n (pc := 0) hx hb dX5_count_0 rfl (lv_at hl 1 rfl) ?_
  by_cases c1_0 : x1 = 0
  · have hf := zz_t c1_0 hf
    refine lv_tableIn (pc := 1) (tgt := 52) hx hb dX5_count_1 (by rw [c1_0] <;> decide) (by rw [c1_0] <;> decide) (by rw [c1_0] <;> rfl) (by decide) ?_
    refine lv_aload_n (pc := 52) hx hb dX5_count_52 rfl (lv_at hl 0 rfl) ?_
    refine gc_0_ground (pc := 53) CF hK hP mF_X5_19 dX5_count_53 ?_
    refine gcN_3_people (pc := 56) CF hK hP hN (nf 3) dX5_count_56 ?_
    exact retI hx hb hr hlk hf hP hD hS dX5_count_59
  have hf := zz_f c1_0 hf
  by_cases c1_1 : x1 = 1
  · have hf := zz_t c1_1 hf
    refine lv_tableIn (pc := 1) (tgt := 60) hx hb dX5_count_1 (by rw [c1_1] <;> decide) (by rw [c1_1] <;> decide) (by rw [c1_1] <;> rfl) (by decide) ?_
    refine lv_aload_n (pc := 60) hx hb dX5_count_60 rfl (lv_at hl 0 rfl) ?_
    refine gc_0_ground (pc := 61) CF hK hP mF_X5_19 dX5_count_61 ?_
    refine gcN_3_river (pc := 64) CF hK hP hN (nf 4) dX5_count_64 ?_
    exact retI hx hb hr hlk hf hP hD hS dX5_count_67
  have hf := zz_f c1_1 hf
  by_cases c1_2 : x1 = 2
  · have hf := zz_t c1_2 hf
    refine lv_tableIn (pc := 1) (tgt := 68) hx hb dX5_count_1 (by rw [c1_2] <;> decide) (by rw [c1_2] <;> decide) (by rw [c1_2] <;> rfl) (by decide) ?_
    refine lv_aload_n (pc := 68) hx hb dX5_count_68 rfl (lv_at hl 0 rfl) ?_
    refine gc_0_now (pc := 69) CF hK hP mF_X5_26 dX5_count_69 ?_
    refine gcN_5_days (pc := 72) CF hK hP hN (nf 12) dX5_count_72 ?_
    exact retI hx hb hr hlk hf hP hD hS dX5_count_75
  have hf := zz_f c1_2 hf
  by_cases c1_3 : x1 = 3
  · have hf := zz_t c1_3 hf
    refine lv_tableIn (pc := 1) (tgt := 76) hx hb dX5_count_1 (by rw [c1_3] <;> decide) (by rw [c1_3] <;> decide) (by rw [c1_3] <;> rfl) (by decide) ?_
    refine lv_aload_n (pc := 76) hx hb dX5_count_76 rfl (lv_at hl 0 rfl) ?_
    obtain ⟨v77, h77, hf⟩ := zz_o hf
    refine cV (pc := 77) (rest := []) (st1 := [.int v77]) (q0 := 0) CF (tX5_lengthOfAll h77) hK hP hD hS hA hN hW mL_X5_200 kX5_lengthOfAll nX5_lengthOfAll rfl rfl rfl rfl ⟨by decide, by decide⟩ hl.1 (Nat.le_of_ble_eq_true rfl) ⟨Nat.le_refl _, Nat.le_refl _⟩ rfl dX5_count_77 (fun H locs hP hD hS => ?_)
    exact retI hx hb hr hlk hf hP hD hS dX5_count_80
  have hf := zz_f c1_3 hf
  by_cases c1_4 : x1 = 4
  · have hf := zz_t c1_4 hf
    refine lv_tableIn (pc := 1) (tgt := 81) hx hb dX5_count_1 (by rw [c1_4] <;> decide) (by rw [c1_4] <;> decide) (by rw [c1_4] <;> rfl) (by decide) ?_
    refine lv_aload_n (pc := 81) hx hb dX5_count_81 rfl (lv_at hl 0 rfl) ?_
    refine gc_0_now (pc := 82) CF hK hP mF_X5_26 dX5_count_82 ?_
    obtain ⟨v85, h85, hf⟩ := zz_o hf
    refine cV (pc := 85) (rest := []) (st1 := [.int v85]) (q0 := 5) CF (tX2_hearings h85) hK hP hD hS hA hN hW mL_X5_203 kX2_hearings nX2_hearings rfl rfl rfl rfl ⟨by decide, by decide⟩ hl.1 (Nat.le_of_ble_eq_true rfl) ⟨Nat.le_refl _, Nat.le_refl _⟩ rfl dX5_count_85 (fun H locs hP hD hS => ?_)
    exact retI hx hb hr hlk hf hP hD hS dX5_count_88
  have hf := zz_f c1_4 hf
  by_cases c1_5 : x1 = 5
  · have hf := zz_t c1_5 hf
    refine lv_tableIn (pc := 1) (tgt := 89) hx hb dX5_count_1 (by rw [c1_5] <;> decide) (by rw [c1_5] <;> decide) (by rw [c1_5] <;> rfl) (by decide) ?_
    refine lv_aload_n (pc := 89) hx hb dX5_count_89 rfl (lv_at hl 0 rfl) ?_
    refine gc_0_now (pc := 90) CF hK hP mF_X5_26 dX5_count_90 ?_
    refine gcN_5_changes (pc := 93) CF hK hP hN (nf 13) dX5_count_93 ?_
    exact retI hx hb hr hlk hf hP hD hS dX5_count_96
  have hf := zz_f c1_5 hf
  by_cases c1_6 : x1 = 6
  · have hf := zz_t c1_6 hf
    refine lv_tableIn (pc := 1) (tgt := 97) hx hb dX5_count_1 (by rw [c1_6] <;> decide) (by rw [c1_6] <;> decide) (by rw [c1_6] <;> rfl) (by decide) ?_
    refine lv_aload_n (pc := 97) hx hb dX5_count_97 rfl (lv_at hl 0 rfl) ?_
    refine gc_0_now (pc := 98) CF hK hP mF_X5_26 dX5_count_98 ?_
    refine gcN_5_asked (pc := 101) CF hK hP hN (nf 11) dX5_count_101 ?_
    exact retI hx hb hr hlk hf hP hD hS dX5_count_104
  have hf := zz_f c1_6 hf
  by_cases c1_7 : x1 = 7
  · have hf := zz_t c1_7 hf
    refine lv_tableIn (pc := 1) (tgt := 105) hx hb dX5_count_1 (by rw [c1_7] <;> decide) (by rw [c1_7] <;> decide) (by rw [c1_7] <;> rfl) (by decide) ?_
    refine lv_aload_n (pc := 105) hx hb dX5_count_105 rfl (lv_at hl 0 rfl) ?_
    refine gc_0_page (pc := 106) CF hK hP mF_X5_10 dX5_count_106 ?_
    refine gcN_1_length (pc := 109) CF hK hP hN (nf 0) dX5_count_109 ?_
    exact retI hx hb hr hlk hf hP hD hS dX5_count_112
  have hf := zz_f c1_7 hf
  by_cases c1_8 : x1 = 8
  · have hf := zz_t c1_8 hf
    refine lv_tableIn (pc := 1) (tgt := 113) hx hb dX5_count_1 (by rw [c1_8] <;> decide) (by rw [c1_8] <;> decide) (by rw [c1_8] <;> rfl) (by decide) ?_
    refine lv_aload_n (pc := 113) hx hb dX5_count_113 rfl (lv_at hl 0 rfl) ?_
    refine gc_0_readings (pc := 114) CF hK hP mF_X5_55 dX5_count_114 ?_
    exact retI hx hb hr hlk hf hP hD hS dX5_count_117
  have hf := zz_f c1_8 hf
  refine lv_tableOut (pc := 1) (tgt := 118) hx hb dX5_count_1 (sw_0_8 (lv_neT (a := 0) c1_0 rfl) (lv_neT (a := 1) c1_1 rfl) (lv_neT (a := 2) c1_2 rfl) (lv_neT (a := 3) c1_3 rfl) (lv_neT (a := 4) c1_4 rfl) (lv_neT (a := 5) c1_5 rfl) (lv_neT (a := 6) c1_6 rfl) (lv_neT (a := 7) c1_7 rfl) (lv_neT (a := 8) c1_8 rfl)) (by decide) ?_
  refine lv_bipush (pc := 118) (v := (-102)) hx hb dX5_count_118 (by decide) ?_
  exact retI hx hb hr hlk hf hP hD hS dX5_count_120
set_option maxHeartbeats 4000000 in
set_option maxRecDepth 100000 in
theorem tX5_mixed {l : Launch} {kv : Nat × Nat} {D : va_G} {N : Nat} {tys : List (ClassId × FieldType)} {ws : va_W} {x0 : Int64} {x2 : Int64} {rF : Int64} (hf : fX5_mixed N x0 x2 = some rF) : Ct l kv D tys yX5_mixed cX5_mixed 4 (some .long) 0 0 ws ws [.long x0, .long x2] (some (.long rF)) := by
  refine Ct.ofW (by decide) (Nat.le_of_ble_eq_true rfl) ?_
  intro p e s m below meth c A args CF hr hlk hA hP hK hD hN hW hS ls hl
  have hx := CF.1
  have hb := CF.2.1
  have hml := CF.2.2.1
  have hown := CF.2.2.2.1
  have hw : ∀ w ∈ wsA, w.before args s = true := fun w h => CF.2.2.2.2 w (List.mem_cons_of_mem _ h)
  have hl : lv_has ls 4 [(0, .long x0), (2, .long x2)] := hl
  unfold fX5_mixed at hf
  refine lv_ldc2 (pc := 0) hx hb hown (hw _ mK_X5_243) dX5_mixed_0 ?_
  refine lv_lload_n (pc := 3) hx hb dX5_mixed_3 rfl (lv_at hl 0 rfl) ?_
  refine lv_lmul (pc := 4) hx hb dX5_mixed_4 ?_
  refine lv_lload_n (pc := 5) hx hb dX5_mixed_5 rfl (lv_at hl 1 rfl) ?_
  refine lv_ladd (pc := 6) hx hb dX5_mixed_6 ?_
  exact retL hx hb hr hlk hf hP hD hS dX5_mixed_7
set_option maxHeartbeats 4000000 in
set_option maxRecDepth 100000 in
theorem tX5_withPeople {l : Launch} {kv : Nat × Nat} {D : va_G} {N : Nat} {ad : Nat → Nat} {cA : ClassId} {σ : SC} {x1 : Int64} {rF : Int64} (hf : fX5_withPeople N σ x1 = some rF) : Ct l kv D [(cA, .int)] yX5_withPeople cX5_withPeople 7 (some .long) 5 115 (wC ad cA σ) (wC ad cA σ) [.ref (ad 0), .long x1] (some (.long rF)) := by
  refine Ct.ofW (by decide) (Nat.le_of_ble_eq_true rfl) ?_
  intro p e s m below meth c A args CF hr hlk hA hP hK hD hN hW hS ls hl
  have hx := CF.1
  have hb := CF.2.1
  have hml := CF.2.2.1
  have hown := CF.2.2.2.1
  have hw : ∀ w ∈ wsA, w.before args s = true := fun w h => CF.2.2.2.2 w (List.mem_cons_of_mem _ h)
  have hl : lv_has ls 7 [(0, .ref (ad 0)), (1, .long x1)] := hl
  unfold fX5_withPeople at hf
  have L5 : ∀ (n5 : Nat) (x3 : Int64) (x5 : Int32) (H : Heap) (locs : List Loc) (ls : Array Slot), va_P D vwCl (wC ad cA σ) H → va_D A (wC ad cA σ) → va_S A s.heap H locs → lv_has ls 7 [(0, .ref (ad 0)), (3, .long x3), (5, .int x5)] → fX5_withPeople_5 N n5 σ x3 x5 = some rF → G p l e 5 115 s m args below meth c D A (wC ad cA σ) (some (.long rF)) H locs (F0 m 5 ls []) := by
    intro n5
    induction n5 with
    | zero => intro x3 x5 H locs ls hP hD hS hl hf; exact absurd hf (by simp [fX5_withPeople_5])
    | succ n5 ih5 =>
      have L20 : ∀ (n20 : Nat) (x3 : Int64) (x5 : Int32) (x6 : Int32) (H : Heap) (locs : List Loc) (ls : Array Slot), va_P D vwCl (wC ad cA σ) H → va_D A (wC ad cA σ) → va_S A s.heap H locs → lv_has ls 7 [(0, .ref (ad 0)), (3, .long x3), (5, .int x5), (6, .int x6)] → fX5_withPeople_20 N (fX5_withPeople_5 N n5) n20 σ x3 x5 x6 = some rF → G p l e 5 115 s m args below meth c D A (wC ad cA σ) (some (.long rF)) H locs (F0 m 20 ls []) := by
        intro n20
        induction n20 with
        | zero => intro x3 x5 x6 H locs ls hP hD hS hl hf; exact absurd hf (by simp [fX5_withPeople_20])
        | succ n20 ih20 =>
          intro x3 x5 x6 H locs ls hP hD hS hl hf
          rw [fX5_withPeople_20] at hf
          refine lv_iload (pc := 20) hx hb dX5_withPeople_20 (lv_at hl 3 rfl) ?_
          refine lv_bipush (pc := 22) (v := 6) hx hb dX5_withPeople_22 (by decide) ?_
          refine lv_icmp_ge (pc := 24) (tgt := 47) hx hb dX5_withPeople_24 (by decide) (fun c24 => ?_) (fun c24 => ?_)
          · have hf := zz_t c24 hf
            refine lv_iinc (pc := 47) (v := (x5 + 1)) (lv' := [(5, .int (x5 + 1)), (0, .ref (ad 0)), (3, .long x3), (6, .int x6)]) hx hb dX5_withPeople_47 hl (k := 2) rfl rfl (by decide) rfl (fun ls hl => ?_)
            refine lv_goto (pc := 50) (tgt := 5) hx hb dX5_withPeople_50 (by decide) ?_
            exact ih5 x3 (x5 + 1) _ _ _ hP hD hS (lv_sub hl [1, 2, 0] rfl) hf
          · have hf := zz_f c24 hf
            refine lv_lload_n (pc := 27) hx hb dX5_withPeople_27 rfl (lv_at hl 1 rfl) ?_
            refine lv_aload_n (pc := 28) hx hb dX5_withPeople_28 rfl (lv_at hl 0 rfl) ?_
            refine lv_iload (pc := 29) hx hb dX5_withPeople_29 (lv_at hl 2 rfl) ?_
            refine lv_iload (pc := 31) hx hb dX5_withPeople_31 (lv_at hl 3 rfl) ?_
            obtain ⟨v33, h33, hf⟩ := zz_o hf
            refine cV (pc := 33) (rest := [.long x3]) (st1 := [.int v33, .long x3]) (q0 := 0) CF (tX5_person h33) hK hP hD hS hA hN hW mL_X5_234 kX5_person nX5_person rfl rfl rfl rfl ⟨by decide, by decide⟩ hl.1 (Nat.le_of_ble_eq_true rfl) ⟨Nat.le_refl _, Nat.le_refl _⟩ rfl dX5_withPeople_33 (fun H locs hP hD hS => ?_)
            refine lv_i2l (pc := 36) (v := v33.toInt64) hx hb dX5_withPeople_36 rfl ?_
            obtain ⟨v37, h37, hf⟩ := zz_o hf
            refine cSt (pc := 37) (rest := []) (st1 := [.long v37]) CF (tX5_mixed h37) hK hP hD hS hA hN hW mL_X5_218 kX5_mixed nX5_mixed rfl rfl ⟨by decide, by decide⟩ hl.1 (Nat.le_of_ble_eq_true rfl) ⟨Nat.le_refl _, Nat.le_refl _⟩ rfl dX5_withPeople_37 (fun H locs hP hD hS => ?_)
            refine lv_lstore_n (pc := 40) (lv' := [(3, .long v37), (0, .ref (ad 0)), (5, .int x5), (6, .int x6)]) hx hb dX5_withPeople_40 rfl hl (by decide) rfl (fun ls hl => ?_)
            refine lv_iinc (pc := 41) (v := (x6 + 1)) (lv' := [(6, .int (x6 + 1)), (3, .long v37), (0, .ref (ad 0)), (5, .int x5)]) hx hb dX5_withPeople_41 hl (k := 3) rfl rfl (by decide) rfl (fun ls hl => ?_)
            refine lv_goto (pc := 44) (tgt := 20) hx hb dX5_withPeople_44 (by decide) ?_
            exact ih20 v37 x5 (x6 + 1) _ _ _ hP hD hS (lv_sub hl [2, 1, 3, 0] rfl) hf
      intro x3 x5 H locs ls hP hD hS hl hf
      rw [fX5_withPeople_5] at hf
      refine lv_iload (pc := 5) hx hb dX5_withPeople_5 (lv_at hl 2 rfl) ?_
      refine lv_aload_n (pc := 7) hx hb dX5_withPeople_7 rfl (lv_at hl 0 rfl) ?_
      refine gc_0_ground (pc := 8) CF hK hP mF_X5_19 dX5_withPeople_8 ?_
      refine gcN_3_people (pc := 11) CF hK hP hN (nf 3) dX5_withPeople_11 ?_
      refine lv_icmp_ge (pc := 14) (tgt := 53) hx hb dX5_withPeople_14 (by decide) (fun c14 => ?_) (fun c14 => ?_)
      · have hf := zz_t c14 hf
        refine lv_lload_n (pc := 53) hx hb dX5_withPeople_53 rfl (lv_at hl 1 rfl) ?_
        exact retL hx hb hr hlk hf hP hD hS dX5_withPeople_54
      · have hf := zz_f c14 hf
        refine lv_iconst (pc := 17) (v := 0) hx hb dX5_withPeople_17 (by decide) ?_
        refine lv_istore (pc := 18) (lv' := [(6, .int 0), (0, .ref (ad 0)), (3, .long x3), (5, .int x5)]) hx hb dX5_withPeople_18 hl (by decide) rfl (fun ls hl => ?_)
        exact L20 N x3 x5 0 _ _ _ hP hD hS (lv_sub hl [1, 2, 3, 0] rfl) hf
  refine lv_lload_n (pc := 0) hx hb dX5_withPeople_0 rfl (lv_at hl 1 rfl) ?_
  refine lv_lstore_n (pc := 1) (lv' := [(3, .long x1), (0, .ref (ad 0)), (1, .long x1)]) hx hb dX5_withPeople_1 rfl hl (by decide) rfl (fun ls hl => ?_)
  refine lv_iconst (pc := 2) (v := 0) hx hb dX5_withPeople_2 (by decide) ?_
  refine lv_istore (pc := 3) (lv' := [(5, .int 0), (3, .long x1), (0, .ref (ad 0)), (1, .long x1)]) hx hb dX5_withPeople_3 hl (by decide) rfl (fun ls hl => ?_)
  exact L5 N x1 0 _ _ _ hP hD hS (lv_sub hl [2, 1, 0] rfl) hf
set_option maxHeartbeats 4000000 in
set_option maxRecDepth 100000 in
theorem tX5_withTunnels {l : Launch} {kv : Nat × Nat} {D : va_G} {N : Nat} {ad : Nat → Nat} {cA : ClassId} {σ : SC} {x1 : Int64} {rF : Int64} (hf : fX5_withTunnels N σ x1 = some rF) : Ct l kv D [(cA, .int)] yX5_withTunnels cX5_withTunnels 7 (some .long) 4 94 (wC ad cA σ) (wC ad cA σ) [.ref (ad 0), .long x1] (some (.long rF)) := by
  refine Ct.ofW (by decide) (Nat.le_of_ble_eq_true rfl) ?_
  intro p e s m below meth c A args CF hr hlk hA hP hK hD hN hW hS ls hl
  have hx := CF.1
  have hb := CF.2.1
  have hml := CF.2.2.1
  have hown := CF.2.2.2.1
  have hw : ∀ w ∈ wsA, w.before args s = true := fun w h => CF.2.2.2.2 w (List.mem_cons_of_mem _ h)
  have hl : lv_has ls 7 [(0, .ref (ad 0)), (1, .long x1)] := hl
  unfold fX5_withTunnels at hf
  have L5 : ∀ (n5 : Nat) (x3 : Int64) (x5 : Int32) (H : Heap) (locs : List Loc) (ls : Array Slot), va_P D vwCl (wC ad cA σ) H → va_D A (wC ad cA σ) → va_S A s.heap H locs → lv_has ls 7 [(0, .ref (ad 0)), (3, .long x3), (5, .int x5)] → fX5_withTunnels_5 N n5 σ x3 x5 = some rF → G p l e 4 94 s m args below meth c D A (wC ad cA σ) (some (.long rF)) H locs (F0 m 5 ls []) := by
    intro n5
    induction n5 with
    | zero => intro x3 x5 H locs ls hP hD hS hl hf; exact absurd hf (by simp [fX5_withTunnels_5])
    | succ n5 ih5 =>
      have L14 : ∀ (n14 : Nat) (x3 : Int64) (x5 : Int32) (x6 : Int32) (H : Heap) (locs : List Loc) (ls : Array Slot), va_P D vwCl (wC ad cA σ) H → va_D A (wC ad cA σ) → va_S A s.heap H locs → lv_has ls 7 [(0, .ref (ad 0)), (3, .long x3), (5, .int x5), (6, .int x6)] → fX5_withTunnels_14 N (fX5_withTunnels_5 N n5) n14 σ x3 x5 x6 = some rF → G p l e 4 94 s m args below meth c D A (wC ad cA σ) (some (.long rF)) H locs (F0 m 14 ls []) := by
        intro n14
        induction n14 with
        | zero => intro x3 x5 x6 H locs ls hP hD hS hl hf; exact absurd hf (by simp [fX5_withTunnels_14])
        | succ n14 ih14 =>
          intro x3 x5 x6 H locs ls hP hD hS hl hf
          rw [fX5_withTunnels_14] at hf
          refine lv_iload (pc := 14) hx hb dX5_withTunnels_14 (lv_at hl 3 rfl) ?_
          refine lv_iconst (pc := 16) (v := 5) hx hb dX5_withTunnels_16 (by decide) ?_
          refine lv_icmp_ge (pc := 17) (tgt := 40) hx hb dX5_withTunnels_17 (by decide) (fun c17 => ?_) (fun c17 => ?_)
          · have hf := zz_t c17 hf
            refine lv_iinc (pc := 40) (v := (x5 + 1)) (lv' := [(5, .int (x5 + 1)), (0, .ref (ad 0)), (3, .long x3), (6, .int x6)]) hx hb dX5_withTunnels_40 hl (k := 2) rfl rfl (by decide) rfl (fun ls hl => ?_)
            refine lv_goto (pc := 43) (tgt := 5) hx hb dX5_withTunnels_43 (by decide) ?_
            exact ih5 x3 (x5 + 1) _ _ _ hP hD hS (lv_sub hl [1, 2, 0] rfl) hf
          · have hf := zz_f c17 hf
            refine lv_lload_n (pc := 20) hx hb dX5_withTunnels_20 rfl (lv_at hl 1 rfl) ?_
            refine lv_aload_n (pc := 21) hx hb dX5_withTunnels_21 rfl (lv_at hl 0 rfl) ?_
            refine lv_iload (pc := 22) hx hb dX5_withTunnels_22 (lv_at hl 2 rfl) ?_
            refine lv_iload (pc := 24) hx hb dX5_withTunnels_24 (lv_at hl 3 rfl) ?_
            obtain ⟨v26, h26, hf⟩ := zz_o hf
            refine cV (pc := 26) (rest := [.long x3]) (st1 := [.int v26, .long x3]) (q0 := 0) CF (tX5_tunnel h26) hK hP hD hS hA hN hW mL_X5_237 kX5_tunnel nX5_tunnel rfl rfl rfl rfl ⟨by decide, by decide⟩ hl.1 (Nat.le_of_ble_eq_true rfl) ⟨Nat.le_refl _, Nat.le_refl _⟩ rfl dX5_withTunnels_26 (fun H locs hP hD hS => ?_)
            refine lv_i2l (pc := 29) (v := v26.toInt64) hx hb dX5_withTunnels_29 rfl ?_
            obtain ⟨v30, h30, hf⟩ := zz_o hf
            refine cSt (pc := 30) (rest := []) (st1 := [.long v30]) CF (tX5_mixed h30) hK hP hD hS hA hN hW mL_X5_218 kX5_mixed nX5_mixed rfl rfl ⟨by decide, by decide⟩ hl.1 (Nat.le_of_ble_eq_true rfl) ⟨Nat.le_refl _, Nat.le_refl _⟩ rfl dX5_withTunnels_30 (fun H locs hP hD hS => ?_)
            refine lv_lstore_n (pc := 33) (lv' := [(3, .long v30), (0, .ref (ad 0)), (5, .int x5), (6, .int x6)]) hx hb dX5_withTunnels_33 rfl hl (by decide) rfl (fun ls hl => ?_)
            refine lv_iinc (pc := 34) (v := (x6 + 1)) (lv' := [(6, .int (x6 + 1)), (3, .long v30), (0, .ref (ad 0)), (5, .int x5)]) hx hb dX5_withTunnels_34 hl (k := 3) rfl rfl (by decide) rfl (fun ls hl => ?_)
            refine lv_goto (pc := 37) (tgt := 14) hx hb dX5_withTunnels_37 (by decide) ?_
            exact ih14 v30 x5 (x6 + 1) _ _ _ hP hD hS (lv_sub hl [2, 1, 3, 0] rfl) hf
      intro x3 x5 H locs ls hP hD hS hl hf
      rw [fX5_withTunnels_5] at hf
      refine lv_iload (pc := 5) hx hb dX5_withTunnels_5 (lv_at hl 2 rfl) ?_
      refine lv_iconst (pc := 7) (v := 3) hx hb dX5_withTunnels_7 (by decide) ?_
      refine lv_icmp_ge (pc := 8) (tgt := 46) hx hb dX5_withTunnels_8 (by decide) (fun c8 => ?_) (fun c8 => ?_)
      · have hf := zz_t c8 hf
        refine lv_lload_n (pc := 46) hx hb dX5_withTunnels_46 rfl (lv_at hl 1 rfl) ?_
        exact retL hx hb hr hlk hf hP hD hS dX5_withTunnels_47
      · have hf := zz_f c8 hf
        refine lv_iconst (pc := 11) (v := 0) hx hb dX5_withTunnels_11 (by decide) ?_
        refine lv_istore (pc := 12) (lv' := [(6, .int 0), (0, .ref (ad 0)), (3, .long x3), (5, .int x5)]) hx hb dX5_withTunnels_12 hl (by decide) rfl (fun ls hl => ?_)
        exact L14 N x3 x5 0 _ _ _ hP hD hS (lv_sub hl [1, 2, 3, 0] rfl) hf
  refine lv_lload_n (pc := 0) hx hb dX5_withTunnels_0 rfl (lv_at hl 1 rfl) ?_
  refine lv_lstore_n (pc := 1) (lv' := [(3, .long x1), (0, .ref (ad 0)), (1, .long x1)]) hx hb dX5_withTunnels_1 rfl hl (by decide) rfl (fun ls hl => ?_)
  refine lv_iconst (pc := 2) (v := 0) hx hb dX5_withTunnels_2 (by decide) ?_
  refine lv_istore (pc := 3) (lv' := [(5, .int 0), (3, .long x1), (0, .ref (ad 0)), (1, .long x1)]) hx hb dX5_withTunnels_3 hl (by decide) rfl (fun ls hl => ?_)
  exact L5 N x1 0 _ _ _ hP hD hS (lv_sub hl [2, 1, 0] rfl) hf
set_option maxHeartbeats 4000000 in
set_option maxRecDepth 100000 in
theorem tX5_withLetters {l : Launch} {kv : Nat × Nat} {D : va_G} {N : Nat} {ad : Nat → Nat} {cA : ClassId} {σ : SC} {x1 : Int64} {rF : Int64} (hf : fX5_withLetters N σ x1 = some rF) : Ct l kv D [(cA, .int)] yX5_withLetters cX5_withLetters 6 (some .long) 1 23 (wC ad cA σ) (wC ad cA σ) [.ref (ad 0), .long x1] (some (.long rF)) := by
  refine Ct.ofW (by decide) (Nat.le_of_ble_eq_true rfl) ?_
  intro p e s m below meth c A args CF hr hlk hA hP hK hD hN hW hS ls hl
  have hx := CF.1
  have hb := CF.2.1
  have hml := CF.2.2.1
  have hown := CF.2.2.2.1
  have hw : ∀ w ∈ wsA, w.before args s = true := fun w h => CF.2.2.2.2 w (List.mem_cons_of_mem _ h)
  have hl : lv_has ls 6 [(0, .ref (ad 0)), (1, .long x1)] := hl
  unfold fX5_withLetters at hf
  have L5 : ∀ (n5 : Nat) (x3 : Int64) (x5 : Int32) (H : Heap) (locs : List Loc) (ls : Array Slot), va_P D vwCl (wC ad cA σ) H → va_D A (wC ad cA σ) → va_S A s.heap H locs → lv_has ls 6 [(0, .ref (ad 0)), (3, .long x3), (5, .int x5)] → fX5_withLetters_5 N n5 σ x3 x5 = some rF → G p l e 1 23 s m args below meth c D A (wC ad cA σ) (some (.long rF)) H locs (F0 m 5 ls []) := by
    intro n5
    induction n5 with
    | zero => intro x3 x5 H locs ls hP hD hS hl hf; exact absurd hf (by simp [fX5_withLetters_5])
    | succ n5 ih5 =>
      intro x3 x5 H locs ls hP hD hS hl hf
      rw [fX5_withLetters_5] at hf
      refine lv_iload (pc := 5) hx hb dX5_withLetters_5 (lv_at hl 2 rfl) ?_
      refine lv_aload_n (pc := 7) hx hb dX5_withLetters_7 rfl (lv_at hl 0 rfl) ?_
      refine gc_0_page (pc := 8) CF hK hP mF_X5_10 dX5_withLetters_8 ?_
      refine gcN_1_length (pc := 11) CF hK hP hN (nf 0) dX5_withLetters_11 ?_
      refine lv_icmp_ge (pc := 14) (tgt := 38) hx hb dX5_withLetters_14 (by decide) (fun c14 => ?_) (fun c14 => ?_)
      · have hf := zz_t c14 hf
        refine lv_lload_n (pc := 38) hx hb dX5_withLetters_38 rfl (lv_at hl 1 rfl) ?_
        exact retL hx hb hr hlk hf hP hD hS dX5_withLetters_39
      · have hf := zz_f c14 hf
        refine lv_lload_n (pc := 17) hx hb dX5_withLetters_17 rfl (lv_at hl 1 rfl) ?_
        refine lv_aload_n (pc := 18) hx hb dX5_withLetters_18 rfl (lv_at hl 0 rfl) ?_
        refine gc_0_page (pc := 19) CF hK hP mF_X5_10 dX5_withLetters_19 ?_
        refine lv_iload (pc := 22) hx hb dX5_withLetters_22 (lv_at hl 2 rfl) ?_
        obtain ⟨v24, h24, hf⟩ := zz_o hf
        refine cV (pc := 24) (rest := [.long x3]) (st1 := [.int v24, .long x3]) (q0 := 1) CF (tX1_codeAt h24) hK hP hD hS hA hN hW mL_X5_240 kX1_codeAt nX1_codeAt rfl rfl rfl rfl ⟨by decide, by decide⟩ hl.1 (Nat.le_of_ble_eq_true rfl) ⟨Nat.le_refl _, Nat.le_refl _⟩ rfl dX5_withLetters_24 (fun H locs hP hD hS => ?_)
        refine lv_i2l (pc := 27) (v := v24.toInt64) hx hb dX5_withLetters_27 rfl ?_
        obtain ⟨v28, h28, hf⟩ := zz_o hf
        refine cSt (pc := 28) (rest := []) (st1 := [.long v28]) CF (tX5_mixed h28) hK hP hD hS hA hN hW mL_X5_218 kX5_mixed nX5_mixed rfl rfl ⟨by decide, by decide⟩ hl.1 (Nat.le_of_ble_eq_true rfl) ⟨Nat.le_refl _, Nat.le_refl _⟩ rfl dX5_withLetters_28 (fun H locs hP hD hS => ?_)
        refine lv_lstore_n (pc := 31) (lv' := [(3, .long v28), (0, .ref (ad 0)), (5, .int x5)]) hx hb dX5_withLetters_31 rfl hl (by decide) rfl (fun ls hl => ?_)
        refine lv_iinc (pc := 32) (v := (x5 + 1)) (lv' := [(5, .int (x5 + 1)), (3, .long v28), (0, .ref (ad 0))]) hx hb dX5_withLetters_32 hl (k := 2) rfl rfl (by decide) rfl (fun ls hl => ?_)
        refine lv_goto (pc := 35) (tgt := 5) hx hb dX5_withLetters_35 (by decide) ?_
        exact ih5 v28 (x5 + 1) _ _ _ hP hD hS (lv_sub hl [2, 1, 0] rfl) hf
  refine lv_lload_n (pc := 0) hx hb dX5_withLetters_0 rfl (lv_at hl 1 rfl) ?_
  refine lv_lstore_n (pc := 1) (lv' := [(3, .long x1), (0, .ref (ad 0)), (1, .long x1)]) hx hb dX5_withLetters_1 rfl hl (by decide) rfl (fun ls hl => ?_)
  refine lv_iconst (pc := 2) (v := 0) hx hb dX5_withLetters_2 (by decide) ?_
  refine lv_istore (pc := 3) (lv' := [(5, .int 0), (3, .long x1), (0, .ref (ad 0)), (1, .long x1)]) hx hb dX5_withLetters_3 hl (by decide) rfl (fun ls hl => ?_)
  exact L5 N x1 0 _ _ _ hP hD hS (lv_sub hl [2, 1, 0] rfl) hf
set_option maxHeartbeats 4000000 in
set_option maxRecDepth 100000 in
theorem tX5_digest {l : Launch} {kv : Nat × Nat} {D : va_G} {N : Nat} {ad : Nat → Nat} {cA : ClassId} {σ : SC} {rF : Int64} {σF : SC} (hf : fX5_digest N σ = some (rF, σF)) : Ct l kv D [(cA, .int)] yX5_digest cX5_digest 4 (some .long) 6 141 (wC ad cA σ) (wC ad cA σF) [.ref (ad 0)] (some (.long rF)) := by
  refine Ct.ofW (by decide) (Nat.le_of_ble_eq_true rfl) ?_
  intro p e s m below meth c A args CF hr hlk hA hP hK hD hN hW hS ls hl
  have hx := CF.1
  have hb := CF.2.1
  have hml := CF.2.2.1
  have hown := CF.2.2.2.1
  have hw : ∀ w ∈ wsA, w.before args s = true := fun w h => CF.2.2.2.2 w (List.mem_cons_of_mem _ h)
  have hl : lv_has ls 4 [(0, .ref (ad 0))] := hl
  unfold fX5_digest at hf
  have L104 : ∀ (n104 : Nat) (σ : SC) (x1 : Int64) (x3 : Int32) (H : Heap) (locs : List Loc) (ls : Array Slot), va_P D vwCl (wC ad cA σ) H → va_D A (wC ad cA σ) → va_S A s.heap H locs → lv_has ls 4 [(0, .ref (ad 0)), (1, .long x1), (3, .int x3)] → fX5_digest_104 N n104 σ x1 x3 = some (rF, σF) → G p l e 6 141 s m args below meth c D A (wC ad cA σF) (some (.long rF)) H locs (F0 m 104 ls []) := by
    intro n104
    induction n104 with
    | zero => intro σ x1 x3 H locs ls hP hD hS hl hf; exact absurd hf (by simp [fX5_digest_104])
    | succ n104 ih104 =>
      intro σ x1 x3 H locs ls hP hD hS hl hf
      rw [fX5_digest_104] at hf
      refine lv_iload_n (pc := 104) hx hb dX5_digest_104 rfl (lv_at hl 2 rfl) ?_
      refine lv_bipush (pc := 105) (v := 9) hx hb dX5_digest_105 (by decide) ?_
      refine lv_icmp_ge (pc := 107) (tgt := 127) hx hb dX5_digest_107 (by decide) (fun c107 => ?_) (fun c107 => ?_)
      · have hf := zz_t c107 hf
        refine lv_lload_n (pc := 127) hx hb dX5_digest_127 rfl (lv_at hl 1 rfl) ?_
        exact retLw (wf := wC ad cA) hx hb hr hlk hf hP hD hS dX5_digest_128
      · have hf := zz_f c107 hf
        refine lv_lload_n (pc := 110) hx hb dX5_digest_110 rfl (lv_at hl 1 rfl) ?_
        refine lv_aload_n (pc := 111) hx hb dX5_digest_111 rfl (lv_at hl 0 rfl) ?_
        refine lv_iload_n (pc := 112) hx hb dX5_digest_112 rfl (lv_at hl 2 rfl) ?_
        obtain ⟨v113, h113, hf⟩ := zz_o hf
        refine cV (pc := 113) (rest := [.long x1]) (st1 := [.int v113, .long x1]) (q0 := 0) CF (tX5_count h113) hK hP hD hS hA hN hW mL_X5_231 kX5_count nX5_count rfl rfl rfl rfl ⟨by decide, by decide⟩ hl.1 (Nat.le_of_ble_eq_true rfl) ⟨Nat.le_refl _, Nat.le_refl _⟩ rfl dX5_digest_113 (fun H locs hP hD hS => ?_)
        refine lv_i2l (pc := 116) (v := v113.toInt64) hx hb dX5_digest_116 rfl ?_
        obtain ⟨v117, h117, hf⟩ := zz_o hf
        refine cSt (pc := 117) (rest := []) (st1 := [.long v117]) CF (tX5_mixed h117) hK hP hD hS hA hN hW mL_X5_218 kX5_mixed nX5_mixed rfl rfl ⟨by decide, by decide⟩ hl.1 (Nat.le_of_ble_eq_true rfl) ⟨Nat.le_refl _, Nat.le_refl _⟩ rfl dX5_digest_117 (fun H locs hP hD hS => ?_)
        refine lv_lstore_n (pc := 120) (lv' := [(1, .long v117), (0, .ref (ad 0)), (3, .int x3)]) hx hb dX5_digest_120 rfl hl (by decide) rfl (fun ls hl => ?_)
        refine lv_iinc (pc := 121) (v := (x3 + 1)) (lv' := [(3, .int (x3 + 1)), (1, .long v117), (0, .ref (ad 0))]) hx hb dX5_digest_121 hl (k := 2) rfl rfl (by decide) rfl (fun ls hl => ?_)
        refine lv_goto (pc := 124) (tgt := 104) hx hb dX5_digest_124 (by decide) ?_
        exact ih104 σ v117 (x3 + 1) _ _ _ hP hD hS (lv_sub hl [2, 1, 0] rfl) hf
  have J96 : ∀ (σ : SC) (x1 : Int64) (H : Heap) (locs : List Loc) (ls : Array Slot), va_P D vwCl (wC ad cA σ) H → va_D A (wC ad cA σ) → va_S A s.heap H locs → lv_has ls 4 [(0, .ref (ad 0)), (1, .long x1)] → fX5_digest_96 N σ x1 = some (rF, σF) → G p l e 6 141 s m args below meth c D A (wC ad cA σF) (some (.long rF)) H locs (F0 m 96 ls []) := by
    intro σ x1 H locs ls hP hD hS hl hf
    unfold fX5_digest_96 at hf
    refine lv_aload_n (pc := 96) hx hb dX5_digest_96 rfl (lv_at hl 0 rfl) ?_
    refine lv_lload_n (pc := 97) hx hb dX5_digest_97 rfl (lv_at hl 1 rfl) ?_
    obtain ⟨v98, h98, hf⟩ := zz_o hf
    refine cV (pc := 98) (rest := []) (st1 := [.long v98]) (q0 := 0) CF (tX5_withLetters h98) hK hP hD hS hA hN hW mL_X5_228 kX5_withLetters nX5_withLetters rfl rfl rfl rfl ⟨by decide, by decide⟩ hl.1 (Nat.le_of_ble_eq_true rfl) ⟨Nat.le_refl _, Nat.le_refl _⟩ rfl dX5_digest_98 (fun H locs hP hD hS => ?_)
    refine lv_lstore_n (pc := 101) (lv' := [(1, .long v98), (0, .ref (ad 0))]) hx hb dX5_digest_101 rfl hl (by decide) rfl (fun ls hl => ?_)
    refine lv_iconst (pc := 102) (v := 0) hx hb dX5_digest_102 (by decide) ?_
    refine lv_istore_n (pc := 103) (lv' := [(3, .int 0), (1, .long v98), (0, .ref (ad 0))]) hx hb dX5_digest_103 rfl hl (by decide) rfl (fun ls hl => ?_)
    exact L104 N σ v98 0 _ _ _ hP hD hS (lv_sub hl [2, 1, 0] rfl) hf
  refine lv_ldc2 (pc := 0) hx hb hown (hw _ mK_X5_206) dX5_digest_0 ?_
  refine lv_lstore_n (pc := 3) (lv' := [(1, .long 1069), (0, .ref (ad 0))]) hx hb dX5_digest_3 rfl hl (by decide) rfl (fun ls hl => ?_)
  refine lv_aload_n (pc := 4) hx hb dX5_digest_4 rfl (lv_at hl 1 rfl) ?_
  refine gc_0_ground (pc := 5) CF hK hP mF_X5_19 dX5_digest_5 ?_
  obtain ⟨v8, h8, hf⟩ := zz_o hf
  refine cV (pc := 8) (rest := []) (st1 := [.int v8]) (q0 := 3) CF (tX0_isThere h8) hK hP hD hS hA hN hW mL_X5_144 kX0_isThere nX0_isThere rfl rfl rfl rfl ⟨by decide, by decide⟩ hl.1 (Nat.le_of_ble_eq_true rfl) ⟨Nat.le_refl _, Nat.le_refl _⟩ rfl dX5_digest_8 (fun H locs hP hD hS => ?_)
  refine lv_if_eq (pc := 11) (tgt := 96) hx hb dX5_digest_11 (by decide) (fun c11 => ?_) (fun c11 => ?_)
  · have hf := zz_t c11 hf
    exact J96 σ 1069 _ _ _ hP hD hS (lv_sub hl [1, 0] rfl) hf
  · have hf := zz_f c11 hf
    refine lv_aload_n (pc := 14) hx hb dX5_digest_14 rfl (lv_at hl 1 rfl) ?_
    refine lv_lload_n (pc := 15) hx hb dX5_digest_15 rfl (lv_at hl 0 rfl) ?_
    obtain ⟨v16, h16, hf⟩ := zz_o hf
    refine cV (pc := 16) (rest := []) (st1 := [.long v16]) (q0 := 0) CF (tX5_withPeople h16) hK hP hD hS hA hN hW mL_X5_208 kX5_withPeople nX5_withPeople rfl rfl rfl rfl ⟨by decide, by decide⟩ hl.1 (Nat.le_of_ble_eq_true rfl) ⟨Nat.le_refl _, Nat.le_refl _⟩ rfl dX5_digest_16 (fun H locs hP hD hS => ?_)
    refine lv_lstore_n (pc := 19) (lv' := [(1, .long v16), (0, .ref (ad 0))]) hx hb dX5_digest_19 rfl hl (by decide) rfl (fun ls hl => ?_)
    refine lv_aload_n (pc := 20) hx hb dX5_digest_20 rfl (lv_at hl 1 rfl) ?_
    refine lv_lload_n (pc := 21) hx hb dX5_digest_21 rfl (lv_at hl 0 rfl) ?_
    obtain ⟨v22, h22, hf⟩ := zz_o hf
    refine cV (pc := 22) (rest := []) (st1 := [.long v22]) (q0 := 0) CF (tX5_withTunnels h22) hK hP hD hS hA hN hW mL_X5_212 kX5_withTunnels nX5_withTunnels rfl rfl rfl rfl ⟨by decide, by decide⟩ hl.1 (Nat.le_of_ble_eq_true rfl) ⟨Nat.le_refl _, Nat.le_refl _⟩ rfl dX5_digest_22 (fun H locs hP hD hS => ?_)
    refine lv_lstore_n (pc := 25) (lv' := [(1, .long v22), (0, .ref (ad 0))]) hx hb dX5_digest_25 rfl hl (by decide) rfl (fun ls hl => ?_)
    refine lv_lload_n (pc := 26) hx hb dX5_digest_26 rfl (lv_at hl 0 rfl) ?_
    refine lv_aload_n (pc := 27) hx hb dX5_digest_27 rfl (lv_at hl 1 rfl) ?_
    refine lv_iconst (pc := 28) (v := 3) hx hb dX5_digest_28 (by decide) ?_
    refine lv_iconst (pc := 29) (v := 0) hx hb dX5_digest_29 (by decide) ?_
    obtain ⟨v30, h30, hf⟩ := zz_o hf
    refine cV (pc := 30) (rest := [.long v22]) (st1 := [.int v30, .long v22]) (q0 := 0) CF (tX5_aim h30) hK hP hD hS hA hN hW mL_X5_215 kX5_aim nX5_aim rfl rfl rfl rfl ⟨by decide, by decide⟩ hl.1 (Nat.le_of_ble_eq_true rfl) ⟨Nat.le_refl _, Nat.le_refl _⟩ rfl dX5_digest_30 (fun H locs hP hD hS => ?_)
    refine lv_i2l (pc := 33) (v := v30.toInt64) hx hb dX5_digest_33 rfl ?_
    obtain ⟨v34, h34, hf⟩ := zz_o hf
    refine cSt (pc := 34) (rest := []) (st1 := [.long v34]) CF (tX5_mixed h34) hK hP hD hS hA hN hW mL_X5_218 kX5_mixed nX5_mixed rfl rfl ⟨by decide, by decide⟩ hl.1 (Nat.le_of_ble_eq_true rfl) ⟨Nat.le_refl _, Nat.le_refl _⟩ rfl dX5_digest_34 (fun H locs hP hD hS => ?_)
    refine lv_lstore_n (pc := 37) (lv' := [(1, .long v34), (0, .ref (ad 0))]) hx hb dX5_digest_37 rfl hl (by decide) rfl (fun ls hl => ?_)
    refine lv_lload_n (pc := 38) hx hb dX5_digest_38 rfl (lv_at hl 0 rfl) ?_
    refine lv_aload_n (pc := 39) hx hb dX5_digest_39 rfl (lv_at hl 1 rfl) ?_
    refine lv_iconst (pc := 40) (v := 3) hx hb dX5_digest_40 (by decide) ?_
    refine lv_iconst (pc := 41) (v := 1) hx hb dX5_digest_41 (by decide) ?_
    obtain ⟨v42, h42, hf⟩ := zz_o hf
    refine cV (pc := 42) (rest := [.long v34]) (st1 := [.int v42, .long v34]) (q0 := 0) CF (tX5_aim h42) hK hP hD hS hA hN hW mL_X5_215 kX5_aim nX5_aim rfl rfl rfl rfl ⟨by decide, by decide⟩ hl.1 (Nat.le_of_ble_eq_true rfl) ⟨Nat.le_refl _, Nat.le_refl _⟩ rfl dX5_digest_42 (fun H locs hP hD hS => ?_)
    refine lv_i2l (pc := 45) (v := v42.toInt64) hx hb dX5_digest_45 rfl ?_
    obtain ⟨v46, h46, hf⟩ := zz_o hf
    refine cSt (pc := 46) (rest := []) (st1 := [.long v46]) CF (tX5_mixed h46) hK hP hD hS hA hN hW mL_X5_218 kX5_mixed nX5_mixed rfl rfl ⟨by decide, by decide⟩ hl.1 (Nat.le_of_ble_eq_true rfl) ⟨Nat.le_refl _, Nat.le_refl _⟩ rfl dX5_digest_46 (fun H locs hP hD hS => ?_)
    refine lv_lstore_n (pc := 49) (lv' := [(1, .long v46), (0, .ref (ad 0))]) hx hb dX5_digest_49 rfl hl (by decide) rfl (fun ls hl => ?_)
    refine lv_lload_n (pc := 50) hx hb dX5_digest_50 rfl (lv_at hl 0 rfl) ?_
    refine lv_aload_n (pc := 51) hx hb dX5_digest_51 rfl (lv_at hl 1 rfl) ?_
    refine lv_bipush (pc := 52) (v := 7) hx hb dX5_digest_52 (by decide) ?_
    refine lv_iconst (pc := 54) (v := 0) hx hb dX5_digest_54 (by decide) ?_
    obtain ⟨v55, h55, hf⟩ := zz_o hf
    refine cV (pc := 55) (rest := [.long v46]) (st1 := [.int v55, .long v46]) (q0 := 0) CF (tX5_aim h55) hK hP hD hS hA hN hW mL_X5_215 kX5_aim nX5_aim rfl rfl rfl rfl ⟨by decide, by decide⟩ hl.1 (Nat.le_of_ble_eq_true rfl) ⟨Nat.le_refl _, Nat.le_refl _⟩ rfl dX5_digest_55 (fun H locs hP hD hS => ?_)
    refine lv_i2l (pc := 58) (v := v55.toInt64) hx hb dX5_digest_58 rfl ?_
    obtain ⟨v59, h59, hf⟩ := zz_o hf
    refine cSt (pc := 59) (rest := []) (st1 := [.long v59]) CF (tX5_mixed h59) hK hP hD hS hA hN hW mL_X5_218 kX5_mixed nX5_mixed rfl rfl ⟨by decide, by decide⟩ hl.1 (Nat.le_of_ble_eq_true rfl) ⟨Nat.le_refl _, Nat.le_refl _⟩ rfl dX5_digest_59 (fun H locs hP hD hS => ?_)
    refine lv_lstore_n (pc := 62) (lv' := [(1, .long v59), (0, .ref (ad 0))]) hx hb dX5_digest_62 rfl hl (by decide) rfl (fun ls hl => ?_)
    refine lv_lload_n (pc := 63) hx hb dX5_digest_63 rfl (lv_at hl 0 rfl) ?_
    refine lv_aload_n (pc := 64) hx hb dX5_digest_64 rfl (lv_at hl 1 rfl) ?_
    refine lv_bipush (pc := 65) (v := 7) hx hb dX5_digest_65 (by decide) ?_
    refine lv_iconst (pc := 67) (v := 1) hx hb dX5_digest_67 (by decide) ?_
    obtain ⟨v68, h68, hf⟩ := zz_o hf
    refine cV (pc := 68) (rest := [.long v59]) (st1 := [.int v68, .long v59]) (q0 := 0) CF (tX5_aim h68) hK hP hD hS hA hN hW mL_X5_215 kX5_aim nX5_aim rfl rfl rfl rfl ⟨by decide, by decide⟩ hl.1 (Nat.le_of_ble_eq_true rfl) ⟨Nat.le_refl _, Nat.le_refl _⟩ rfl dX5_digest_68 (fun H locs hP hD hS => ?_)
    refine lv_i2l (pc := 71) (v := v68.toInt64) hx hb dX5_digest_71 rfl ?_
    obtain ⟨v72, h72, hf⟩ := zz_o hf
    refine cSt (pc := 72) (rest := []) (st1 := [.long v72]) CF (tX5_mixed h72) hK hP hD hS hA hN hW mL_X5_218 kX5_mixed nX5_mixed rfl rfl ⟨by decide, by decide⟩ hl.1 (Nat.le_of_ble_eq_true rfl) ⟨Nat.le_refl _, Nat.le_refl _⟩ rfl dX5_digest_72 (fun H locs hP hD hS => ?_)
    refine lv_lstore_n (pc := 75) (lv' := [(1, .long v72), (0, .ref (ad 0))]) hx hb dX5_digest_75 rfl hl (by decide) rfl (fun ls hl => ?_)
    refine lv_lload_n (pc := 76) hx hb dX5_digest_76 rfl (lv_at hl 0 rfl) ?_
    refine lv_aload_n (pc := 77) hx hb dX5_digest_77 rfl (lv_at hl 1 rfl) ?_
    obtain ⟨v78, h78, hf⟩ := zz_o hf
    refine cV (pc := 78) (rest := [.long v72]) (st1 := [.int v78, .long v72]) (q0 := 0) CF (tX5_began h78) hK hP hD hS hA hN hW mL_X5_222 kX5_began nX5_began rfl rfl rfl rfl ⟨by decide, by decide⟩ hl.1 (Nat.le_of_ble_eq_true rfl) ⟨Nat.le_refl _, Nat.le_refl _⟩ rfl dX5_digest_78 (fun H locs hP hD hS => ?_)
    refine lv_i2l (pc := 81) (v := v78.toInt64) hx hb dX5_digest_81 rfl ?_
    obtain ⟨v82, h82, hf⟩ := zz_o hf
    refine cSt (pc := 82) (rest := []) (st1 := [.long v82]) CF (tX5_mixed h82) hK hP hD hS hA hN hW mL_X5_218 kX5_mixed nX5_mixed rfl rfl ⟨by decide, by decide⟩ hl.1 (Nat.le_of_ble_eq_true rfl) ⟨Nat.le_refl _, Nat.le_refl _⟩ rfl dX5_digest_82 (fun H locs hP hD hS => ?_)
    refine lv_lstore_n (pc := 85) (lv' := [(1, .long v82), (0, .ref (ad 0))]) hx hb dX5_digest_85 rfl hl (by decide) rfl (fun ls hl => ?_)
    refine lv_lload_n (pc := 86) hx hb dX5_digest_86 rfl (lv_at hl 0 rfl) ?_
    refine lv_aload_n (pc := 87) hx hb dX5_digest_87 rfl (lv_at hl 1 rfl) ?_
    obtain ⟨v88, σ88, h88, hf⟩ := zz_b hf
    refine cV (pc := 88) (rest := [.long v82]) (st1 := [.int v88, .long v82]) (q0 := 0) CF (tX5_ask h88) hK hP hD hS hA hN hW mL_X5_225 kX5_ask nX5_ask rfl rfl rfl rfl ⟨by decide, by decide⟩ hl.1 (Nat.le_of_ble_eq_true rfl) ⟨Nat.le_refl _, Nat.le_refl _⟩ rfl dX5_digest_88 (fun H locs hP hD hS => ?_)
    refine lv_i2l (pc := 91) (v := v88.toInt64) hx hb dX5_digest_91 rfl ?_
    obtain ⟨v92, h92, hf⟩ := zz_o hf
    refine cSt (pc := 92) (rest := []) (st1 := [.long v92]) CF (tX5_mixed h92) hK hP hD hS hA hN hW mL_X5_218 kX5_mixed nX5_mixed rfl rfl ⟨by decide, by decide⟩ hl.1 (Nat.le_of_ble_eq_true rfl) ⟨Nat.le_refl _, Nat.le_refl _⟩ rfl dX5_digest_92 (fun H locs hP hD hS => ?_)
    refine lv_lstore_n (pc := 95) (lv' := [(1, .long v92), (0, .ref (ad 0))]) hx hb dX5_digest_95 rfl hl (by decide) rfl (fun ls hl => ?_)
    exact J96 σ88 v92 _ _ _ hP hD hS (lv_sub hl [1, 0] rfl) hf
