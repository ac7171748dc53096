set_option maxHeartbeats 4000000 in
set_option maxRecDepth 100000 in
theorem tX6_deny {l : Launch} {kv : Nat × Nat} {D : va_G} {N : Nat} {ad : Nat → Nat} {cA : ClassId} {σ : SM} {x1 : Int32} {rF : Int32} {σF : SM} (hf : fX6_deny N σ x1 = some (rF, σF)) : Ct l kv D [(cA, .int)] yX6_deny cX6_deny 2 (some .int) 3 67 (wM ad cA σ) (wM ad cA σF) [.ref (ad 0), .int x1] (some (.int rF)) := by
  refine Ct.ofW (by decide) (Nat.le_of_ble_eq_true rfl) ?_
  intro p e s m below meth c A args CF hr hlk hA hP hK hD hN hW hS ls hl
  have hx := CF.1
  have hb := CF.2.1
  have hml := CF.2.2.1
  have hown := CF.2.2.2.1
  have hw : ∀ w ∈ wsA, w.before args s = true := fun w h => CF.2.2.2.2 w (List.mem_cons_of_mem _ h)
  have hl : lv_has ls 2 [(0, .ref (ad 0)), (1, .int x1)] := hl
  unfold fX6_deny at hf
  refine lv_aload_n (pc := 0) hx hb dX6_deny_0 rfl (lv_at hl 0 rfl) ?_
  refine lv_iload_n (pc := 1) hx hb dX6_deny_1 rfl (lv_at hl 1 rfl) ?_
  obtain ⟨v2, h2, hf⟩ := zz_o hf
  refine cV (pc := 2) (rest := []) (st1 := [.int v2]) (q0 := 0) CF (tX6_isTunnel h2) hK hP hD hS hA hN hW mL_X6_128 kX6_isTunnel nX6_isTunnel rfl rfl rfl rfl ⟨by decide, by decide⟩ hl.1 (Nat.le_of_ble_eq_true rfl) ⟨Nat.le_refl _, Nat.le_refl _⟩ rfl dX6_deny_2 (fun H locs hP hD hS => ?_)
  refine lv_if_ne (pc := 5) (tgt := 11) hx hb dX6_deny_5 (by decide) (fun c5 => ?_) (fun c5 => ?_)
  · have hf := zz_f c5 hf
    refine lv_aload_n (pc := 11) hx hb dX6_deny_11 rfl (lv_at hl 0 rfl) ?_
    refine gm_0_tunnels (pc := 12) CF hK hP mF_X6_16 dX6_deny_12 ?_
    refine lv_iconst (pc := 15) (v := 3) hx hb dX6_deny_15 (by decide) ?_
    refine lv_iload_n (pc := 16) hx hb dX6_deny_16 rfl (lv_at hl 1 rfl) ?_
    refine lv_imul (pc := 17) hx hb dX6_deny_17 ?_
    refine lv_iconst (pc := 18) (v := 2) hx hb dX6_deny_18 (by decide) ?_
    refine lv_iadd (pc := 19) hx hb dX6_deny_19 ?_
    obtain ⟨c20, hf⟩ := zz_k hf
    refine lm_tunnels (pc := 20) hx hb hK hP c20 dX6_deny_20 ?_
    refine lv_bipush (pc := 21) (v := 9) hx hb dX6_deny_21 (by decide) ?_
    refine lv_icmp_ne (pc := 23) (tgt := 29) hx hb dX6_deny_23 (by decide) (fun c23 => ?_) (fun c23 => ?_)
    · have hf := zz_f c23 hf
      refine lv_aload_n (pc := 29) hx hb dX6_deny_29 rfl (lv_at hl 0 rfl) ?_
      refine gm_0_tunnels (pc := 30) CF hK hP mF_X6_16 dX6_deny_30 ?_
      refine lv_iconst (pc := 33) (v := 3) hx hb dX6_deny_33 (by decide) ?_
      refine lv_iload_n (pc := 34) hx hb dX6_deny_34 rfl (lv_at hl 1 rfl) ?_
      refine lv_imul (pc := 35) hx hb dX6_deny_35 ?_
      refine lv_iconst (pc := 36) (v := 2) hx hb dX6_deny_36 (by decide) ?_
      refine lv_iadd (pc := 37) hx hb dX6_deny_37 ?_
      refine lv_dup2_11 (pc := 38) hx hb dX6_deny_38 rfl rfl ?_
      obtain ⟨c39, hf⟩ := zz_k hf
      refine lm_tunnels (pc := 39) hx hb hK hP c39 dX6_deny_39 ?_
      refine lv_iconst (pc := 40) (v := 1) hx hb dX6_deny_40 (by decide) ?_
      refine lv_iadd (pc := 41) hx hb dX6_deny_41 ?_
      obtain ⟨c42, hf⟩ := zz_k hf
      refine am_tunnels (pc := 42) hx hb hK hP hD hS c42 dX6_deny_42 (fun H locs hP hD hS => ?_)
      obtain ⟨σ42, hP, hD, hf⟩ := zz_g (w := wM ad cA) hP hD hf
      refine lv_aload_n (pc := 43) hx hb dX6_deny_43 rfl (lv_at hl 0 rfl) ?_
      refine lv_iload_n (pc := 44) hx hb dX6_deny_44 rfl (lv_at hl 1 rfl) ?_
      obtain ⟨v45, h45, hf⟩ := zz_o hf
      refine cV (pc := 45) (rest := []) (st1 := [.int v45]) (q0 := 0) CF (tX6_lengthOf h45) hK hP hD hS hA hN hW mL_X6_131 kX6_lengthOf nX6_lengthOf rfl rfl rfl rfl ⟨by decide, by decide⟩ hl.1 (Nat.le_of_ble_eq_true rfl) ⟨Nat.le_refl _, Nat.le_refl _⟩ rfl dX6_deny_45 (fun H locs hP hD hS => ?_)
      exact retIw (wf := wM ad cA) hx hb hr hlk hf hP hD hS dX6_deny_48
    · have hf := zz_t c23 hf
      refine lv_bipush (pc := 26) (v := (-104)) hx hb dX6_deny_26 (by decide) ?_
      exact retIw (wf := wM ad cA) hx hb hr hlk hf hP hD hS dX6_deny_28
  · have hf := zz_t c5 hf
    refine lv_bipush (pc := 8) (v := (-101)) hx hb dX6_deny_8 (by decide) ?_
    exact retIw (wf := wM ad cA) hx hb hr hlk hf hP hD hS dX6_deny_10
set_option maxHeartbeats 4000000 in
set_option maxRecDepth 100000 in
theorem tX6_tellTunnel {l : Launch} {kv : Nat × Nat} {D : va_G} {N : Nat} {ad : Nat → Nat} {cA : ClassId} {σ : SM} {x1 : Int32} {x2 : Int32} {rF : Int32} (hf : fX6_tellTunnel N σ x1 x2 = some rF) : Ct l kv D [(cA, .int)] yX6_tellTunnel cX6_tellTunnel 3 (some .int) 3 72 (wM ad cA σ) (wM ad cA σ) [.ref (ad 0), .int x1, .int x2] (some (.int rF)) := by
  refine Ct.ofW (by decide) (Nat.le_of_ble_eq_true rfl) ?_
  intro p e s m below meth c A args CF hr hlk hA hP hK hD hN hW hS ls hl
  have hx := CF.1
  have hb := CF.2.1
  have hml := CF.2.2.1
  have hown := CF.2.2.2.1
  have hw : ∀ w ∈ wsA, w.before args s = true := fun w h => CF.2.2.2.2 w (List.mem_cons_of_mem _ h)
  have hl : lv_has ls 3 [(0, .ref (ad 0)), (1, .int x1), (2, .int x2)] := hl
  unfold fX6_tellTunnel at hf
  refine lv_iload_n (pc := 0) hx hb dX6_tellTunnel_0 rfl (lv_at hl 2 rfl) ?_
  refine lv_i2l (pc := 1) (v := x2.toInt64) hx hb dX6_tellTunnel_1 rfl ?_
  refine lv_lconst (pc := 2) (v := 1) hx hb dX6_tellTunnel_2 (by decide) ?_
  refine lv_ldc2 (pc := 3) hx hb hown (hw _ mK_X6_137) dX6_tellTunnel_3 ?_
  obtain ⟨v6, h6, hf⟩ := zz_o hf
  refine cSt (pc := 6) (rest := []) (st1 := [.int v6]) CF (tX6_in h6) hK hP hD hS hA hN hW mL_X6_40 kX6_in nX6_in rfl rfl ⟨by decide, by decide⟩ hl.1 (Nat.le_of_ble_eq_true rfl) ⟨Nat.le_refl _, Nat.le_refl _⟩ rfl dX6_tellTunnel_6 (fun H locs hP hD hS => ?_)
  refine lv_if_eq (pc := 9) (tgt := 25) hx hb dX6_tellTunnel_9 (by decide) (fun c9 => ?_) (fun c9 => ?_)
  · have hf := zz_t c9 hf
    refine lv_iload_n (pc := 25) hx hb dX6_tellTunnel_25 rfl (lv_at hl 2 rfl) ?_
    refine lv_iconst (pc := 26) (v := 4) hx hb dX6_tellTunnel_26 (by decide) ?_
    refine lv_icmp_ne (pc := 27) (tgt := 67) hx hb dX6_tellTunnel_27 (by decide) (fun c27 => ?_) (fun c27 => ?_)
    · have hf := zz_f c27 hf
      refine lv_iload_n (pc := 67) hx hb dX6_tellTunnel_67 rfl (lv_at hl 2 rfl) ?_
      refine lv_if_ne (pc := 68) (tgt := 79) hx hb dX6_tellTunnel_68 (by decide) (fun c68 => ?_) (fun c68 => ?_)
      · have hf := zz_f c68 hf
        refine lv_bipush (pc := 79) (v := (-102)) hx hb dX6_tellTunnel_79 (by decide) ?_
        exact retI hx hb hr hlk hf hP hD hS dX6_tellTunnel_81
      · have hf := zz_t c68 hf
        refine lv_aload_n (pc := 71) hx hb dX6_tellTunnel_71 rfl (lv_at hl 0 rfl) ?_
        refine lv_iload_n (pc := 72) hx hb dX6_tellTunnel_72 rfl (lv_at hl 1 rfl) ?_
        obtain ⟨v73, h73, hf⟩ := zz_o hf
        refine cV (pc := 73) (rest := []) (st1 := [.int v73]) (q0 := 0) CF (tX6_lengthOf h73) hK hP hD hS hA hN hW mL_X6_131 kX6_lengthOf nX6_lengthOf rfl rfl rfl rfl ⟨by decide, by decide⟩ hl.1 (Nat.le_of_ble_eq_true rfl) ⟨Nat.le_refl _, Nat.le_refl _⟩ rfl dX6_tellTunnel_73 (fun H locs hP hD hS => ?_)
        refine lv_goto (pc := 76) (tgt := 81) hx hb dX6_tellTunnel_76 (by decide) ?_
        exact retI hx hb hr hlk hf hP hD hS dX6_tellTunnel_81
    · have hf := zz_t c27 hf
      refine lv_aload_n (pc := 30) hx hb dX6_tellTunnel_30 rfl (lv_at hl 0 rfl) ?_
      refine lv_aload_n (pc := 31) hx hb dX6_tellTunnel_31 rfl (lv_at hl 0 rfl) ?_
      refine lv_aload_n (pc := 32) hx hb dX6_tellTunnel_32 rfl (lv_at hl 0 rfl) ?_
      refine gm_0_tunnels (pc := 33) CF hK hP mF_X6_16 dX6_tellTunnel_33 ?_
      refine lv_iconst (pc := 36) (v := 3) hx hb dX6_tellTunnel_36 (by decide) ?_
      refine lv_iload_n (pc := 37) hx hb dX6_tellTunnel_37 rfl (lv_at hl 1 rfl) ?_
      refine lv_imul (pc := 38) hx hb dX6_tellTunnel_38 ?_
      obtain ⟨c39, hf⟩ := zz_k hf
      refine lm_tunnels (pc := 39) hx hb hK hP c39 dX6_tellTunnel_39 ?_
      refine lv_aload_n (pc := 40) hx hb dX6_tellTunnel_40 rfl (lv_at hl 0 rfl) ?_
      refine gm_0_tunnels (pc := 41) CF hK hP mF_X6_16 dX6_tellTunnel_41 ?_
      refine lv_iconst (pc := 44) (v := 3) hx hb dX6_tellTunnel_44 (by decide) ?_
      refine lv_iload_n (pc := 45) hx hb dX6_tellTunnel_45 rfl (lv_at hl 1 rfl) ?_
      refine lv_imul (pc := 46) hx hb dX6_tellTunnel_46 ?_
      refine lv_iconst (pc := 47) (v := 1) hx hb dX6_tellTunnel_47 (by decide) ?_
      refine lv_iadd (pc := 48) hx hb dX6_tellTunnel_48 ?_
      obtain ⟨c49, hf⟩ := zz_k hf
      refine lm_tunnels (pc := 49) hx hb hK hP c49 dX6_tellTunnel_49 ?_
      obtain ⟨v50, h50, hf⟩ := zz_o hf
      refine cV (pc := 50) (rest := [.ref (ad 0)]) (st1 := [.int v50, .ref (ad 0)]) (q0 := 0) CF (tX6_endBy h50) hK hP hD hS hA hN hW mL_X6_101 kX6_endBy nX6_endBy rfl rfl rfl rfl ⟨by decide, by decide⟩ hl.1 (Nat.le_of_ble_eq_true rfl) ⟨Nat.le_refl _, Nat.le_refl _⟩ rfl dX6_tellTunnel_50 (fun H locs hP hD hS => ?_)
      refine lv_aload_n (pc := 53) hx hb dX6_tellTunnel_53 rfl (lv_at hl 0 rfl) ?_
      refine gm_0_tunnels (pc := 54) CF hK hP mF_X6_16 dX6_tellTunnel_54 ?_
      refine lv_iconst (pc := 57) (v := 3) hx hb dX6_tellTunnel_57 (by decide) ?_
      refine lv_iload_n (pc := 58) hx hb dX6_tellTunnel_58 rfl (lv_at hl 1 rfl) ?_
      refine lv_imul (pc := 59) hx hb dX6_tellTunnel_59 ?_
      refine lv_iconst (pc := 60) (v := 2) hx hb dX6_tellTunnel_60 (by decide) ?_
      refine lv_iadd (pc := 61) hx hb dX6_tellTunnel_61 ?_
      obtain ⟨c62, hf⟩ := zz_k hf
      refine lm_tunnels (pc := 62) hx hb hK hP c62 dX6_tellTunnel_62 ?_
      obtain ⟨v63, h63, hf⟩ := zz_o hf
      refine cV (pc := 63) (rest := []) (st1 := [.int v63]) (q0 := 0) CF (tX6_lengthBy h63) hK hP hD hS hA hN hW mL_X6_105 kX6_lengthBy nX6_lengthBy rfl rfl rfl rfl ⟨by decide, by decide⟩ hl.1 (Nat.le_of_ble_eq_true rfl) ⟨Nat.le_refl _, Nat.le_refl _⟩ rfl dX6_tellTunnel_63 (fun H locs hP hD hS => ?_)
      exact retI hx hb hr hlk hf hP hD hS dX6_tellTunnel_66
  · have hf := zz_f c9 hf
    refine lv_aload_n (pc := 12) hx hb dX6_tellTunnel_12 rfl (lv_at hl 0 rfl) ?_
    refine gm_0_tunnels (pc := 13) CF hK hP mF_X6_16 dX6_tellTunnel_13 ?_
    refine lv_iconst (pc := 16) (v := 3) hx hb dX6_tellTunnel_16 (by decide) ?_
    refine lv_iload_n (pc := 17) hx hb dX6_tellTunnel_17 rfl (lv_at hl 1 rfl) ?_
    refine lv_imul (pc := 18) hx hb dX6_tellTunnel_18 ?_
    refine lv_iload_n (pc := 19) hx hb dX6_tellTunnel_19 rfl (lv_at hl 2 rfl) ?_
    refine lv_iadd (pc := 20) hx hb dX6_tellTunnel_20 ?_
    refine lv_iconst (pc := 21) (v := 1) hx hb dX6_tellTunnel_21 (by decide) ?_
    refine lv_isub (pc := 22) hx hb dX6_tellTunnel_22 ?_
    obtain ⟨c23, hf⟩ := zz_k hf
    refine lm_tunnels (pc := 23) hx hb hK hP c23 dX6_tellTunnel_23 ?_
    exact retI hx hb hr hlk hf hP hD hS dX6_tellTunnel_24
set_option maxHeartbeats 4000000 in
set_option maxRecDepth 100000 in
theorem tX6_tunnel {l : Launch} {kv : Nat × Nat} {D : va_G} {N : Nat} {ad : Nat → Nat} {cA : ClassId} {σ : SM} {x1 : Int32} {x2 : Int32} {rF : Int32} (hf : fX6_tunnel N σ x1 x2 = some rF) : Ct l kv D [(cA, .int)] yX6_tunnel cX6_tunnel 3 (some .int) 4 94 (wM ad cA σ) (wM ad cA σ) [.ref (ad 0), .int x1, .int x2] (some (.int rF)) := by
  refine Ct.ofW (by decide) (Nat.le_of_ble_eq_true rfl) ?_
  intro p e s m below meth c A args CF hr hlk hA hP hK hD hN hW hS ls hl
  have hx := CF.1
  have hb := CF.2.1
  have hml := CF.2.2.1
  have hown := CF.2.2.2.1
  have hw : ∀ w ∈ wsA, w.before args s = true := fun w h => CF.2.2.2.2 w (List.mem_cons_of_mem _ h)
  have hl : lv_has ls 3 [(0, .ref (ad 0)), (1, .int x1), (2, .int x2)] := hl
  unfold fX6_tunnel at hf
  refine lv_aload_n (pc := 0) hx hb dX6_tunnel_0 rfl (lv_at hl 0 rfl) ?_
  refine lv_iload_n (pc := 1) hx hb dX6_tunnel_1 rfl (lv_at hl 1 rfl) ?_
  obtain ⟨v2, h2, hf⟩ := zz_o hf
  refine cV (pc := 2) (rest := []) (st1 := [.int v2]) (q0 := 0) CF (tX6_isTunnel h2) hK hP hD hS hA hN hW mL_X6_128 kX6_isTunnel nX6_isTunnel rfl rfl rfl rfl ⟨by decide, by decide⟩ hl.1 (Nat.le_of_ble_eq_true rfl) ⟨Nat.le_refl _, Nat.le_refl _⟩ rfl dX6_tunnel_2 (fun H locs hP hD hS => ?_)
  refine lv_if_eq (pc := 5) (tgt := 17) hx hb dX6_tunnel_5 (by decide) (fun c5 => ?_) (fun c5 => ?_)
  · have hf := zz_t c5 hf
    refine lv_bipush (pc := 17) (v := (-101)) hx hb dX6_tunnel_17 (by decide) ?_
    exact retI hx hb hr hlk hf hP hD hS dX6_tunnel_19
  · have hf := zz_f c5 hf
    refine lv_aload_n (pc := 8) hx hb dX6_tunnel_8 rfl (lv_at hl 0 rfl) ?_
    refine lv_iload_n (pc := 9) hx hb dX6_tunnel_9 rfl (lv_at hl 1 rfl) ?_
    refine lv_iload_n (pc := 10) hx hb dX6_tunnel_10 rfl (lv_at hl 2 rfl) ?_
    obtain ⟨v11, h11, hf⟩ := zz_o hf
    refine cV (pc := 11) (rest := []) (st1 := [.int v11]) (q0 := 0) CF (tX6_tellTunnel h11) hK hP hD hS hA hN hW mL_X6_139 kX6_tellTunnel nX6_tellTunnel rfl rfl rfl rfl ⟨by decide, by decide⟩ hl.1 (Nat.le_of_ble_eq_true rfl) ⟨Nat.le_refl _, Nat.le_refl _⟩ rfl dX6_tunnel_11 (fun H locs hP hD hS => ?_)
    refine lv_goto (pc := 14) (tgt := 19) hx hb dX6_tunnel_14 (by decide) ?_
    exact retI hx hb hr hlk hf hP hD hS dX6_tunnel_19
set_option maxHeartbeats 4000000 in
set_option maxRecDepth 100000 in
theorem tX6_aimOf {l : Launch} {kv : Nat × Nat} {D : va_G} {N : Nat} {ad : Nat → Nat} {cA : ClassId} {σ : SM} {x1 : Int32} {x2 : Int32} {rF : Int32} (hf : fX6_aimOf N σ x1 x2 = some rF) : Ct l kv D [(cA, .int)] yX6_aimOf cX6_aimOf 6 (some .int) 4 93 (wM ad cA σ) (wM ad cA σ) [.ref (ad 0), .int x1, .int x2] (some (.int rF)) := by
  refine Ct.ofW (by decide) (Nat.le_of_ble_eq_true rfl) ?_
  intro p e s m below meth c A args CF hr hlk hA hP hK hD hN hW hS ls hl
  have hx := CF.1
  have hb := CF.2.1
  have hml := CF.2.2.1
  have hown := CF.2.2.2.1
  have hw : ∀ w ∈ wsA, w.before args s = true := fun w h => CF.2.2.2.2 w (List.mem_cons_of_mem _ h)
  have hl : lv_has ls 6 [(0, .ref (ad 0)), (1, .int x1), (2, .int x2)] := hl
  unfold fX6_aimOf at hf
  have L5 : ∀ (n5 : Nat) (x1 : Int32) (x2 : Int32) (x3 : Int32) (x4 : Int32) (H : Heap) (locs : List Loc) (ls : Array Slot), va_P D vwCl (wM ad cA σ) H → va_D A (wM ad cA σ) → va_S A s.heap H locs → lv_has ls 6 [(0, .ref (ad 0)), (1, .int x1), (2, .int x2), (3, .int x3), (4, .int x4)] → fX6_aimOf_5 N n5 σ x1 x2 x3 x4 = some rF → G p l e 4 93 s m args below meth c D A (wM ad cA σ) (some (.int rF)) H locs (F0 m 5 ls []) := by
    intro n5
    induction n5 with
    | zero => intro x1 x2 x3 x4 H locs ls hP hD hS hl hf; exact absurd hf (by simp [fX6_aimOf_5])
    | succ n5 ih5 =>
      have J38 : ∀ (x1 : Int32) (x2 : Int32) (x3 : Int32) (x4 : Int32) (z0 : Int32) (H : Heap) (locs : List Loc) (ls : Array Slot), va_P D vwCl (wM ad cA σ) H → va_D A (wM ad cA σ) → va_S A s.heap H locs → lv_has ls 6 [(0, .ref (ad 0)), (1, .int x1), (2, .int x2), (3, .int x3), (4, .int x4)] → fX6_aimOf_38 N (fX6_aimOf_5 N n5) σ x1 x2 x3 x4 z0 = some rF → G p l e 4 93 s m args below meth c D A (wM ad cA σ) (some (.int rF)) H locs (F0 m 38 ls [.int z0]) := by
        intro x1 x2 x3 x4 z0 H locs ls hP hD hS hl hf
        unfold fX6_aimOf_38 at hf
        refine lv_istore (pc := 38) (lv' := [(5, .int z0), (0, .ref (ad 0)), (1, .int x1), (2, .int x2), (3, .int x3), (4, .int x4)]) hx hb dX6_aimOf_38 hl (by decide) rfl (fun ls hl => ?_)
        refine lv_iload (pc := 40) hx hb dX6_aimOf_40 (lv_at hl 0 rfl) ?_
        refine lv_if_eq (pc := 42) (tgt := 60) hx hb dX6_aimOf_42 (by decide) (fun c42 => ?_) (fun c42 => ?_)
        · have hf := zz_t c42 hf
          refine lv_iload_n (pc := 60) hx hb dX6_aimOf_60 rfl (lv_at hl 4 rfl) ?_
          refine lv_istore_n (pc := 61) (lv' := [(3, .int x3), (5, .int z0), (0, .ref (ad 0)), (1, .int x1), (2, .int x2), (4, .int x4)]) hx hb dX6_aimOf_61 rfl hl (by decide) rfl (fun ls hl => ?_)
          refine lv_iinc (pc := 62) (v := (x4 + 1)) (lv' := [(4, .int (x4 + 1)), (3, .int x3), (5, .int z0), (0, .ref (ad 0)), (1, .int x1), (2, .int x2)]) hx hb dX6_aimOf_62 hl (k := 5) rfl rfl (by decide) rfl (fun ls hl => ?_)
          refine lv_goto (pc := 65) (tgt := 5) hx hb dX6_aimOf_65 (by decide) ?_
          exact ih5 x1 x2 x3 (x4 + 1) _ _ _ hP hD hS (lv_sub hl [3, 4, 5, 1, 0] rfl) hf
        · have hf := zz_f c42 hf
          refine lv_aload_n (pc := 45) hx hb dX6_aimOf_45 rfl (lv_at hl 1 rfl) ?_
          refine lv_iload (pc := 46) hx hb dX6_aimOf_46 (lv_at hl 5 rfl) ?_
          obtain ⟨v48, h48, hf⟩ := zz_o hf
          refine cV (pc := 48) (rest := []) (st1 := [.int v48]) (q0 := 0) CF (tX6_endsOf h48) hK hP hD hS hA hN hW mL_X6_114 kX6_endsOf nX6_endsOf rfl rfl rfl rfl ⟨by decide, by decide⟩ hl.1 (Nat.le_of_ble_eq_true rfl) ⟨Nat.le_refl _, Nat.le_refl _⟩ rfl dX6_aimOf_48 (fun H locs hP hD hS => ?_)
          refine lv_iload_n (pc := 51) hx hb dX6_aimOf_51 rfl (lv_at hl 2 rfl) ?_
          refine lv_icmp_ne (pc := 52) (tgt := 60) hx hb dX6_aimOf_52 (by decide) (fun c52 => ?_) (fun c52 => ?_)
          · have hf := zz_f c52 hf
            refine lv_iload_n (pc := 60) hx hb dX6_aimOf_60 rfl (lv_at hl 4 rfl) ?_
            refine lv_istore_n (pc := 61) (lv' := [(3, .int x3), (5, .int z0), (0, .ref (ad 0)), (1, .int x1), (2, .int x2), (4, .int x4)]) hx hb dX6_aimOf_61 rfl hl (by decide) rfl (fun ls hl => ?_)
            refine lv_iinc (pc := 62) (v := (x4 + 1)) (lv' := [(4, .int (x4 + 1)), (3, .int x3), (5, .int z0), (0, .ref (ad 0)), (1, .int x1), (2, .int x2)]) hx hb dX6_aimOf_62 hl (k := 5) rfl rfl (by decide) rfl (fun ls hl => ?_)
            refine lv_goto (pc := 65) (tgt := 5) hx hb dX6_aimOf_65 (by decide) ?_
            exact ih5 x1 x2 x3 (x4 + 1) _ _ _ hP hD hS (lv_sub hl [3, 4, 5, 1, 0] rfl) hf
          · have hf := zz_t c52 hf
            refine lv_iload (pc := 55) hx hb dX6_aimOf_55 (lv_at hl 5 rfl) ?_
            refine lv_goto (pc := 57) (tgt := 61) hx hb dX6_aimOf_57 (by decide) ?_
            refine lv_istore_n (pc := 61) (lv' := [(3, .int x4), (5, .int z0), (0, .ref (ad 0)), (1, .int x1), (2, .int x2), (4, .int x4)]) hx hb dX6_aimOf_61 rfl hl (by decide) rfl (fun ls hl => ?_)
            refine lv_iinc (pc := 62) (v := (x4 + 1)) (lv' := [(4, .int (x4 + 1)), (3, .int x4), (5, .int z0), (0, .ref (ad 0)), (1, .int x1), (2, .int x2)]) hx hb dX6_aimOf_62 hl (k := 5) rfl rfl (by decide) rfl (fun ls hl => ?_)
            refine lv_goto (pc := 65) (tgt := 5) hx hb dX6_aimOf_65 (by decide) ?_
            exact ih5 x1 x2 x4 (x4 + 1) _ _ _ hP hD hS (lv_sub hl [3, 4, 5, 1, 0] rfl) hf
      have J33 : ∀ (x1 : Int32) (x2 : Int32) (x3 : Int32) (x4 : Int32) (H : Heap) (locs : List Loc) (ls : Array Slot), va_P D vwCl (wM ad cA σ) H → va_D A (wM ad cA σ) → va_S A s.heap H locs → lv_has ls 6 [(0, .ref (ad 0)), (1, .int x1), (2, .int x2), (3, .int x3), (4, .int x4)] → fX6_aimOf_33 N (fX6_aimOf_5 N n5) σ x1 x2 x3 x4 = some rF → G p l e 4 93 s m args below meth c D A (wM ad cA σ) (some (.int rF)) H locs (F0 m 33 ls []) := by
        intro x1 x2 x3 x4 H locs ls hP hD hS hl hf
        unfold fX6_aimOf_33 at hf
        refine lv_iconst (pc := 33) (v := 1) hx hb dX6_aimOf_33 (by decide) ?_
        refine lv_goto (pc := 34) (tgt := 38) hx hb dX6_aimOf_34 (by decide) ?_
        exact J38 x1 x2 x3 x4 1 _ _ _ hP hD hS (lv_sub hl [0, 1, 2, 3, 4] rfl) hf
      intro x1 x2 x3 x4 H locs ls hP hD hS hl hf
      rw [fX6_aimOf_5] at hf
      refine lv_iload (pc := 5) hx hb dX6_aimOf_5 (lv_at hl 4 rfl) ?_
      refine lv_iconst (pc := 7) (v := 1) hx hb dX6_aimOf_7 (by decide) ?_
      refine lv_aload_n (pc := 8) hx hb dX6_aimOf_8 rfl (lv_at hl 0 rfl) ?_
      refine gm_0_people (pc := 9) CF hK hP mF_X6_68 dX6_aimOf_9 ?_
      refine lv_ishl (pc := 12) hx hb dX6_aimOf_12 ?_
      refine lv_icmp_ge (pc := 13) (tgt := 68) hx hb dX6_aimOf_13 (by decide) (fun c13 => ?_) (fun c13 => ?_)
      · have hf := zz_t c13 hf
        refine lv_iload_n (pc := 68) hx hb dX6_aimOf_68 rfl (lv_at hl 3 rfl) ?_
        refine lv_iconst (pc := 69) (v := (-1)) hx hb dX6_aimOf_69 (by decide) ?_
        refine lv_icmp_eq (pc := 70) (tgt := 78) hx hb dX6_aimOf_70 (by decide) (fun c70 => ?_) (fun c70 => ?_)
        · have hf := zz_t c70 hf
          refine lv_iload_n (pc := 78) hx hb dX6_aimOf_78 rfl (lv_at hl 3 rfl) ?_
          refine lv_goto (pc := 79) (tgt := 86) hx hb dX6_aimOf_79 (by decide) ?_
          exact retI hx hb hr hlk hf hP hD hS dX6_aimOf_86
        · have hf := zz_f c70 hf
          refine lv_iload_n (pc := 73) hx hb dX6_aimOf_73 rfl (lv_at hl 2 rfl) ?_
          refine lv_iconst (pc := 74) (v := 1) hx hb dX6_aimOf_74 (by decide) ?_
          refine lv_icmp_ne (pc := 75) (tgt := 82) hx hb dX6_aimOf_75 (by decide) (fun c75 => ?_) (fun c75 => ?_)
          · have hf := zz_f c75 hf
            refine lv_iload_n (pc := 82) hx hb dX6_aimOf_82 rfl (lv_at hl 3 rfl) ?_
            obtain ⟨v83, h83, hf⟩ := zz_o hf
            refine cSt (pc := 83) (rest := []) (st1 := [.int v83]) CF (tX6_ones h83) hK hP hD hS hA hN hW mL_X6_134 kX6_ones nX6_ones rfl rfl ⟨by decide, by decide⟩ hl.1 (Nat.le_of_ble_eq_true rfl) ⟨Nat.le_refl _, Nat.le_refl _⟩ rfl dX6_aimOf_83 (fun H locs hP hD hS => ?_)
            exact retI hx hb hr hlk hf hP hD hS dX6_aimOf_86
          · have hf := zz_t c75 hf
            refine lv_iload_n (pc := 78) hx hb dX6_aimOf_78 rfl (lv_at hl 3 rfl) ?_
            refine lv_goto (pc := 79) (tgt := 86) hx hb dX6_aimOf_79 (by decide) ?_
            exact retI hx hb hr hlk hf hP hD hS dX6_aimOf_86
      · have hf := zz_f c13 hf
        refine lv_iload_n (pc := 16) hx hb dX6_aimOf_16 rfl (lv_at hl 3 rfl) ?_
        refine lv_iconst (pc := 17) (v := (-1)) hx hb dX6_aimOf_17 (by decide) ?_
        refine lv_icmp_eq (pc := 18) (tgt := 33) hx hb dX6_aimOf_18 (by decide) (fun c18 => ?_) (fun c18 => ?_)
        · have hf := zz_t c18 hf
          exact J33 x1 x2 x3 x4 _ _ _ hP hD hS (lv_sub hl [0, 1, 2, 3, 4] rfl) hf
        · have hf := zz_f c18 hf
          refine lv_iload (pc := 21) hx hb dX6_aimOf_21 (lv_at hl 4 rfl) ?_
          obtain ⟨v23, h23, hf⟩ := zz_o hf
          refine cSt (pc := 23) (rest := []) (st1 := [.int v23]) CF (tX6_ones h23) hK hP hD hS hA hN hW mL_X6_134 kX6_ones nX6_ones rfl rfl ⟨by decide, by decide⟩ hl.1 (Nat.le_of_ble_eq_true rfl) ⟨Nat.le_refl _, Nat.le_refl _⟩ rfl dX6_aimOf_23 (fun H locs hP hD hS => ?_)
          refine lv_iload_n (pc := 26) hx hb dX6_aimOf_26 rfl (lv_at hl 3 rfl) ?_
          obtain ⟨v27, h27, hf⟩ := zz_o hf
          refine cSt (pc := 27) (rest := [.int v23]) (st1 := [.int v27, .int v23]) CF (tX6_ones h27) hK hP hD hS hA hN hW mL_X6_134 kX6_ones nX6_ones rfl rfl ⟨by decide, by decide⟩ hl.1 (Nat.le_of_ble_eq_true rfl) ⟨Nat.le_refl _, Nat.le_refl _⟩ rfl dX6_aimOf_27 (fun H locs hP hD hS => ?_)
          refine lv_icmp_ge (pc := 30) (tgt := 37) hx hb dX6_aimOf_30 (by decide) (fun c30 => ?_) (fun c30 => ?_)
          · have hf := zz_t c30 hf
            refine lv_iconst (pc := 37) (v := 0) hx hb dX6_aimOf_37 (by decide) ?_
            exact J38 x1 x2 x3 x4 0 _ _ _ hP hD hS (lv_sub hl [0, 1, 2, 3, 4] rfl) hf
          · have hf := zz_f c30 hf
            exact J33 x1 x2 x3 x4 _ _ _ hP hD hS (lv_sub hl [0, 1, 2, 3, 4] rfl) hf
  refine lv_iconst (pc := 0) (v := (-1)) hx hb dX6_aimOf_0 (by decide) ?_
  refine lv_istore_n (pc := 1) (lv' := [(3, .int (-1)), (0, .ref (ad 0)), (1, .int x1), (2, .int x2)]) hx hb dX6_aimOf_1 rfl hl (by decide) rfl (fun ls hl => ?_)
  refine lv_iconst (pc := 2) (v := 1) hx hb dX6_aimOf_2 (by decide) ?_
  refine lv_istore (pc := 3) (lv' := [(4, .int 1), (3, .int (-1)), (0, .ref (ad 0)), (1, .int x1), (2, .int x2)]) hx hb dX6_aimOf_3 hl (by decide) rfl (fun ls hl => ?_)
  exact L5 N x1 x2 (-1) 1 _ _ _ hP hD hS (lv_sub hl [2, 3, 4, 1, 0] rfl) hf
set_option maxHeartbeats 4000000 in
set_option maxRecDepth 100000 in
theorem tX6_aim {l : Launch} {kv : Nat × Nat} {D : va_G} {N : Nat} {ad : Nat → Nat} {cA : ClassId} {σ : SM} {x1 : Int32} {x2 : Int32} {rF : Int32} (hf : fX6_aim N σ x1 x2 = some rF) : Ct l kv D [(cA, .int)] yX6_aim cX6_aim 3 (some .int) 5 118 (wM ad cA σ) (wM ad cA σ) [.ref (ad 0), .int x1, .int x2] (some (.int rF)) := by
  refine Ct.ofW (by decide) (Nat.le_of_ble_eq_true rfl) ?_
  intro p e s m below meth c A args CF hr hlk hA hP hK hD hN hW hS ls hl
  have hx := CF.1
  have hb := CF.2.1
  have hml := CF.2.2.1
  have hown := CF.2.2.2.1
  have hw : ∀ w ∈ wsA, w.before args s = true := fun w h => CF.2.2.2.2 w (List.mem_cons_of_mem _ h)
  have hl : lv_has ls 3 [(0, .ref (ad 0)), (1, .int x1), (2, .int x2)] := hl
  unfold fX6_aim at hf
  refine lv_iload_n (pc := 0) hx hb dX6_aim_0 rfl (lv_at hl 1 rfl) ?_
  refine lv_i2l (pc := 1) (v := x1.toInt64) hx hb dX6_aim_1 rfl ?_
  refine lv_lconst (pc := 2) (v := 1) hx hb dX6_aim_2 (by decide) ?_
  refine lv_ldc2 (pc := 3) hx hb hown (hw _ mK_X6_142) dX6_aim_3 ?_
  obtain ⟨v6, h6, hf⟩ := zz_o hf
  refine cSt (pc := 6) (rest := []) (st1 := [.int v6]) CF (tX6_in h6) hK hP hD hS hA hN hW mL_X6_40 kX6_in nX6_in rfl rfl ⟨by decide, by decide⟩ hl.1 (Nat.le_of_ble_eq_true rfl) ⟨Nat.le_refl _, Nat.le_refl _⟩ rfl dX6_aim_6 (fun H locs hP hD hS => ?_)
  refine lv_if_eq (pc := 9) (tgt := 22) hx hb dX6_aim_9 (by decide) (fun c9 => ?_) (fun c9 => ?_)
  · have hf := zz_t c9 hf
    refine lv_bipush (pc := 22) (v := (-102)) hx hb dX6_aim_22 (by decide) ?_
    exact retI hx hb hr hlk hf hP hD hS dX6_aim_24
  · have hf := zz_f c9 hf
    refine lv_iload_n (pc := 12) hx hb dX6_aim_12 rfl (lv_at hl 2 rfl) ?_
    refine lv_i2l (pc := 13) (v := x2.toInt64) hx hb dX6_aim_13 rfl ?_
    refine lv_lconst (pc := 14) (v := 0) hx hb dX6_aim_14 (by decide) ?_
    refine lv_lconst (pc := 15) (v := 1) hx hb dX6_aim_15 (by decide) ?_
    obtain ⟨v16, h16, hf⟩ := zz_o hf
    refine cSt (pc := 16) (rest := []) (st1 := [.int v16]) CF (tX6_in h16) hK hP hD hS hA hN hW mL_X6_40 kX6_in nX6_in rfl rfl ⟨by decide, by decide⟩ hl.1 (Nat.le_of_ble_eq_true rfl) ⟨Nat.le_refl _, Nat.le_refl _⟩ rfl dX6_aim_16 (fun H locs hP hD hS => ?_)
    refine lv_if_ne (pc := 19) (tgt := 25) hx hb dX6_aim_19 (by decide) (fun c19 => ?_) (fun c19 => ?_)
    · have hf := zz_f c19 hf
      refine lv_aload_n (pc := 25) hx hb dX6_aim_25 rfl (lv_at hl 0 rfl) ?_
      obtain ⟨v26, h26, hf⟩ := zz_o hf
      refine cV (pc := 26) (rest := []) (st1 := [.int v26]) (q0 := 0) CF (tX6_lacks h26) hK hP hD hS hA hN hW mL_X6_86 kX6_lacks nX6_lacks rfl rfl rfl rfl ⟨by decide, by decide⟩ hl.1 (Nat.le_of_ble_eq_true rfl) ⟨Nat.le_refl _, Nat.le_refl _⟩ rfl dX6_aim_26 (fun H locs hP hD hS => ?_)
      refine lv_if_eq (pc := 29) (tgt := 37) hx hb dX6_aim_29 (by decide) (fun c29 => ?_) (fun c29 => ?_)
      · have hf := zz_t c29 hf
        refine lv_aload_n (pc := 37) hx hb dX6_aim_37 rfl (lv_at hl 0 rfl) ?_
        refine lv_iload_n (pc := 38) hx hb dX6_aim_38 rfl (lv_at hl 1 rfl) ?_
        refine lv_iload_n (pc := 39) hx hb dX6_aim_39 rfl (lv_at hl 2 rfl) ?_
        obtain ⟨v40, h40, hf⟩ := zz_o hf
        refine cV (pc := 40) (rest := []) (st1 := [.int v40]) (q0 := 0) CF (tX6_aimOf h40) hK hP hD hS hA hN hW mL_X6_144 kX6_aimOf nX6_aimOf rfl rfl rfl rfl ⟨by decide, by decide⟩ hl.1 (Nat.le_of_ble_eq_true rfl) ⟨Nat.le_refl _, Nat.le_refl _⟩ rfl dX6_aim_40 (fun H locs hP hD hS => ?_)
        exact retI hx hb hr hlk hf hP hD hS dX6_aim_43
      · have hf := zz_f c29 hf
        refine lv_bipush (pc := 32) (v := (-103)) hx hb dX6_aim_32 (by decide) ?_
        refine lv_goto (pc := 34) (tgt := 43) hx hb dX6_aim_34 (by decide) ?_
        exact retI hx hb hr hlk hf hP hD hS dX6_aim_43
    · have hf := zz_t c19 hf
      refine lv_bipush (pc := 22) (v := (-102)) hx hb dX6_aim_22 (by decide) ?_
      exact retI hx hb hr hlk hf hP hD hS dX6_aim_24
set_option maxHeartbeats 4000000 in
set_option maxRecDepth 100000 in
theorem tX6_heard {l : Launch} {kv : Nat × Nat} {D : va_G} {N : Nat} {ad : Nat → Nat} {cA : ClassId} {σ : SM} {x1 : Int32} {x2 : Int32} {rF : Int32} {σF : SM} (hf : fX6_heard N σ x1 x2 = some (rF, σF)) : Ct l kv D [(cA, .int)] yX6_heard cX6_heard 3 (some .int) 2 46 (wM ad cA σ) (wM ad cA σF) [.ref (ad 0), .int x1, .int x2] (some (.int rF)) := by
  refine Ct.ofW (by decide) (Nat.le_of_ble_eq_true rfl) ?_
  intro p e s m below meth c A args CF hr hlk hA hP hK hD hN hW hS ls hl
  have hx := CF.1
  have hb := CF.2.1
  have hml := CF.2.2.1
  have hown := CF.2.2.2.1
  have hw : ∀ w ∈ wsA, w.before args s = true := fun w h => CF.2.2.2.2 w (List.mem_cons_of_mem _ h)
  have hl : lv_has ls 3 [(0, .ref (ad 0)), (1, .int x1), (2, .int x2)] := hl
  unfold fX6_heard at hf
  refine lv_aload_n (pc := 0) hx hb dX6_heard_0 rfl (lv_at hl 0 rfl) ?_
  refine lv_iload_n (pc := 1) hx hb dX6_heard_1 rfl (lv_at hl 1 rfl) ?_
  obtain ⟨v2, h2, hf⟩ := zz_o hf
  refine cV (pc := 2) (rest := []) (st1 := [.int v2]) (q0 := 0) CF (tX6_isPerson h2) hK hP hD hS hA hN hW mL_X6_120 kX6_isPerson nX6_isPerson rfl rfl rfl rfl ⟨by decide, by decide⟩ hl.1 (Nat.le_of_ble_eq_true rfl) ⟨Nat.le_refl _, Nat.le_refl _⟩ rfl dX6_heard_2 (fun H locs hP hD hS => ?_)
  refine lv_if_ne (pc := 5) (tgt := 11) hx hb dX6_heard_5 (by decide) (fun c5 => ?_) (fun c5 => ?_)
  · have hf := zz_f c5 hf
    refine lv_iload_n (pc := 11) hx hb dX6_heard_11 rfl (lv_at hl 2 rfl) ?_
    refine lv_i2l (pc := 12) (v := x2.toInt64) hx hb dX6_heard_12 rfl ?_
    refine lv_ldc2 (pc := 13) hx hb hown (hw _ mK_X6_147) dX6_heard_13 ?_
    refine lv_ldc2 (pc := 16) hx hb hown (hw _ mK_X6_149) dX6_heard_16 ?_
    obtain ⟨v19, h19, hf⟩ := zz_o hf
    refine cSt (pc := 19) (rest := []) (st1 := [.int v19]) CF (tX6_in h19) hK hP hD hS hA hN hW mL_X6_40 kX6_in nX6_in rfl rfl ⟨by decide, by decide⟩ hl.1 (Nat.le_of_ble_eq_true rfl) ⟨Nat.le_refl _, Nat.le_refl _⟩ rfl dX6_heard_19 (fun H locs hP hD hS => ?_)
    refine lv_if_ne (pc := 22) (tgt := 28) hx hb dX6_heard_22 (by decide) (fun c22 => ?_) (fun c22 => ?_)
    · have hf := zz_f c22 hf
      refine lv_aload_n (pc := 28) hx hb dX6_heard_28 rfl (lv_at hl 0 rfl) ?_
      refine gm_0_askedMany (pc := 29) CF hK hP mF_X6_80 dX6_heard_29 ?_
      refine lv_bipush (pc := 32) (v := 8) hx hb dX6_heard_32 (by decide) ?_
      refine lv_icmp_ne (pc := 34) (tgt := 40) hx hb dX6_heard_34 (by decide) (fun c34 => ?_) (fun c34 => ?_)
      · have hf := zz_f c34 hf
        refine lv_aload_n (pc := 40) hx hb dX6_heard_40 rfl (lv_at hl 0 rfl) ?_
        refine gm_0_askeds (pc := 41) CF hK hP mF_X6_19 dX6_heard_41 ?_
        refine lv_iconst (pc := 44) (v := 2) hx hb dX6_heard_44 (by decide) ?_
        refine lv_aload_n (pc := 45) hx hb dX6_heard_45 rfl (lv_at hl 0 rfl) ?_
        refine gm_0_askedMany (pc := 46) CF hK hP mF_X6_80 dX6_heard_46 ?_
        refine lv_imul (pc := 49) hx hb dX6_heard_49 ?_
        refine lv_iload_n (pc := 50) hx hb dX6_heard_50 rfl (lv_at hl 1 rfl) ?_
        obtain ⟨c51, hf⟩ := zz_k hf
        refine am_askeds (pc := 51) hx hb hK hP hD hS c51 dX6_heard_51 (fun H locs hP hD hS => ?_)
        obtain ⟨σ51, hP, hD, hf⟩ := zz_g (w := wM ad cA) hP hD hf
        refine lv_aload_n (pc := 52) hx hb dX6_heard_52 rfl (lv_at hl 0 rfl) ?_
        refine gm_0_askeds (pc := 53) CF hK hP mF_X6_19 dX6_heard_53 ?_
        refine lv_iconst (pc := 56) (v := 2) hx hb dX6_heard_56 (by decide) ?_
        refine lv_aload_n (pc := 57) hx hb dX6_heard_57 rfl (lv_at hl 0 rfl) ?_
        refine gm_0_askedMany (pc := 58) CF hK hP mF_X6_80 dX6_heard_58 ?_
        refine lv_imul (pc := 61) hx hb dX6_heard_61 ?_
        refine lv_iconst (pc := 62) (v := 1) hx hb dX6_heard_62 (by decide) ?_
        refine lv_iadd (pc := 63) hx hb dX6_heard_63 ?_
        refine lv_iload_n (pc := 64) hx hb dX6_heard_64 rfl (lv_at hl 2 rfl) ?_
        obtain ⟨c65, hf⟩ := zz_k hf
        refine am_askeds (pc := 65) hx hb hK hP hD hS c65 dX6_heard_65 (fun H locs hP hD hS => ?_)
        obtain ⟨σ65, hP, hD, hf⟩ := zz_g (w := wM ad cA) hP hD hf
        refine lv_aload_n (pc := 66) hx hb dX6_heard_66 rfl (lv_at hl 0 rfl) ?_
        refine lv_dup (pc := 67) hx hb dX6_heard_67 rfl ?_
        refine gm_0_askedMany (pc := 68) CF hK hP mF_X6_80 dX6_heard_68 ?_
        refine lv_iconst (pc := 71) (v := 1) hx hb dX6_heard_71 (by decide) ?_
        refine lv_iadd (pc := 72) hx hb dX6_heard_72 ?_
        refine pm_0_askedMany (pc := 73) CF hK hP hD hS mF_X6_80 dX6_heard_73 (fun H locs hP hD hS => ?_)
        obtain ⟨σ73, hP, hD, hf⟩ := zz_g (w := wM ad cA) hP hD hf
        refine lv_aload_n (pc := 76) hx hb dX6_heard_76 rfl (lv_at hl 0 rfl) ?_
        refine gm_0_askedMany (pc := 77) CF hK hP mF_X6_80 dX6_heard_77 ?_
        exact retIw (wf := wM ad cA) hx hb hr hlk hf hP hD hS dX6_heard_80
      · have hf := zz_t c34 hf
        refine lv_bipush (pc := 37) (v := (-104)) hx hb dX6_heard_37 (by decide) ?_
        exact retIw (wf := wM ad cA) hx hb hr hlk hf hP hD hS dX6_heard_39
    · have hf := zz_t c22 hf
      refine lv_bipush (pc := 25) (v := (-102)) hx hb dX6_heard_25 (by decide) ?_
      exact retIw (wf := wM ad cA) hx hb hr hlk hf hP hD hS dX6_heard_27
  · have hf := zz_t c5 hf
    refine lv_bipush (pc := 8) (v := (-101)) hx hb dX6_heard_8 (by decide) ?_
    exact retIw (wf := wM ad cA) hx hb hr hlk hf hP hD hS dX6_heard_10
set_option maxHeartbeats 4000000 in
set_option maxRecDepth 100000 in
theorem tX6_forget {l : Launch} {kv : Nat × Nat} {D : va_G} {N : Nat} {ad : Nat → Nat} {cA : ClassId} {σ : SM} {rF : Int32} {σF : SM} (hf : fX6_forget N σ = some (rF, σF)) : Ct l kv D [(cA, .int)] yX6_forget cX6_forget 2 (some .int) 0 0 (wM ad cA σ) (wM ad cA σF) [.ref (ad 0)] (some (.int rF)) := by
  refine Ct.ofW (by decide) (Nat.le_of_ble_eq_true rfl) ?_
  intro p e s m below meth c A args CF hr hlk hA hP hK hD hN hW hS ls hl
  have hx := CF.1
  have hb := CF.2.1
  have hml := CF.2.2.1
  have hown := CF.2.2.2.1
  have hw : ∀ w ∈ wsA, w.before args s = true := fun w h => CF.2.2.2.2 w (List.mem_cons_of_mem _ h)
  have hl : lv_has ls 2 [(0, .ref (ad 0))] := hl
  unfold fX6_forget at hf
  refine lv_aload_n (pc := 0) hx hb dX6_forget_0 rfl (lv_at hl 0 rfl) ?_
  refine gm_0_askedMany (pc := 1) CF hK hP mF_X6_80 dX6_forget_1 ?_
  refine lv_istore_n (pc := 4) (lv' := [(1, .int (m_askedMany σ)), (0, .ref (ad 0))]) hx hb dX6_forget_4 rfl hl (by decide) rfl (fun ls hl => ?_)
  refine lv_aload_n (pc := 5) hx hb dX6_forget_5 rfl (lv_at hl 1 rfl) ?_
  refine lv_iconst (pc := 6) (v := 0) hx hb dX6_forget_6 (by decide) ?_
  refine pm_0_askedMany (pc := 7) CF hK hP hD hS mF_X6_80 dX6_forget_7 (fun H locs hP hD hS => ?_)
  obtain ⟨σ7, hP, hD, hf⟩ := zz_g (w := wM ad cA) hP hD hf
  refine lv_iload_n (pc := 10) hx hb dX6_forget_10 rfl (lv_at hl 0 rfl) ?_
  exact retIw (wf := wM ad cA) hx hb hr hlk hf hP hD hS dX6_forget_11
set_option maxHeartbeats 4000000 in
set_option maxRecDepth 100000 in
theorem tX6_beganOf {l : Launch} {kv : Nat × Nat} {D : va_G} {N : Nat} {ad : Nat → Nat} {cA : ClassId} {σ : SM} {rF : Int32} (hf : fX6_beganOf N σ = some rF) : Ct l kv D [(cA, .int)] yX6_beganOf cX6_beganOf 5 (some .int) 3 73 (wM ad cA σ) (wM ad cA σ) [.ref (ad 0)] (some (.int rF)) := by
  refine Ct.ofW (by decide) (Nat.le_of_ble_eq_true rfl) ?_
  intro p e s m below meth c A args CF hr hlk hA hP hK hD hN hW hS ls hl
  have hx := CF.1
  have hb := CF.2.1
  have hml := CF.2.2.1
  have hown := CF.2.2.2.1
  have hw : ∀ w ∈ wsA, w.before args s = true := fun w h => CF.2.2.2.2 w (List.mem_cons_of_mem _ h)
  have hl : lv_has ls 5 [(0, .ref (ad 0))] := hl
  unfold fX6_beganOf at hf
  have L4 : ∀ (n4 : Nat) (x1 : Int32) (x2 : Int32) (H : Heap) (locs : List Loc) (ls : Array Slot), va_P D vwCl (wM ad cA σ) H → va_D A (wM ad cA σ) → va_S A s.heap H locs → lv_has ls 5 [(0, .ref (ad 0)), (1, .int x1), (2, .int x2)] → fX6_beganOf_4 N n4 σ x1 x2 = some rF → G p l e 3 73 s m args below meth c D A (wM ad cA σ) (some (.int rF)) H locs (F0 m 4 ls []) := by
    intro n4
    induction n4 with
    | zero => intro x1 x2 H locs ls hP hD hS hl hf; exact absurd hf (by simp [fX6_beganOf_4])
    | succ n4 ih4 =>
      have L17 : ∀ (n17 : Nat) (x1 : Int32) (x2 : Int32) (x3 : Int32) (x4 : Int32) (H : Heap) (locs : List Loc) (ls : Array Slot), va_P D vwCl (wM ad cA σ) H → va_D A (wM ad cA σ) → va_S A s.heap H locs → lv_has ls 5 [(0, .ref (ad 0)), (1, .int x1), (2, .int x2), (3, .int x3), (4, .int x4)] → fX6_beganOf_17 N (fX6_beganOf_4 N n4) n17 σ x1 x2 x3 x4 = some rF → G p l e 3 73 s m args below meth c D A (wM ad cA σ) (some (.int rF)) H locs (F0 m 17 ls []) := by
        intro n17
        induction n17 with
        | zero => intro x1 x2 x3 x4 H locs ls hP hD hS hl hf; exact absurd hf (by simp [fX6_beganOf_17])
        | succ n17 ih17 =>
          intro x1 x2 x3 x4 H locs ls hP hD hS hl hf
          rw [fX6_beganOf_17] at hf
          refine lv_iload (pc := 17) hx hb dX6_beganOf_17 (lv_at hl 4 rfl) ?_
          refine lv_aload_n (pc := 19) hx hb dX6_beganOf_19 rfl (lv_at hl 0 rfl) ?_
          refine gm_0_askedMany (pc := 20) CF hK hP mF_X6_80 dX6_beganOf_20 ?_
          refine lv_icmp_ge (pc := 23) (tgt := 70) hx hb dX6_beganOf_23 (by decide) (fun c23 => ?_) (fun c23 => ?_)
          · have hf := zz_t c23 hf
            refine lv_iload_n (pc := 70) hx hb dX6_beganOf_70 rfl (lv_at hl 1 rfl) ?_
            refine lv_iload_n (pc := 71) hx hb dX6_beganOf_71 rfl (lv_at hl 3 rfl) ?_
            refine lv_if_eq (pc := 72) (tgt := 81) hx hb dX6_beganOf_72 (by decide) (fun c72 => ?_) (fun c72 => ?_)
            · have hf := zz_t c72 hf
              refine lv_iconst (pc := 81) (v := 0) hx hb dX6_beganOf_81 (by decide) ?_
              refine lv_ior (pc := 82) hx hb dX6_beganOf_82 ?_
              refine lv_istore_n (pc := 83) (lv' := [(1, .int (x1 ||| 0)), (0, .ref (ad 0)), (2, .int x2), (3, .int x3), (4, .int x4)]) hx hb dX6_beganOf_83 rfl hl (by decide) rfl (fun ls hl => ?_)
              refine lv_iinc (pc := 84) (v := (x2 + 1)) (lv' := [(2, .int (x2 + 1)), (1, .int (x1 ||| 0)), (0, .ref (ad 0)), (3, .int x3), (4, .int x4)]) hx hb dX6_beganOf_84 hl (k := 2) rfl rfl (by decide) rfl (fun ls hl => ?_)
              refine lv_goto (pc := 87) (tgt := 4) hx hb dX6_beganOf_87 (by decide) ?_
              exact ih4 (x1 ||| 0) (x2 + 1) _ _ _ hP hD hS (lv_sub hl [2, 1, 0] rfl) hf
            · have hf := zz_f c72 hf
              refine lv_iconst (pc := 75) (v := 1) hx hb dX6_beganOf_75 (by decide) ?_
              refine lv_iload_n (pc := 76) hx hb dX6_beganOf_76 rfl (lv_at hl 2 rfl) ?_
              refine lv_ishl (pc := 77) hx hb dX6_beganOf_77 ?_
              refine lv_goto (pc := 78) (tgt := 82) hx hb dX6_beganOf_78 (by decide) ?_
              refine lv_ior (pc := 82) hx hb dX6_beganOf_82 ?_
              refine lv_istore_n (pc := 83) (lv' := [(1, .int (x1 ||| (1 <<< (x2 &&& 31)))), (0, .ref (ad 0)), (2, .int x2), (3, .int x3), (4, .int x4)]) hx hb dX6_beganOf_83 rfl hl (by decide) rfl (fun ls hl => ?_)
              refine lv_iinc (pc := 84) (v := (x2 + 1)) (lv' := [(2, .int (x2 + 1)), (1, .int (x1 ||| (1 <<< (x2 &&& 31)))), (0, .ref (ad 0)), (3, .int x3), (4, .int x4)]) hx hb dX6_beganOf_84 hl (k := 2) rfl rfl (by decide) rfl (fun ls hl => ?_)
              refine lv_goto (pc := 87) (tgt := 4) hx hb dX6_beganOf_87 (by decide) ?_
              exact ih4 (x1 ||| (1 <<< (x2 &&& 31))) (x2 + 1) _ _ _ hP hD hS (lv_sub hl [2, 1, 0] rfl) hf
          · have hf := zz_f c23 hf
            refine lv_iload_n (pc := 26) hx hb dX6_beganOf_26 rfl (lv_at hl 3 rfl) ?_
            refine lv_if_eq (pc := 27) (tgt := 62) hx hb dX6_beganOf_27 (by decide) (fun c27 => ?_) (fun c27 => ?_)
            · have hf := zz_t c27 hf
              refine lv_iconst (pc := 62) (v := 0) hx hb dX6_beganOf_62 (by decide) ?_
              refine lv_istore_n (pc := 63) (lv' := [(3, .int 0), (0, .ref (ad 0)), (1, .int x1), (2, .int x2), (4, .int x4)]) hx hb dX6_beganOf_63 rfl hl (by decide) rfl (fun ls hl => ?_)
              refine lv_iinc (pc := 64) (v := (x4 + 1)) (lv' := [(4, .int (x4 + 1)), (3, .int 0), (0, .ref (ad 0)), (1, .int x1), (2, .int x2)]) hx hb dX6_beganOf_64 hl (k := 4) rfl rfl (by decide) rfl (fun ls hl => ?_)
              refine lv_goto (pc := 67) (tgt := 17) hx hb dX6_beganOf_67 (by decide) ?_
              exact ih17 x1 x2 0 (x4 + 1) _ _ _ hP hD hS (lv_sub hl [2, 3, 4, 1, 0] rfl) hf
            · have hf := zz_f c27 hf
              refine lv_aload_n (pc := 30) hx hb dX6_beganOf_30 rfl (lv_at hl 0 rfl) ?_
              refine lv_aload_n (pc := 31) hx hb dX6_beganOf_31 rfl (lv_at hl 0 rfl) ?_
              refine gm_0_askeds (pc := 32) CF hK hP mF_X6_19 dX6_beganOf_32 ?_
              refine lv_iconst (pc := 35) (v := 2) hx hb dX6_beganOf_35 (by decide) ?_
              refine lv_iload (pc := 36) hx hb dX6_beganOf_36 (lv_at hl 4 rfl) ?_
              refine lv_imul (pc := 38) hx hb dX6_beganOf_38 ?_
              obtain ⟨c39, hf⟩ := zz_k hf
              refine lm_askeds (pc := 39) hx hb hK hP c39 dX6_beganOf_39 ?_
              refine lv_iload_n (pc := 40) hx hb dX6_beganOf_40 rfl (lv_at hl 2 rfl) ?_
              obtain ⟨v41, h41, hf⟩ := zz_o hf
              refine cV (pc := 41) (rest := []) (st1 := [.int v41]) (q0 := 0) CF (tX6_dayOf h41) hK hP hD hS hA hN hW mL_X6_108 kX6_dayOf nX6_dayOf rfl rfl rfl rfl ⟨by decide, by decide⟩ hl.1 (Nat.le_of_ble_eq_true rfl) ⟨Nat.le_refl _, Nat.le_refl _⟩ rfl dX6_beganOf_41 (fun H locs hP hD hS => ?_)
              refine lv_aload_n (pc := 44) hx hb dX6_beganOf_44 rfl (lv_at hl 0 rfl) ?_
              refine gm_0_askeds (pc := 45) CF hK hP mF_X6_19 dX6_beganOf_45 ?_
              refine lv_iconst (pc := 48) (v := 2) hx hb dX6_beganOf_48 (by decide) ?_
              refine lv_iload (pc := 49) hx hb dX6_beganOf_49 (lv_at hl 4 rfl) ?_
              refine lv_imul (pc := 51) hx hb dX6_beganOf_51 ?_
              refine lv_iconst (pc := 52) (v := 1) hx hb dX6_beganOf_52 (by decide) ?_
              refine lv_iadd (pc := 53) hx hb dX6_beganOf_53 ?_
              obtain ⟨c54, hf⟩ := zz_k hf
              refine lm_askeds (pc := 54) hx hb hK hP c54 dX6_beganOf_54 ?_
              refine lv_icmp_ne (pc := 55) (tgt := 62) hx hb dX6_beganOf_55 (by decide) (fun c55 => ?_) (fun c55 => ?_)
              · have hf := zz_f c55 hf
                refine lv_iconst (pc := 62) (v := 0) hx hb dX6_beganOf_62 (by decide) ?_
                refine lv_istore_n (pc := 63) (lv' := [(3, .int 0), (0, .ref (ad 0)), (1, .int x1), (2, .int x2), (4, .int x4)]) hx hb dX6_beganOf_63 rfl hl (by decide) rfl (fun ls hl => ?_)
                refine lv_iinc (pc := 64) (v := (x4 + 1)) (lv' := [(4, .int (x4 + 1)), (3, .int 0), (0, .ref (ad 0)), (1, .int x1), (2, .int x2)]) hx hb dX6_beganOf_64 hl (k := 4) rfl rfl (by decide) rfl (fun ls hl => ?_)
                refine lv_goto (pc := 67) (tgt := 17) hx hb dX6_beganOf_67 (by decide) ?_
                exact ih17 x1 x2 0 (x4 + 1) _ _ _ hP hD hS (lv_sub hl [2, 3, 4, 1, 0] rfl) hf
              · have hf := zz_t c55 hf
                refine lv_iconst (pc := 58) (v := 1) hx hb dX6_beganOf_58 (by decide) ?_
                refine lv_goto (pc := 59) (tgt := 63) hx hb dX6_beganOf_59 (by decide) ?_
                refine lv_istore_n (pc := 63) (lv' := [(3, .int 1), (0, .ref (ad 0)), (1, .int x1), (2, .int x2), (4, .int x4)]) hx hb dX6_beganOf_63 rfl hl (by decide) rfl (fun ls hl => ?_)
                refine lv_iinc (pc := 64) (v := (x4 + 1)) (lv' := [(4, .int (x4 + 1)), (3, .int 1), (0, .ref (ad 0)), (1, .int x1), (2, .int x2)]) hx hb dX6_beganOf_64 hl (k := 4) rfl rfl (by decide) rfl (fun ls hl => ?_)
                refine lv_goto (pc := 67) (tgt := 17) hx hb dX6_beganOf_67 (by decide) ?_
                exact ih17 x1 x2 1 (x4 + 1) _ _ _ hP hD hS (lv_sub hl [2, 3, 4, 1, 0] rfl) hf
      intro x1 x2 H locs ls hP hD hS hl hf
      rw [fX6_beganOf_4] at hf
      refine lv_iload_n (pc := 4) hx hb dX6_beganOf_4 rfl (lv_at hl 2 rfl) ?_
      refine lv_aload_n (pc := 5) hx hb dX6_beganOf_5 rfl (lv_at hl 0 rfl) ?_
      refine gm_0_people (pc := 6) CF hK hP mF_X6_68 dX6_beganOf_6 ?_
      refine lv_icmp_ge (pc := 9) (tgt := 90) hx hb dX6_beganOf_9 (by decide) (fun c9 => ?_) (fun c9 => ?_)
      · have hf := zz_t c9 hf
        refine lv_iload_n (pc := 90) hx hb dX6_beganOf_90 rfl (lv_at hl 1 rfl) ?_
        exact retI hx hb hr hlk hf hP hD hS dX6_beganOf_91
      · have hf := zz_f c9 hf
        refine lv_iconst (pc := 12) (v := 1) hx hb dX6_beganOf_12 (by decide) ?_
        refine lv_istore_n (pc := 13) (lv' := [(3, .int 1), (0, .ref (ad 0)), (1, .int x1), (2, .int x2)]) hx hb dX6_beganOf_13 rfl hl (by decide) rfl (fun ls hl => ?_)
        refine lv_iconst (pc := 14) (v := 0) hx hb dX6_beganOf_14 (by decide) ?_
        refine lv_istore (pc := 15) (lv' := [(4, .int 0), (3, .int 1), (0, .ref (ad 0)), (1, .int x1), (2, .int x2)]) hx hb dX6_beganOf_15 hl (by decide) rfl (fun ls hl => ?_)
        exact L17 N x1 x2 1 0 _ _ _ hP hD hS (lv_sub hl [2, 3, 4, 1, 0] rfl) hf
  refine lv_iconst (pc := 0) (v := 0) hx hb dX6_beganOf_0 (by decide) ?_
  refine lv_istore_n (pc := 1) (lv' := [(1, .int 0), (0, .ref (ad 0))]) hx hb dX6_beganOf_1 rfl hl (by decide) rfl (fun ls hl => ?_)
  refine lv_iconst (pc := 2) (v := 0) hx hb dX6_beganOf_2 (by decide) ?_
  refine lv_istore_n (pc := 3) (lv' := [(2, .int 0), (1, .int 0), (0, .ref (ad 0))]) hx hb dX6_beganOf_3 rfl hl (by decide) rfl (fun ls hl => ?_)
  exact L4 N 0 0 _ _ _ hP hD hS (lv_sub hl [2, 1, 0] rfl) hf
set_option maxHeartbeats 4000000 in
set_option maxRecDepth 100000 in
theorem tX6_began {l : Launch} {kv : Nat × Nat} {D : va_G} {N : Nat} {ad : Nat → Nat} {cA : ClassId} {σ : SM} {rF : Int32} (hf : fX6_began N σ = some rF) : Ct l kv D [(cA, .int)] yX6_began cX6_began 1 (some .int) 4 97 (wM ad cA σ) (wM ad cA σ) [.ref (ad 0)] (some (.int rF)) := by
  refine Ct.ofW (by decide) (Nat.le_of_ble_eq_true rfl) ?_
  intro p e s m below meth c A args CF hr hlk hA hP hK hD hN hW hS ls hl
  have hx := CF.1
  have hb := CF.2.1
  have hml := CF.2.2.1
  have hown := CF.2.2.2.1
  have hw : ∀ w ∈ wsA, w.before args s = true := fun w h => CF.2.2.2.2 w (List.mem_cons_of_mem _ h)
  have hl : lv_has ls 1 [(0, .ref (ad 0))] := hl
  unfold fX6_began at hf
  refine lv_aload_n (pc := 0) hx hb dX6_began_0 rfl (lv_at hl 0 rfl) ?_
  obtain ⟨v1, h1, hf⟩ := zz_o hf
  refine cV (pc := 1) (rest := []) (st1 := [.int v1]) (q0 := 0) CF (tX6_lacks h1) hK hP hD hS hA hN hW mL_X6_86 kX6_lacks nX6_lacks rfl rfl rfl rfl ⟨by decide, by decide⟩ hl.1 (Nat.le_of_ble_eq_true rfl) ⟨Nat.le_refl _, Nat.le_refl _⟩ rfl dX6_began_1 (fun H locs hP hD hS => ?_)
  refine lv_if_eq (pc := 4) (tgt := 12) hx hb dX6_began_4 (by decide) (fun c4 => ?_) (fun c4 => ?_)
  · have hf := zz_t c4 hf
    refine lv_aload_n (pc := 12) hx hb dX6_began_12 rfl (lv_at hl 0 rfl) ?_
    obtain ⟨v13, h13, hf⟩ := zz_o hf
    refine cV (pc := 13) (rest := []) (st1 := [.int v13]) (q0 := 0) CF (tX6_beganOf h13) hK hP hD hS hA hN hW mL_X6_151 kX6_beganOf nX6_beganOf rfl rfl rfl rfl ⟨by decide, by decide⟩ hl.1 (Nat.le_of_ble_eq_true rfl) ⟨Nat.le_refl _, Nat.le_refl _⟩ rfl dX6_began_13 (fun H locs hP hD hS => ?_)
    exact retI hx hb hr hlk hf hP hD hS dX6_began_16
  · have hf := zz_f c4 hf
    refine lv_bipush (pc := 7) (v := (-103)) hx hb dX6_began_7 (by decide) ?_
    refine lv_goto (pc := 9) (tgt := 16) hx hb dX6_began_9 (by decide) ?_
    exact retI hx hb hr hlk hf hP hD hS dX6_began_16
