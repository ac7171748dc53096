set_option maxHeartbeats 4000000 in
set_option maxRecDepth 100000 in
theorem tX6_sayHill {l : Launch} {kv : Nat × Nat} {D : va_G} {N : Nat} {ad : Nat → Nat} {cA : ClassId} {σ : SM} {σF : SM} (hf : fX6_sayHill N σ = some σF) : Ct l kv D [(cA, .int)] yX6_sayHill cX6_sayHill 3 none 5 124 (wM ad cA σ) (wM ad cA σF) [.ref (ad 0)] (none) := by
  refine Ct.ofW (by decide) (Nat.le_of_ble_eq_true rfl) ?_
  intro p e s m below meth c A args CF hr hlk hA hP hK hD hN hW hS ls hl
  have hx := CF.1
  have hb := CF.2.1
  have hml := CF.2.2.1
  have hown := CF.2.2.2.1
  have hw : ∀ w ∈ wsA, w.before args s = true := fun w h => CF.2.2.2.2 w (List.mem_cons_of_mem _ h)
  have hl : lv_has ls 3 [(0, .ref (ad 0))] := hl
  unfold fX6_sayHill at hf
  have L2 : ∀ (n2 : Nat) (σ : SM) (x1 : Int32) (H : Heap) (locs : List Loc) (ls : Array Slot), va_P D vwCl (wM ad cA σ) H → va_D A (wM ad cA σ) → va_S A s.heap H locs → lv_has ls 3 [(0, .ref (ad 0)), (1, .int x1)] → fX6_sayHill_2 N n2 σ x1 = some σF → G p l e 5 124 s m args below meth c D A (wM ad cA σF) (none) H locs (F0 m 2 ls []) := by
    intro n2
    induction n2 with
    | zero => intro σ x1 H locs ls hP hD hS hl hf; exact absurd hf (by simp [fX6_sayHill_2])
    | succ n2 ih2 =>
      have L9 : ∀ (n9 : Nat) (σ : SM) (x1 : Int32) (x2 : Int32) (H : Heap) (locs : List Loc) (ls : Array Slot), va_P D vwCl (wM ad cA σ) H → va_D A (wM ad cA σ) → va_S A s.heap H locs → lv_has ls 3 [(0, .ref (ad 0)), (1, .int x1), (2, .int x2)] → fX6_sayHill_9 N (fX6_sayHill_2 N n2) n9 σ x1 x2 = some σF → G p l e 5 124 s m args below meth c D A (wM ad cA σF) (none) H locs (F0 m 9 ls []) := by
        intro n9
        induction n9 with
        | zero => intro σ x1 x2 H locs ls hP hD hS hl hf; exact absurd hf (by simp [fX6_sayHill_9])
        | succ n9 ih9 =>
          intro σ x1 x2 H locs ls hP hD hS hl hf
          rw [fX6_sayHill_9] at hf
          refine lv_iload_n (pc := 9) hx hb dX6_sayHill_9 rfl (lv_at hl 2 rfl) ?_
          refine lv_iconst (pc := 10) (v := 5) hx hb dX6_sayHill_10 (by decide) ?_
          refine lv_icmp_ge (pc := 11) (tgt := 31) hx hb dX6_sayHill_11 (by decide) (fun c11 => ?_) (fun c11 => ?_)
          · have hf := zz_t c11 hf
            refine lv_iinc (pc := 31) (v := (x1 + 1)) (lv' := [(1, .int (x1 + 1)), (0, .ref (ad 0)), (2, .int x2)]) hx hb dX6_sayHill_31 hl (k := 1) rfl rfl (by decide) rfl (fun ls hl => ?_)
            refine lv_goto (pc := 34) (tgt := 2) hx hb dX6_sayHill_34 (by decide) ?_
            exact ih2 σ (x1 + 1) _ _ _ hP hD hS (lv_sub hl [1, 0] rfl) hf
          · have hf := zz_f c11 hf
            refine lv_aload_n (pc := 14) hx hb dX6_sayHill_14 rfl (lv_at hl 0 rfl) ?_
            refine lv_aload_n (pc := 15) hx hb dX6_sayHill_15 rfl (lv_at hl 0 rfl) ?_
            refine lv_iload_n (pc := 16) hx hb dX6_sayHill_16 rfl (lv_at hl 1 rfl) ?_
            refine lv_iload_n (pc := 17) hx hb dX6_sayHill_17 rfl (lv_at hl 2 rfl) ?_
            obtain ⟨v18, h18, hf⟩ := zz_o hf
            refine cV (pc := 18) (rest := [.ref (ad 0)]) (st1 := [.int v18, .ref (ad 0)]) (q0 := 0) CF (tX6_tellTunnel h18) hK hP hD hS hA hN hW mL_X6_139 kX6_tellTunnel nX6_tellTunnel rfl rfl rfl rfl ⟨by decide, by decide⟩ hl.1 (Nat.le_of_ble_eq_true rfl) ⟨Nat.le_refl _, Nat.le_refl _⟩ rfl dX6_sayHill_18 (fun H locs hP hD hS => ?_)
            refine lv_i2l (pc := 21) (v := v18.toInt64) hx hb dX6_sayHill_21 rfl ?_
            obtain ⟨σ22, h22, hf⟩ := zz_o hf
            refine cV (pc := 22) (rest := []) (st1 := []) (q0 := 0) CF (tX6_say h22) hK hP hD hS hA hN hW mL_X6_200 kX6_say nX6_say rfl rfl rfl rfl ⟨by decide, by decide⟩ hl.1 (Nat.le_of_ble_eq_true rfl) ⟨Nat.le_refl _, Nat.le_refl _⟩ rfl dX6_sayHill_22 (fun H locs hP hD hS => ?_)
            refine lv_iinc (pc := 25) (v := (x2 + 1)) (lv' := [(2, .int (x2 + 1)), (0, .ref (ad 0)), (1, .int x1)]) hx hb dX6_sayHill_25 hl (k := 2) rfl rfl (by decide) rfl (fun ls hl => ?_)
            refine lv_goto (pc := 28) (tgt := 9) hx hb dX6_sayHill_28 (by decide) ?_
            exact ih9 σ22 x1 (x2 + 1) _ _ _ hP hD hS (lv_sub hl [1, 2, 0] rfl) hf
      intro σ x1 H locs ls hP hD hS hl hf
      rw [fX6_sayHill_2] at hf
      refine lv_iload_n (pc := 2) hx hb dX6_sayHill_2 rfl (lv_at hl 1 rfl) ?_
      refine lv_iconst (pc := 3) (v := 3) hx hb dX6_sayHill_3 (by decide) ?_
      refine lv_icmp_ge (pc := 4) (tgt := 37) hx hb dX6_sayHill_4 (by decide) (fun c4 => ?_) (fun c4 => ?_)
      · have hf := zz_t c4 hf
        refine lv_aload_n (pc := 37) hx hb dX6_sayHill_37 rfl (lv_at hl 0 rfl) ?_
        refine lv_aload_n (pc := 38) hx hb dX6_sayHill_38 rfl (lv_at hl 0 rfl) ?_
        refine lv_iconst (pc := 39) (v := 3) hx hb dX6_sayHill_39 (by decide) ?_
        refine lv_iconst (pc := 40) (v := 0) hx hb dX6_sayHill_40 (by decide) ?_
        obtain ⟨v41, h41, hf⟩ := zz_o hf
        refine cV (pc := 41) (rest := [.ref (ad 0)]) (st1 := [.int v41, .ref (ad 0)]) (q0 := 0) CF (tX6_aimOf h41) hK hP hD hS hA hN hW mL_X6_144 kX6_aimOf nX6_aimOf rfl rfl rfl rfl ⟨by decide, by decide⟩ hl.1 (Nat.le_of_ble_eq_true rfl) ⟨Nat.le_refl _, Nat.le_refl _⟩ rfl dX6_sayHill_41 (fun H locs hP hD hS => ?_)
        refine lv_i2l (pc := 44) (v := v41.toInt64) hx hb dX6_sayHill_44 rfl ?_
        obtain ⟨σ45, h45, hf⟩ := zz_o hf
        refine cV (pc := 45) (rest := []) (st1 := []) (q0 := 0) CF (tX6_say h45) hK hP hD hS hA hN hW mL_X6_200 kX6_say nX6_say rfl rfl rfl rfl ⟨by decide, by decide⟩ hl.1 (Nat.le_of_ble_eq_true rfl) ⟨Nat.le_refl _, Nat.le_refl _⟩ rfl dX6_sayHill_45 (fun H locs hP hD hS => ?_)
        refine lv_aload_n (pc := 48) hx hb dX6_sayHill_48 rfl (lv_at hl 0 rfl) ?_
        refine lv_aload_n (pc := 49) hx hb dX6_sayHill_49 rfl (lv_at hl 0 rfl) ?_
        refine lv_iconst (pc := 50) (v := 3) hx hb dX6_sayHill_50 (by decide) ?_
        refine lv_iconst (pc := 51) (v := 1) hx hb dX6_sayHill_51 (by decide) ?_
        obtain ⟨v52, h52, hf⟩ := zz_o hf
        refine cV (pc := 52) (rest := [.ref (ad 0)]) (st1 := [.int v52, .ref (ad 0)]) (q0 := 0) CF (tX6_aimOf h52) hK hP hD hS hA hN hW mL_X6_144 kX6_aimOf nX6_aimOf rfl rfl rfl rfl ⟨by decide, by decide⟩ hl.1 (Nat.le_of_ble_eq_true rfl) ⟨Nat.le_refl _, Nat.le_refl _⟩ rfl dX6_sayHill_52 (fun H locs hP hD hS => ?_)
        refine lv_i2l (pc := 55) (v := v52.toInt64) hx hb dX6_sayHill_55 rfl ?_
        obtain ⟨σ56, h56, hf⟩ := zz_o hf
        refine cV (pc := 56) (rest := []) (st1 := []) (q0 := 0) CF (tX6_say h56) hK hP hD hS hA hN hW mL_X6_200 kX6_say nX6_say rfl rfl rfl rfl ⟨by decide, by decide⟩ hl.1 (Nat.le_of_ble_eq_true rfl) ⟨Nat.le_refl _, Nat.le_refl _⟩ rfl dX6_sayHill_56 (fun H locs hP hD hS => ?_)
        refine lv_aload_n (pc := 59) hx hb dX6_sayHill_59 rfl (lv_at hl 0 rfl) ?_
        refine lv_aload_n (pc := 60) hx hb dX6_sayHill_60 rfl (lv_at hl 0 rfl) ?_
        refine lv_bipush (pc := 61) (v := 7) hx hb dX6_sayHill_61 (by decide) ?_
        refine lv_iconst (pc := 63) (v := 0) hx hb dX6_sayHill_63 (by decide) ?_
        obtain ⟨v64, h64, hf⟩ := zz_o hf
        refine cV (pc := 64) (rest := [.ref (ad 0)]) (st1 := [.int v64, .ref (ad 0)]) (q0 := 0) CF (tX6_aimOf h64) hK hP hD hS hA hN hW mL_X6_144 kX6_aimOf nX6_aimOf rfl rfl rfl rfl ⟨by decide, by decide⟩ hl.1 (Nat.le_of_ble_eq_true rfl) ⟨Nat.le_refl _, Nat.le_refl _⟩ rfl dX6_sayHill_64 (fun H locs hP hD hS => ?_)
        refine lv_i2l (pc := 67) (v := v64.toInt64) hx hb dX6_sayHill_67 rfl ?_
        obtain ⟨σ68, h68, hf⟩ := zz_o hf
        refine cV (pc := 68) (rest := []) (st1 := []) (q0 := 0) CF (tX6_say h68) hK hP hD hS hA hN hW mL_X6_200 kX6_say nX6_say rfl rfl rfl rfl ⟨by decide, by decide⟩ hl.1 (Nat.le_of_ble_eq_true rfl) ⟨Nat.le_refl _, Nat.le_refl _⟩ rfl dX6_sayHill_68 (fun H locs hP hD hS => ?_)
        refine lv_aload_n (pc := 71) hx hb dX6_sayHill_71 rfl (lv_at hl 0 rfl) ?_
        refine lv_aload_n (pc := 72) hx hb dX6_sayHill_72 rfl (lv_at hl 0 rfl) ?_
        refine lv_bipush (pc := 73) (v := 7) hx hb dX6_sayHill_73 (by decide) ?_
        refine lv_iconst (pc := 75) (v := 1) hx hb dX6_sayHill_75 (by decide) ?_
        obtain ⟨v76, h76, hf⟩ := zz_o hf
        refine cV (pc := 76) (rest := [.ref (ad 0)]) (st1 := [.int v76, .ref (ad 0)]) (q0 := 0) CF (tX6_aimOf h76) hK hP hD hS hA hN hW mL_X6_144 kX6_aimOf nX6_aimOf rfl rfl rfl rfl ⟨by decide, by decide⟩ hl.1 (Nat.le_of_ble_eq_true rfl) ⟨Nat.le_refl _, Nat.le_refl _⟩ rfl dX6_sayHill_76 (fun H locs hP hD hS => ?_)
        refine lv_i2l (pc := 79) (v := v76.toInt64) hx hb dX6_sayHill_79 rfl ?_
        obtain ⟨σ80, h80, hf⟩ := zz_o hf
        refine cV (pc := 80) (rest := []) (st1 := []) (q0 := 0) CF (tX6_say h80) hK hP hD hS hA hN hW mL_X6_200 kX6_say nX6_say rfl rfl rfl rfl ⟨by decide, by decide⟩ hl.1 (Nat.le_of_ble_eq_true rfl) ⟨Nat.le_refl _, Nat.le_refl _⟩ rfl dX6_sayHill_80 (fun H locs hP hD hS => ?_)
        refine lv_aload_n (pc := 83) hx hb dX6_sayHill_83 rfl (lv_at hl 0 rfl) ?_
        refine lv_aload_n (pc := 84) hx hb dX6_sayHill_84 rfl (lv_at hl 0 rfl) ?_
        obtain ⟨v85, h85, hf⟩ := zz_o hf
        refine cV (pc := 85) (rest := [.ref (ad 0)]) (st1 := [.int v85, .ref (ad 0)]) (q0 := 0) CF (tX6_beganOf h85) hK hP hD hS hA hN hW mL_X6_151 kX6_beganOf nX6_beganOf rfl rfl rfl rfl ⟨by decide, by decide⟩ hl.1 (Nat.le_of_ble_eq_true rfl) ⟨Nat.le_refl _, Nat.le_refl _⟩ rfl dX6_sayHill_85 (fun H locs hP hD hS => ?_)
        refine lv_i2l (pc := 88) (v := v85.toInt64) hx hb dX6_sayHill_88 rfl ?_
        obtain ⟨σ89, h89, hf⟩ := zz_o hf
        refine cV (pc := 89) (rest := []) (st1 := []) (q0 := 0) CF (tX6_say h89) hK hP hD hS hA hN hW mL_X6_200 kX6_say nX6_say rfl rfl rfl rfl ⟨by decide, by decide⟩ hl.1 (Nat.le_of_ble_eq_true rfl) ⟨Nat.le_refl _, Nat.le_refl _⟩ rfl dX6_sayHill_89 (fun H locs hP hD hS => ?_)
        refine lv_aload_n (pc := 92) hx hb dX6_sayHill_92 rfl (lv_at hl 0 rfl) ?_
        refine lv_aload_n (pc := 93) hx hb dX6_sayHill_93 rfl (lv_at hl 0 rfl) ?_
        obtain ⟨v94, σ94, h94, hf⟩ := zz_b hf
        refine cV (pc := 94) (rest := [.ref (ad 0)]) (st1 := [.int v94, .ref (ad 0)]) (q0 := 0) CF (tX6_askOf h94) hK hP hD hS hA hN hW mL_X6_154 kX6_askOf nX6_askOf rfl rfl rfl rfl ⟨by decide, by decide⟩ hl.1 (Nat.le_of_ble_eq_true rfl) ⟨Nat.le_refl _, Nat.le_refl _⟩ rfl dX6_sayHill_94 (fun H locs hP hD hS => ?_)
        refine lv_i2l (pc := 97) (v := v94.toInt64) hx hb dX6_sayHill_97 rfl ?_
        obtain ⟨σ98, h98, hf⟩ := zz_o hf
        refine cV (pc := 98) (rest := []) (st1 := []) (q0 := 0) CF (tX6_say h98) hK hP hD hS hA hN hW mL_X6_200 kX6_say nX6_say rfl rfl rfl rfl ⟨by decide, by decide⟩ hl.1 (Nat.le_of_ble_eq_true rfl) ⟨Nat.le_refl _, Nat.le_refl _⟩ rfl dX6_sayHill_98 (fun H locs hP hD hS => ?_)
        exact retVw (wf := wM ad cA) hx hb hr hlk hf hP hD hS dX6_sayHill_101
      · have hf := zz_f c4 hf
        refine lv_iconst (pc := 7) (v := 0) hx hb dX6_sayHill_7 (by decide) ?_
        refine lv_istore_n (pc := 8) (lv' := [(2, .int 0), (0, .ref (ad 0)), (1, .int x1)]) hx hb dX6_sayHill_8 rfl hl (by decide) rfl (fun ls hl => ?_)
        exact L9 N σ x1 0 _ _ _ hP hD hS (lv_sub hl [1, 2, 0] rfl) hf
  refine lv_iconst (pc := 0) (v := 0) hx hb dX6_sayHill_0 (by decide) ?_
  refine lv_istore_n (pc := 1) (lv' := [(1, .int 0), (0, .ref (ad 0))]) hx hb dX6_sayHill_1 rfl hl (by decide) rfl (fun ls hl => ?_)
  exact L2 N σ 0 _ _ _ hP hD hS (lv_sub hl [1, 0] rfl) hf
set_option maxHeartbeats 4000000 in
set_option maxRecDepth 100000 in
theorem tX6_digest {l : Launch} {kv : Nat × Nat} {D : va_G} {N : Nat} {ad : Nat → Nat} {cA : ClassId} {σ : SM} {rF : Int64} {σF : SM} (hf : fX6_digest N σ = some (rF, σF)) : Ct l kv D [(cA, .int)] yX6_digest cX6_digest 3 (some .long) 6 146 (wM ad cA σ) (wM ad cA σF) [.ref (ad 0)] (some (.long rF)) := by
  refine Ct.ofW (by decide) (Nat.le_of_ble_eq_true rfl) ?_
  intro p e s m below meth c A args CF hr hlk hA hP hK hD hN hW hS ls hl
  have hx := CF.1
  have hb := CF.2.1
  have hml := CF.2.2.1
  have hown := CF.2.2.2.1
  have hw : ∀ w ∈ wsA, w.before args s = true := fun w h => CF.2.2.2.2 w (List.mem_cons_of_mem _ h)
  have hl : lv_has ls 3 [(0, .ref (ad 0))] := hl
  unfold fX6_digest at hf
  have L88 : ∀ (n88 : Nat) (σ : SM) (x1 : Int32) (H : Heap) (locs : List Loc) (ls : Array Slot), va_P D vwCl (wM ad cA σ) H → va_D A (wM ad cA σ) → va_S A s.heap H locs → lv_has ls 3 [(0, .ref (ad 0)), (1, .int x1)] → fX6_digest_88 N n88 σ x1 = some (rF, σF) → G p l e 6 146 s m args below meth c D A (wM ad cA σF) (some (.long rF)) H locs (F0 m 88 ls []) := by
    intro n88
    induction n88 with
    | zero => intro σ x1 H locs ls hP hD hS hl hf; exact absurd hf (by simp [fX6_digest_88])
    | succ n88 ih88 =>
      intro σ x1 H locs ls hP hD hS hl hf
      rw [fX6_digest_88] at hf
      refine lv_iload_n (pc := 88) hx hb dX6_digest_88 rfl (lv_at hl 1 rfl) ?_
      refine lv_bipush (pc := 89) (v := 9) hx hb dX6_digest_89 (by decide) ?_
      refine lv_icmp_ge (pc := 91) (tgt := 110) hx hb dX6_digest_91 (by decide) (fun c91 => ?_) (fun c91 => ?_)
      · have hf := zz_t c91 hf
        refine lv_aload_n (pc := 110) hx hb dX6_digest_110 rfl (lv_at hl 0 rfl) ?_
        refine gm_0_hash (pc := 111) CF hK hP mF_X6_196 dX6_digest_111 ?_
        exact retLw (wf := wM ad cA) hx hb hr hlk hf hP hD hS dX6_digest_114
      · have hf := zz_f c91 hf
        refine lv_aload_n (pc := 94) hx hb dX6_digest_94 rfl (lv_at hl 0 rfl) ?_
        refine lv_aload_n (pc := 95) hx hb dX6_digest_95 rfl (lv_at hl 0 rfl) ?_
        refine lv_iload_n (pc := 96) hx hb dX6_digest_96 rfl (lv_at hl 1 rfl) ?_
        obtain ⟨v97, h97, hf⟩ := zz_o hf
        refine cV (pc := 97) (rest := [.ref (ad 0)]) (st1 := [.int v97, .ref (ad 0)]) (q0 := 0) CF (tX6_countOf h97) hK hP hD hS hA hN hW mL_X6_191 kX6_countOf nX6_countOf rfl rfl rfl rfl ⟨by decide, by decide⟩ hl.1 (Nat.le_of_ble_eq_true rfl) ⟨Nat.le_refl _, Nat.le_refl _⟩ rfl dX6_digest_97 (fun H locs hP hD hS => ?_)
        refine lv_i2l (pc := 100) (v := v97.toInt64) hx hb dX6_digest_100 rfl ?_
        obtain ⟨σ101, h101, hf⟩ := zz_o hf
        refine cV (pc := 101) (rest := []) (st1 := []) (q0 := 0) CF (tX6_say h101) hK hP hD hS hA hN hW mL_X6_200 kX6_say nX6_say rfl rfl rfl rfl ⟨by decide, by decide⟩ hl.1 (Nat.le_of_ble_eq_true rfl) ⟨Nat.le_refl _, Nat.le_refl _⟩ rfl dX6_digest_101 (fun H locs hP hD hS => ?_)
        refine lv_iinc (pc := 104) (v := (x1 + 1)) (lv' := [(1, .int (x1 + 1)), (0, .ref (ad 0))]) hx hb dX6_digest_104 hl (k := 1) rfl rfl (by decide) rfl (fun ls hl => ?_)
        refine lv_goto (pc := 107) (tgt := 88) hx hb dX6_digest_107 (by decide) ?_
        exact ih88 σ101 (x1 + 1) _ _ _ hP hD hS (lv_sub hl [1, 0] rfl) hf
  have L61 : ∀ (n61 : Nat) (σ : SM) (x1 : Int32) (H : Heap) (locs : List Loc) (ls : Array Slot), va_P D vwCl (wM ad cA σ) H → va_D A (wM ad cA σ) → va_S A s.heap H locs → lv_has ls 3 [(0, .ref (ad 0)), (1, .int x1)] → fX6_digest_61 N n61 σ x1 = some (rF, σF) → G p l e 6 146 s m args below meth c D A (wM ad cA σF) (some (.long rF)) H locs (F0 m 61 ls []) := by
    intro n61
    induction n61 with
    | zero => intro σ x1 H locs ls hP hD hS hl hf; exact absurd hf (by simp [fX6_digest_61])
    | succ n61 ih61 =>
      intro σ x1 H locs ls hP hD hS hl hf
      rw [fX6_digest_61] at hf
      refine lv_iload_n (pc := 61) hx hb dX6_digest_61 rfl (lv_at hl 1 rfl) ?_
      refine lv_aload_n (pc := 62) hx hb dX6_digest_62 rfl (lv_at hl 0 rfl) ?_
      refine gm_0_pageMany (pc := 63) CF hK hP mF_X6_44 dX6_digest_63 ?_
      refine lv_icmp_ge (pc := 66) (tgt := 86) hx hb dX6_digest_66 (by decide) (fun c66 => ?_) (fun c66 => ?_)
      · have hf := zz_t c66 hf
        refine lv_iconst (pc := 86) (v := 0) hx hb dX6_digest_86 (by decide) ?_
        refine lv_istore_n (pc := 87) (lv' := [(1, .int 0), (0, .ref (ad 0))]) hx hb dX6_digest_87 rfl hl (by decide) rfl (fun ls hl => ?_)
        exact L88 N σ 0 _ _ _ hP hD hS (lv_sub hl [1, 0] rfl) hf
      · have hf := zz_f c66 hf
        refine lv_aload_n (pc := 69) hx hb dX6_digest_69 rfl (lv_at hl 0 rfl) ?_
        refine lv_aload_n (pc := 70) hx hb dX6_digest_70 rfl (lv_at hl 0 rfl) ?_
        refine gm_0_page (pc := 71) CF hK hP mF_X6_7 dX6_digest_71 ?_
        refine lv_iload_n (pc := 74) hx hb dX6_digest_74 rfl (lv_at hl 1 rfl) ?_
        obtain ⟨c75, hf⟩ := zz_k hf
        refine lm_page (pc := 75) hx hb hK hP c75 dX6_digest_75 ?_
        refine lv_i2l (pc := 76) (v := (m_page σ x1.toNatClampNeg).toInt64) hx hb dX6_digest_76 rfl ?_
        obtain ⟨σ77, h77, hf⟩ := zz_o hf
        refine cV (pc := 77) (rest := []) (st1 := []) (q0 := 0) CF (tX6_say h77) hK hP hD hS hA hN hW mL_X6_200 kX6_say nX6_say rfl rfl rfl rfl ⟨by decide, by decide⟩ hl.1 (Nat.le_of_ble_eq_true rfl) ⟨Nat.le_refl _, Nat.le_refl _⟩ rfl dX6_digest_77 (fun H locs hP hD hS => ?_)
        refine lv_iinc (pc := 80) (v := (x1 + 1)) (lv' := [(1, .int (x1 + 1)), (0, .ref (ad 0))]) hx hb dX6_digest_80 hl (k := 1) rfl rfl (by decide) rfl (fun ls hl => ?_)
        refine lv_goto (pc := 83) (tgt := 61) hx hb dX6_digest_83 (by decide) ?_
        exact ih61 σ77 (x1 + 1) _ _ _ hP hD hS (lv_sub hl [1, 0] rfl) hf
  have L9 : ∀ (n9 : Nat) (σ : SM) (x1 : Int32) (H : Heap) (locs : List Loc) (ls : Array Slot), va_P D vwCl (wM ad cA σ) H → va_D A (wM ad cA σ) → va_S A s.heap H locs → lv_has ls 3 [(0, .ref (ad 0)), (1, .int x1)] → fX6_digest_9 N n9 σ x1 = some (rF, σF) → G p l e 6 146 s m args below meth c D A (wM ad cA σF) (some (.long rF)) H locs (F0 m 9 ls []) := by
    intro n9
    induction n9 with
    | zero => intro σ x1 H locs ls hP hD hS hl hf; exact absurd hf (by simp [fX6_digest_9])
    | succ n9 ih9 =>
      have L19 : ∀ (n19 : Nat) (σ : SM) (x1 : Int32) (x2 : Int32) (H : Heap) (locs : List Loc) (ls : Array Slot), va_P D vwCl (wM ad cA σ) H → va_D A (wM ad cA σ) → va_S A s.heap H locs → lv_has ls 3 [(0, .ref (ad 0)), (1, .int x1), (2, .int x2)] → fX6_digest_19 N (fX6_digest_9 N n9) n19 σ x1 x2 = some (rF, σF) → G p l e 6 146 s m args below meth c D A (wM ad cA σF) (some (.long rF)) H locs (F0 m 19 ls []) := by
        intro n19
        induction n19 with
        | zero => intro σ x1 x2 H locs ls hP hD hS hl hf; exact absurd hf (by simp [fX6_digest_19])
        | succ n19 ih19 =>
          intro σ x1 x2 H locs ls hP hD hS hl hf
          rw [fX6_digest_19] at hf
          refine lv_iload_n (pc := 19) hx hb dX6_digest_19 rfl (lv_at hl 2 rfl) ?_
          refine lv_bipush (pc := 20) (v := 6) hx hb dX6_digest_20 (by decide) ?_
          refine lv_icmp_ge (pc := 22) (tgt := 42) hx hb dX6_digest_22 (by decide) (fun c22 => ?_) (fun c22 => ?_)
          · have hf := zz_t c22 hf
            refine lv_iinc (pc := 42) (v := (x1 + 1)) (lv' := [(1, .int (x1 + 1)), (0, .ref (ad 0)), (2, .int x2)]) hx hb dX6_digest_42 hl (k := 1) rfl rfl (by decide) rfl (fun ls hl => ?_)
            refine lv_goto (pc := 45) (tgt := 9) hx hb dX6_digest_45 (by decide) ?_
            exact ih9 σ (x1 + 1) _ _ _ hP hD hS (lv_sub hl [1, 0] rfl) hf
          · have hf := zz_f c22 hf
            refine lv_aload_n (pc := 25) hx hb dX6_digest_25 rfl (lv_at hl 0 rfl) ?_
            refine lv_aload_n (pc := 26) hx hb dX6_digest_26 rfl (lv_at hl 0 rfl) ?_
            refine lv_iload_n (pc := 27) hx hb dX6_digest_27 rfl (lv_at hl 1 rfl) ?_
            refine lv_iload_n (pc := 28) hx hb dX6_digest_28 rfl (lv_at hl 2 rfl) ?_
            obtain ⟨v29, h29, hf⟩ := zz_o hf
            refine cV (pc := 29) (rest := [.ref (ad 0)]) (st1 := [.int v29, .ref (ad 0)]) (q0 := 0) CF (tX6_tellPerson h29) hK hP hD hS hA hN hW mL_X6_123 kX6_tellPerson nX6_tellPerson rfl rfl rfl rfl ⟨by decide, by decide⟩ hl.1 (Nat.le_of_ble_eq_true rfl) ⟨Nat.le_refl _, Nat.le_refl _⟩ rfl dX6_digest_29 (fun H locs hP hD hS => ?_)
            refine lv_i2l (pc := 32) (v := v29.toInt64) hx hb dX6_digest_32 rfl ?_
            obtain ⟨σ33, h33, hf⟩ := zz_o hf
            refine cV (pc := 33) (rest := []) (st1 := []) (q0 := 0) CF (tX6_say h33) hK hP hD hS hA hN hW mL_X6_200 kX6_say nX6_say rfl rfl rfl rfl ⟨by decide, by decide⟩ hl.1 (Nat.le_of_ble_eq_true rfl) ⟨Nat.le_refl _, Nat.le_refl _⟩ rfl dX6_digest_33 (fun H locs hP hD hS => ?_)
            refine lv_iinc (pc := 36) (v := (x2 + 1)) (lv' := [(2, .int (x2 + 1)), (0, .ref (ad 0)), (1, .int x1)]) hx hb dX6_digest_36 hl (k := 2) rfl rfl (by decide) rfl (fun ls hl => ?_)
            refine lv_goto (pc := 39) (tgt := 19) hx hb dX6_digest_39 (by decide) ?_
            exact ih19 σ33 x1 (x2 + 1) _ _ _ hP hD hS (lv_sub hl [1, 2, 0] rfl) hf
      intro σ x1 H locs ls hP hD hS hl hf
      rw [fX6_digest_9] at hf
      refine lv_iload_n (pc := 9) hx hb dX6_digest_9 rfl (lv_at hl 1 rfl) ?_
      refine lv_aload_n (pc := 10) hx hb dX6_digest_10 rfl (lv_at hl 0 rfl) ?_
      refine gm_0_people (pc := 11) CF hK hP mF_X6_68 dX6_digest_11 ?_
      refine lv_icmp_ge (pc := 14) (tgt := 48) hx hb dX6_digest_14 (by decide) (fun c14 => ?_) (fun c14 => ?_)
      · have hf := zz_t c14 hf
        refine lv_aload_n (pc := 48) hx hb dX6_digest_48 rfl (lv_at hl 0 rfl) ?_
        obtain ⟨v49, h49, hf⟩ := zz_o hf
        refine cV (pc := 49) (rest := []) (st1 := [.int v49]) (q0 := 0) CF (tX6_lacks h49) hK hP hD hS hA hN hW mL_X6_86 kX6_lacks nX6_lacks rfl rfl rfl rfl ⟨by decide, by decide⟩ hl.1 (Nat.le_of_ble_eq_true rfl) ⟨Nat.le_refl _, Nat.le_refl _⟩ rfl dX6_digest_49 (fun H locs hP hD hS => ?_)
        refine lv_if_ne (pc := 52) (tgt := 59) hx hb dX6_digest_52 (by decide) (fun c52 => ?_) (fun c52 => ?_)
        · have hf := zz_f c52 hf
          refine lv_iconst (pc := 59) (v := 0) hx hb dX6_digest_59 (by decide) ?_
          refine lv_istore_n (pc := 60) (lv' := [(1, .int 0), (0, .ref (ad 0))]) hx hb dX6_digest_60 rfl hl (by decide) rfl (fun ls hl => ?_)
          exact L61 N σ 0 _ _ _ hP hD hS (lv_sub hl [1, 0] rfl) hf
        · have hf := zz_t c52 hf
          refine lv_aload_n (pc := 55) hx hb dX6_digest_55 rfl (lv_at hl 0 rfl) ?_
          obtain ⟨σ56, h56, hf⟩ := zz_o hf
          refine cV (pc := 56) (rest := []) (st1 := []) (q0 := 0) CF (tX6_sayHill h56) hK hP hD hS hA hN hW mL_X6_206 kX6_sayHill nX6_sayHill rfl rfl rfl rfl ⟨by decide, by decide⟩ hl.1 (Nat.le_of_ble_eq_true rfl) ⟨Nat.le_refl _, Nat.le_refl _⟩ rfl dX6_digest_56 (fun H locs hP hD hS => ?_)
          refine lv_iconst (pc := 59) (v := 0) hx hb dX6_digest_59 (by decide) ?_
          refine lv_istore_n (pc := 60) (lv' := [(1, .int 0), (0, .ref (ad 0))]) hx hb dX6_digest_60 rfl hl (by decide) rfl (fun ls hl => ?_)
          exact L61 N σ56 0 _ _ _ hP hD hS (lv_sub hl [1, 0] rfl) hf
      · have hf := zz_f c14 hf
        refine lv_iconst (pc := 17) (v := 0) hx hb dX6_digest_17 (by decide) ?_
        refine lv_istore_n (pc := 18) (lv' := [(2, .int 0), (0, .ref (ad 0)), (1, .int x1)]) hx hb dX6_digest_18 rfl hl (by decide) rfl (fun ls hl => ?_)
        exact L19 N σ x1 0 _ _ _ hP hD hS (lv_sub hl [1, 2, 0] rfl) hf
  refine lv_aload_n (pc := 0) hx hb dX6_digest_0 rfl (lv_at hl 0 rfl) ?_
  refine lv_ldc2 (pc := 1) hx hb hown (hw _ mK_X6_204) dX6_digest_1 ?_
  refine pm_0_hash (pc := 4) CF hK hP hD hS mF_X6_196 dX6_digest_4 (fun H locs hP hD hS => ?_)
  obtain ⟨σ4, hP, hD, hf⟩ := zz_g (w := wM ad cA) hP hD hf
  refine lv_iconst (pc := 7) (v := 0) hx hb dX6_digest_7 (by decide) ?_
  refine lv_istore_n (pc := 8) (lv' := [(1, .int 0), (0, .ref (ad 0))]) hx hb dX6_digest_8 rfl hl (by decide) rfl (fun ls hl => ?_)
  exact L9 N σ4 0 _ _ _ hP hD hS (lv_sub hl [1, 0] rfl) hf
