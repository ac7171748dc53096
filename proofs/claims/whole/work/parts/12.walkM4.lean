set_option maxHeartbeats 4000000 in
set_option maxRecDepth 100000 in
theorem tX6_askOf {l : Launch} {kv : Nat × Nat} {D : va_G} {N : Nat} {ad : Nat → Nat} {cA : ClassId} {σ : SM} {rF : Int32} {σF : SM} (hf : fX6_askOf N σ = some (rF, σF)) : Ct l kv D [(cA, .int)] yX6_askOf cX6_askOf 8 (some .int) 4 97 (wM ad cA σ) (wM ad cA σF) [.ref (ad 0)] (some (.int rF)) := by
  refine Ct.ofW (by decide) (Nat.le_of_ble_eq_true rfl) ?_
  intro p e s m below meth c A args CF hr hlk hA hP hK hD hN hW hS ls hl
  have hx := CF.1
  have hb := CF.2.1
  have hml := CF.2.2.1
  have hown := CF.2.2.2.1
  have hw : ∀ w ∈ wsA, w.before args s = true := fun w h => CF.2.2.2.2 w (List.mem_cons_of_mem _ h)
  have hl : lv_has ls 8 [(0, .ref (ad 0))] := hl
  unfold fX6_askOf at hf
  have L13 : ∀ (n13 : Nat) (σ : SM) (x1 : Int32) (x2 : Int32) (x3 : Int32) (x4 : Int32) (H : Heap) (locs : List Loc) (ls : Array Slot), va_P D vwCl (wM ad cA σ) H → va_D A (wM ad cA σ) → va_S A s.heap H locs → lv_has ls 8 [(0, .ref (ad 0)), (1, .int x1), (2, .int x2), (3, .int x3), (4, .int x4)] → fX6_askOf_13 N n13 σ x1 x2 x3 x4 = some (rF, σF) → G p l e 4 97 s m args below meth c D A (wM ad cA σF) (some (.int rF)) H locs (F0 m 13 ls []) := by
    intro n13
    induction n13 with
    | zero => intro σ x1 x2 x3 x4 H locs ls hP hD hS hl hf; exact absurd hf (by simp [fX6_askOf_13])
    | succ n13 ih13 =>
      have J137 : ∀ (σ : SM) (x1 : Int32) (x3 : Int32) (x4 : Int32) (x5 : Int32) (z0 : Int32) (H : Heap) (locs : List Loc) (ls : Array Slot), va_P D vwCl (wM ad cA σ) H → va_D A (wM ad cA σ) → va_S A s.heap H locs → lv_has ls 8 [(0, .ref (ad 0)), (1, .int x1), (3, .int x3), (4, .int x4), (5, .int x5)] → fX6_askOf_137 N (fX6_askOf_13 N n13) σ x1 x3 x4 x5 z0 = some (rF, σF) → G p l e 4 97 s m args below meth c D A (wM ad cA σF) (some (.int rF)) H locs (F0 m 137 ls [.int z0]) := by
        intro σ x1 x3 x4 x5 z0 H locs ls hP hD hS hl hf
        unfold fX6_askOf_137 at hf
        refine lv_istore_n (pc := 137) (lv' := [(2, .int z0), (0, .ref (ad 0)), (1, .int x1), (3, .int x3), (4, .int x4), (5, .int x5)]) hx hb dX6_askOf_137 rfl hl (by decide) rfl (fun ls hl => ?_)
        refine lv_iload (pc := 138) hx hb dX6_askOf_138 (lv_at hl 5 rfl) ?_
        refine lv_iload_n (pc := 140) hx hb dX6_askOf_140 rfl (lv_at hl 3 rfl) ?_
        refine lv_icmp_ge (pc := 141) (tgt := 149) hx hb dX6_askOf_141 (by decide) (fun c141 => ?_) (fun c141 => ?_)
        · have hf := zz_t c141 hf
          refine lv_iload_n (pc := 149) hx hb dX6_askOf_149 rfl (lv_at hl 3 rfl) ?_
          refine lv_istore_n (pc := 150) (lv' := [(3, .int x3), (2, .int z0), (0, .ref (ad 0)), (1, .int x1), (4, .int x4), (5, .int x5)]) hx hb dX6_askOf_150 rfl hl (by decide) rfl (fun ls hl => ?_)
          refine lv_iinc (pc := 151) (v := (x4 + 1)) (lv' := [(4, .int (x4 + 1)), (3, .int x3), (2, .int z0), (0, .ref (ad 0)), (1, .int x1), (5, .int x5)]) hx hb dX6_askOf_151 hl (k := 4) rfl rfl (by decide) rfl (fun ls hl => ?_)
          refine lv_goto (pc := 154) (tgt := 13) hx hb dX6_askOf_154 (by decide) ?_
          exact ih13 σ x1 z0 x3 (x4 + 1) _ _ _ hP hD hS (lv_sub hl [3, 4, 2, 1, 0] rfl) hf
        · have hf := zz_f c141 hf
          refine lv_iload (pc := 144) hx hb dX6_askOf_144 (lv_at hl 5 rfl) ?_
          refine lv_goto (pc := 146) (tgt := 150) hx hb dX6_askOf_146 (by decide) ?_
          refine lv_istore_n (pc := 150) (lv' := [(3, .int x5), (2, .int z0), (0, .ref (ad 0)), (1, .int x1), (4, .int x4), (5, .int x5)]) hx hb dX6_askOf_150 rfl hl (by decide) rfl (fun ls hl => ?_)
          refine lv_iinc (pc := 151) (v := (x4 + 1)) (lv' := [(4, .int (x4 + 1)), (3, .int x5), (2, .int z0), (0, .ref (ad 0)), (1, .int x1), (5, .int x5)]) hx hb dX6_askOf_151 hl (k := 4) rfl rfl (by decide) rfl (fun ls hl => ?_)
          refine lv_goto (pc := 154) (tgt := 13) hx hb dX6_askOf_154 (by decide) ?_
          exact ih13 σ x1 z0 x5 (x4 + 1) _ _ _ hP hD hS (lv_sub hl [3, 4, 2, 1, 0] rfl) hf
      have L56 : ∀ (n56 : Nat) (σ : SM) (x1 : Int32) (x2 : Int32) (x3 : Int32) (x4 : Int32) (x5 : Int32) (x6 : Int32) (H : Heap) (locs : List Loc) (ls : Array Slot), va_P D vwCl (wM ad cA σ) H → va_D A (wM ad cA σ) → va_S A s.heap H locs → lv_has ls 8 [(0, .ref (ad 0)), (1, .int x1), (2, .int x2), (3, .int x3), (4, .int x4), (5, .int x5), (6, .int x6)] → fX6_askOf_56 N (fX6_askOf_13 N n13) n56 σ x1 x2 x3 x4 x5 x6 = some (rF, σF) → G p l e 4 97 s m args below meth c D A (wM ad cA σF) (some (.int rF)) H locs (F0 m 56 ls []) := by
        intro n56
        induction n56 with
        | zero => intro σ x1 x2 x3 x4 x5 x6 H locs ls hP hD hS hl hf; exact absurd hf (by simp [fX6_askOf_56])
        | succ n56 ih56 =>
          intro σ x1 x2 x3 x4 x5 x6 H locs ls hP hD hS hl hf
          rw [fX6_askOf_56] at hf
          refine lv_iload (pc := 56) hx hb dX6_askOf_56 (lv_at hl 6 rfl) ?_
          refine lv_aload_n (pc := 58) hx hb dX6_askOf_58 rfl (lv_at hl 0 rfl) ?_
          refine gm_0_people (pc := 59) CF hK hP mF_X6_68 dX6_askOf_59 ?_
          refine lv_icmp_ge (pc := 62) (tgt := 125) hx hb dX6_askOf_62 (by decide) (fun c62 => ?_) (fun c62 => ?_)
          · have hf := zz_t c62 hf
            refine lv_iload (pc := 125) hx hb dX6_askOf_125 (lv_at hl 5 rfl) ?_
            refine lv_iload_n (pc := 127) hx hb dX6_askOf_127 rfl (lv_at hl 3 rfl) ?_
            refine lv_icmp_ge (pc := 128) (tgt := 136) hx hb dX6_askOf_128 (by decide) (fun c128 => ?_) (fun c128 => ?_)
            · have hf := zz_t c128 hf
              refine lv_iload_n (pc := 136) hx hb dX6_askOf_136 rfl (lv_at hl 2 rfl) ?_
              exact J137 σ x1 x3 x4 x5 x2 _ _ _ hP hD hS (lv_sub hl [0, 1, 3, 4, 5] rfl) hf
            · have hf := zz_f c128 hf
              refine lv_iload (pc := 131) hx hb dX6_askOf_131 (lv_at hl 4 rfl) ?_
              refine lv_goto (pc := 133) (tgt := 137) hx hb dX6_askOf_133 (by decide) ?_
              exact J137 σ x1 x3 x4 x5 x4 _ _ _ hP hD hS (lv_sub hl [0, 1, 3, 4, 5] rfl) hf
          · have hf := zz_f c62 hf
            refine lv_aload_n (pc := 65) hx hb dX6_askOf_65 rfl (lv_at hl 0 rfl) ?_
            refine lv_iload (pc := 66) hx hb dX6_askOf_66 (lv_at hl 4 rfl) ?_
            refine lv_iload (pc := 68) hx hb dX6_askOf_68 (lv_at hl 6 rfl) ?_
            obtain ⟨v70, h70, hf⟩ := zz_o hf
            refine cV (pc := 70) (rest := []) (st1 := [.int v70]) (q0 := 0) CF (tX6_dayOf h70) hK hP hD hS hA hN hW mL_X6_108 kX6_dayOf nX6_dayOf rfl rfl rfl rfl ⟨by decide, by decide⟩ hl.1 (Nat.le_of_ble_eq_true rfl) ⟨Nat.le_refl _, Nat.le_refl _⟩ rfl dX6_askOf_70 (fun H locs hP hD hS => ?_)
            refine lv_iconst (pc := 73) (v := 1) hx hb dX6_askOf_73 (by decide) ?_
            refine lv_iadd (pc := 74) hx hb dX6_askOf_74 ?_
            refine lv_istore (pc := 75) (lv' := [(7, .int (v70 + 1)), (0, .ref (ad 0)), (1, .int x1), (2, .int x2), (3, .int x3), (4, .int x4), (5, .int x5), (6, .int x6)]) hx hb dX6_askOf_75 hl (by decide) rfl (fun ls hl => ?_)
            refine lv_aload_n (pc := 77) hx hb dX6_askOf_77 rfl (lv_at hl 1 rfl) ?_
            refine gm_0_parts (pc := 78) CF hK hP mF_X6_22 dX6_askOf_78 ?_
            refine lv_iload (pc := 81) hx hb dX6_askOf_81 (lv_at hl 0 rfl) ?_
            refine lv_dup2_11 (pc := 83) hx hb dX6_askOf_83 rfl rfl ?_
            obtain ⟨c84, hf⟩ := zz_k hf
            refine lm_parts (pc := 84) hx hb hK hP c84 dX6_askOf_84 ?_
            refine lv_iload_n (pc := 85) hx hb dX6_askOf_85 rfl (lv_at hl 2 rfl) ?_
            refine lv_iload (pc := 86) hx hb dX6_askOf_86 (lv_at hl 7 rfl) ?_
            refine lv_ishr (pc := 88) hx hb dX6_askOf_88 ?_
            refine lv_iconst (pc := 89) (v := 1) hx hb dX6_askOf_89 (by decide) ?_
            refine lv_iand (pc := 90) hx hb dX6_askOf_90 ?_
            refine lv_iadd (pc := 91) hx hb dX6_askOf_91 ?_
            obtain ⟨c92, hf⟩ := zz_k hf
            refine am_parts (pc := 92) hx hb hK hP hD hS c92 dX6_askOf_92 (fun H locs hP hD hS => ?_)
            obtain ⟨σ92, hP, hD, hf⟩ := zz_g (w := wM ad cA) hP hD hf
            refine lv_aload_n (pc := 93) hx hb dX6_askOf_93 rfl (lv_at hl 1 rfl) ?_
            refine gm_0_parts (pc := 94) CF hK hP mF_X6_22 dX6_askOf_94 ?_
            refine lv_iload (pc := 97) hx hb dX6_askOf_97 (lv_at hl 0 rfl) ?_
            obtain ⟨c99, hf⟩ := zz_k hf
            refine lm_parts (pc := 99) hx hb hK hP c99 dX6_askOf_99 ?_
            refine lv_iload (pc := 100) hx hb dX6_askOf_100 (lv_at hl 6 rfl) ?_
            refine lv_icmp_le (pc := 102) (tgt := 115) hx hb dX6_askOf_102 (by decide) (fun c102 => ?_) (fun c102 => ?_)
            · have hf := zz_t c102 hf
              refine lv_iload (pc := 115) hx hb dX6_askOf_115 (lv_at hl 6 rfl) ?_
              refine lv_istore (pc := 117) (lv' := [(5, .int x5), (7, .int (v70 + 1)), (0, .ref (ad 0)), (1, .int x1), (2, .int x2), (3, .int x3), (4, .int x4), (6, .int x6)]) hx hb dX6_askOf_117 hl (by decide) rfl (fun ls hl => ?_)
              refine lv_iinc (pc := 119) (v := (x6 + 1)) (lv' := [(6, .int (x6 + 1)), (5, .int x5), (7, .int (v70 + 1)), (0, .ref (ad 0)), (1, .int x1), (2, .int x2), (3, .int x3), (4, .int x4)]) hx hb dX6_askOf_119 hl (k := 7) rfl rfl (by decide) rfl (fun ls hl => ?_)
              refine lv_goto (pc := 122) (tgt := 56) hx hb dX6_askOf_122 (by decide) ?_
              exact ih56 σ92 x1 x2 x3 x4 x5 (x6 + 1) _ _ _ hP hD hS (lv_sub hl [3, 4, 5, 6, 7, 1, 0] rfl) hf
            · have hf := zz_f c102 hf
              refine lv_aload_n (pc := 105) hx hb dX6_askOf_105 rfl (lv_at hl 1 rfl) ?_
              refine gm_0_parts (pc := 106) CF hK hP mF_X6_22 dX6_askOf_106 ?_
              refine lv_iload (pc := 109) hx hb dX6_askOf_109 (lv_at hl 0 rfl) ?_
              obtain ⟨c111, hf⟩ := zz_k hf
              refine lm_parts (pc := 111) hx hb hK hP c111 dX6_askOf_111 ?_
              refine lv_goto (pc := 112) (tgt := 117) hx hb dX6_askOf_112 (by decide) ?_
              refine lv_istore (pc := 117) (lv' := [(5, .int (m_parts σ92 (v70 + 1).toNatClampNeg)), (7, .int (v70 + 1)), (0, .ref (ad 0)), (1, .int x1), (2, .int x2), (3, .int x3), (4, .int x4), (6, .int x6)]) hx hb dX6_askOf_117 hl (by decide) rfl (fun ls hl => ?_)
              refine lv_iinc (pc := 119) (v := (x6 + 1)) (lv' := [(6, .int (x6 + 1)), (5, .int (m_parts σ92 (v70 + 1).toNatClampNeg)), (7, .int (v70 + 1)), (0, .ref (ad 0)), (1, .int x1), (2, .int x2), (3, .int x3), (4, .int x4)]) hx hb dX6_askOf_119 hl (k := 7) rfl rfl (by decide) rfl (fun ls hl => ?_)
              refine lv_goto (pc := 122) (tgt := 56) hx hb dX6_askOf_122 (by decide) ?_
              exact ih56 σ92 x1 x2 x3 x4 (m_parts σ92 (v70 + 1).toNatClampNeg) (x6 + 1) _ _ _ hP hD hS (lv_sub hl [3, 4, 5, 6, 7, 1, 0] rfl) hf
      have L29 : ∀ (n29 : Nat) (σ : SM) (x1 : Int32) (x2 : Int32) (x3 : Int32) (x4 : Int32) (x5 : Int32) (H : Heap) (locs : List Loc) (ls : Array Slot), va_P D vwCl (wM ad cA σ) H → va_D A (wM ad cA σ) → va_S A s.heap H locs → lv_has ls 8 [(0, .ref (ad 0)), (1, .int x1), (2, .int x2), (3, .int x3), (4, .int x4), (5, .int x5)] → fX6_askOf_29 N (fX6_askOf_13 N n13) n29 σ x1 x2 x3 x4 x5 = some (rF, σF) → G p l e 4 97 s m args below meth c D A (wM ad cA σF) (some (.int rF)) H locs (F0 m 29 ls []) := by
        intro n29
        induction n29 with
        | zero => intro σ x1 x2 x3 x4 x5 H locs ls hP hD hS hl hf; exact absurd hf (by simp [fX6_askOf_29])
        | succ n29 ih29 =>
          intro σ x1 x2 x3 x4 x5 H locs ls hP hD hS hl hf
          rw [fX6_askOf_29] at hf
          refine lv_iload (pc := 29) hx hb dX6_askOf_29 (lv_at hl 5 rfl) ?_
          refine lv_bipush (pc := 31) (v := 8) hx hb dX6_askOf_31 (by decide) ?_
          refine lv_icmp_ge (pc := 33) (tgt := 50) hx hb dX6_askOf_33 (by decide) (fun c33 => ?_) (fun c33 => ?_)
          · have hf := zz_t c33 hf
            refine lv_iconst (pc := 50) (v := 0) hx hb dX6_askOf_50 (by decide) ?_
            refine lv_istore (pc := 51) (lv' := [(5, .int 0), (0, .ref (ad 0)), (1, .int x1), (2, .int x2), (3, .int x3), (4, .int x4)]) hx hb dX6_askOf_51 hl (by decide) rfl (fun ls hl => ?_)
            refine lv_iconst (pc := 53) (v := 0) hx hb dX6_askOf_53 (by decide) ?_
            refine lv_istore (pc := 54) (lv' := [(6, .int 0), (5, .int 0), (0, .ref (ad 0)), (1, .int x1), (2, .int x2), (3, .int x3), (4, .int x4)]) hx hb dX6_askOf_54 hl (by decide) rfl (fun ls hl => ?_)
            exact L56 N σ x1 x2 x3 x4 0 0 _ _ _ hP hD hS (lv_sub hl [2, 3, 4, 5, 6, 1, 0] rfl) hf
          · have hf := zz_f c33 hf
            refine lv_aload_n (pc := 36) hx hb dX6_askOf_36 rfl (lv_at hl 0 rfl) ?_
            refine gm_0_parts (pc := 37) CF hK hP mF_X6_22 dX6_askOf_37 ?_
            refine lv_iload (pc := 40) hx hb dX6_askOf_40 (lv_at hl 5 rfl) ?_
            refine lv_iconst (pc := 42) (v := 0) hx hb dX6_askOf_42 (by decide) ?_
            obtain ⟨c43, hf⟩ := zz_k hf
            refine am_parts (pc := 43) hx hb hK hP hD hS c43 dX6_askOf_43 (fun H locs hP hD hS => ?_)
            obtain ⟨σ43, hP, hD, hf⟩ := zz_g (w := wM ad cA) hP hD hf
            refine lv_iinc (pc := 44) (v := (x5 + 1)) (lv' := [(5, .int (x5 + 1)), (0, .ref (ad 0)), (1, .int x1), (2, .int x2), (3, .int x3), (4, .int x4)]) hx hb dX6_askOf_44 hl (k := 5) rfl rfl (by decide) rfl (fun ls hl => ?_)
            refine lv_goto (pc := 47) (tgt := 29) hx hb dX6_askOf_47 (by decide) ?_
            exact ih29 σ43 x1 x2 x3 x4 (x5 + 1) _ _ _ hP hD hS (lv_sub hl [1, 2, 3, 4, 5, 0] rfl) hf
      intro σ x1 x2 x3 x4 H locs ls hP hD hS hl hf
      rw [fX6_askOf_13] at hf
      refine lv_iload (pc := 13) hx hb dX6_askOf_13 (lv_at hl 4 rfl) ?_
      refine lv_aload_n (pc := 15) hx hb dX6_askOf_15 rfl (lv_at hl 0 rfl) ?_
      refine gm_0_people (pc := 16) CF hK hP mF_X6_68 dX6_askOf_16 ?_
      refine lv_icmp_ge (pc := 19) (tgt := 157) hx hb dX6_askOf_19 (by decide) (fun c19 => ?_) (fun c19 => ?_)
      · have hf := zz_t c19 hf
        refine lv_iload_n (pc := 157) hx hb dX6_askOf_157 rfl (lv_at hl 2 rfl) ?_
        exact retIw (wf := wM ad cA) hx hb hr hlk hf hP hD hS dX6_askOf_158
      · have hf := zz_f c19 hf
        refine lv_iload_n (pc := 22) hx hb dX6_askOf_22 rfl (lv_at hl 1 rfl) ?_
        refine lv_if_eq (pc := 23) (tgt := 157) hx hb dX6_askOf_23 (by decide) (fun c23 => ?_) (fun c23 => ?_)
        · have hf := zz_t c23 hf
          refine lv_iload_n (pc := 157) hx hb dX6_askOf_157 rfl (lv_at hl 2 rfl) ?_
          exact retIw (wf := wM ad cA) hx hb hr hlk hf hP hD hS dX6_askOf_158
        · have hf := zz_f c23 hf
          refine lv_iconst (pc := 26) (v := 0) hx hb dX6_askOf_26 (by decide) ?_
          refine lv_istore (pc := 27) (lv' := [(5, .int 0), (0, .ref (ad 0)), (1, .int x1), (2, .int x2), (3, .int x3), (4, .int x4)]) hx hb dX6_askOf_27 hl (by decide) rfl (fun ls hl => ?_)
          exact L29 N σ x1 x2 x3 x4 0 _ _ _ hP hD hS (lv_sub hl [1, 2, 3, 4, 5, 0] rfl) hf
  refine lv_aload_n (pc := 0) hx hb dX6_askOf_0 rfl (lv_at hl 0 rfl) ?_
  obtain ⟨v1, h1, hf⟩ := zz_o hf
  refine cV (pc := 1) (rest := []) (st1 := [.int v1]) (q0 := 0) CF (tX6_beganOf h1) hK hP hD hS hA hN hW mL_X6_151 kX6_beganOf nX6_beganOf rfl rfl rfl rfl ⟨by decide, by decide⟩ hl.1 (Nat.le_of_ble_eq_true rfl) ⟨Nat.le_refl _, Nat.le_refl _⟩ rfl dX6_askOf_1 (fun H locs hP hD hS => ?_)
  refine lv_istore_n (pc := 4) (lv' := [(1, .int v1), (0, .ref (ad 0))]) hx hb dX6_askOf_4 rfl hl (by decide) rfl (fun ls hl => ?_)
  refine lv_iconst (pc := 5) (v := (-1)) hx hb dX6_askOf_5 (by decide) ?_
  refine lv_istore_n (pc := 6) (lv' := [(2, .int (-1)), (1, .int v1), (0, .ref (ad 0))]) hx hb dX6_askOf_6 rfl hl (by decide) rfl (fun ls hl => ?_)
  refine lv_bipush (pc := 7) (v := 7) hx hb dX6_askOf_7 (by decide) ?_
  refine lv_istore_n (pc := 9) (lv' := [(3, .int 7), (2, .int (-1)), (1, .int v1), (0, .ref (ad 0))]) hx hb dX6_askOf_9 rfl hl (by decide) rfl (fun ls hl => ?_)
  refine lv_iconst (pc := 10) (v := 0) hx hb dX6_askOf_10 (by decide) ?_
  refine lv_istore (pc := 11) (lv' := [(4, .int 0), (3, .int 7), (2, .int (-1)), (1, .int v1), (0, .ref (ad 0))]) hx hb dX6_askOf_11 hl (by decide) rfl (fun ls hl => ?_)
  exact L13 N σ v1 (-1) 7 0 _ _ _ hP hD hS (lv_sub hl [4, 3, 2, 1, 0] rfl) hf
set_option maxHeartbeats 4000000 in
set_option maxRecDepth 100000 in
theorem tX6_ask {l : Launch} {kv : Nat × Nat} {D : va_G} {N : Nat} {ad : Nat → Nat} {cA : ClassId} {σ : SM} {rF : Int32} {σF : SM} (hf : fX6_ask N σ = some (rF, σF)) : Ct l kv D [(cA, .int)] yX6_ask cX6_ask 1 (some .int) 5 124 (wM ad cA σ) (wM ad cA σF) [.ref (ad 0)] (some (.int rF)) := by
  refine Ct.ofW (by decide) (Nat.le_of_ble_eq_true rfl) ?_
  intro p e s m below meth c A args CF hr hlk hA hP hK hD hN hW hS ls hl
  have hx := CF.1
  have hb := CF.2.1
  have hml := CF.2.2.1
  have hown := CF.2.2.2.1
  have hw : ∀ w ∈ wsA, w.before args s = true := fun w h => CF.2.2.2.2 w (List.mem_cons_of_mem _ h)
  have hl : lv_has ls 1 [(0, .ref (ad 0))] := hl
  unfold fX6_ask at hf
  refine lv_aload_n (pc := 0) hx hb dX6_ask_0 rfl (lv_at hl 0 rfl) ?_
  obtain ⟨v1, h1, hf⟩ := zz_o hf
  refine cV (pc := 1) (rest := []) (st1 := [.int v1]) (q0 := 0) CF (tX6_lacks h1) hK hP hD hS hA hN hW mL_X6_86 kX6_lacks nX6_lacks rfl rfl rfl rfl ⟨by decide, by decide⟩ hl.1 (Nat.le_of_ble_eq_true rfl) ⟨Nat.le_refl _, Nat.le_refl _⟩ rfl dX6_ask_1 (fun H locs hP hD hS => ?_)
  refine lv_if_eq (pc := 4) (tgt := 12) hx hb dX6_ask_4 (by decide) (fun c4 => ?_) (fun c4 => ?_)
  · have hf := zz_t c4 hf
    refine lv_aload_n (pc := 12) hx hb dX6_ask_12 rfl (lv_at hl 0 rfl) ?_
    obtain ⟨v13, σ13, h13, hf⟩ := zz_b hf
    refine cV (pc := 13) (rest := []) (st1 := [.int v13]) (q0 := 0) CF (tX6_askOf h13) hK hP hD hS hA hN hW mL_X6_154 kX6_askOf nX6_askOf rfl rfl rfl rfl ⟨by decide, by decide⟩ hl.1 (Nat.le_of_ble_eq_true rfl) ⟨Nat.le_refl _, Nat.le_refl _⟩ rfl dX6_ask_13 (fun H locs hP hD hS => ?_)
    exact retIw (wf := wM ad cA) hx hb hr hlk hf hP hD hS dX6_ask_16
  · have hf := zz_f c4 hf
    refine lv_bipush (pc := 7) (v := (-103)) hx hb dX6_ask_7 (by decide) ?_
    refine lv_goto (pc := 9) (tgt := 16) hx hb dX6_ask_9 (by decide) ?_
    exact retIw (wf := wM ad cA) hx hb hr hlk hf hP hD hS dX6_ask_16
set_option maxHeartbeats 4000000 in
set_option maxRecDepth 100000 in
theorem tX6_draw {l : Launch} {kv : Nat × Nat} {D : va_G} {N : Nat} {ad : Nat → Nat} {cA : ClassId} {σ : SM} {x1 : Int32} {rF : Int32} {σF : SM} (hf : fX6_draw N σ x1 = some (rF, σF)) : Ct l kv D [(cA, .int)] yX6_draw cX6_draw 2 (some .int) 0 0 (wM ad cA σ) (wM ad cA σF) [.ref (ad 0), .int x1] (some (.int rF)) := by
  refine Ct.ofW (by decide) (Nat.le_of_ble_eq_true rfl) ?_
  intro p e s m below meth c A args CF hr hlk hA hP hK hD hN hW hS ls hl
  have hx := CF.1
  have hb := CF.2.1
  have hml := CF.2.2.1
  have hown := CF.2.2.2.1
  have hw : ∀ w ∈ wsA, w.before args s = true := fun w h => CF.2.2.2.2 w (List.mem_cons_of_mem _ h)
  have hl : lv_has ls 2 [(0, .ref (ad 0)), (1, .int x1)] := hl
  unfold fX6_draw at hf
  refine lv_aload_n (pc := 0) hx hb dX6_draw_0 rfl (lv_at hl 0 rfl) ?_
  refine lv_ldc2 (pc := 1) hx hb hown (hw _ mK_X6_157) dX6_draw_1 ?_
  refine lv_aload_n (pc := 4) hx hb dX6_draw_4 rfl (lv_at hl 0 rfl) ?_
  refine gm_0_seedNow (pc := 5) CF hK hP mF_X6_159 dX6_draw_5 ?_
  refine lv_i2l (pc := 8) (v := (m_seedNow σ).toInt64) hx hb dX6_draw_8 rfl ?_
  refine lv_lmul (pc := 9) hx hb dX6_draw_9 ?_
  refine lv_ldc2 (pc := 10) hx hb hown (hw _ mK_X6_162) dX6_draw_10 ?_
  refine lv_ladd (pc := 13) hx hb dX6_draw_13 ?_
  refine lv_ldc2 (pc := 14) hx hb hown (hw _ mK_X6_164) dX6_draw_14 ?_
  refine lv_land (pc := 17) hx hb dX6_draw_17 ?_
  refine lv_l2i (pc := 18) (v := (((1103515245 * ((m_seedNow σ).toInt64)) + 12345) &&& 2147483647).toInt32) hx hb dX6_draw_18 rfl ?_
  refine pm_0_seedNow (pc := 19) CF hK hP hD hS mF_X6_159 dX6_draw_19 (fun H locs hP hD hS => ?_)
  obtain ⟨σ19, hP, hD, hf⟩ := zz_g (w := wM ad cA) hP hD hf
  refine lv_aload_n (pc := 22) hx hb dX6_draw_22 rfl (lv_at hl 0 rfl) ?_
  refine gm_0_seedNow (pc := 23) CF hK hP mF_X6_159 dX6_draw_23 ?_
  refine lv_ldc (pc := 26) hx hb hown (hw _ mK_X6_166) dX6_draw_26 ?_
  refine lv_idiv (pc := 28) hx hb dX6_draw_28 (by decide) ?_
  refine lv_iload_n (pc := 29) hx hb dX6_draw_29 rfl (lv_at hl 1 rfl) ?_
  obtain ⟨c30, hf⟩ := zz_k hf
  refine lv_irem (pc := 30) hx hb dX6_draw_30 c30 ?_
  exact retIw (wf := wM ad cA) hx hb hr hlk hf hP hD hS dX6_draw_31
set_option maxHeartbeats 4000000 in
set_option maxRecDepth 100000 in
theorem tX6_markets {l : Launch} {kv : Nat × Nat} {D : va_G} {N : Nat} {ad : Nat → Nat} {cA : ClassId} {σ : SM} {x1 : Int32} {x2 : Int32} {x3 : Int32} {rF : Int32} {σF : SM} (hf : fX6_markets N σ x1 x2 x3 = some (rF, σF)) : Ct l kv D [(cA, .int)] yX6_markets cX6_markets 8 (some .int) 4 93 (wM ad cA σ) (wM ad cA σF) [.ref (ad 0), .int x1, .int x2, .int x3] (some (.int rF)) := by
  refine Ct.ofW (by decide) (Nat.le_of_ble_eq_true rfl) ?_
  intro p e s m below meth c A args CF hr hlk hA hP hK hD hN hW hS ls hl
  have hx := CF.1
  have hb := CF.2.1
  have hml := CF.2.2.1
  have hown := CF.2.2.2.1
  have hw : ∀ w ∈ wsA, w.before args s = true := fun w h => CF.2.2.2.2 w (List.mem_cons_of_mem _ h)
  have hl : lv_has ls 8 [(0, .ref (ad 0)), (1, .int x1), (2, .int x2), (3, .int x3)] := hl
  unfold fX6_markets at hf
  have L55 : ∀ (n55 : Nat) (σ : SM) (x1 : Int32) (x3 : Int32) (x4 : Int32) (x5 : Int32) (x6 : Int32) (H : Heap) (locs : List Loc) (ls : Array Slot), va_P D vwCl (wM ad cA σ) H → va_D A (wM ad cA σ) → va_S A s.heap H locs → lv_has ls 8 [(0, .ref (ad 0)), (1, .int x1), (3, .int x3), (4, .int x4), (5, .int x5), (6, .int x6)] → fX6_markets_55 N n55 σ x1 x3 x4 x5 x6 = some (rF, σF) → G p l e 4 93 s m args below meth c D A (wM ad cA σF) (some (.int rF)) H locs (F0 m 55 ls []) := by
    intro n55
    induction n55 with
    | zero => intro σ x1 x3 x4 x5 x6 H locs ls hP hD hS hl hf; exact absurd hf (by simp [fX6_markets_55])
    | succ n55 ih55 =>
      intro σ x1 x3 x4 x5 x6 H locs ls hP hD hS hl hf
      rw [fX6_markets_55] at hf
      refine lv_iload (pc := 55) hx hb dX6_markets_55 (lv_at hl 5 rfl) ?_
      refine lv_iload_n (pc := 57) hx hb dX6_markets_57 rfl (lv_at hl 1 rfl) ?_
      refine lv_icmp_ge (pc := 58) (tgt := 106) hx hb dX6_markets_58 (by decide) (fun c58 => ?_) (fun c58 => ?_)
      · have hf := zz_t c58 hf
        refine lv_iload_n (pc := 106) hx hb dX6_markets_106 rfl (lv_at hl 2 rfl) ?_
        refine lv_if_ne (pc := 107) (tgt := 115) hx hb dX6_markets_107 (by decide) (fun c107 => ?_) (fun c107 => ?_)
        · have hf := zz_f c107 hf
          refine lv_iload_n (pc := 115) hx hb dX6_markets_115 rfl (lv_at hl 2 rfl) ?_
          refine lv_iconst (pc := 116) (v := 1) hx hb dX6_markets_116 (by decide) ?_
          refine lv_icmp_ne (pc := 117) (tgt := 125) hx hb dX6_markets_117 (by decide) (fun c117 => ?_) (fun c117 => ?_)
          · have hf := zz_f c117 hf
            refine lv_aload_n (pc := 125) hx hb dX6_markets_125 rfl (lv_at hl 0 rfl) ?_
            refine gm_0_seedNow (pc := 126) CF hK hP mF_X6_159 dX6_markets_126 ?_
            exact retIw (wf := wM ad cA) hx hb hr hlk hf hP hD hS dX6_markets_129
          · have hf := zz_t c117 hf
            refine lv_iload (pc := 120) hx hb dX6_markets_120 (lv_at hl 4 rfl) ?_
            refine lv_goto (pc := 122) (tgt := 129) hx hb dX6_markets_122 (by decide) ?_
            exact retIw (wf := wM ad cA) hx hb hr hlk hf hP hD hS dX6_markets_129
        · have hf := zz_t c107 hf
          refine lv_iload (pc := 110) hx hb dX6_markets_110 (lv_at hl 3 rfl) ?_
          refine lv_goto (pc := 112) (tgt := 129) hx hb dX6_markets_112 (by decide) ?_
          exact retIw (wf := wM ad cA) hx hb hr hlk hf hP hD hS dX6_markets_129
      · have hf := zz_f c58 hf
        refine lv_aload_n (pc := 61) hx hb dX6_markets_61 rfl (lv_at hl 0 rfl) ?_
        refine lv_iconst (pc := 62) (v := 1) hx hb dX6_markets_62 (by decide) ?_
        refine lv_aload_n (pc := 63) hx hb dX6_markets_63 rfl (lv_at hl 0 rfl) ?_
        refine lv_aload_n (pc := 64) hx hb dX6_markets_64 rfl (lv_at hl 0 rfl) ?_
        refine gm_0_people (pc := 65) CF hK hP mF_X6_68 dX6_markets_65 ?_
        obtain ⟨v68, σ68, h68, hf⟩ := zz_b hf
        refine cV (pc := 68) (rest := [.int 1, .ref (ad 0)]) (st1 := [.int v68, .int 1, .ref (ad 0)]) (q0 := 0) CF (tX6_draw h68) hK hP hD hS hA hN hW mL_X6_169 kX6_draw nX6_draw rfl rfl rfl rfl ⟨by decide, by decide⟩ hl.1 (Nat.le_of_ble_eq_true rfl) ⟨Nat.le_refl _, Nat.le_refl _⟩ rfl dX6_markets_68 (fun H locs hP hD hS => ?_)
        refine lv_ishl (pc := 71) hx hb dX6_markets_71 ?_
        obtain ⟨v72, h72, hf⟩ := zz_o hf
        refine cV (pc := 72) (rest := []) (st1 := [.int v72]) (q0 := 0) CF (tX6_endsOf h72) hK hP hD hS hA hN hW mL_X6_114 kX6_endsOf nX6_endsOf rfl rfl rfl rfl ⟨by decide, by decide⟩ hl.1 (Nat.le_of_ble_eq_true rfl) ⟨Nat.le_refl _, Nat.le_refl _⟩ rfl dX6_markets_72 (fun H locs hP hD hS => ?_)
        refine lv_istore (pc := 75) (lv' := [(7, .int v72), (0, .ref (ad 0)), (1, .int x1), (3, .int x3), (4, .int x4), (5, .int x5), (6, .int x6)]) hx hb dX6_markets_75 hl (by decide) rfl (fun ls hl => ?_)
        refine lv_iload (pc := 77) hx hb dX6_markets_77 (lv_at hl 4 rfl) ?_
        refine lv_iload (pc := 79) hx hb dX6_markets_79 (lv_at hl 0 rfl) ?_
        refine lv_iadd (pc := 81) hx hb dX6_markets_81 ?_
        refine lv_istore (pc := 82) (lv' := [(4, .int (x4 + v72)), (7, .int v72), (0, .ref (ad 0)), (1, .int x1), (3, .int x3), (5, .int x5), (6, .int x6)]) hx hb dX6_markets_82 hl (by decide) rfl (fun ls hl => ?_)
        refine lv_iload (pc := 84) hx hb dX6_markets_84 (lv_at hl 1 rfl) ?_
        refine lv_iload (pc := 86) hx hb dX6_markets_86 (lv_at hl 5 rfl) ?_
        refine lv_icmp_le (pc := 88) (tgt := 96) hx hb dX6_markets_88 (by decide) (fun c88 => ?_) (fun c88 => ?_)
        · have hf := zz_t c88 hf
          refine lv_iload (pc := 96) hx hb dX6_markets_96 (lv_at hl 5 rfl) ?_
          refine lv_istore (pc := 98) (lv' := [(5, .int x5), (4, .int (x4 + v72)), (7, .int v72), (0, .ref (ad 0)), (1, .int x1), (3, .int x3), (6, .int x6)]) hx hb dX6_markets_98 hl (by decide) rfl (fun ls hl => ?_)
          refine lv_iinc (pc := 100) (v := (x6 + 1)) (lv' := [(6, .int (x6 + 1)), (5, .int x5), (4, .int (x4 + v72)), (7, .int v72), (0, .ref (ad 0)), (1, .int x1), (3, .int x3)]) hx hb dX6_markets_100 hl (k := 6) rfl rfl (by decide) rfl (fun ls hl => ?_)
          refine lv_goto (pc := 103) (tgt := 55) hx hb dX6_markets_103 (by decide) ?_
          exact ih55 σ68 x1 x3 (x4 + v72) x5 (x6 + 1) _ _ _ hP hD hS (lv_sub hl [4, 5, 6, 2, 1, 0] rfl) hf
        · have hf := zz_f c88 hf
          refine lv_iload (pc := 91) hx hb dX6_markets_91 (lv_at hl 1 rfl) ?_
          refine lv_goto (pc := 93) (tgt := 98) hx hb dX6_markets_93 (by decide) ?_
          refine lv_istore (pc := 98) (lv' := [(5, .int v72), (4, .int (x4 + v72)), (7, .int v72), (0, .ref (ad 0)), (1, .int x1), (3, .int x3), (6, .int x6)]) hx hb dX6_markets_98 hl (by decide) rfl (fun ls hl => ?_)
          refine lv_iinc (pc := 100) (v := (x6 + 1)) (lv' := [(6, .int (x6 + 1)), (5, .int v72), (4, .int (x4 + v72)), (7, .int v72), (0, .ref (ad 0)), (1, .int x1), (3, .int x3)]) hx hb dX6_markets_100 hl (k := 6) rfl rfl (by decide) rfl (fun ls hl => ?_)
          refine lv_goto (pc := 103) (tgt := 55) hx hb dX6_markets_103 (by decide) ?_
          exact ih55 σ68 x1 x3 (x4 + v72) v72 (x6 + 1) _ _ _ hP hD hS (lv_sub hl [4, 5, 6, 2, 1, 0] rfl) hf
  refine lv_iload_n (pc := 0) hx hb dX6_markets_0 rfl (lv_at hl 1 rfl) ?_
  refine lv_i2l (pc := 1) (v := x1.toInt64) hx hb dX6_markets_1 rfl ?_
  refine lv_lconst (pc := 2) (v := 1) hx hb dX6_markets_2 (by decide) ?_
  refine lv_ldc2 (pc := 3) hx hb hown (hw _ mK_X6_167) dX6_markets_3 ?_
  obtain ⟨v6, h6, hf⟩ := zz_o hf
  refine cSt (pc := 6) (rest := []) (st1 := [.int v6]) CF (tX6_in h6) hK hP hD hS hA hN hW mL_X6_40 kX6_in nX6_in rfl rfl ⟨by decide, by decide⟩ hl.1 (Nat.le_of_ble_eq_true rfl) ⟨Nat.le_refl _, Nat.le_refl _⟩ rfl dX6_markets_6 (fun H locs hP hD hS => ?_)
  refine lv_if_eq (pc := 9) (tgt := 28) hx hb dX6_markets_9 (by decide) (fun c9 => ?_) (fun c9 => ?_)
  · have hf := zz_t c9 hf
    refine lv_bipush (pc := 28) (v := (-102)) hx hb dX6_markets_28 (by decide) ?_
    exact retIw (wf := wM ad cA) hx hb hr hlk hf hP hD hS dX6_markets_30
  · have hf := zz_f c9 hf
    refine lv_iload_n (pc := 12) hx hb dX6_markets_12 rfl (lv_at hl 2 rfl) ?_
    refine lv_if_lt (pc := 13) (tgt := 28) hx hb dX6_markets_13 (by decide) (fun c13 => ?_) (fun c13 => ?_)
    · have hf := zz_t c13 hf
      refine lv_bipush (pc := 28) (v := (-102)) hx hb dX6_markets_28 (by decide) ?_
      exact retIw (wf := wM ad cA) hx hb hr hlk hf hP hD hS dX6_markets_30
    · have hf := zz_f c13 hf
      refine lv_iload_n (pc := 16) hx hb dX6_markets_16 rfl (lv_at hl 3 rfl) ?_
      refine lv_i2l (pc := 17) (v := x3.toInt64) hx hb dX6_markets_17 rfl ?_
      refine lv_lconst (pc := 18) (v := 0) hx hb dX6_markets_18 (by decide) ?_
      refine lv_ldc2 (pc := 19) hx hb hown (hw _ mK_X6_90) dX6_markets_19 ?_
      obtain ⟨v22, h22, hf⟩ := zz_o hf
      refine cSt (pc := 22) (rest := []) (st1 := [.int v22]) CF (tX6_in h22) hK hP hD hS hA hN hW mL_X6_40 kX6_in nX6_in rfl rfl ⟨by decide, by decide⟩ hl.1 (Nat.le_of_ble_eq_true rfl) ⟨Nat.le_refl _, Nat.le_refl _⟩ rfl dX6_markets_22 (fun H locs hP hD hS => ?_)
      refine lv_if_ne (pc := 25) (tgt := 31) hx hb dX6_markets_25 (by decide) (fun c25 => ?_) (fun c25 => ?_)
      · have hf := zz_f c25 hf
        refine lv_aload_n (pc := 31) hx hb dX6_markets_31 rfl (lv_at hl 0 rfl) ?_
        obtain ⟨v32, h32, hf⟩ := zz_o hf
        refine cV (pc := 32) (rest := []) (st1 := [.int v32]) (q0 := 0) CF (tX6_lacks h32) hK hP hD hS hA hN hW mL_X6_86 kX6_lacks nX6_lacks rfl rfl rfl rfl ⟨by decide, by decide⟩ hl.1 (Nat.le_of_ble_eq_true rfl) ⟨Nat.le_refl _, Nat.le_refl _⟩ rfl dX6_markets_32 (fun H locs hP hD hS => ?_)
        refine lv_if_eq (pc := 35) (tgt := 41) hx hb dX6_markets_35 (by decide) (fun c35 => ?_) (fun c35 => ?_)
        · have hf := zz_t c35 hf
          refine lv_aload_n (pc := 41) hx hb dX6_markets_41 rfl (lv_at hl 0 rfl) ?_
          refine lv_iload_n (pc := 42) hx hb dX6_markets_42 rfl (lv_at hl 2 rfl) ?_
          refine pm_0_seedNow (pc := 43) CF hK hP hD hS mF_X6_159 dX6_markets_43 (fun H locs hP hD hS => ?_)
          obtain ⟨σ43, hP, hD, hf⟩ := zz_g (w := wM ad cA) hP hD hf
          refine lv_iconst (pc := 46) (v := 0) hx hb dX6_markets_46 (by decide) ?_
          refine lv_istore (pc := 47) (lv' := [(4, .int 0), (0, .ref (ad 0)), (1, .int x1), (2, .int x2), (3, .int x3)]) hx hb dX6_markets_47 hl (by decide) rfl (fun ls hl => ?_)
          refine lv_iconst (pc := 49) (v := 0) hx hb dX6_markets_49 (by decide) ?_
          refine lv_istore (pc := 50) (lv' := [(5, .int 0), (4, .int 0), (0, .ref (ad 0)), (1, .int x1), (2, .int x2), (3, .int x3)]) hx hb dX6_markets_50 hl (by decide) rfl (fun ls hl => ?_)
          refine lv_iconst (pc := 52) (v := 0) hx hb dX6_markets_52 (by decide) ?_
          refine lv_istore (pc := 53) (lv' := [(6, .int 0), (5, .int 0), (4, .int 0), (0, .ref (ad 0)), (1, .int x1), (2, .int x2), (3, .int x3)]) hx hb dX6_markets_53 hl (by decide) rfl (fun ls hl => ?_)
          exact L55 N σ43 x1 x3 0 0 0 _ _ _ hP hD hS (lv_sub hl [3, 4, 6, 2, 1, 0] rfl) hf
        · have hf := zz_f c35 hf
          refine lv_bipush (pc := 38) (v := (-103)) hx hb dX6_markets_38 (by decide) ?_
          exact retIw (wf := wM ad cA) hx hb hr hlk hf hP hD hS dX6_markets_40
      · have hf := zz_t c25 hf
        refine lv_bipush (pc := 28) (v := (-102)) hx hb dX6_markets_28 (by decide) ?_
        exact retIw (wf := wM ad cA) hx hb hr hlk hf hP hD hS dX6_markets_30
set_option maxHeartbeats 4000000 in
set_option maxRecDepth 100000 in
theorem tX6_image {l : Launch} {kv : Nat × Nat} {D : va_G} {N : Nat} {ad : Nat → Nat} {cA : ClassId} {σ : SM} {rF : Int32} {σF : SM} (hf : fX6_image N σ = some (rF, σF)) : Ct l kv D [(cA, .int)] yX6_image cX6_image 1 (some .int) 1 22 (wM ad cA σ) (wM ad cA σF) [.ref (ad 0)] (some (.int rF)) := by
  refine Ct.ofW (by decide) (Nat.le_of_ble_eq_true rfl) ?_
  intro p e s m below meth c A args CF hr hlk hA hP hK hD hN hW hS ls hl
  have hx := CF.1
  have hb := CF.2.1
  have hml := CF.2.2.1
  have hown := CF.2.2.2.1
  have hw : ∀ w ∈ wsA, w.before args s = true := fun w h => CF.2.2.2.2 w (List.mem_cons_of_mem _ h)
  have hl : lv_has ls 1 [(0, .ref (ad 0))] := hl
  unfold fX6_image at hf
  refine lv_aload_n (pc := 0) hx hb dX6_image_0 rfl (lv_at hl 0 rfl) ?_
  obtain ⟨v1, h1, hf⟩ := zz_o hf
  refine cV (pc := 1) (rest := []) (st1 := [.int v1]) (q0 := 0) CF (tX6_lacks h1) hK hP hD hS hA hN hW mL_X6_86 kX6_lacks nX6_lacks rfl rfl rfl rfl ⟨by decide, by decide⟩ hl.1 (Nat.le_of_ble_eq_true rfl) ⟨Nat.le_refl _, Nat.le_refl _⟩ rfl dX6_image_1 (fun H locs hP hD hS => ?_)
  refine lv_if_eq (pc := 4) (tgt := 10) hx hb dX6_image_4 (by decide) (fun c4 => ?_) (fun c4 => ?_)
  · have hf := zz_t c4 hf
    refine lv_aload_n (pc := 10) hx hb dX6_image_10 rfl (lv_at hl 0 rfl) ?_
    refine gm_0_rows (pc := 11) CF hK hP mF_X6_13 dX6_image_11 ?_
    refine lv_aload_n (pc := 14) hx hb dX6_image_14 rfl (lv_at hl 0 rfl) ?_
    refine gm_0_keptRows (pc := 15) CF hK hP mF_X6_25 dX6_image_15 ?_
    obtain ⟨σ18, h18, hf⟩ := zz_o hf
    refine cSt (pc := 18) (rest := []) (st1 := []) CF (tX6_copy_2_6 h18) hK hP hD hS hA hN hW mL_X6_172 kX6_copy nX6_copy rfl rfl ⟨by decide, by decide⟩ hl.1 (Nat.le_of_ble_eq_true rfl) ⟨Nat.le_refl _, Nat.le_refl _⟩ rfl dX6_image_18 (fun H locs hP hD hS => ?_)
    refine lv_aload_n (pc := 21) hx hb dX6_image_21 rfl (lv_at hl 0 rfl) ?_
    refine gm_0_tunnels (pc := 22) CF hK hP mF_X6_16 dX6_image_22 ?_
    refine lv_aload_n (pc := 25) hx hb dX6_image_25 rfl (lv_at hl 0 rfl) ?_
    refine gm_0_keptTunnels (pc := 26) CF hK hP mF_X6_28 dX6_image_26 ?_
    obtain ⟨σ29, h29, hf⟩ := zz_o hf
    refine cSt (pc := 29) (rest := []) (st1 := []) CF (tX6_copy_3_7 h29) hK hP hD hS hA hN hW mL_X6_172 kX6_copy nX6_copy rfl rfl ⟨by decide, by decide⟩ hl.1 (Nat.le_of_ble_eq_true rfl) ⟨Nat.le_refl _, Nat.le_refl _⟩ rfl dX6_image_29 (fun H locs hP hD hS => ?_)
    refine lv_aload_n (pc := 32) hx hb dX6_image_32 rfl (lv_at hl 0 rfl) ?_
    refine gm_0_askeds (pc := 33) CF hK hP mF_X6_19 dX6_image_33 ?_
    refine lv_aload_n (pc := 36) hx hb dX6_image_36 rfl (lv_at hl 0 rfl) ?_
    refine gm_0_keptAskeds (pc := 37) CF hK hP mF_X6_31 dX6_image_37 ?_
    obtain ⟨σ40, h40, hf⟩ := zz_o hf
    refine cSt (pc := 40) (rest := []) (st1 := []) CF (tX6_copy_4_8 h40) hK hP hD hS hA hN hW mL_X6_172 kX6_copy nX6_copy rfl rfl ⟨by decide, by decide⟩ hl.1 (Nat.le_of_ble_eq_true rfl) ⟨Nat.le_refl _, Nat.le_refl _⟩ rfl dX6_image_40 (fun H locs hP hD hS => ?_)
    refine lv_aload_n (pc := 43) hx hb dX6_image_43 rfl (lv_at hl 0 rfl) ?_
    refine lv_aload_n (pc := 44) hx hb dX6_image_44 rfl (lv_at hl 0 rfl) ?_
    refine gm_0_days (pc := 45) CF hK hP mF_X6_74 dX6_image_45 ?_
    refine pm_0_keptDays (pc := 48) CF hK hP hD hS mF_X6_176 dX6_image_48 (fun H locs hP hD hS => ?_)
    obtain ⟨σ48, hP, hD, hf⟩ := zz_g (w := wM ad cA) hP hD hf
    refine lv_aload_n (pc := 51) hx hb dX6_image_51 rfl (lv_at hl 0 rfl) ?_
    refine lv_aload_n (pc := 52) hx hb dX6_image_52 rfl (lv_at hl 0 rfl) ?_
    refine gm_0_changes (pc := 53) CF hK hP mF_X6_77 dX6_image_53 ?_
    refine pm_0_keptChanges (pc := 56) CF hK hP hD hS mF_X6_179 dX6_image_56 (fun H locs hP hD hS => ?_)
    obtain ⟨σ56, hP, hD, hf⟩ := zz_g (w := wM ad cA) hP hD hf
    refine lv_aload_n (pc := 59) hx hb dX6_image_59 rfl (lv_at hl 0 rfl) ?_
    refine lv_aload_n (pc := 60) hx hb dX6_image_60 rfl (lv_at hl 0 rfl) ?_
    refine gm_0_askedMany (pc := 61) CF hK hP mF_X6_80 dX6_image_61 ?_
    refine pm_0_keptAsked (pc := 64) CF hK hP hD hS mF_X6_182 dX6_image_64 (fun H locs hP hD hS => ?_)
    obtain ⟨σ64, hP, hD, hf⟩ := zz_g (w := wM ad cA) hP hD hf
    refine lv_aload_n (pc := 67) hx hb dX6_image_67 rfl (lv_at hl 0 rfl) ?_
    refine lv_aload_n (pc := 68) hx hb dX6_image_68 rfl (lv_at hl 0 rfl) ?_
    refine gm_0_hillsRead (pc := 69) CF hK hP mF_X6_83 dX6_image_69 ?_
    refine pm_0_keptHill (pc := 72) CF hK hP hD hS mF_X6_34 dX6_image_72 (fun H locs hP hD hS => ?_)
    obtain ⟨σ72, hP, hD, hf⟩ := zz_g (w := wM ad cA) hP hD hf
    refine lv_aload_n (pc := 75) hx hb dX6_image_75 rfl (lv_at hl 0 rfl) ?_
    refine gm_0_days (pc := 76) CF hK hP mF_X6_74 dX6_image_76 ?_
    exact retIw (wf := wM ad cA) hx hb hr hlk hf hP hD hS dX6_image_79
  · have hf := zz_f c4 hf
    refine lv_bipush (pc := 7) (v := (-103)) hx hb dX6_image_7 (by decide) ?_
    exact retIw (wf := wM ad cA) hx hb hr hlk hf hP hD hS dX6_image_9
set_option maxHeartbeats 4000000 in
set_option maxRecDepth 100000 in
theorem tX6_restore {l : Launch} {kv : Nat × Nat} {D : va_G} {N : Nat} {ad : Nat → Nat} {cA : ClassId} {σ : SM} {rF : Int32} {σF : SM} (hf : fX6_restore N σ = some (rF, σF)) : Ct l kv D [(cA, .int)] yX6_restore cX6_restore 1 (some .int) 1 22 (wM ad cA σ) (wM ad cA σF) [.ref (ad 0)] (some (.int rF)) := by
  refine Ct.ofW (by decide) (Nat.le_of_ble_eq_true rfl) ?_
  intro p e s m below meth c A args CF hr hlk hA hP hK hD hN hW hS ls hl
  have hx := CF.1
  have hb := CF.2.1
  have hml := CF.2.2.1
  have hown := CF.2.2.2.1
  have hw : ∀ w ∈ wsA, w.before args s = true := fun w h => CF.2.2.2.2 w (List.mem_cons_of_mem _ h)
  have hl : lv_has ls 1 [(0, .ref (ad 0))] := hl
  unfold fX6_restore at hf
  refine lv_aload_n (pc := 0) hx hb dX6_restore_0 rfl (lv_at hl 0 rfl) ?_
  refine gm_0_keptHill (pc := 1) CF hK hP mF_X6_34 dX6_restore_1 ?_
  refine lv_aload_n (pc := 4) hx hb dX6_restore_4 rfl (lv_at hl 0 rfl) ?_
  refine gm_0_hillsRead (pc := 5) CF hK hP mF_X6_83 dX6_restore_5 ?_
  refine lv_icmp_eq (pc := 8) (tgt := 14) hx hb dX6_restore_8 (by decide) (fun c8 => ?_) (fun c8 => ?_)
  · have hf := zz_t c8 hf
    refine lv_aload_n (pc := 14) hx hb dX6_restore_14 rfl (lv_at hl 0 rfl) ?_
    refine gm_0_keptRows (pc := 15) CF hK hP mF_X6_25 dX6_restore_15 ?_
    refine lv_aload_n (pc := 18) hx hb dX6_restore_18 rfl (lv_at hl 0 rfl) ?_
    refine gm_0_rows (pc := 19) CF hK hP mF_X6_13 dX6_restore_19 ?_
    obtain ⟨σ22, h22, hf⟩ := zz_o hf
    refine cSt (pc := 22) (rest := []) (st1 := []) CF (tX6_copy_6_2 h22) hK hP hD hS hA hN hW mL_X6_172 kX6_copy nX6_copy rfl rfl ⟨by decide, by decide⟩ hl.1 (Nat.le_of_ble_eq_true rfl) ⟨Nat.le_refl _, Nat.le_refl _⟩ rfl dX6_restore_22 (fun H locs hP hD hS => ?_)
    refine lv_aload_n (pc := 25) hx hb dX6_restore_25 rfl (lv_at hl 0 rfl) ?_
    refine gm_0_keptTunnels (pc := 26) CF hK hP mF_X6_28 dX6_restore_26 ?_
    refine lv_aload_n (pc := 29) hx hb dX6_restore_29 rfl (lv_at hl 0 rfl) ?_
    refine gm_0_tunnels (pc := 30) CF hK hP mF_X6_16 dX6_restore_30 ?_
    obtain ⟨σ33, h33, hf⟩ := zz_o hf
    refine cSt (pc := 33) (rest := []) (st1 := []) CF (tX6_copy_7_3 h33) hK hP hD hS hA hN hW mL_X6_172 kX6_copy nX6_copy rfl rfl ⟨by decide, by decide⟩ hl.1 (Nat.le_of_ble_eq_true rfl) ⟨Nat.le_refl _, Nat.le_refl _⟩ rfl dX6_restore_33 (fun H locs hP hD hS => ?_)
    refine lv_aload_n (pc := 36) hx hb dX6_restore_36 rfl (lv_at hl 0 rfl) ?_
    refine gm_0_keptAskeds (pc := 37) CF hK hP mF_X6_31 dX6_restore_37 ?_
    refine lv_aload_n (pc := 40) hx hb dX6_restore_40 rfl (lv_at hl 0 rfl) ?_
    refine gm_0_askeds (pc := 41) CF hK hP mF_X6_19 dX6_restore_41 ?_
    obtain ⟨σ44, h44, hf⟩ := zz_o hf
    refine cSt (pc := 44) (rest := []) (st1 := []) CF (tX6_copy_8_4 h44) hK hP hD hS hA hN hW mL_X6_172 kX6_copy nX6_copy rfl rfl ⟨by decide, by decide⟩ hl.1 (Nat.le_of_ble_eq_true rfl) ⟨Nat.le_refl _, Nat.le_refl _⟩ rfl dX6_restore_44 (fun H locs hP hD hS => ?_)
    refine lv_aload_n (pc := 47) hx hb dX6_restore_47 rfl (lv_at hl 0 rfl) ?_
    refine lv_aload_n (pc := 48) hx hb dX6_restore_48 rfl (lv_at hl 0 rfl) ?_
    refine gm_0_keptDays (pc := 49) CF hK hP mF_X6_176 dX6_restore_49 ?_
    refine pm_0_days (pc := 52) CF hK hP hD hS mF_X6_74 dX6_restore_52 (fun H locs hP hD hS => ?_)
    obtain ⟨σ52, hP, hD, hf⟩ := zz_g (w := wM ad cA) hP hD hf
    refine lv_aload_n (pc := 55) hx hb dX6_restore_55 rfl (lv_at hl 0 rfl) ?_
    refine lv_aload_n (pc := 56) hx hb dX6_restore_56 rfl (lv_at hl 0 rfl) ?_
    refine gm_0_keptChanges (pc := 57) CF hK hP mF_X6_179 dX6_restore_57 ?_
    refine pm_0_changes (pc := 60) CF hK hP hD hS mF_X6_77 dX6_restore_60 (fun H locs hP hD hS => ?_)
    obtain ⟨σ60, hP, hD, hf⟩ := zz_g (w := wM ad cA) hP hD hf
    refine lv_aload_n (pc := 63) hx hb dX6_restore_63 rfl (lv_at hl 0 rfl) ?_
    refine lv_aload_n (pc := 64) hx hb dX6_restore_64 rfl (lv_at hl 0 rfl) ?_
    refine gm_0_keptAsked (pc := 65) CF hK hP mF_X6_182 dX6_restore_65 ?_
    refine pm_0_askedMany (pc := 68) CF hK hP hD hS mF_X6_80 dX6_restore_68 (fun H locs hP hD hS => ?_)
    obtain ⟨σ68, hP, hD, hf⟩ := zz_g (w := wM ad cA) hP hD hf
    refine lv_aload_n (pc := 71) hx hb dX6_restore_71 rfl (lv_at hl 0 rfl) ?_
    refine gm_0_days (pc := 72) CF hK hP mF_X6_74 dX6_restore_72 ?_
    exact retIw (wf := wM ad cA) hx hb hr hlk hf hP hD hS dX6_restore_75
  · have hf := zz_f c8 hf
    refine lv_bipush (pc := 11) (v := (-103)) hx hb dX6_restore_11 (by decide) ?_
    exact retIw (wf := wM ad cA) hx hb hr hlk hf hP hD hS dX6_restore_13
set_option maxHeartbeats 4000000 in
set_option maxRecDepth 100000 in
theorem tX6_lengthAll {l : Launch} {kv : Nat × Nat} {D : va_G} {N : Nat} {ad : Nat → Nat} {cA : ClassId} {σ : SM} {rF : Int32} (hf : fX6_lengthAll N σ = some rF) : Ct l kv D [(cA, .int)] yX6_lengthAll cX6_lengthAll 3 (some .int) 3 67 (wM ad cA σ) (wM ad cA σ) [.ref (ad 0)] (some (.int rF)) := by
  refine Ct.ofW (by decide) (Nat.le_of_ble_eq_true rfl) ?_
  intro p e s m below meth c A args CF hr hlk hA hP hK hD hN hW hS ls hl
  have hx := CF.1
  have hb := CF.2.1
  have hml := CF.2.2.1
  have hown := CF.2.2.2.1
  have hw : ∀ w ∈ wsA, w.before args s = true := fun w h => CF.2.2.2.2 w (List.mem_cons_of_mem _ h)
  have hl : lv_has ls 3 [(0, .ref (ad 0))] := hl
  unfold fX6_lengthAll at hf
  have L4 : ∀ (n4 : Nat) (x1 : Int32) (x2 : Int32) (H : Heap) (locs : List Loc) (ls : Array Slot), va_P D vwCl (wM ad cA σ) H → va_D A (wM ad cA σ) → va_S A s.heap H locs → lv_has ls 3 [(0, .ref (ad 0)), (1, .int x1), (2, .int x2)] → fX6_lengthAll_4 N n4 σ x1 x2 = some rF → G p l e 3 67 s m args below meth c D A (wM ad cA σ) (some (.int rF)) H locs (F0 m 4 ls []) := by
    intro n4
    induction n4 with
    | zero => intro x1 x2 H locs ls hP hD hS hl hf; exact absurd hf (by simp [fX6_lengthAll_4])
    | succ n4 ih4 =>
      intro x1 x2 H locs ls hP hD hS hl hf
      rw [fX6_lengthAll_4] at hf
      refine lv_iload_n (pc := 4) hx hb dX6_lengthAll_4 rfl (lv_at hl 2 rfl) ?_
      refine lv_iconst (pc := 5) (v := 3) hx hb dX6_lengthAll_5 (by decide) ?_
      refine lv_icmp_ge (pc := 6) (tgt := 30) hx hb dX6_lengthAll_6 (by decide) (fun c6 => ?_) (fun c6 => ?_)
      · have hf := zz_t c6 hf
        refine lv_iload_n (pc := 30) hx hb dX6_lengthAll_30 rfl (lv_at hl 1 rfl) ?_
        exact retI hx hb hr hlk hf hP hD hS dX6_lengthAll_31
      · have hf := zz_f c6 hf
        refine lv_aload_n (pc := 9) hx hb dX6_lengthAll_9 rfl (lv_at hl 0 rfl) ?_
        obtain ⟨v10, h10, hf⟩ := zz_o hf
        refine cV (pc := 10) (rest := []) (st1 := [.int v10]) (q0 := 0) CF (tX6_lacks h10) hK hP hD hS hA hN hW mL_X6_86 kX6_lacks nX6_lacks rfl rfl rfl rfl ⟨by decide, by decide⟩ hl.1 (Nat.le_of_ble_eq_true rfl) ⟨Nat.le_refl _, Nat.le_refl _⟩ rfl dX6_lengthAll_10 (fun H locs hP hD hS => ?_)
        refine lv_if_ne (pc := 13) (tgt := 30) hx hb dX6_lengthAll_13 (by decide) (fun c13 => ?_) (fun c13 => ?_)
        · have hf := zz_f c13 hf
          refine lv_iload_n (pc := 30) hx hb dX6_lengthAll_30 rfl (lv_at hl 1 rfl) ?_
          exact retI hx hb hr hlk hf hP hD hS dX6_lengthAll_31
        · have hf := zz_t c13 hf
          refine lv_iload_n (pc := 16) hx hb dX6_lengthAll_16 rfl (lv_at hl 1 rfl) ?_
          refine lv_aload_n (pc := 17) hx hb dX6_lengthAll_17 rfl (lv_at hl 0 rfl) ?_
          refine lv_iload_n (pc := 18) hx hb dX6_lengthAll_18 rfl (lv_at hl 2 rfl) ?_
          obtain ⟨v19, h19, hf⟩ := zz_o hf
          refine cV (pc := 19) (rest := [.int x1]) (st1 := [.int v19, .int x1]) (q0 := 0) CF (tX6_lengthOf h19) hK hP hD hS hA hN hW mL_X6_131 kX6_lengthOf nX6_lengthOf rfl rfl rfl rfl ⟨by decide, by decide⟩ hl.1 (Nat.le_of_ble_eq_true rfl) ⟨Nat.le_refl _, Nat.le_refl _⟩ rfl dX6_lengthAll_19 (fun H locs hP hD hS => ?_)
          refine lv_iadd (pc := 22) hx hb dX6_lengthAll_22 ?_
          refine lv_istore_n (pc := 23) (lv' := [(1, .int (x1 + v19)), (0, .ref (ad 0)), (2, .int x2)]) hx hb dX6_lengthAll_23 rfl hl (by decide) rfl (fun ls hl => ?_)
          refine lv_iinc (pc := 24) (v := (x2 + 1)) (lv' := [(2, .int (x2 + 1)), (1, .int (x1 + v19)), (0, .ref (ad 0))]) hx hb dX6_lengthAll_24 hl (k := 2) rfl rfl (by decide) rfl (fun ls hl => ?_)
          refine lv_goto (pc := 27) (tgt := 4) hx hb dX6_lengthAll_27 (by decide) ?_
          exact ih4 (x1 + v19) (x2 + 1) _ _ _ hP hD hS (lv_sub hl [2, 1, 0] rfl) hf
  refine lv_iconst (pc := 0) (v := 0) hx hb dX6_lengthAll_0 (by decide) ?_
  refine lv_istore_n (pc := 1) (lv' := [(1, .int 0), (0, .ref (ad 0))]) hx hb dX6_lengthAll_1 rfl hl (by decide) rfl (fun ls hl => ?_)
  refine lv_iconst (pc := 2) (v := 0) hx hb dX6_lengthAll_2 (by decide) ?_
  refine lv_istore_n (pc := 3) (lv' := [(2, .int 0), (1, .int 0), (0, .ref (ad 0))]) hx hb dX6_lengthAll_3 rfl hl (by decide) rfl (fun ls hl => ?_)
  exact L4 N 0 0 _ _ _ hP hD hS (lv_sub hl [2, 1, 0] rfl) hf
set_option maxHeartbeats 4000000 in
set_option maxRecDepth 100000 in
theorem tX6_heardAll {l : Launch} {kv : Nat × Nat} {D : va_G} {N : Nat} {ad : Nat → Nat} {cA : ClassId} {σ : SM} {rF : Int32} (hf : fX6_heardAll N σ = some rF) : Ct l kv D [(cA, .int)] yX6_heardAll cX6_heardAll 1 (some .int) 1 22 (wM ad cA σ) (wM ad cA σ) [.ref (ad 0)] (some (.int rF)) := by
  refine Ct.ofW (by decide) (Nat.le_of_ble_eq_true rfl) ?_
  intro p e s m below meth c A args CF hr hlk hA hP hK hD hN hW hS ls hl
  have hx := CF.1
  have hb := CF.2.1
  have hml := CF.2.2.1
  have hown := CF.2.2.2.1
  have hw : ∀ w ∈ wsA, w.before args s = true := fun w h => CF.2.2.2.2 w (List.mem_cons_of_mem _ h)
  have hl : lv_has ls 1 [(0, .ref (ad 0))] := hl
  unfold fX6_heardAll at hf
  refine lv_aload_n (pc := 0) hx hb dX6_heardAll_0 rfl (lv_at hl 0 rfl) ?_
  refine gm_0_tunnels (pc := 1) CF hK hP mF_X6_16 dX6_heardAll_1 ?_
  refine lv_iconst (pc := 4) (v := 0) hx hb dX6_heardAll_4 (by decide) ?_
  refine lm_tunnels (pc := 5) (i := 0) hx hb hK hP (by decide) dX6_heardAll_5 ?_
  obtain ⟨v6, h6, hf⟩ := zz_o hf
  refine cSt (pc := 6) (rest := []) (st1 := [.int v6]) CF (tX6_ones h6) hK hP hD hS hA hN hW mL_X6_134 kX6_ones nX6_ones rfl rfl ⟨by decide, by decide⟩ hl.1 (Nat.le_of_ble_eq_true rfl) ⟨Nat.le_refl _, Nat.le_refl _⟩ rfl dX6_heardAll_6 (fun H locs hP hD hS => ?_)
  refine lv_aload_n (pc := 9) hx hb dX6_heardAll_9 rfl (lv_at hl 0 rfl) ?_
  refine gm_0_tunnels (pc := 10) CF hK hP mF_X6_16 dX6_heardAll_10 ?_
  refine lv_iconst (pc := 13) (v := 3) hx hb dX6_heardAll_13 (by decide) ?_
  refine lm_tunnels (pc := 14) (i := 3) hx hb hK hP (by decide) dX6_heardAll_14 ?_
  obtain ⟨v15, h15, hf⟩ := zz_o hf
  refine cSt (pc := 15) (rest := [.int v6]) (st1 := [.int v15, .int v6]) CF (tX6_ones h15) hK hP hD hS hA hN hW mL_X6_134 kX6_ones nX6_ones rfl rfl ⟨by decide, by decide⟩ hl.1 (Nat.le_of_ble_eq_true rfl) ⟨Nat.le_refl _, Nat.le_refl _⟩ rfl dX6_heardAll_15 (fun H locs hP hD hS => ?_)
  refine lv_iadd (pc := 18) hx hb dX6_heardAll_18 ?_
  refine lv_aload_n (pc := 19) hx hb dX6_heardAll_19 rfl (lv_at hl 0 rfl) ?_
  refine gm_0_tunnels (pc := 20) CF hK hP mF_X6_16 dX6_heardAll_20 ?_
  refine lv_bipush (pc := 23) (v := 6) hx hb dX6_heardAll_23 (by decide) ?_
  refine lm_tunnels (pc := 25) (i := 6) hx hb hK hP (by decide) dX6_heardAll_25 ?_
  obtain ⟨v26, h26, hf⟩ := zz_o hf
  refine cSt (pc := 26) (rest := [.int (v6 + v15)]) (st1 := [.int v26, .int (v6 + v15)]) CF (tX6_ones h26) hK hP hD hS hA hN hW mL_X6_134 kX6_ones nX6_ones rfl rfl ⟨by decide, by decide⟩ hl.1 (Nat.le_of_ble_eq_true rfl) ⟨Nat.le_refl _, Nat.le_refl _⟩ rfl dX6_heardAll_26 (fun H locs hP hD hS => ?_)
  refine lv_iadd (pc := 29) hx hb dX6_heardAll_29 ?_
  exact retI hx hb hr hlk hf hP hD hS dX6_heardAll_30
set_option maxHeartbeats 4000000 in
set_option maxRecDepth 100000 in
theorem tX6_countOf {l : Launch} {kv : Nat × Nat} {D : va_G} {N : Nat} {ad : Nat → Nat} {cA : ClassId} {σ : SM} {x1 : Int32} {rF : Int32} (hf : fX6_countOf N σ x1 = some rF) : Ct l kv D [(cA, .int)] yX6_countOf cX6_countOf 2 (some .int) 4 89 (wM ad cA σ) (wM ad cA σ) [.ref (ad 0), .int x1] (some (.int rF)) := by
  refine Ct.ofW (by decide) (Nat.le_of_ble_eq_true rfl) ?_
  intro p e s m below meth c A args CF hr hlk hA hP hK hD hN hW hS ls hl
  have hx := CF.1
  have hb := CF.2.1
  have hml := CF.2.2.1
  have hown := CF.2.2.2.1
  have hw : ∀ w ∈ wsA, w.before args s = true := fun w h => CF.2.2.2.2 w (List.mem_cons_of_mem _ h)
  have hl : lv_has ls 2 [(0, .ref (ad 0)), (1, .int x1)] := hl
  unfold fX6_countOf at hf
  refine lv_iload_n (pc := 0) hx hb dX6_countOf_0 rfl (lv_at hl 1 rfl) ?_
  by_cases c1_0 : x1 = 0
  · have hf := zz_t c1_0 hf
    refine lv_tableIn (pc := 1) (tgt := 52) hx hb dX6_countOf_1 (by rw [c1_0] <;> decide) (by rw [c1_0] <;> decide) (by rw [c1_0] <;> rfl) (by decide) ?_
    refine lv_aload_n (pc := 52) hx hb dX6_countOf_52 rfl (lv_at hl 0 rfl) ?_
    refine gm_0_people (pc := 53) CF hK hP mF_X6_68 dX6_countOf_53 ?_
    exact retI hx hb hr hlk hf hP hD hS dX6_countOf_56
  have hf := zz_f c1_0 hf
  by_cases c1_1 : x1 = 1
  · have hf := zz_t c1_1 hf
    refine lv_tableIn (pc := 1) (tgt := 57) hx hb dX6_countOf_1 (by rw [c1_1] <;> decide) (by rw [c1_1] <;> decide) (by rw [c1_1] <;> rfl) (by decide) ?_
    refine lv_aload_n (pc := 57) hx hb dX6_countOf_57 rfl (lv_at hl 0 rfl) ?_
    refine gm_0_river (pc := 58) CF hK hP mF_X6_71 dX6_countOf_58 ?_
    exact retI hx hb hr hlk hf hP hD hS dX6_countOf_61
  have hf := zz_f c1_1 hf
  by_cases c1_2 : x1 = 2
  · have hf := zz_t c1_2 hf
    refine lv_tableIn (pc := 1) (tgt := 62) hx hb dX6_countOf_1 (by rw [c1_2] <;> decide) (by rw [c1_2] <;> decide) (by rw [c1_2] <;> rfl) (by decide) ?_
    refine lv_aload_n (pc := 62) hx hb dX6_countOf_62 rfl (lv_at hl 0 rfl) ?_
    refine gm_0_days (pc := 63) CF hK hP mF_X6_74 dX6_countOf_63 ?_
    exact retI hx hb hr hlk hf hP hD hS dX6_countOf_66
  have hf := zz_f c1_2 hf
  by_cases c1_3 : x1 = 3
  · have hf := zz_t c1_3 hf
    refine lv_tableIn (pc := 1) (tgt := 67) hx hb dX6_countOf_1 (by rw [c1_3] <;> decide) (by rw [c1_3] <;> decide) (by rw [c1_3] <;> rfl) (by decide) ?_
    refine lv_aload_n (pc := 67) hx hb dX6_countOf_67 rfl (lv_at hl 0 rfl) ?_
    obtain ⟨v68, h68, hf⟩ := zz_o hf
    refine cV (pc := 68) (rest := []) (st1 := [.int v68]) (q0 := 0) CF (tX6_lengthAll h68) hK hP hD hS hA hN hW mL_X6_185 kX6_lengthAll nX6_lengthAll rfl rfl rfl rfl ⟨by decide, by decide⟩ hl.1 (Nat.le_of_ble_eq_true rfl) ⟨Nat.le_refl _, Nat.le_refl _⟩ rfl dX6_countOf_68 (fun H locs hP hD hS => ?_)
    exact retI hx hb hr hlk hf hP hD hS dX6_countOf_71
  have hf := zz_f c1_3 hf
  by_cases c1_4 : x1 = 4
  · have hf := zz_t c1_4 hf
    refine lv_tableIn (pc := 1) (tgt := 72) hx hb dX6_countOf_1 (by rw [c1_4] <;> decide) (by rw [c1_4] <;> decide) (by rw [c1_4] <;> rfl) (by decide) ?_
    refine lv_aload_n (pc := 72) hx hb dX6_countOf_72 rfl (lv_at hl 0 rfl) ?_
    obtain ⟨v73, h73, hf⟩ := zz_o hf
    refine cV (pc := 73) (rest := []) (st1 := [.int v73]) (q0 := 0) CF (tX6_heardAll h73) hK hP hD hS hA hN hW mL_X6_188 kX6_heardAll nX6_heardAll rfl rfl rfl rfl ⟨by decide, by decide⟩ hl.1 (Nat.le_of_ble_eq_true rfl) ⟨Nat.le_refl _, Nat.le_refl _⟩ rfl dX6_countOf_73 (fun H locs hP hD hS => ?_)
    exact retI hx hb hr hlk hf hP hD hS dX6_countOf_76
  have hf := zz_f c1_4 hf
  by_cases c1_5 : x1 = 5
  · have hf := zz_t c1_5 hf
    refine lv_tableIn (pc := 1) (tgt := 77) hx hb dX6_countOf_1 (by rw [c1_5] <;> decide) (by rw [c1_5] <;> decide) (by rw [c1_5] <;> rfl) (by decide) ?_
    refine lv_aload_n (pc := 77) hx hb dX6_countOf_77 rfl (lv_at hl 0 rfl) ?_
    refine gm_0_changes (pc := 78) CF hK hP mF_X6_77 dX6_countOf_78 ?_
    exact retI hx hb hr hlk hf hP hD hS dX6_countOf_81
  have hf := zz_f c1_5 hf
  by_cases c1_6 : x1 = 6
  · have hf := zz_t c1_6 hf
    refine lv_tableIn (pc := 1) (tgt := 82) hx hb dX6_countOf_1 (by rw [c1_6] <;> decide) (by rw [c1_6] <;> decide) (by rw [c1_6] <;> rfl) (by decide) ?_
    refine lv_aload_n (pc := 82) hx hb dX6_countOf_82 rfl (lv_at hl 0 rfl) ?_
    refine gm_0_askedMany (pc := 83) CF hK hP mF_X6_80 dX6_countOf_83 ?_
    exact retI hx hb hr hlk hf hP hD hS dX6_countOf_86
  have hf := zz_f c1_6 hf
  by_cases c1_7 : x1 = 7
  · have hf := zz_t c1_7 hf
    refine lv_tableIn (pc := 1) (tgt := 87) hx hb dX6_countOf_1 (by rw [c1_7] <;> decide) (by rw [c1_7] <;> decide) (by rw [c1_7] <;> rfl) (by decide) ?_
    refine lv_aload_n (pc := 87) hx hb dX6_countOf_87 rfl (lv_at hl 0 rfl) ?_
    refine gm_0_pageMany (pc := 88) CF hK hP mF_X6_44 dX6_countOf_88 ?_
    exact retI hx hb hr hlk hf hP hD hS dX6_countOf_91
  have hf := zz_f c1_7 hf
  by_cases c1_8 : x1 = 8
  · have hf := zz_t c1_8 hf
    refine lv_tableIn (pc := 1) (tgt := 92) hx hb dX6_countOf_1 (by rw [c1_8] <;> decide) (by rw [c1_8] <;> decide) (by rw [c1_8] <;> rfl) (by decide) ?_
    refine lv_aload_n (pc := 92) hx hb dX6_countOf_92 rfl (lv_at hl 0 rfl) ?_
    refine gm_0_hillsRead (pc := 93) CF hK hP mF_X6_83 dX6_countOf_93 ?_
    exact retI hx hb hr hlk hf hP hD hS dX6_countOf_96
  have hf := zz_f c1_8 hf
  refine lv_tableOut (pc := 1) (tgt := 97) hx hb dX6_countOf_1 (sw_0_8 (lv_neT (a := 0) c1_0 rfl) (lv_neT (a := 1) c1_1 rfl) (lv_neT (a := 2) c1_2 rfl) (lv_neT (a := 3) c1_3 rfl) (lv_neT (a := 4) c1_4 rfl) (lv_neT (a := 5) c1_5 rfl) (lv_neT (a := 6) c1_6 rfl) (lv_neT (a := 7) c1_7 rfl) (lv_neT (a := 8) c1_8 rfl)) (by decide) ?_
  refine lv_bipush (pc := 97) (v := (-102)) hx hb dX6_countOf_97 (by decide) ?_
  exact retI hx hb hr hlk hf hP hD hS dX6_countOf_99
set_option maxHeartbeats 4000000 in
set_option maxRecDepth 100000 in
theorem tX6_count {l : Launch} {kv : Nat × Nat} {D : va_G} {N : Nat} {ad : Nat → Nat} {cA : ClassId} {σ : SM} {x1 : Int32} {rF : Int32} (hf : fX6_count N σ x1 = some rF) : Ct l kv D [(cA, .int)] yX6_count cX6_count 2 (some .int) 5 110 (wM ad cA σ) (wM ad cA σ) [.ref (ad 0), .int x1] (some (.int rF)) := by
  refine Ct.ofW (by decide) (Nat.le_of_ble_eq_true rfl) ?_
  intro p e s m below meth c A args CF hr hlk hA hP hK hD hN hW hS ls hl
  have hx := CF.1
  have hb := CF.2.1
  have hml := CF.2.2.1
  have hown := CF.2.2.2.1
  have hw : ∀ w ∈ wsA, w.before args s = true := fun w h => CF.2.2.2.2 w (List.mem_cons_of_mem _ h)
  have hl : lv_has ls 2 [(0, .ref (ad 0)), (1, .int x1)] := hl
  unfold fX6_count at hf
  refine lv_aload_n (pc := 0) hx hb dX6_count_0 rfl (lv_at hl 0 rfl) ?_
  refine lv_iload_n (pc := 1) hx hb dX6_count_1 rfl (lv_at hl 1 rfl) ?_
  obtain ⟨v2, h2, hf⟩ := zz_o hf
  refine cV (pc := 2) (rest := []) (st1 := [.int v2]) (q0 := 0) CF (tX6_countOf h2) hK hP hD hS hA hN hW mL_X6_191 kX6_countOf nX6_countOf rfl rfl rfl rfl ⟨by decide, by decide⟩ hl.1 (Nat.le_of_ble_eq_true rfl) ⟨Nat.le_refl _, Nat.le_refl _⟩ rfl dX6_count_2 (fun H locs hP hD hS => ?_)
  exact retI hx hb hr hlk hf hP hD hS dX6_count_5
set_option maxHeartbeats 4000000 in
set_option maxRecDepth 100000 in
theorem tX6_say {l : Launch} {kv : Nat × Nat} {D : va_G} {N : Nat} {ad : Nat → Nat} {cA : ClassId} {σ : SM} {x1 : Int64} {σF : SM} (hf : fX6_say N σ x1 = some σF) : Ct l kv D [(cA, .int)] yX6_say cX6_say 3 none 0 0 (wM ad cA σ) (wM ad cA σF) [.ref (ad 0), .long x1] (none) := by
  refine Ct.ofW (by decide) (Nat.le_of_ble_eq_true rfl) ?_
  intro p e s m below meth c A args CF hr hlk hA hP hK hD hN hW hS ls hl
  have hx := CF.1
  have hb := CF.2.1
  have hml := CF.2.2.1
  have hown := CF.2.2.2.1
  have hw : ∀ w ∈ wsA, w.before args s = true := fun w h => CF.2.2.2.2 w (List.mem_cons_of_mem _ h)
  have hl : lv_has ls 3 [(0, .ref (ad 0)), (1, .long x1)] := hl
  unfold fX6_say at hf
  refine lv_aload_n (pc := 0) hx hb dX6_say_0 rfl (lv_at hl 0 rfl) ?_
  refine lv_ldc2 (pc := 1) hx hb hown (hw _ mK_X6_194) dX6_say_1 ?_
  refine lv_aload_n (pc := 4) hx hb dX6_say_4 rfl (lv_at hl 0 rfl) ?_
  refine gm_0_hash (pc := 5) CF hK hP mF_X6_196 dX6_say_5 ?_
  refine lv_lmul (pc := 8) hx hb dX6_say_8 ?_
  refine lv_lload_n (pc := 9) hx hb dX6_say_9 rfl (lv_at hl 1 rfl) ?_
  refine lv_ladd (pc := 10) hx hb dX6_say_10 ?_
  refine pm_0_hash (pc := 11) CF hK hP hD hS mF_X6_196 dX6_say_11 (fun H locs hP hD hS => ?_)
  obtain ⟨σ11, hP, hD, hf⟩ := zz_g (w := wM ad cA) hP hD hf
  exact retVw (wf := wM ad cA) hx hb hr hlk hf hP hD hS dX6_say_14
