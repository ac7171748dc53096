set_option maxHeartbeats 4000000 in
set_option maxRecDepth 100000 in
theorem tX6_hill {l : Launch} {kv : Nat × Nat} {D : va_G} {N : Nat} {ad : Nat → Nat} {cA : ClassId} {σ : SM} {rF : Int32} {σF : SM} (hf : fX6_hill N σ = some (rF, σF)) : Ct l kv D [(cA, .int)] yX6_hill cX6_hill 3 (some .int) 3 68 (wM ad cA σ) (wM ad cA σF) [.ref (ad 0)] (some (.int rF)) := by
  refine Ct.ofW (by decide) (Nat.le_of_ble_eq_true rfl) ?_
  intro p e s m below meth c A args CF hr hlk hA hP hK hD hN hW hS ls hl
  have hx := CF.1
  have hb := CF.2.1
  have hml := CF.2.2.1
  have hown := CF.2.2.2.1
  have hw : ∀ w ∈ wsA, w.before args s = true := fun w h => CF.2.2.2.2 w (List.mem_cons_of_mem _ h)
  have hl : lv_has ls 3 [(0, .ref (ad 0))] := hl
  unfold fX6_hill at hf
  have L144 : ∀ (n144 : Nat) (σ : SM) (x1 : Int32) (H : Heap) (locs : List Loc) (ls : Array Slot), va_P D vwCl (wM ad cA σ) H → va_D A (wM ad cA σ) → va_S A s.heap H locs → lv_has ls 3 [(0, .ref (ad 0)), (1, .int x1)] → fX6_hill_144 N n144 σ x1 = some (rF, σF) → G p l e 3 68 s m args below meth c D A (wM ad cA σF) (some (.int rF)) H locs (F0 m 144 ls []) := by
    intro n144
    induction n144 with
    | zero => intro σ x1 H locs ls hP hD hS hl hf; exact absurd hf (by simp [fX6_hill_144])
    | succ n144 ih144 =>
      intro σ x1 H locs ls hP hD hS hl hf
      rw [fX6_hill_144] at hf
      refine lv_iload_n (pc := 144) hx hb dX6_hill_144 rfl (lv_at hl 1 rfl) ?_
      refine lv_bipush (pc := 145) (v := 9) hx hb dX6_hill_145 (by decide) ?_
      refine lv_icmp_ge (pc := 147) (tgt := 163) hx hb dX6_hill_147 (by decide) (fun c147 => ?_) (fun c147 => ?_)
      · have hf := zz_t c147 hf
        refine lv_aload_n (pc := 163) hx hb dX6_hill_163 rfl (lv_at hl 0 rfl) ?_
        refine lv_iconst (pc := 164) (v := 0) hx hb dX6_hill_164 (by decide) ?_
        refine pm_0_days (pc := 165) CF hK hP hD hS mF_X6_74 dX6_hill_165 (fun H locs hP hD hS => ?_)
        obtain ⟨σ165, hP, hD, hf⟩ := zz_g (w := wM ad cA) hP hD hf
        refine lv_aload_n (pc := 168) hx hb dX6_hill_168 rfl (lv_at hl 0 rfl) ?_
        refine lv_iconst (pc := 169) (v := 0) hx hb dX6_hill_169 (by decide) ?_
        refine pm_0_changes (pc := 170) CF hK hP hD hS mF_X6_77 dX6_hill_170 (fun H locs hP hD hS => ?_)
        obtain ⟨σ170, hP, hD, hf⟩ := zz_g (w := wM ad cA) hP hD hf
        refine lv_aload_n (pc := 173) hx hb dX6_hill_173 rfl (lv_at hl 0 rfl) ?_
        refine lv_iconst (pc := 174) (v := 0) hx hb dX6_hill_174 (by decide) ?_
        refine pm_0_askedMany (pc := 175) CF hK hP hD hS mF_X6_80 dX6_hill_175 (fun H locs hP hD hS => ?_)
        obtain ⟨σ175, hP, hD, hf⟩ := zz_g (w := wM ad cA) hP hD hf
        refine lv_aload_n (pc := 178) hx hb dX6_hill_178 rfl (lv_at hl 0 rfl) ?_
        refine lv_dup (pc := 179) hx hb dX6_hill_179 rfl ?_
        refine gm_0_hillsRead (pc := 180) CF hK hP mF_X6_83 dX6_hill_180 ?_
        refine lv_iconst (pc := 183) (v := 1) hx hb dX6_hill_183 (by decide) ?_
        refine lv_iadd (pc := 184) hx hb dX6_hill_184 ?_
        refine pm_0_hillsRead (pc := 185) CF hK hP hD hS mF_X6_83 dX6_hill_185 (fun H locs hP hD hS => ?_)
        obtain ⟨σ185, hP, hD, hf⟩ := zz_g (w := wM ad cA) hP hD hf
        refine lv_aload_n (pc := 188) hx hb dX6_hill_188 rfl (lv_at hl 0 rfl) ?_
        refine lv_iconst (pc := 189) (v := 0) hx hb dX6_hill_189 (by decide) ?_
        refine pm_0_pageMany (pc := 190) CF hK hP hD hS mF_X6_44 dX6_hill_190 (fun H locs hP hD hS => ?_)
        obtain ⟨σ190, hP, hD, hf⟩ := zz_g (w := wM ad cA) hP hD hf
        refine lv_aload_n (pc := 193) hx hb dX6_hill_193 rfl (lv_at hl 0 rfl) ?_
        refine gm_0_people (pc := 194) CF hK hP mF_X6_68 dX6_hill_194 ?_
        exact retIw (wf := wM ad cA) hx hb hr hlk hf hP hD hS dX6_hill_197
      · have hf := zz_f c147 hf
        refine lv_aload_n (pc := 150) hx hb dX6_hill_150 rfl (lv_at hl 0 rfl) ?_
        refine gm_0_tunnels (pc := 151) CF hK hP mF_X6_16 dX6_hill_151 ?_
        refine lv_iload_n (pc := 154) hx hb dX6_hill_154 rfl (lv_at hl 1 rfl) ?_
        refine lv_iconst (pc := 155) (v := 0) hx hb dX6_hill_155 (by decide) ?_
        obtain ⟨c156, hf⟩ := zz_k hf
        refine am_tunnels (pc := 156) hx hb hK hP hD hS c156 dX6_hill_156 (fun H locs hP hD hS => ?_)
        obtain ⟨σ156, hP, hD, hf⟩ := zz_g (w := wM ad cA) hP hD hf
        refine lv_iinc (pc := 157) (v := (x1 + 1)) (lv' := [(1, .int (x1 + 1)), (0, .ref (ad 0))]) hx hb dX6_hill_157 hl (k := 1) rfl rfl (by decide) rfl (fun ls hl => ?_)
        refine lv_goto (pc := 160) (tgt := 144) hx hb dX6_hill_160 (by decide) ?_
        exact ih144 σ156 (x1 + 1) _ _ _ hP hD hS (lv_sub hl [1, 0] rfl) hf
  have L49 : ∀ (n49 : Nat) (σ : SM) (x1 : Int32) (H : Heap) (locs : List Loc) (ls : Array Slot), va_P D vwCl (wM ad cA σ) H → va_D A (wM ad cA σ) → va_S A s.heap H locs → lv_has ls 3 [(0, .ref (ad 0)), (1, .int x1)] → fX6_hill_49 N n49 σ x1 = some (rF, σF) → G p l e 3 68 s m args below meth c D A (wM ad cA σF) (some (.int rF)) H locs (F0 m 49 ls []) := by
    intro n49
    induction n49 with
    | zero => intro σ x1 H locs ls hP hD hS hl hf; exact absurd hf (by simp [fX6_hill_49])
    | succ n49 ih49 =>
      have J117 : ∀ (σ : SM) (x1 : Int32) (z0 : Int32) (z1 : Int32) (H : Heap) (locs : List Loc) (ls : Array Slot), va_P D vwCl (wM ad cA σ) H → va_D A (wM ad cA σ) → va_S A s.heap H locs → lv_has ls 3 [(0, .ref (ad 0)), (1, .int x1)] → fX6_hill_117 N (fX6_hill_49 N n49) σ x1 z0 z1 = some (rF, σF) → G p l e 3 68 s m args below meth c D A (wM ad cA σF) (some (.int rF)) H locs (F0 m 117 ls [.int z0, .int z1, .ref (ad 2)]) := by
        intro σ x1 z0 z1 H locs ls hP hD hS hl hf
        unfold fX6_hill_117 at hf
        obtain ⟨c117, hf⟩ := zz_k hf
        refine am_rows (pc := 117) hx hb hK hP hD hS c117 dX6_hill_117 (fun H locs hP hD hS => ?_)
        obtain ⟨σ117, hP, hD, hf⟩ := zz_g (w := wM ad cA) hP hD hf
        refine lv_iinc (pc := 118) (v := (x1 + 1)) (lv' := [(1, .int (x1 + 1)), (0, .ref (ad 0))]) hx hb dX6_hill_118 hl (k := 1) rfl rfl (by decide) rfl (fun ls hl => ?_)
        refine lv_goto (pc := 121) (tgt := 49) hx hb dX6_hill_121 (by decide) ?_
        exact ih49 σ117 (x1 + 1) _ _ _ hP hD hS (lv_sub hl [1, 0] rfl) hf
      have J112 : ∀ (σ : SM) (x1 : Int32) (z0 : Int32) (H : Heap) (locs : List Loc) (ls : Array Slot), va_P D vwCl (wM ad cA σ) H → va_D A (wM ad cA σ) → va_S A s.heap H locs → lv_has ls 3 [(0, .ref (ad 0)), (1, .int x1)] → fX6_hill_112 N (fX6_hill_49 N n49) σ x1 z0 = some (rF, σF) → G p l e 3 68 s m args below meth c D A (wM ad cA σF) (some (.int rF)) H locs (F0 m 112 ls [.int z0, .ref (ad 2)]) := by
        intro σ x1 z0 H locs ls hP hD hS hl hf
        unfold fX6_hill_112 at hf
        refine lv_iconst (pc := 112) (v := (-1)) hx hb dX6_hill_112 (by decide) ?_
        refine lv_goto (pc := 113) (tgt := 117) hx hb dX6_hill_113 (by decide) ?_
        exact J117 σ x1 (-1) z0 _ _ _ hP hD hS (lv_sub hl [0, 1] rfl) hf
      intro σ x1 H locs ls hP hD hS hl hf
      rw [fX6_hill_49] at hf
      refine lv_iload_n (pc := 49) hx hb dX6_hill_49 rfl (lv_at hl 1 rfl) ?_
      refine lv_aload_n (pc := 50) hx hb dX6_hill_50 rfl (lv_at hl 0 rfl) ?_
      refine gm_0_people (pc := 51) CF hK hP mF_X6_68 dX6_hill_51 ?_
      refine lv_icmp_ge (pc := 54) (tgt := 124) hx hb dX6_hill_54 (by decide) (fun c54 => ?_) (fun c54 => ?_)
      · have hf := zz_t c54 hf
        refine lv_aload_n (pc := 124) hx hb dX6_hill_124 rfl (lv_at hl 0 rfl) ?_
        refine lv_aload_n (pc := 125) hx hb dX6_hill_125 rfl (lv_at hl 0 rfl) ?_
        refine gm_0_page (pc := 126) CF hK hP mF_X6_7 dX6_hill_126 ?_
        refine lv_aload_n (pc := 129) hx hb dX6_hill_129 rfl (lv_at hl 0 rfl) ?_
        refine gm_0_endAt (pc := 130) CF hK hP mF_X6_47 dX6_hill_130 ?_
        refine lv_iconst (pc := 133) (v := 1) hx hb dX6_hill_133 (by decide) ?_
        refine lv_iadd (pc := 134) hx hb dX6_hill_134 ?_
        obtain ⟨c135, hf⟩ := zz_k hf
        refine lm_page (pc := 135) hx hb hK hP c135 dX6_hill_135 ?_
        refine lv_bipush (pc := 136) (v := 48) hx hb dX6_hill_136 (by decide) ?_
        refine lv_isub (pc := 138) hx hb dX6_hill_138 ?_
        refine pm_0_river (pc := 139) CF hK hP hD hS mF_X6_71 dX6_hill_139 (fun H locs hP hD hS => ?_)
        obtain ⟨σ139, hP, hD, hf⟩ := zz_g (w := wM ad cA) hP hD hf
        refine lv_iconst (pc := 142) (v := 0) hx hb dX6_hill_142 (by decide) ?_
        refine lv_istore_n (pc := 143) (lv' := [(1, .int 0), (0, .ref (ad 0))]) hx hb dX6_hill_143 rfl hl (by decide) rfl (fun ls hl => ?_)
        exact L144 N σ139 0 _ _ _ hP hD hS (lv_sub hl [1, 0] rfl) hf
      · have hf := zz_f c54 hf
        refine lv_aload_n (pc := 57) hx hb dX6_hill_57 rfl (lv_at hl 0 rfl) ?_
        refine gm_0_page (pc := 58) CF hK hP mF_X6_7 dX6_hill_58 ?_
        refine lv_iconst (pc := 61) (v := 3) hx hb dX6_hill_61 (by decide) ?_
        refine lv_iload_n (pc := 62) hx hb dX6_hill_62 rfl (lv_at hl 1 rfl) ?_
        refine lv_imul (pc := 63) hx hb dX6_hill_63 ?_
        refine lv_iconst (pc := 64) (v := 1) hx hb dX6_hill_64 (by decide) ?_
        refine lv_iadd (pc := 65) hx hb dX6_hill_65 ?_
        obtain ⟨c66, hf⟩ := zz_k hf
        refine lm_page (pc := 66) hx hb hK hP c66 dX6_hill_66 ?_
        refine lv_bipush (pc := 67) (v := 48) hx hb dX6_hill_67 (by decide) ?_
        refine lv_isub (pc := 69) hx hb dX6_hill_69 ?_
        refine lv_topi (fun y70 e70 => ?_)
        have hf := zz_l e70 hf
        refine lv_istore_n (pc := 70) (lv' := [(2, .int y70), (0, .ref (ad 0)), (1, .int x1)]) hx hb dX6_hill_70 rfl hl (by decide) rfl (fun ls hl => ?_)
        refine lv_aload_n (pc := 71) hx hb dX6_hill_71 rfl (lv_at hl 1 rfl) ?_
        refine gm_0_rows (pc := 72) CF hK hP mF_X6_13 dX6_hill_72 ?_
        refine lv_iconst (pc := 75) (v := 2) hx hb dX6_hill_75 (by decide) ?_
        refine lv_iload_n (pc := 76) hx hb dX6_hill_76 rfl (lv_at hl 2 rfl) ?_
        refine lv_imul (pc := 77) hx hb dX6_hill_77 ?_
        refine lv_aload_n (pc := 78) hx hb dX6_hill_78 rfl (lv_at hl 1 rfl) ?_
        refine gm_0_page (pc := 79) CF hK hP mF_X6_7 dX6_hill_79 ?_
        refine lv_iconst (pc := 82) (v := 3) hx hb dX6_hill_82 (by decide) ?_
        refine lv_iload_n (pc := 83) hx hb dX6_hill_83 rfl (lv_at hl 2 rfl) ?_
        refine lv_imul (pc := 84) hx hb dX6_hill_84 ?_
        obtain ⟨c85, hf⟩ := zz_k hf
        refine lm_page (pc := 85) hx hb hK hP c85 dX6_hill_85 ?_
        obtain ⟨v86, h86, hf⟩ := zz_o hf
        refine cSt (pc := 86) (rest := [.int (2 * x1), .ref (ad 2)]) (st1 := [.int v86, .int (2 * x1), .ref (ad 2)]) CF (tX6_kindBy h86) hK hP hD hS hA hN hW mL_X6_54 kX6_kindBy nX6_kindBy rfl rfl ⟨by decide, by decide⟩ hl.1 (Nat.le_of_ble_eq_true rfl) ⟨Nat.le_refl _, Nat.le_refl _⟩ rfl dX6_hill_86 (fun H locs hP hD hS => ?_)
        obtain ⟨c89, hf⟩ := zz_k hf
        refine am_rows (pc := 89) hx hb hK hP hD hS c89 dX6_hill_89 (fun H locs hP hD hS => ?_)
        obtain ⟨σ89, hP, hD, hf⟩ := zz_g (w := wM ad cA) hP hD hf
        refine lv_aload_n (pc := 90) hx hb dX6_hill_90 rfl (lv_at hl 1 rfl) ?_
        refine gm_0_rows (pc := 91) CF hK hP mF_X6_13 dX6_hill_91 ?_
        refine lv_iconst (pc := 94) (v := 2) hx hb dX6_hill_94 (by decide) ?_
        refine lv_iload_n (pc := 95) hx hb dX6_hill_95 rfl (lv_at hl 2 rfl) ?_
        refine lv_imul (pc := 96) hx hb dX6_hill_96 ?_
        refine lv_iconst (pc := 97) (v := 1) hx hb dX6_hill_97 (by decide) ?_
        refine lv_iadd (pc := 98) hx hb dX6_hill_98 ?_
        refine lv_iload_n (pc := 99) hx hb dX6_hill_99 rfl (lv_at hl 0 rfl) ?_
        refine lv_iload_n (pc := 100) hx hb dX6_hill_100 rfl (lv_at hl 2 rfl) ?_
        refine lv_icmp_eq (pc := 101) (tgt := 112) hx hb dX6_hill_101 (by decide) (fun c101 => ?_) (fun c101 => ?_)
        · have hf := zz_t c101 hf
          exact J112 σ89 x1 ((2 * x1) + 1) _ _ _ hP hD hS (lv_sub hl [1, 2] rfl) hf
        · have hf := zz_f c101 hf
          refine lv_iload_n (pc := 104) hx hb dX6_hill_104 rfl (lv_at hl 0 rfl) ?_
          refine lv_aload_n (pc := 105) hx hb dX6_hill_105 rfl (lv_at hl 1 rfl) ?_
          refine gm_0_people (pc := 106) CF hK hP mF_X6_68 dX6_hill_106 ?_
          refine lv_icmp_lt (pc := 109) (tgt := 116) hx hb dX6_hill_109 (by decide) (fun c109 => ?_) (fun c109 => ?_)
          · have hf := zz_t c109 hf
            refine lv_iload_n (pc := 116) hx hb dX6_hill_116 rfl (lv_at hl 0 rfl) ?_
            exact J117 σ89 x1 y70 ((2 * x1) + 1) _ _ _ hP hD hS (lv_sub hl [1, 2] rfl) hf
          · have hf := zz_f c109 hf
            exact J112 σ89 x1 ((2 * x1) + 1) _ _ _ hP hD hS (lv_sub hl [1, 2] rfl) hf
  refine lv_aload_n (pc := 0) hx hb dX6_hill_0 rfl (lv_at hl 0 rfl) ?_
  obtain ⟨v1, σ1, h1, hf⟩ := zz_b hf
  refine cV (pc := 1) (rest := []) (st1 := [.int v1]) (q0 := 0) CF (tX6_faultOf h1) hK hP hD hS hA hN hW mL_X6_64 kX6_faultOf nX6_faultOf rfl rfl rfl rfl ⟨by decide, by decide⟩ hl.1 (Nat.le_of_ble_eq_true rfl) ⟨Nat.le_refl _, Nat.le_refl _⟩ rfl dX6_hill_1 (fun H locs hP hD hS => ?_)
  refine lv_aload_n (pc := 4) hx hb dX6_hill_4 rfl (lv_at hl 0 rfl) ?_
  refine gm_0_pageMany (pc := 5) CF hK hP mF_X6_44 dX6_hill_5 ?_
  refine lv_icmp_lt (pc := 8) (tgt := 32) hx hb dX6_hill_8 (by decide) (fun c8 => ?_) (fun c8 => ?_)
  · have hf := zz_t c8 hf
    refine lv_bipush (pc := 32) (v := (-103)) hx hb dX6_hill_32 (by decide) ?_
    exact retIw (wf := wM ad cA) hx hb hr hlk hf hP hD hS dX6_hill_34
  · have hf := zz_f c8 hf
    refine lv_aload_n (pc := 11) hx hb dX6_hill_11 rfl (lv_at hl 0 rfl) ?_
    refine gm_0_endAt (pc := 12) CF hK hP mF_X6_47 dX6_hill_12 ?_
    refine lv_iconst (pc := 15) (v := (-1)) hx hb dX6_hill_15 (by decide) ?_
    refine lv_icmp_eq (pc := 16) (tgt := 32) hx hb dX6_hill_16 (by decide) (fun c16 => ?_) (fun c16 => ?_)
    · have hf := zz_t c16 hf
      refine lv_bipush (pc := 32) (v := (-103)) hx hb dX6_hill_32 (by decide) ?_
      exact retIw (wf := wM ad cA) hx hb hr hlk hf hP hD hS dX6_hill_34
    · have hf := zz_f c16 hf
      refine lv_aload_n (pc := 19) hx hb dX6_hill_19 rfl (lv_at hl 0 rfl) ?_
      refine gm_0_pageMany (pc := 20) CF hK hP mF_X6_44 dX6_hill_20 ?_
      refine lv_aload_n (pc := 23) hx hb dX6_hill_23 rfl (lv_at hl 0 rfl) ?_
      refine gm_0_endAt (pc := 24) CF hK hP mF_X6_47 dX6_hill_24 ?_
      refine lv_iconst (pc := 27) (v := 2) hx hb dX6_hill_27 (by decide) ?_
      refine lv_iadd (pc := 28) hx hb dX6_hill_28 ?_
      refine lv_icmp_eq (pc := 29) (tgt := 35) hx hb dX6_hill_29 (by decide) (fun c29 => ?_) (fun c29 => ?_)
      · have hf := zz_t c29 hf
        refine lv_aload_n (pc := 35) hx hb dX6_hill_35 rfl (lv_at hl 0 rfl) ?_
        refine lv_aload_n (pc := 36) hx hb dX6_hill_36 rfl (lv_at hl 0 rfl) ?_
        refine gm_0_endAt (pc := 37) CF hK hP mF_X6_47 dX6_hill_37 ?_
        refine lv_iconst (pc := 40) (v := 1) hx hb dX6_hill_40 (by decide) ?_
        refine lv_iadd (pc := 41) hx hb dX6_hill_41 ?_
        refine lv_iconst (pc := 42) (v := 3) hx hb dX6_hill_42 (by decide) ?_
        refine lv_idiv (pc := 43) hx hb dX6_hill_43 (by decide) ?_
        refine pm_0_people (pc := 44) CF hK hP hD hS mF_X6_68 dX6_hill_44 (fun H locs hP hD hS => ?_)
        obtain ⟨σ44, hP, hD, hf⟩ := zz_g (w := wM ad cA) hP hD hf
        refine lv_iconst (pc := 47) (v := 0) hx hb dX6_hill_47 (by decide) ?_
        refine lv_istore_n (pc := 48) (lv' := [(1, .int 0), (0, .ref (ad 0))]) hx hb dX6_hill_48 rfl hl (by decide) rfl (fun ls hl => ?_)
        exact L49 N σ44 0 _ _ _ hP hD hS (lv_sub hl [1, 0] rfl) hf
      · have hf := zz_f c29 hf
        refine lv_bipush (pc := 32) (v := (-103)) hx hb dX6_hill_32 (by decide) ?_
        exact retIw (wf := wM ad cA) hx hb hr hlk hf hP hD hS dX6_hill_34
set_option maxHeartbeats 4000000 in
set_option maxRecDepth 100000 in
theorem tX6_lacks {l : Launch} {kv : Nat × Nat} {D : va_G} {N : Nat} {ad : Nat → Nat} {cA : ClassId} {σ : SM} {rF : Int32} (hf : fX6_lacks N σ = some rF) : Ct l kv D [(cA, .int)] yX6_lacks cX6_lacks 1 (some .boolean) 0 0 (wM ad cA σ) (wM ad cA σ) [.ref (ad 0)] (some (.int rF)) := by
  refine Ct.ofW (by decide) (Nat.le_of_ble_eq_true rfl) ?_
  intro p e s m below meth c A args CF hr hlk hA hP hK hD hN hW hS ls hl
  have hx := CF.1
  have hb := CF.2.1
  have hml := CF.2.2.1
  have hown := CF.2.2.2.1
  have hw : ∀ w ∈ wsA, w.before args s = true := fun w h => CF.2.2.2.2 w (List.mem_cons_of_mem _ h)
  have hl : lv_has ls 1 [(0, .ref (ad 0))] := hl
  unfold fX6_lacks at hf
  refine lv_aload_n (pc := 0) hx hb dX6_lacks_0 rfl (lv_at hl 0 rfl) ?_
  refine gm_0_people (pc := 1) CF hK hP mF_X6_68 dX6_lacks_1 ?_
  refine lv_if_ne (pc := 4) (tgt := 11) hx hb dX6_lacks_4 (by decide) (fun c4 => ?_) (fun c4 => ?_)
  · have hf := zz_f c4 hf
    refine lv_iconst (pc := 11) (v := 0) hx hb dX6_lacks_11 (by decide) ?_
    exact retZ hx hb hr hlk rfl hf hP hD hS dX6_lacks_12
  · have hf := zz_t c4 hf
    refine lv_iconst (pc := 7) (v := 1) hx hb dX6_lacks_7 (by decide) ?_
    refine lv_goto (pc := 8) (tgt := 12) hx hb dX6_lacks_8 (by decide) ?_
    exact retZ hx hb hr hlk rfl hf hP hD hS dX6_lacks_12
set_option maxHeartbeats 4000000 in
set_option maxRecDepth 100000 in
theorem tX6_isPerson {l : Launch} {kv : Nat × Nat} {D : va_G} {N : Nat} {ad : Nat → Nat} {cA : ClassId} {σ : SM} {x1 : Int32} {rF : Int32} (hf : fX6_isPerson N σ x1 = some rF) : Ct l kv D [(cA, .int)] yX6_isPerson cX6_isPerson 2 (some .boolean) 1 25 (wM ad cA σ) (wM ad cA σ) [.ref (ad 0), .int x1] (some (.int rF)) := by
  refine Ct.ofW (by decide) (Nat.le_of_ble_eq_true rfl) ?_
  intro p e s m below meth c A args CF hr hlk hA hP hK hD hN hW hS ls hl
  have hx := CF.1
  have hb := CF.2.1
  have hml := CF.2.2.1
  have hown := CF.2.2.2.1
  have hw : ∀ w ∈ wsA, w.before args s = true := fun w h => CF.2.2.2.2 w (List.mem_cons_of_mem _ h)
  have hl : lv_has ls 2 [(0, .ref (ad 0)), (1, .int x1)] := hl
  unfold fX6_isPerson at hf
  refine lv_iload_n (pc := 0) hx hb dX6_isPerson_0 rfl (lv_at hl 1 rfl) ?_
  refine lv_i2l (pc := 1) (v := x1.toInt64) hx hb dX6_isPerson_1 rfl ?_
  refine lv_lconst (pc := 2) (v := 0) hx hb dX6_isPerson_2 (by decide) ?_
  refine lv_aload_n (pc := 3) hx hb dX6_isPerson_3 rfl (lv_at hl 0 rfl) ?_
  refine gm_0_people (pc := 4) CF hK hP mF_X6_68 dX6_isPerson_4 ?_
  refine lv_iconst (pc := 7) (v := 1) hx hb dX6_isPerson_7 (by decide) ?_
  refine lv_isub (pc := 8) hx hb dX6_isPerson_8 ?_
  refine lv_i2l (pc := 9) (v := ((m_people σ) - 1).toInt64) hx hb dX6_isPerson_9 rfl ?_
  obtain ⟨v10, h10, hf⟩ := zz_o hf
  refine cSt (pc := 10) (rest := []) (st1 := [.int v10]) CF (tX6_in h10) hK hP hD hS hA hN hW mL_X6_40 kX6_in nX6_in rfl rfl ⟨by decide, by decide⟩ hl.1 (Nat.le_of_ble_eq_true rfl) ⟨Nat.le_refl _, Nat.le_refl _⟩ rfl dX6_isPerson_10 (fun H locs hP hD hS => ?_)
  obtain ⟨cz, hf⟩ := zz_k hf
  exact retZ hx hb hr hlk (nar_z cz) hf hP hD hS dX6_isPerson_13
set_option maxHeartbeats 4000000 in
set_option maxRecDepth 100000 in
theorem tX6_isTunnel {l : Launch} {kv : Nat × Nat} {D : va_G} {N : Nat} {ad : Nat → Nat} {cA : ClassId} {σ : SM} {x1 : Int32} {rF : Int32} (hf : fX6_isTunnel N σ x1 = some rF) : Ct l kv D [(cA, .int)] yX6_isTunnel cX6_isTunnel 2 (some .boolean) 1 25 (wM ad cA σ) (wM ad cA σ) [.ref (ad 0), .int x1] (some (.int rF)) := by
  refine Ct.ofW (by decide) (Nat.le_of_ble_eq_true rfl) ?_
  intro p e s m below meth c A args CF hr hlk hA hP hK hD hN hW hS ls hl
  have hx := CF.1
  have hb := CF.2.1
  have hml := CF.2.2.1
  have hown := CF.2.2.2.1
  have hw : ∀ w ∈ wsA, w.before args s = true := fun w h => CF.2.2.2.2 w (List.mem_cons_of_mem _ h)
  have hl : lv_has ls 2 [(0, .ref (ad 0)), (1, .int x1)] := hl
  unfold fX6_isTunnel at hf
  refine lv_aload_n (pc := 0) hx hb dX6_isTunnel_0 rfl (lv_at hl 0 rfl) ?_
  obtain ⟨v1, h1, hf⟩ := zz_o hf
  refine cV (pc := 1) (rest := []) (st1 := [.int v1]) (q0 := 0) CF (tX6_lacks h1) hK hP hD hS hA hN hW mL_X6_86 kX6_lacks nX6_lacks rfl rfl rfl rfl ⟨by decide, by decide⟩ hl.1 (Nat.le_of_ble_eq_true rfl) ⟨Nat.le_refl _, Nat.le_refl _⟩ rfl dX6_isTunnel_1 (fun H locs hP hD hS => ?_)
  refine lv_if_ne (pc := 4) (tgt := 23) hx hb dX6_isTunnel_4 (by decide) (fun c4 => ?_) (fun c4 => ?_)
  · have hf := zz_f c4 hf
    refine lv_iconst (pc := 23) (v := 0) hx hb dX6_isTunnel_23 (by decide) ?_
    exact retZ hx hb hr hlk rfl hf hP hD hS dX6_isTunnel_24
  · have hf := zz_t c4 hf
    refine lv_iload_n (pc := 7) hx hb dX6_isTunnel_7 rfl (lv_at hl 1 rfl) ?_
    refine lv_i2l (pc := 8) (v := x1.toInt64) hx hb dX6_isTunnel_8 rfl ?_
    refine lv_lconst (pc := 9) (v := 0) hx hb dX6_isTunnel_9 (by decide) ?_
    refine lv_ldc2 (pc := 10) hx hb hown (hw _ mK_X6_90) dX6_isTunnel_10 ?_
    obtain ⟨v13, h13, hf⟩ := zz_o hf
    refine cSt (pc := 13) (rest := []) (st1 := [.int v13]) CF (tX6_in h13) hK hP hD hS hA hN hW mL_X6_40 kX6_in nX6_in rfl rfl ⟨by decide, by decide⟩ hl.1 (Nat.le_of_ble_eq_true rfl) ⟨Nat.le_refl _, Nat.le_refl _⟩ rfl dX6_isTunnel_13 (fun H locs hP hD hS => ?_)
    refine lv_if_eq (pc := 16) (tgt := 23) hx hb dX6_isTunnel_16 (by decide) (fun c16 => ?_) (fun c16 => ?_)
    · have hf := zz_t c16 hf
      refine lv_iconst (pc := 23) (v := 0) hx hb dX6_isTunnel_23 (by decide) ?_
      exact retZ hx hb hr hlk rfl hf hP hD hS dX6_isTunnel_24
    · have hf := zz_f c16 hf
      refine lv_iconst (pc := 19) (v := 1) hx hb dX6_isTunnel_19 (by decide) ?_
      refine lv_goto (pc := 20) (tgt := 24) hx hb dX6_isTunnel_20 (by decide) ?_
      exact retZ hx hb hr hlk rfl hf hP hD hS dX6_isTunnel_24
set_option maxHeartbeats 4000000 in
set_option maxRecDepth 100000 in
theorem tX6_tellsOf {l : Launch} {kv : Nat × Nat} {D : va_G} {N : Nat} {ad : Nat → Nat} {cA : ClassId} {σ : SM} {x1 : Int32} {rF : Int32} (hf : fX6_tellsOf N σ x1 = some rF) : Ct l kv D [(cA, .int)] yX6_tellsOf cX6_tellsOf 6 (some .int) 0 0 (wM ad cA σ) (wM ad cA σ) [.ref (ad 0), .int x1] (some (.int rF)) := by
  refine Ct.ofW (by decide) (Nat.le_of_ble_eq_true rfl) ?_
  intro p e s m below meth c A args CF hr hlk hA hP hK hD hN hW hS ls hl
  have hx := CF.1
  have hb := CF.2.1
  have hml := CF.2.2.1
  have hown := CF.2.2.2.1
  have hw : ∀ w ∈ wsA, w.before args s = true := fun w h => CF.2.2.2.2 w (List.mem_cons_of_mem _ h)
  have hl : lv_has ls 6 [(0, .ref (ad 0)), (1, .int x1)] := hl
  unfold fX6_tellsOf at hf
  have J52 : ∀ (x1 : Int32) (x3 : Int32) (x4 : Int32) (z0 : Int32) (H : Heap) (locs : List Loc) (ls : Array Slot), va_P D vwCl (wM ad cA σ) H → va_D A (wM ad cA σ) → va_S A s.heap H locs → lv_has ls 6 [(0, .ref (ad 0)), (1, .int x1), (3, .int x3), (4, .int x4)] → fX6_tellsOf_52 N σ x1 x3 x4 z0 = some rF → G p l e 0 0 s m args below meth c D A (wM ad cA σ) (some (.int rF)) H locs (F0 m 52 ls [.int z0]) := by
    intro x1 x3 x4 z0 H locs ls hP hD hS hl hf
    unfold fX6_tellsOf_52 at hf
    refine lv_istore (pc := 52) (lv' := [(5, .int z0), (0, .ref (ad 0)), (1, .int x1), (3, .int x3), (4, .int x4)]) hx hb dX6_tellsOf_52 hl (by decide) rfl (fun ls hl => ?_)
    refine lv_iload (pc := 54) hx hb dX6_tellsOf_54 (lv_at hl 0 rfl) ?_
    refine lv_if_eq (pc := 56) (tgt := 87) hx hb dX6_tellsOf_56 (by decide) (fun c56 => ?_) (fun c56 => ?_)
    · have hf := zz_t c56 hf
      refine lv_iload (pc := 87) hx hb dX6_tellsOf_87 (lv_at hl 4 rfl) ?_
      exact retI hx hb hr hlk hf hP hD hS dX6_tellsOf_89
    · have hf := zz_f c56 hf
      refine lv_iload_n (pc := 59) hx hb dX6_tellsOf_59 rfl (lv_at hl 3 rfl) ?_
      refine lv_iconst (pc := 60) (v := 1) hx hb dX6_tellsOf_60 (by decide) ?_
      refine lv_iadd (pc := 61) hx hb dX6_tellsOf_61 ?_
      refine lv_aload_n (pc := 62) hx hb dX6_tellsOf_62 rfl (lv_at hl 1 rfl) ?_
      refine gm_0_people (pc := 63) CF hK hP mF_X6_68 dX6_tellsOf_63 ?_
      refine lv_icmp_ge (pc := 66) (tgt := 87) hx hb dX6_tellsOf_66 (by decide) (fun c66 => ?_) (fun c66 => ?_)
      · have hf := zz_t c66 hf
        refine lv_iload (pc := 87) hx hb dX6_tellsOf_87 (lv_at hl 4 rfl) ?_
        exact retI hx hb hr hlk hf hP hD hS dX6_tellsOf_89
      · have hf := zz_f c66 hf
        refine lv_iload_n (pc := 69) hx hb dX6_tellsOf_69 rfl (lv_at hl 3 rfl) ?_
        refine lv_iconst (pc := 70) (v := 1) hx hb dX6_tellsOf_70 (by decide) ?_
        refine lv_iadd (pc := 71) hx hb dX6_tellsOf_71 ?_
        refine lv_iload_n (pc := 72) hx hb dX6_tellsOf_72 rfl (lv_at hl 2 rfl) ?_
        refine lv_icmp_eq (pc := 73) (tgt := 87) hx hb dX6_tellsOf_73 (by decide) (fun c73 => ?_) (fun c73 => ?_)
        · have hf := zz_t c73 hf
          refine lv_iload (pc := 87) hx hb dX6_tellsOf_87 (lv_at hl 4 rfl) ?_
          exact retI hx hb hr hlk hf hP hD hS dX6_tellsOf_89
        · have hf := zz_f c73 hf
          refine lv_iload (pc := 76) hx hb dX6_tellsOf_76 (lv_at hl 4 rfl) ?_
          refine lv_iconst (pc := 78) (v := 1) hx hb dX6_tellsOf_78 (by decide) ?_
          refine lv_iload_n (pc := 79) hx hb dX6_tellsOf_79 rfl (lv_at hl 3 rfl) ?_
          refine lv_iconst (pc := 80) (v := 1) hx hb dX6_tellsOf_80 (by decide) ?_
          refine lv_iadd (pc := 81) hx hb dX6_tellsOf_81 ?_
          refine lv_ishl (pc := 82) hx hb dX6_tellsOf_82 ?_
          refine lv_ior (pc := 83) hx hb dX6_tellsOf_83 ?_
          refine lv_goto (pc := 84) (tgt := 89) hx hb dX6_tellsOf_84 (by decide) ?_
          exact retI hx hb hr hlk hf hP hD hS dX6_tellsOf_89
  have J47 : ∀ (x1 : Int32) (x3 : Int32) (x4 : Int32) (H : Heap) (locs : List Loc) (ls : Array Slot), va_P D vwCl (wM ad cA σ) H → va_D A (wM ad cA σ) → va_S A s.heap H locs → lv_has ls 6 [(0, .ref (ad 0)), (1, .int x1), (3, .int x3), (4, .int x4)] → fX6_tellsOf_47 N σ x1 x3 x4 = some rF → G p l e 0 0 s m args below meth c D A (wM ad cA σ) (some (.int rF)) H locs (F0 m 47 ls []) := by
    intro x1 x3 x4 H locs ls hP hD hS hl hf
    unfold fX6_tellsOf_47 at hf
    refine lv_iconst (pc := 47) (v := 1) hx hb dX6_tellsOf_47 (by decide) ?_
    refine lv_goto (pc := 48) (tgt := 52) hx hb dX6_tellsOf_48 (by decide) ?_
    exact J52 x1 x3 x4 1 _ _ _ hP hD hS (lv_sub hl [0, 1, 2, 3] rfl) hf
  refine lv_aload_n (pc := 0) hx hb dX6_tellsOf_0 rfl (lv_at hl 0 rfl) ?_
  refine gm_0_rows (pc := 1) CF hK hP mF_X6_13 dX6_tellsOf_1 ?_
  refine lv_iconst (pc := 4) (v := 2) hx hb dX6_tellsOf_4 (by decide) ?_
  refine lv_iload_n (pc := 5) hx hb dX6_tellsOf_5 rfl (lv_at hl 1 rfl) ?_
  refine lv_imul (pc := 6) hx hb dX6_tellsOf_6 ?_
  obtain ⟨c7, hf⟩ := zz_k hf
  refine lm_rows (pc := 7) hx hb hK hP c7 dX6_tellsOf_7 ?_
  refine lv_istore_n (pc := 8) (lv' := [(2, .int (m_rows σ (2 * x1).toNatClampNeg)), (0, .ref (ad 0)), (1, .int x1)]) hx hb dX6_tellsOf_8 rfl hl (by decide) rfl (fun ls hl => ?_)
  refine lv_aload_n (pc := 9) hx hb dX6_tellsOf_9 rfl (lv_at hl 1 rfl) ?_
  refine gm_0_rows (pc := 10) CF hK hP mF_X6_13 dX6_tellsOf_10 ?_
  refine lv_iconst (pc := 13) (v := 2) hx hb dX6_tellsOf_13 (by decide) ?_
  refine lv_iload_n (pc := 14) hx hb dX6_tellsOf_14 rfl (lv_at hl 2 rfl) ?_
  refine lv_imul (pc := 15) hx hb dX6_tellsOf_15 ?_
  refine lv_iconst (pc := 16) (v := 1) hx hb dX6_tellsOf_16 (by decide) ?_
  refine lv_iadd (pc := 17) hx hb dX6_tellsOf_17 ?_
  obtain ⟨c18, hf⟩ := zz_k hf
  refine lm_rows (pc := 18) hx hb hK hP c18 dX6_tellsOf_18 ?_
  refine lv_istore_n (pc := 19) (lv' := [(3, .int (m_rows σ ((2 * x1) + 1).toNatClampNeg)), (2, .int (m_rows σ (2 * x1).toNatClampNeg)), (0, .ref (ad 0)), (1, .int x1)]) hx hb dX6_tellsOf_19 rfl hl (by decide) rfl (fun ls hl => ?_)
  refine lv_iload_n (pc := 20) hx hb dX6_tellsOf_20 rfl (lv_at hl 1 rfl) ?_
  refine lv_iconst (pc := 21) (v := 1) hx hb dX6_tellsOf_21 (by decide) ?_
  refine lv_icmp_eq (pc := 22) (tgt := 30) hx hb dX6_tellsOf_22 (by decide) (fun c22 => ?_) (fun c22 => ?_)
  · have hf := zz_t c22 hf
    refine lv_iconst (pc := 30) (v := 0) hx hb dX6_tellsOf_30 (by decide) ?_
    exact retI hx hb hr hlk hf hP hD hS dX6_tellsOf_31
  · have hf := zz_f c22 hf
    refine lv_iload_n (pc := 25) hx hb dX6_tellsOf_25 rfl (lv_at hl 0 rfl) ?_
    refine lv_iconst (pc := 26) (v := (-1)) hx hb dX6_tellsOf_26 (by decide) ?_
    refine lv_icmp_ne (pc := 27) (tgt := 32) hx hb dX6_tellsOf_27 (by decide) (fun c27 => ?_) (fun c27 => ?_)
    · have hf := zz_f c27 hf
      refine lv_iconst (pc := 32) (v := 1) hx hb dX6_tellsOf_32 (by decide) ?_
      refine lv_iload_n (pc := 33) hx hb dX6_tellsOf_33 rfl (lv_at hl 0 rfl) ?_
      refine lv_ishl (pc := 34) hx hb dX6_tellsOf_34 ?_
      refine lv_topi (fun y35 e35 => ?_)
      have hf := zz_l e35 hf
      refine lv_istore (pc := 35) (lv' := [(4, .int y35), (3, .int (m_rows σ ((2 * x1) + 1).toNatClampNeg)), (2, .int (m_rows σ (2 * x1).toNatClampNeg)), (0, .ref (ad 0)), (1, .int x1)]) hx hb dX6_tellsOf_35 hl (by decide) rfl (fun ls hl => ?_)
      refine lv_iload_n (pc := 37) hx hb dX6_tellsOf_37 rfl (lv_at hl 2 rfl) ?_
      refine lv_iconst (pc := 38) (v := 2) hx hb dX6_tellsOf_38 (by decide) ?_
      refine lv_icmp_eq (pc := 39) (tgt := 47) hx hb dX6_tellsOf_39 (by decide) (fun c39 => ?_) (fun c39 => ?_)
      · have hf := zz_t c39 hf
        exact J47 x1 (m_rows σ ((2 * x1) + 1).toNatClampNeg) y35 _ _ _ hP hD hS (lv_sub hl [3, 4, 1, 0] rfl) hf
      · have hf := zz_f c39 hf
        refine lv_iload_n (pc := 42) hx hb dX6_tellsOf_42 rfl (lv_at hl 2 rfl) ?_
        refine lv_iconst (pc := 43) (v := 4) hx hb dX6_tellsOf_43 (by decide) ?_
        refine lv_icmp_ne (pc := 44) (tgt := 51) hx hb dX6_tellsOf_44 (by decide) (fun c44 => ?_) (fun c44 => ?_)
        · have hf := zz_f c44 hf
          refine lv_iconst (pc := 51) (v := 0) hx hb dX6_tellsOf_51 (by decide) ?_
          exact J52 x1 (m_rows σ ((2 * x1) + 1).toNatClampNeg) y35 0 _ _ _ hP hD hS (lv_sub hl [3, 4, 1, 0] rfl) hf
        · have hf := zz_t c44 hf
          exact J47 x1 (m_rows σ ((2 * x1) + 1).toNatClampNeg) y35 _ _ _ hP hD hS (lv_sub hl [3, 4, 1, 0] rfl) hf
    · have hf := zz_t c27 hf
      refine lv_iconst (pc := 30) (v := 0) hx hb dX6_tellsOf_30 (by decide) ?_
      exact retI hx hb hr hlk hf hP hD hS dX6_tellsOf_31
set_option maxHeartbeats 4000000 in
set_option maxRecDepth 100000 in
theorem tX6_toldBy {l : Launch} {kv : Nat × Nat} {D : va_G} {N : Nat} {ad : Nat → Nat} {cA : ClassId} {σ : SM} {x1 : Int32} {rF : Int32} (hf : fX6_toldBy N σ x1 = some rF) : Ct l kv D [(cA, .int)] yX6_toldBy cX6_toldBy 4 (some .int) 1 25 (wM ad cA σ) (wM ad cA σ) [.ref (ad 0), .int x1] (some (.int rF)) := by
  refine Ct.ofW (by decide) (Nat.le_of_ble_eq_true rfl) ?_
  intro p e s m below meth c A args CF hr hlk hA hP hK hD hN hW hS ls hl
  have hx := CF.1
  have hb := CF.2.1
  have hml := CF.2.2.1
  have hown := CF.2.2.2.1
  have hw : ∀ w ∈ wsA, w.before args s = true := fun w h => CF.2.2.2.2 w (List.mem_cons_of_mem _ h)
  have hl : lv_has ls 4 [(0, .ref (ad 0)), (1, .int x1)] := hl
  unfold fX6_toldBy at hf
  have L4 : ∀ (n4 : Nat) (x1 : Int32) (x2 : Int32) (x3 : Int32) (H : Heap) (locs : List Loc) (ls : Array Slot), va_P D vwCl (wM ad cA σ) H → va_D A (wM ad cA σ) → va_S A s.heap H locs → lv_has ls 4 [(0, .ref (ad 0)), (1, .int x1), (2, .int x2), (3, .int x3)] → fX6_toldBy_4 N n4 σ x1 x2 x3 = some rF → G p l e 1 25 s m args below meth c D A (wM ad cA σ) (some (.int rF)) H locs (F0 m 4 ls []) := by
    intro n4
    induction n4 with
    | zero => intro x1 x2 x3 H locs ls hP hD hS hl hf; exact absurd hf (by simp [fX6_toldBy_4])
    | succ n4 ih4 =>
      intro x1 x2 x3 H locs ls hP hD hS hl hf
      rw [fX6_toldBy_4] at hf
      refine lv_iload_n (pc := 4) hx hb dX6_toldBy_4 rfl (lv_at hl 3 rfl) ?_
      refine lv_aload_n (pc := 5) hx hb dX6_toldBy_5 rfl (lv_at hl 0 rfl) ?_
      refine gm_0_people (pc := 6) CF hK hP mF_X6_68 dX6_toldBy_6 ?_
      refine lv_icmp_ge (pc := 9) (tgt := 39) hx hb dX6_toldBy_9 (by decide) (fun c9 => ?_) (fun c9 => ?_)
      · have hf := zz_t c9 hf
        refine lv_iload_n (pc := 39) hx hb dX6_toldBy_39 rfl (lv_at hl 2 rfl) ?_
        exact retI hx hb hr hlk hf hP hD hS dX6_toldBy_40
      · have hf := zz_f c9 hf
        refine lv_iload_n (pc := 12) hx hb dX6_toldBy_12 rfl (lv_at hl 2 rfl) ?_
        refine lv_iload_n (pc := 13) hx hb dX6_toldBy_13 rfl (lv_at hl 1 rfl) ?_
        refine lv_iload_n (pc := 14) hx hb dX6_toldBy_14 rfl (lv_at hl 3 rfl) ?_
        refine lv_ishr (pc := 15) hx hb dX6_toldBy_15 ?_
        refine lv_iconst (pc := 16) (v := 1) hx hb dX6_toldBy_16 (by decide) ?_
        refine lv_iand (pc := 17) hx hb dX6_toldBy_17 ?_
        refine lv_iconst (pc := 18) (v := 1) hx hb dX6_toldBy_18 (by decide) ?_
        refine lv_icmp_ne (pc := 19) (tgt := 30) hx hb dX6_toldBy_19 (by decide) (fun c19 => ?_) (fun c19 => ?_)
        · have hf := zz_f c19 hf
          refine lv_iconst (pc := 30) (v := 0) hx hb dX6_toldBy_30 (by decide) ?_
          refine lv_ior (pc := 31) hx hb dX6_toldBy_31 ?_
          refine lv_istore_n (pc := 32) (lv' := [(2, .int (x2 ||| 0)), (0, .ref (ad 0)), (1, .int x1), (3, .int x3)]) hx hb dX6_toldBy_32 rfl hl (by decide) rfl (fun ls hl => ?_)
          refine lv_iinc (pc := 33) (v := (x3 + 1)) (lv' := [(3, .int (x3 + 1)), (2, .int (x2 ||| 0)), (0, .ref (ad 0)), (1, .int x1)]) hx hb dX6_toldBy_33 hl (k := 3) rfl rfl (by decide) rfl (fun ls hl => ?_)
          refine lv_goto (pc := 36) (tgt := 4) hx hb dX6_toldBy_36 (by decide) ?_
          exact ih4 x1 (x2 ||| 0) (x3 + 1) _ _ _ hP hD hS (lv_sub hl [2, 3, 1, 0] rfl) hf
        · have hf := zz_t c19 hf
          refine lv_aload_n (pc := 22) hx hb dX6_toldBy_22 rfl (lv_at hl 0 rfl) ?_
          refine lv_iload_n (pc := 23) hx hb dX6_toldBy_23 rfl (lv_at hl 3 rfl) ?_
          obtain ⟨v24, h24, hf⟩ := zz_o hf
          refine cV (pc := 24) (rest := [.int x2]) (st1 := [.int v24, .int x2]) (q0 := 0) CF (tX6_tellsOf h24) hK hP hD hS hA hN hW mL_X6_92 kX6_tellsOf nX6_tellsOf rfl rfl rfl rfl ⟨by decide, by decide⟩ hl.1 (Nat.le_of_ble_eq_true rfl) ⟨Nat.le_refl _, Nat.le_refl _⟩ rfl dX6_toldBy_24 (fun H locs hP hD hS => ?_)
          refine lv_goto (pc := 27) (tgt := 31) hx hb dX6_toldBy_27 (by decide) ?_
          refine lv_ior (pc := 31) hx hb dX6_toldBy_31 ?_
          refine lv_istore_n (pc := 32) (lv' := [(2, .int (x2 ||| v24)), (0, .ref (ad 0)), (1, .int x1), (3, .int x3)]) hx hb dX6_toldBy_32 rfl hl (by decide) rfl (fun ls hl => ?_)
          refine lv_iinc (pc := 33) (v := (x3 + 1)) (lv' := [(3, .int (x3 + 1)), (2, .int (x2 ||| v24)), (0, .ref (ad 0)), (1, .int x1)]) hx hb dX6_toldBy_33 hl (k := 3) rfl rfl (by decide) rfl (fun ls hl => ?_)
          refine lv_goto (pc := 36) (tgt := 4) hx hb dX6_toldBy_36 (by decide) ?_
          exact ih4 x1 (x2 ||| v24) (x3 + 1) _ _ _ hP hD hS (lv_sub hl [2, 3, 1, 0] rfl) hf
  refine lv_iconst (pc := 0) (v := 0) hx hb dX6_toldBy_0 (by decide) ?_
  refine lv_istore_n (pc := 1) (lv' := [(2, .int 0), (0, .ref (ad 0)), (1, .int x1)]) hx hb dX6_toldBy_1 rfl hl (by decide) rfl (fun ls hl => ?_)
  refine lv_iconst (pc := 2) (v := 0) hx hb dX6_toldBy_2 (by decide) ?_
  refine lv_istore_n (pc := 3) (lv' := [(3, .int 0), (2, .int 0), (0, .ref (ad 0)), (1, .int x1)]) hx hb dX6_toldBy_3 rfl hl (by decide) rfl (fun ls hl => ?_)
  exact L4 N x1 0 0 _ _ _ hP hD hS (lv_sub hl [2, 3, 1, 0] rfl) hf
set_option maxHeartbeats 4000000 in
set_option maxRecDepth 100000 in
theorem tX6_endBy {l : Launch} {kv : Nat × Nat} {D : va_G} {N : Nat} {ad : Nat → Nat} {cA : ClassId} {σ : SM} {x1 : Int32} {x2 : Int32} {rF : Int32} (hf : fX6_endBy N σ x1 x2 = some rF) : Ct l kv D [(cA, .int)] yX6_endBy cX6_endBy 5 (some .int) 2 48 (wM ad cA σ) (wM ad cA σ) [.ref (ad 0), .int x1, .int x2] (some (.int rF)) := by
  refine Ct.ofW (by decide) (Nat.le_of_ble_eq_true rfl) ?_
  intro p e s m below meth c A args CF hr hlk hA hP hK hD hN hW hS ls hl
  have hx := CF.1
  have hb := CF.2.1
  have hml := CF.2.2.1
  have hown := CF.2.2.2.1
  have hw : ∀ w ∈ wsA, w.before args s = true := fun w h => CF.2.2.2.2 w (List.mem_cons_of_mem _ h)
  have hl : lv_has ls 5 [(0, .ref (ad 0)), (1, .int x1), (2, .int x2)] := hl
  unfold fX6_endBy at hf
  have L5 : ∀ (n5 : Nat) (x3 : Int32) (x4 : Int32) (H : Heap) (locs : List Loc) (ls : Array Slot), va_P D vwCl (wM ad cA σ) H → va_D A (wM ad cA σ) → va_S A s.heap H locs → lv_has ls 5 [(0, .ref (ad 0)), (3, .int x3), (4, .int x4)] → fX6_endBy_5 N n5 σ x3 x4 = some rF → G p l e 2 48 s m args below meth c D A (wM ad cA σ) (some (.int rF)) H locs (F0 m 5 ls []) := by
    intro n5
    induction n5 with
    | zero => intro x3 x4 H locs ls hP hD hS hl hf; exact absurd hf (by simp [fX6_endBy_5])
    | succ n5 ih5 =>
      intro x3 x4 H locs ls hP hD hS hl hf
      rw [fX6_endBy_5] at hf
      refine lv_iload (pc := 5) hx hb dX6_endBy_5 (lv_at hl 2 rfl) ?_
      refine lv_if_eq (pc := 7) (tgt := 30) hx hb dX6_endBy_7 (by decide) (fun c7 => ?_) (fun c7 => ?_)
      · have hf := zz_t c7 hf
        refine lv_iload_n (pc := 30) hx hb dX6_endBy_30 rfl (lv_at hl 1 rfl) ?_
        exact retI hx hb hr hlk hf hP hD hS dX6_endBy_31
      · have hf := zz_f c7 hf
        refine lv_aload_n (pc := 10) hx hb dX6_endBy_10 rfl (lv_at hl 0 rfl) ?_
        refine lv_iload (pc := 11) hx hb dX6_endBy_11 (lv_at hl 2 rfl) ?_
        obtain ⟨v13, h13, hf⟩ := zz_o hf
        refine cV (pc := 13) (rest := []) (st1 := [.int v13]) (q0 := 0) CF (tX6_toldBy h13) hK hP hD hS hA hN hW mL_X6_95 kX6_toldBy nX6_toldBy rfl rfl rfl rfl ⟨by decide, by decide⟩ hl.1 (Nat.le_of_ble_eq_true rfl) ⟨Nat.le_refl _, Nat.le_refl _⟩ rfl dX6_endBy_13 (fun H locs hP hD hS => ?_)
        refine lv_iload_n (pc := 16) hx hb dX6_endBy_16 rfl (lv_at hl 1 rfl) ?_
        refine lv_iconst (pc := 17) (v := (-1)) hx hb dX6_endBy_17 (by decide) ?_
        refine lv_ixor (pc := 18) hx hb dX6_endBy_18 ?_
        refine lv_iand (pc := 19) hx hb dX6_endBy_19 ?_
        refine lv_istore (pc := 20) (lv' := [(4, .int (v13 &&& (x3 ^^^ (-1)))), (0, .ref (ad 0)), (3, .int x3)]) hx hb dX6_endBy_20 hl (by decide) rfl (fun ls hl => ?_)
        refine lv_iload_n (pc := 22) hx hb dX6_endBy_22 rfl (lv_at hl 2 rfl) ?_
        refine lv_iload (pc := 23) hx hb dX6_endBy_23 (lv_at hl 0 rfl) ?_
        refine lv_ior (pc := 25) hx hb dX6_endBy_25 ?_
        refine lv_istore_n (pc := 26) (lv' := [(3, .int (x3 ||| (v13 &&& (x3 ^^^ (-1))))), (4, .int (v13 &&& (x3 ^^^ (-1)))), (0, .ref (ad 0))]) hx hb dX6_endBy_26 rfl hl (by decide) rfl (fun ls hl => ?_)
        refine lv_goto (pc := 27) (tgt := 5) hx hb dX6_endBy_27 (by decide) ?_
        exact ih5 (x3 ||| (v13 &&& (x3 ^^^ (-1)))) (v13 &&& (x3 ^^^ (-1))) _ _ _ hP hD hS (lv_sub hl [2, 0, 1] rfl) hf
  refine lv_iload_n (pc := 0) hx hb dX6_endBy_0 rfl (lv_at hl 1 rfl) ?_
  refine lv_istore_n (pc := 1) (lv' := [(3, .int x1), (0, .ref (ad 0)), (1, .int x1), (2, .int x2)]) hx hb dX6_endBy_1 rfl hl (by decide) rfl (fun ls hl => ?_)
  refine lv_iload_n (pc := 2) hx hb dX6_endBy_2 rfl (lv_at hl 3 rfl) ?_
  refine lv_istore (pc := 3) (lv' := [(4, .int x2), (3, .int x1), (0, .ref (ad 0)), (1, .int x1), (2, .int x2)]) hx hb dX6_endBy_3 hl (by decide) rfl (fun ls hl => ?_)
  exact L5 N x1 x2 _ _ _ hP hD hS (lv_sub hl [2, 1, 0] rfl) hf
set_option maxHeartbeats 4000000 in
set_option maxRecDepth 100000 in
theorem tX6_yardsBy {l : Launch} {kv : Nat × Nat} {D : va_G} {N : Nat} {tys : List (ClassId × FieldType)} {ws : va_W} {x0 : Int32} {rF : Int32} (hf : fX6_yardsBy N x0 = some rF) : Ct l kv D tys yX6_yardsBy cX6_yardsBy 1 (some .int) 0 0 ws ws [.int x0] (some (.int rF)) := by
  refine Ct.ofW (by decide) (Nat.le_of_ble_eq_true rfl) ?_
  intro p e s m below meth c A args CF hr hlk hA hP hK hD hN hW hS ls hl
  have hx := CF.1
  have hb := CF.2.1
  have hml := CF.2.2.1
  have hown := CF.2.2.2.1
  have hw : ∀ w ∈ wsA, w.before args s = true := fun w h => CF.2.2.2.2 w (List.mem_cons_of_mem _ h)
  have hl : lv_has ls 1 [(0, .int x0)] := hl
  unfold fX6_yardsBy at hf
  refine lv_iload_n (pc := 0) hx hb dX6_yardsBy_0 rfl (lv_at hl 0 rfl) ?_
  refine lv_iconst (pc := 1) (v := 1) hx hb dX6_yardsBy_1 (by decide) ?_
  refine lv_icmp_ne (pc := 2) (tgt := 9) hx hb dX6_yardsBy_2 (by decide) (fun c2 => ?_) (fun c2 => ?_)
  · have hf := zz_f c2 hf
    refine lv_iload_n (pc := 9) hx hb dX6_yardsBy_9 rfl (lv_at hl 0 rfl) ?_
    refine lv_iconst (pc := 10) (v := 3) hx hb dX6_yardsBy_10 (by decide) ?_
    refine lv_icmp_eq (pc := 11) (tgt := 19) hx hb dX6_yardsBy_11 (by decide) (fun c11 => ?_) (fun c11 => ?_)
    · have hf := zz_t c11 hf
      refine lv_iconst (pc := 19) (v := 2) hx hb dX6_yardsBy_19 (by decide) ?_
      refine lv_goto (pc := 20) (tgt := 24) hx hb dX6_yardsBy_20 (by decide) ?_
      exact retI hx hb hr hlk hf hP hD hS dX6_yardsBy_24
    · have hf := zz_f c11 hf
      refine lv_iload_n (pc := 14) hx hb dX6_yardsBy_14 rfl (lv_at hl 0 rfl) ?_
      refine lv_iconst (pc := 15) (v := 4) hx hb dX6_yardsBy_15 (by decide) ?_
      refine lv_icmp_ne (pc := 16) (tgt := 23) hx hb dX6_yardsBy_16 (by decide) (fun c16 => ?_) (fun c16 => ?_)
      · have hf := zz_f c16 hf
        refine lv_iconst (pc := 23) (v := 1) hx hb dX6_yardsBy_23 (by decide) ?_
        exact retI hx hb hr hlk hf hP hD hS dX6_yardsBy_24
      · have hf := zz_t c16 hf
        refine lv_iconst (pc := 19) (v := 2) hx hb dX6_yardsBy_19 (by decide) ?_
        refine lv_goto (pc := 20) (tgt := 24) hx hb dX6_yardsBy_20 (by decide) ?_
        exact retI hx hb hr hlk hf hP hD hS dX6_yardsBy_24
  · have hf := zz_t c2 hf
    refine lv_iconst (pc := 5) (v := (-1)) hx hb dX6_yardsBy_5 (by decide) ?_
    refine lv_goto (pc := 6) (tgt := 24) hx hb dX6_yardsBy_6 (by decide) ?_
    exact retI hx hb hr hlk hf hP hD hS dX6_yardsBy_24
set_option maxHeartbeats 4000000 in
set_option maxRecDepth 100000 in
theorem tX6_lengthBy {l : Launch} {kv : Nat × Nat} {D : va_G} {N : Nat} {ad : Nat → Nat} {cA : ClassId} {σ : SM} {x1 : Int32} {x2 : Int32} {rF : Int32} (hf : fX6_lengthBy N σ x1 x2 = some rF) : Ct l kv D [(cA, .int)] yX6_lengthBy cX6_lengthBy 7 (some .int) 1 20 (wM ad cA σ) (wM ad cA σ) [.ref (ad 0), .int x1, .int x2] (some (.int rF)) := by
  refine Ct.ofW (by decide) (Nat.le_of_ble_eq_true rfl) ?_
  intro p e s m below meth c A args CF hr hlk hA hP hK hD hN hW hS ls hl
  have hx := CF.1
  have hb := CF.2.1
  have hml := CF.2.2.1
  have hown := CF.2.2.2.1
  have hw : ∀ w ∈ wsA, w.before args s = true := fun w h => CF.2.2.2.2 w (List.mem_cons_of_mem _ h)
  have hl : lv_has ls 7 [(0, .ref (ad 0)), (1, .int x1), (2, .int x2)] := hl
  unfold fX6_lengthBy at hf
  have J104 : ∀ (x4 : Int32) (z0 : Int32) (H : Heap) (locs : List Loc) (ls : Array Slot), va_P D vwCl (wM ad cA σ) H → va_D A (wM ad cA σ) → va_S A s.heap H locs → lv_has ls 7 [(0, .ref (ad 0)), (4, .int x4)] → fX6_lengthBy_104 N σ x4 z0 = some rF → G p l e 1 20 s m args below meth c D A (wM ad cA σ) (some (.int rF)) H locs (F0 m 104 ls [.int z0]) := by
    intro x4 z0 H locs ls hP hD hS hl hf
    unfold fX6_lengthBy_104 at hf
    refine lv_istore (pc := 104) (lv' := [(5, .int z0), (0, .ref (ad 0)), (4, .int x4)]) hx hb dX6_lengthBy_104 hl (by decide) rfl (fun ls hl => ?_)
    refine lv_iload (pc := 106) hx hb dX6_lengthBy_106 (lv_at hl 0 rfl) ?_
    refine lv_aload_n (pc := 108) hx hb dX6_lengthBy_108 rfl (lv_at hl 1 rfl) ?_
    refine gm_0_river (pc := 109) CF hK hP mF_X6_71 dX6_lengthBy_109 ?_
    refine lv_icmp_le (pc := 112) (tgt := 127) hx hb dX6_lengthBy_112 (by decide) (fun c112 => ?_) (fun c112 => ?_)
    · have hf := zz_t c112 hf
      refine lv_iload (pc := 127) hx hb dX6_lengthBy_127 (lv_at hl 0 rfl) ?_
      exact retI hx hb hr hlk hf hP hD hS dX6_lengthBy_129
    · have hf := zz_f c112 hf
      refine lv_iload (pc := 115) hx hb dX6_lengthBy_115 (lv_at hl 2 rfl) ?_
      refine lv_if_ne (pc := 117) (tgt := 127) hx hb dX6_lengthBy_117 (by decide) (fun c117 => ?_) (fun c117 => ?_)
      · have hf := zz_f c117 hf
        refine lv_iload (pc := 127) hx hb dX6_lengthBy_127 (lv_at hl 0 rfl) ?_
        exact retI hx hb hr hlk hf hP hD hS dX6_lengthBy_129
      · have hf := zz_t c117 hf
        refine lv_aload_n (pc := 120) hx hb dX6_lengthBy_120 rfl (lv_at hl 1 rfl) ?_
        refine gm_0_river (pc := 121) CF hK hP mF_X6_71 dX6_lengthBy_121 ?_
        refine lv_goto (pc := 124) (tgt := 129) hx hb dX6_lengthBy_124 (by decide) ?_
        exact retI hx hb hr hlk hf hP hD hS dX6_lengthBy_129
  have L9 : ∀ (n9 : Nat) (x1 : Int32) (x3 : Int32) (x4 : Int32) (x5 : Int32) (H : Heap) (locs : List Loc) (ls : Array Slot), va_P D vwCl (wM ad cA σ) H → va_D A (wM ad cA σ) → va_S A s.heap H locs → lv_has ls 7 [(0, .ref (ad 0)), (1, .int x1), (3, .int x3), (4, .int x4), (5, .int x5)] → fX6_lengthBy_9 N n9 σ x1 x3 x4 x5 = some rF → G p l e 1 20 s m args below meth c D A (wM ad cA σ) (some (.int rF)) H locs (F0 m 9 ls []) := by
    intro n9
    induction n9 with
    | zero => intro x1 x3 x4 x5 H locs ls hP hD hS hl hf; exact absurd hf (by simp [fX6_lengthBy_9])
    | succ n9 ih9 =>
      have J57 : ∀ (x1 : Int32) (x4 : Int32) (x5 : Int32) (x6 : Int32) (z0 : Int32) (z1 : Int32) (H : Heap) (locs : List Loc) (ls : Array Slot), va_P D vwCl (wM ad cA σ) H → va_D A (wM ad cA σ) → va_S A s.heap H locs → lv_has ls 7 [(0, .ref (ad 0)), (1, .int x1), (4, .int x4), (5, .int x5), (6, .int x6)] → fX6_lengthBy_57 N (fX6_lengthBy_9 N n9) σ x1 x4 x5 x6 z0 z1 = some rF → G p l e 1 20 s m args below meth c D A (wM ad cA σ) (some (.int rF)) H locs (F0 m 57 ls [.int z0, .int z1]) := by
        intro x1 x4 x5 x6 z0 z1 H locs ls hP hD hS hl hf
        unfold fX6_lengthBy_57 at hf
        refine lv_iadd (pc := 57) hx hb dX6_lengthBy_57 ?_
        refine lv_istore_n (pc := 58) (lv' := [(3, .int (z1 + z0)), (0, .ref (ad 0)), (1, .int x1), (4, .int x4), (5, .int x5), (6, .int x6)]) hx hb dX6_lengthBy_58 rfl hl (by decide) rfl (fun ls hl => ?_)
        refine lv_iload (pc := 59) hx hb dX6_lengthBy_59 (lv_at hl 3 rfl) ?_
        refine lv_if_ne (pc := 61) (tgt := 82) hx hb dX6_lengthBy_61 (by decide) (fun c61 => ?_) (fun c61 => ?_)
        · have hf := zz_f c61 hf
          refine lv_iconst (pc := 82) (v := 1) hx hb dX6_lengthBy_82 (by decide) ?_
          refine lv_goto (pc := 83) (tgt := 87) hx hb dX6_lengthBy_83 (by decide) ?_
          refine lv_istore (pc := 87) (lv' := [(4, .int 1), (3, .int (z1 + z0)), (0, .ref (ad 0)), (1, .int x1), (5, .int x5), (6, .int x6)]) hx hb dX6_lengthBy_87 hl (by decide) rfl (fun ls hl => ?_)
          refine lv_iinc (pc := 89) (v := (x5 + 1)) (lv' := [(5, .int (x5 + 1)), (4, .int 1), (3, .int (z1 + z0)), (0, .ref (ad 0)), (1, .int x1), (6, .int x6)]) hx hb dX6_lengthBy_89 hl (k := 4) rfl rfl (by decide) rfl (fun ls hl => ?_)
          refine lv_goto (pc := 92) (tgt := 9) hx hb dX6_lengthBy_92 (by decide) ?_
          exact ih9 x1 (z1 + z0) 1 (x5 + 1) _ _ _ hP hD hS (lv_sub hl [3, 4, 2, 1, 0] rfl) hf
        · have hf := zz_t c61 hf
          refine lv_iload (pc := 64) hx hb dX6_lengthBy_64 (lv_at hl 5 rfl) ?_
          refine lv_if_eq (pc := 66) (tgt := 86) hx hb dX6_lengthBy_66 (by decide) (fun c66 => ?_) (fun c66 => ?_)
          · have hf := zz_t c66 hf
            refine lv_iconst (pc := 86) (v := 0) hx hb dX6_lengthBy_86 (by decide) ?_
            refine lv_istore (pc := 87) (lv' := [(4, .int 0), (3, .int (z1 + z0)), (0, .ref (ad 0)), (1, .int x1), (5, .int x5), (6, .int x6)]) hx hb dX6_lengthBy_87 hl (by decide) rfl (fun ls hl => ?_)
            refine lv_iinc (pc := 89) (v := (x5 + 1)) (lv' := [(5, .int (x5 + 1)), (4, .int 0), (3, .int (z1 + z0)), (0, .ref (ad 0)), (1, .int x1), (6, .int x6)]) hx hb dX6_lengthBy_89 hl (k := 4) rfl rfl (by decide) rfl (fun ls hl => ?_)
            refine lv_goto (pc := 92) (tgt := 9) hx hb dX6_lengthBy_92 (by decide) ?_
            exact ih9 x1 (z1 + z0) 0 (x5 + 1) _ _ _ hP hD hS (lv_sub hl [3, 4, 2, 1, 0] rfl) hf
          · have hf := zz_f c66 hf
            refine lv_aload_n (pc := 69) hx hb dX6_lengthBy_69 rfl (lv_at hl 1 rfl) ?_
            refine gm_0_rows (pc := 70) CF hK hP mF_X6_13 dX6_lengthBy_70 ?_
            refine lv_iconst (pc := 73) (v := 2) hx hb dX6_lengthBy_73 (by decide) ?_
            refine lv_iload (pc := 74) hx hb dX6_lengthBy_74 (lv_at hl 4 rfl) ?_
            refine lv_imul (pc := 76) hx hb dX6_lengthBy_76 ?_
            obtain ⟨c77, hf⟩ := zz_k hf
            refine lm_rows (pc := 77) hx hb hK hP c77 dX6_lengthBy_77 ?_
            refine lv_iconst (pc := 78) (v := 4) hx hb dX6_lengthBy_78 (by decide) ?_
            refine lv_icmp_ne (pc := 79) (tgt := 86) hx hb dX6_lengthBy_79 (by decide) (fun c79 => ?_) (fun c79 => ?_)
            · have hf := zz_f c79 hf
              refine lv_iconst (pc := 86) (v := 0) hx hb dX6_lengthBy_86 (by decide) ?_
              refine lv_istore (pc := 87) (lv' := [(4, .int 0), (3, .int (z1 + z0)), (0, .ref (ad 0)), (1, .int x1), (5, .int x5), (6, .int x6)]) hx hb dX6_lengthBy_87 hl (by decide) rfl (fun ls hl => ?_)
              refine lv_iinc (pc := 89) (v := (x5 + 1)) (lv' := [(5, .int (x5 + 1)), (4, .int 0), (3, .int (z1 + z0)), (0, .ref (ad 0)), (1, .int x1), (6, .int x6)]) hx hb dX6_lengthBy_89 hl (k := 4) rfl rfl (by decide) rfl (fun ls hl => ?_)
              refine lv_goto (pc := 92) (tgt := 9) hx hb dX6_lengthBy_92 (by decide) ?_
              exact ih9 x1 (z1 + z0) 0 (x5 + 1) _ _ _ hP hD hS (lv_sub hl [3, 4, 2, 1, 0] rfl) hf
            · have hf := zz_t c79 hf
              refine lv_iconst (pc := 82) (v := 1) hx hb dX6_lengthBy_82 (by decide) ?_
              refine lv_goto (pc := 83) (tgt := 87) hx hb dX6_lengthBy_83 (by decide) ?_
              refine lv_istore (pc := 87) (lv' := [(4, .int 1), (3, .int (z1 + z0)), (0, .ref (ad 0)), (1, .int x1), (5, .int x5), (6, .int x6)]) hx hb dX6_lengthBy_87 hl (by decide) rfl (fun ls hl => ?_)
              refine lv_iinc (pc := 89) (v := (x5 + 1)) (lv' := [(5, .int (x5 + 1)), (4, .int 1), (3, .int (z1 + z0)), (0, .ref (ad 0)), (1, .int x1), (6, .int x6)]) hx hb dX6_lengthBy_89 hl (k := 4) rfl rfl (by decide) rfl (fun ls hl => ?_)
              refine lv_goto (pc := 92) (tgt := 9) hx hb dX6_lengthBy_92 (by decide) ?_
              exact ih9 x1 (z1 + z0) 1 (x5 + 1) _ _ _ hP hD hS (lv_sub hl [3, 4, 2, 1, 0] rfl) hf
      have J33 : ∀ (x1 : Int32) (x3 : Int32) (x4 : Int32) (x5 : Int32) (z0 : Int32) (H : Heap) (locs : List Loc) (ls : Array Slot), va_P D vwCl (wM ad cA σ) H → va_D A (wM ad cA σ) → va_S A s.heap H locs → lv_has ls 7 [(0, .ref (ad 0)), (1, .int x1), (3, .int x3), (4, .int x4), (5, .int x5)] → fX6_lengthBy_33 N (fX6_lengthBy_9 N n9) σ x1 x3 x4 x5 z0 = some rF → G p l e 1 20 s m args below meth c D A (wM ad cA σ) (some (.int rF)) H locs (F0 m 33 ls [.int z0]) := by
        intro x1 x3 x4 x5 z0 H locs ls hP hD hS hl hf
        unfold fX6_lengthBy_33 at hf
        refine lv_istore (pc := 33) (lv' := [(6, .int z0), (0, .ref (ad 0)), (1, .int x1), (3, .int x3), (4, .int x4), (5, .int x5)]) hx hb dX6_lengthBy_33 hl (by decide) rfl (fun ls hl => ?_)
        refine lv_iload_n (pc := 35) hx hb dX6_lengthBy_35 rfl (lv_at hl 3 rfl) ?_
        refine lv_iload (pc := 36) hx hb dX6_lengthBy_36 (lv_at hl 0 rfl) ?_
        refine lv_if_eq (pc := 38) (tgt := 56) hx hb dX6_lengthBy_38 (by decide) (fun c38 => ?_) (fun c38 => ?_)
        · have hf := zz_t c38 hf
          refine lv_iconst (pc := 56) (v := 0) hx hb dX6_lengthBy_56 (by decide) ?_
          exact J57 x1 x4 x5 z0 0 x3 _ _ _ hP hD hS (lv_sub hl [1, 2, 4, 5, 0] rfl) hf
        · have hf := zz_f c38 hf
          refine lv_aload_n (pc := 41) hx hb dX6_lengthBy_41 rfl (lv_at hl 1 rfl) ?_
          refine gm_0_rows (pc := 42) CF hK hP mF_X6_13 dX6_lengthBy_42 ?_
          refine lv_iconst (pc := 45) (v := 2) hx hb dX6_lengthBy_45 (by decide) ?_
          refine lv_iload (pc := 46) hx hb dX6_lengthBy_46 (lv_at hl 5 rfl) ?_
          refine lv_imul (pc := 48) hx hb dX6_lengthBy_48 ?_
          obtain ⟨c49, hf⟩ := zz_k hf
          refine lm_rows (pc := 49) hx hb hK hP c49 dX6_lengthBy_49 ?_
          obtain ⟨v50, h50, hf⟩ := zz_o hf
          refine cSt (pc := 50) (rest := [.int x3]) (st1 := [.int v50, .int x3]) CF (tX6_yardsBy h50) hK hP hD hS hA hN hW mL_X6_98 kX6_yardsBy nX6_yardsBy rfl rfl ⟨by decide, by decide⟩ hl.1 (Nat.le_of_ble_eq_true rfl) ⟨Nat.le_refl _, Nat.le_refl _⟩ rfl dX6_lengthBy_50 (fun H locs hP hD hS => ?_)
          refine lv_goto (pc := 53) (tgt := 57) hx hb dX6_lengthBy_53 (by decide) ?_
          exact J57 x1 x4 x5 z0 v50 x3 _ _ _ hP hD hS (lv_sub hl [1, 2, 4, 5, 0] rfl) hf
      intro x1 x3 x4 x5 H locs ls hP hD hS hl hf
      rw [fX6_lengthBy_9] at hf
      refine lv_iload (pc := 9) hx hb dX6_lengthBy_9 (lv_at hl 4 rfl) ?_
      refine lv_aload_n (pc := 11) hx hb dX6_lengthBy_11 rfl (lv_at hl 0 rfl) ?_
      refine gm_0_people (pc := 12) CF hK hP mF_X6_68 dX6_lengthBy_12 ?_
      refine lv_icmp_ge (pc := 15) (tgt := 95) hx hb dX6_lengthBy_15 (by decide) (fun c15 => ?_) (fun c15 => ?_)
      · have hf := zz_t c15 hf
        refine lv_iload_n (pc := 95) hx hb dX6_lengthBy_95 rfl (lv_at hl 2 rfl) ?_
        refine lv_if_ge (pc := 96) (tgt := 103) hx hb dX6_lengthBy_96 (by decide) (fun c96 => ?_) (fun c96 => ?_)
        · have hf := zz_t c96 hf
          refine lv_iload_n (pc := 103) hx hb dX6_lengthBy_103 rfl (lv_at hl 2 rfl) ?_
          exact J104 x4 x3 _ _ _ hP hD hS (lv_sub hl [0, 3] rfl) hf
        · have hf := zz_f c96 hf
          refine lv_iconst (pc := 99) (v := 0) hx hb dX6_lengthBy_99 (by decide) ?_
          refine lv_goto (pc := 100) (tgt := 104) hx hb dX6_lengthBy_100 (by decide) ?_
          exact J104 x4 0 _ _ _ hP hD hS (lv_sub hl [0, 3] rfl) hf
      · have hf := zz_f c15 hf
        refine lv_iload_n (pc := 18) hx hb dX6_lengthBy_18 rfl (lv_at hl 1 rfl) ?_
        refine lv_iload (pc := 19) hx hb dX6_lengthBy_19 (lv_at hl 4 rfl) ?_
        refine lv_ishr (pc := 21) hx hb dX6_lengthBy_21 ?_
        refine lv_iconst (pc := 22) (v := 1) hx hb dX6_lengthBy_22 (by decide) ?_
        refine lv_iand (pc := 23) hx hb dX6_lengthBy_23 ?_
        refine lv_iconst (pc := 24) (v := 1) hx hb dX6_lengthBy_24 (by decide) ?_
        refine lv_icmp_ne (pc := 25) (tgt := 32) hx hb dX6_lengthBy_25 (by decide) (fun c25 => ?_) (fun c25 => ?_)
        · have hf := zz_f c25 hf
          refine lv_iconst (pc := 32) (v := 0) hx hb dX6_lengthBy_32 (by decide) ?_
          exact J33 x1 x3 x4 x5 0 _ _ _ hP hD hS (lv_sub hl [0, 1, 2, 3, 4] rfl) hf
        · have hf := zz_t c25 hf
          refine lv_iconst (pc := 28) (v := 1) hx hb dX6_lengthBy_28 (by decide) ?_
          refine lv_goto (pc := 29) (tgt := 33) hx hb dX6_lengthBy_29 (by decide) ?_
          exact J33 x1 x3 x4 x5 1 _ _ _ hP hD hS (lv_sub hl [0, 1, 2, 3, 4] rfl) hf
  refine lv_iload_n (pc := 0) hx hb dX6_lengthBy_0 rfl (lv_at hl 2 rfl) ?_
  refine lv_ineg (pc := 1) hx hb dX6_lengthBy_1 ?_
  refine lv_istore_n (pc := 2) (lv' := [(3, .int (-x2)), (0, .ref (ad 0)), (1, .int x1), (2, .int x2)]) hx hb dX6_lengthBy_2 rfl hl (by decide) rfl (fun ls hl => ?_)
  refine lv_iconst (pc := 3) (v := 0) hx hb dX6_lengthBy_3 (by decide) ?_
  refine lv_istore (pc := 4) (lv' := [(4, .int 0), (3, .int (-x2)), (0, .ref (ad 0)), (1, .int x1), (2, .int x2)]) hx hb dX6_lengthBy_4 hl (by decide) rfl (fun ls hl => ?_)
  refine lv_iconst (pc := 6) (v := 0) hx hb dX6_lengthBy_6 (by decide) ?_
  refine lv_istore (pc := 7) (lv' := [(5, .int 0), (4, .int 0), (3, .int (-x2)), (0, .ref (ad 0)), (1, .int x1), (2, .int x2)]) hx hb dX6_lengthBy_7 hl (by decide) rfl (fun ls hl => ?_)
  exact L9 N x1 (-x2) 0 0 _ _ _ hP hD hS (lv_sub hl [3, 4, 2, 1, 0] rfl) hf
set_option maxHeartbeats 4000000 in
set_option maxRecDepth 100000 in
theorem tX6_endsOf {l : Launch} {kv : Nat × Nat} {D : va_G} {N : Nat} {ad : Nat → Nat} {cA : ClassId} {σ : SM} {x1 : Int32} {rF : Int32} (hf : fX6_endsOf N σ x1 = some rF) : Ct l kv D [(cA, .int)] yX6_endsOf cX6_endsOf 2 (some .int) 3 72 (wM ad cA σ) (wM ad cA σ) [.ref (ad 0), .int x1] (some (.int rF)) := by
  refine Ct.ofW (by decide) (Nat.le_of_ble_eq_true rfl) ?_
  intro p e s m below meth c A args CF hr hlk hA hP hK hD hN hW hS ls hl
  have hx := CF.1
  have hb := CF.2.1
  have hml := CF.2.2.1
  have hown := CF.2.2.2.1
  have hw : ∀ w ∈ wsA, w.before args s = true := fun w h => CF.2.2.2.2 w (List.mem_cons_of_mem _ h)
  have hl : lv_has ls 2 [(0, .ref (ad 0)), (1, .int x1)] := hl
  unfold fX6_endsOf at hf
  refine lv_aload_n (pc := 0) hx hb dX6_endsOf_0 rfl (lv_at hl 0 rfl) ?_
  refine lv_aload_n (pc := 1) hx hb dX6_endsOf_1 rfl (lv_at hl 0 rfl) ?_
  refine lv_iload_n (pc := 2) hx hb dX6_endsOf_2 rfl (lv_at hl 1 rfl) ?_
  refine lv_iload_n (pc := 3) hx hb dX6_endsOf_3 rfl (lv_at hl 1 rfl) ?_
  obtain ⟨v4, h4, hf⟩ := zz_o hf
  refine cV (pc := 4) (rest := [.ref (ad 0)]) (st1 := [.int v4, .ref (ad 0)]) (q0 := 0) CF (tX6_endBy h4) hK hP hD hS hA hN hW mL_X6_101 kX6_endBy nX6_endBy rfl rfl rfl rfl ⟨by decide, by decide⟩ hl.1 (Nat.le_of_ble_eq_true rfl) ⟨Nat.le_refl _, Nat.le_refl _⟩ rfl dX6_endsOf_4 (fun H locs hP hD hS => ?_)
  refine lv_iconst (pc := 7) (v := 0) hx hb dX6_endsOf_7 (by decide) ?_
  obtain ⟨v8, h8, hf⟩ := zz_o hf
  refine cV (pc := 8) (rest := []) (st1 := [.int v8]) (q0 := 0) CF (tX6_lengthBy h8) hK hP hD hS hA hN hW mL_X6_105 kX6_lengthBy nX6_lengthBy rfl rfl rfl rfl ⟨by decide, by decide⟩ hl.1 (Nat.le_of_ble_eq_true rfl) ⟨Nat.le_refl _, Nat.le_refl _⟩ rfl dX6_endsOf_8 (fun H locs hP hD hS => ?_)
  exact retI hx hb hr hlk hf hP hD hS dX6_endsOf_11
