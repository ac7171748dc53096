/-! ===== my base: one form of contract for all methods (Ct), its entry, its ends, its calls ===== -/
abbrev wA (y : MethodName) (cc : ByteArray) (nL : Nat) (ret : Option FieldType) : List Cond := Cond.code y cc nL ret :: wsA
theorem wsA_good : ∀ w ∈ wsA, (w.onTables && w.keeps) = true ∨ ∃ ty, w = .arrayClass ty := fun w h => good_of_word (List.mem_filter.mp h).2
theorem gA {y0 y : MethodName} {c0 cc : ByteArray} {nL0 nL : Nat} {ret0 ret : Option FieldType} (h : Cond.code y cc nL ret ∈ wsA) : GoodIn (wA y0 c0 nL0 ret0) (wA y cc nL ret) := by
  intro w hw
  rcases List.mem_cons.mp hw with rfl | hw
  · exact ⟨List.mem_cons_of_mem _ h, wsA_good _ h⟩
  · exact ⟨List.mem_cons_of_mem _ hw, wsA_good _ hw⟩
/-- what a call of an instance method asks of the tables, but its link -/
abbrev gV (y : MethodName) (cc : ByteArray) (nL : Nat) (ret : Option FieldType) : Prop := Cond.instanceMethod y ∈ wsA ∧ Cond.selects y.cls y y ∈ wsA ∧ Cond.initialized y.cls ∈ wsA ∧ Cond.code y cc nL ret ∈ wsA
abbrev gS (y : MethodName) (cc : ByteArray) (nL : Nat) (ret : Option FieldType) : Prop := Cond.static y ∈ wsA ∧ Cond.initialized y.cls ∈ wsA ∧ Cond.code y cc nL ret ∈ wsA
abbrev gD (y : MethodName) (n : Nat) : Prop := y.cls ≠ "java/lang/invoke/MethodHandle" ∧ y.cls ≠ "java/lang/invoke/VarHandle" ∧ (parseMethodDescriptor y.desc).map (fun d => d.parameters.length) = some n
theorem gAV {y0 y : MethodName} {c0 cc : ByteArray} {nL0 nL idx : Nat} {own : String} {ret0 ret : Option FieldType} (hl : Cond.methodLink own idx y ∈ wsA) (hg : gV y cc nL ret) : GoodIn (wA y0 c0 nL0 ret0) (wsV own idx y.cls y (wA y cc nL ret)) := by
  obtain ⟨h1, h2, h3, h4⟩ := hg
  refine goodIn_app (fun w hw => ?_) (gA h4)
  have hw' : w ∈ wsA := by
    simp only [List.mem_cons, List.not_mem_nil, or_false] at hw
    rcases hw with rfl | rfl | rfl | rfl
    · exact hl
    · exact h1
    · exact h2
    · exact h3
  exact ⟨List.mem_cons_of_mem _ hw', wsA_good _ hw'⟩
theorem gAS {y0 y : MethodName} {c0 cc : ByteArray} {nL0 nL idx : Nat} {own : String} {ret0 ret : Option FieldType} (hl : Cond.methodLink own idx y ∈ wsA) (hg : gS y cc nL ret) : GoodIn (wA y0 c0 nL0 ret0) (va_wsS own idx y (wA y cc nL ret)) := by
  obtain ⟨h1, h3, h4⟩ := hg
  refine goodIn_app (fun w hw => ?_) (gA h4)
  have hw' : w ∈ wsA := by
    simp only [List.mem_cons, List.not_mem_nil, or_false] at hw
    rcases hw with rfl | rfl | rfl
    · exact hl
    · exact h1
    · exact h3
  exact ⟨List.mem_cons_of_mem _ hw', wsA_good _ hw'⟩
/-- the words of nest mates -/
def NW (U : State) : Prop := (∀ q ∈ nwF, va_Nw (.fieldLinkNest q.1 q.2.1 q.2.2.1 q.2.2.2.1 q.2.2.2.2.1 q.2.2.2.2.2) U) ∧ (∀ q ∈ nwM, va_Nw (.methodLinkNest q.1 q.2.1 q.2.2.1 q.2.2.2) U)
theorem NW.warm {s U : State} (hW : s.WarmedH U.vm) (h : NW s) : NW U := ⟨fun q hq => va_Nw.warmF hW (h.1 q hq), fun q hq => va_Nw.warmM hW (h.2 q hq)⟩
theorem NW.same {u U : State} (hv : u.vm = U.vm) (h : NW u) : NW U := ⟨fun q hq => va_Nw.same rfl hv (h.1 q hq), fun q hq => va_Nw.same rfl hv (h.2 q hq)⟩
/-- the text constant and the static that its search reads -/
def SW (kv : Nat × Nat) (A : Nat → Prop) (U : State) (H : Heap) : Prop := vk_R "DugBySaid$Page" 34 "msgcp" kv.1 U ∧ vk_S 1 [5] [[109, 115, 103, 99, 112]] (fun _ => kv.1) (fun _ => kv.2) A U H ∧ va_Z "java/lang/String" "COMPACT_STRINGS" "Z" (.int 1) A U H
theorem SW.step {kv : Nat × Nat} {A B : Nat → Prop} {s U : State} {H : Heap} {locs : List Loc} (h : SW kv A s s.heap) (hS : va_S A s.heap H locs) (hAB : ∀ q, B q → A q) (hU : U.heap = H) (hW : s.WarmedH U.vm) : SW kv B U U.heap := by
  obtain ⟨h1, h2, h3⟩ := h
  rw [hU]
  exact ⟨h1.warm hW, ((h2.kept hS.2.1).moved hW.alike).narrow hAB, ((h3.kept hS.2.1).moved hW.alike).narrow hAB⟩
theorem SW.same {kv : Nat × Nat} {A : Nat → Prop} {u U : State} {H : Heap} (hv : U.vm = u.vm) (h : SW kv A u H) : SW kv A U H := by
  obtain ⟨h1, h2, h3⟩ := h
  have ha : u.vm.Alike U.vm := by rw [hv]; exact Vm.Alike.refl _
  exact ⟨h1.same hv, h2.moved ha, h3.moved ha⟩
def Pg (kv : Nat × Nat) (D : va_G) (tys : List (ClassId × FieldType)) (ws : va_W) (sz : Nat) (U : State) : Prop := U.heap.size = sz ∧ va_P D vwCl ws U.heap ∧ va_K D vwCl tys U ∧ va_D (fun _ => True) ws ∧ NW U ∧ SW kv (va_A ws sz) U U.heap
theorem Pg.blind {kv : Nat × Nat} {D : va_G} {tys : List (ClassId × FieldType)} {ws : va_W} {sz : Nat} {As : List Value} : FrameBlind (va_Pc As (Pg kv D tys ws sz)) := by
  intro a U g mk q
  obtain ⟨q0, q1, q2, q3, q4, q5, q6⟩ := q
  exact ⟨q0, q1, q2, va_K.moved (u := U) (U := U.calling g mk a) (Vm.Alike.refl U.vm) q3, q4, NW.same (u := U) (U := U.calling g mk a) rfl q5, SW.same (u := U) (U := U.calling g mk a) rfl q6⟩
def Qg (D : va_G) (ws' : va_W) (rv : Option Value) (A : Nat → Prop) : Array Value → State → Outcome → State → Prop := fun _ st oc t => (oc = .returned rv ∧ va_P D vwCl ws' t.heap ∧ va_D A ws') ∧ va_F A st t
/-- the contract: with the arguments As and the world ws the method comes back with rv, and the world is ws' -/
def Ct (l : Launch) (kv : Nat × Nat) (D : va_G) (tys : List (ClassId × FieldType)) (y : MethodName) (cc : ByteArray) (nL : Nat) (ret : Option FieldType) (fr lo : Nat) (ws ws' : va_W) (As : List Value) (rv : Option Value) : Prop :=
  ∀ sz : Nat, Met l y (wA y cc nL ret) { frames := fr, cells := 0, slots := 0, locals := lo } (va_Pc As (Pg kv D tys ws sz)) (Qg D ws' rv (va_A ws sz)) 0 0 (va_A ws sz)
abbrev G (p : Program) (l : Launch) (e : Env) (fr lo : Nat) (s : State) (m : MethodId) (args : Array Value) (below : List Frame) (meth : Method) (c : Code) (D : va_G) (A : Nat → Prop) (ws' : va_W) (rv : Option Value) (H : Heap) (locs : List Loc) (g : JFrame) : Prop :=
  W p l e { frames := fr, cells := 0, slots := 0, locals := lo } s m args below meth c H locs 0 0 (MQ below (Qg D ws' rv A) args s 0 0 A) g
theorem Ct.ofW {l : Launch} {kv : Nat × Nat} {D : va_G} {tys : List (ClassId × FieldType)} {y : MethodName} {cc : ByteArray} {nL : Nat} {ret : Option FieldType} {fr lo : Nat} {ws ws' : va_W} {As : List Value} {rv : Option Value} (hy : plainName y.cls = true) (hn : (lg_sl As).length ≤ nL)
    (body : ∀ (p : Program) (e : Env) (s : State) (m : MethodId) (below : List Frame) (meth : Method) (c : Code) (A : Nat → Prop) (args : Array Value), CallFix p m c cc nL s args (wA y cc nL ret) y.cls → meth.sig.returnType = ret → meth.locks = false → (∀ q : Nat, s.heap.size ≤ q → A q) → va_P D vwCl ws s.heap → va_K D vwCl tys s → va_D A ws → NW s → SW kv A s s.heap → va_S A s.heap s.heap [] → ∀ ls : Array Slot, lv_has ls nL (lv_args 0 As) → G p l e fr lo s m args below meth c D A ws' rv s.heap [] (F0 m 0 ls [])) : Ct l kv D tys y cc nL ret fr lo ws ws' As rv := by
  intro sz
  refine Met.ofW (cc := cc) (maxL := nL) (ret := ret) hy rfl ?_
  intro p e s m args below meth c s₁ B hml hv
  obtain ⟨rfl, hsz, hP, hK, hD0, hN, hW⟩ := hv
  subst hsz
  have hD := hD0.self (sz := s.heap.size)
  have hl := lv_entry As (n := nL) hn
  rw [lg_entry_eq]
  exact body p e s m below meth c (va_A ws s.heap.size) _ ⟨B.exec, B.bytes, hml, findClass_of_methodNamed B.named, atoms_spec (ws := wA y cc nL ret) B.pre⟩ B.returns B.notSynchronized (fun q h => Or.inr h) hP hK hD hN hW va_S.rf _ hl
section RET
variable {p : Program} {l : Launch} {e : Env} {R : Room} {s : State} {m : MethodId} {args : Array Value} {below : List Frame} {meth : Method} {c : Code} {H : Heap} {locs : List Loc} {cells slots : Nat} {Q : State → Prop}
variable {cc : ByteArray} {pc : Nat} {ls : Array Slot} {rest : List Value} {kv : Nat × Nat} {D : va_G} {A : Nat → Prop} {tys : List (ClassId × FieldType)} {fr lo : Nat} {w : va_W}
theorem retI {v r : Int32} (hx : p.tables.exec = Jvm.exec) (hb : c.code = cc) (hr : meth.sig.returnType = some .int) (hlk : meth.locks = false) (hf : some v = some r) (hP : va_P D vwCl w H) (hD : va_D A w) (hS : va_S A s.heap H locs) (hdg : decode cc pc = .ok (.ireturn, 1)) : G p l e fr lo s m args below meth c D A w (some (.int r)) H locs (F0 m pc ls [.int v]) := by
  cases hf
  exact W.iret hx hb hr (fun t ht hW => ⟨⟨rfl, by rw [ht]; exact hP, hD⟩, hS.F ht⟩) hS.2.2 hdg hlk
theorem retZ {v r : Int32} (hx : p.tables.exec = Jvm.exec) (hb : c.code = cc) {ty : FieldType} (hr : meth.sig.returnType = some ty) (hlk : meth.locks = false) (hn : narrow ty (.int v) = .int v) (hf : some v = some r) (hP : va_P D vwCl w H) (hD : va_D A w) (hS : va_S A s.heap H locs) (hdg : decode cc pc = .ok (.ireturn, 1)) : G p l e fr lo s m args below meth c D A w (some (.int r)) H locs (F0 m pc ls [.int v]) := by
  cases hf
  exact W.zret hx hb hr hn (fun t ht hW => ⟨⟨rfl, by rw [ht]; exact hP, hD⟩, hS.F ht⟩) hS.2.2 hdg hlk
theorem retL {v r : Int64} (hx : p.tables.exec = Jvm.exec) (hb : c.code = cc) (hr : meth.sig.returnType = some .long) (hlk : meth.locks = false) (hf : some v = some r) (hP : va_P D vwCl w H) (hD : va_D A w) (hS : va_S A s.heap H locs) (hdg : decode cc pc = .ok (.lreturn, 1)) : G p l e fr lo s m args below meth c D A w (some (.long r)) H locs (F0 m pc ls [.long v]) := by
  cases hf
  exact W.lret hx hb hr (fun t ht hW => ⟨⟨rfl, by rw [ht]; exact hP, hD⟩, hS.F ht⟩) hS.2.2 hdg hlk
theorem retIw {S : Type} {wf : S → va_W} {v r : Int32} {u u' : S} (hx : p.tables.exec = Jvm.exec) (hb : c.code = cc) (hr : meth.sig.returnType = some .int) (hlk : meth.locks = false) (hf : some (v, u) = some (r, u')) (hP : va_P D vwCl (wf u) H) (hD : va_D A (wf u)) (hS : va_S A s.heap H locs) (hdg : decode cc pc = .ok (.ireturn, 1)) : G p l e fr lo s m args below meth c D A (wf u') (some (.int r)) H locs (F0 m pc ls [.int v]) := by
  cases hf
  exact retI hx hb hr hlk rfl hP hD hS hdg
theorem retZw {S : Type} {wf : S → va_W} {v r : Int32} {u u' : S} (hx : p.tables.exec = Jvm.exec) (hb : c.code = cc) {ty : FieldType} (hr : meth.sig.returnType = some ty) (hlk : meth.locks = false) (hn : narrow ty (.int v) = .int v) (hf : some (v, u) = some (r, u')) (hP : va_P D vwCl (wf u) H) (hD : va_D A (wf u)) (hS : va_S A s.heap H locs) (hdg : decode cc pc = .ok (.ireturn, 1)) : G p l e fr lo s m args below meth c D A (wf u') (some (.int r)) H locs (F0 m pc ls [.int v]) := by
  cases hf
  exact retZ hx hb hr hlk hn rfl hP hD hS hdg
theorem retLw {S : Type} {wf : S → va_W} {v r : Int64} {u u' : S} (hx : p.tables.exec = Jvm.exec) (hb : c.code = cc) (hr : meth.sig.returnType = some .long) (hlk : meth.locks = false) (hf : some (v, u) = some (r, u')) (hP : va_P D vwCl (wf u) H) (hD : va_D A (wf u)) (hS : va_S A s.heap H locs) (hdg : decode cc pc = .ok (.lreturn, 1)) : G p l e fr lo s m args below meth c D A (wf u') (some (.long r)) H locs (F0 m pc ls [.long v]) := by
  cases hf
  exact retL hx hb hr hlk rfl hP hD hS hdg
theorem retVw {S : Type} {wf : S → va_W} {u u' : S} (hx : p.tables.exec = Jvm.exec) (hb : c.code = cc) (hr : meth.sig.returnType = none) (hlk : meth.locks = false) (hf : some u = some u') (hP : va_P D vwCl (wf u) H) (hD : va_D A (wf u)) (hS : va_S A s.heap H locs) (hdg : decode cc pc = .ok (.return_, 1)) : G p l e fr lo s m args below meth c D A (wf u') none H locs (F0 m pc ls []) := by
  cases hf
  exact W.vret hx hb hr (fun t ht hW => ⟨⟨rfl, by rw [ht]; exact hP, hD⟩, hS.F ht⟩) hS.2.2 hdg hlk
/-- behind a call by contract -/
theorem cRun {ws ws' : va_W} {a : Array Value} {rv : Option Value} {st0 st1 : List Value} (hr : va_Run p l e R s m args below meth c H locs cells slots 0 0 (F0 m pc ls st0) rest (Qg D ws' rv (va_A ws H.size) a) (va_A ws H.size)) (hS : va_S A s.heap H locs) (hF : ∀ q, va_A ws H.size q → A q) (hst1 : rv.toList ++ rest = st1)
    (kk : ∀ (H1 : Heap) (locs1 : List Loc), va_P D vwCl ws' H1 → va_D A ws' → va_S A s.heap H1 locs1 → W p l e R s m args below meth c H1 locs1 cells slots Q (F0 m (pc + 3) ls st1)) : W p l e R s m args below meth c H locs cells slots Q (F0 m pc ls st0) := by
  subst hst1
  intro T hT X
  obtain ⟨v, st₀, t, T', L, h0, X', hL, e1, e2, ⟨⟨hv, hP1, hD1⟩, hz, hk⟩, st⟩ := hr T hT X
  cases hv
  rw [h0] at hz hk
  obtain ⟨t2, a1, b1⟩ := kk T'.heap (locs ++ L) (by rw [e1]; exact hP1) (hD1.weaken (fun _ q _ h => hF q.1 h))
    ⟨Nat.le_trans hS.1 (by rw [e1]; exact hz), fun q h1 h2 => by rw [e1, hk q (Nat.lt_of_lt_of_le h1 hS.1) (fun z => h2 (hF q z))]; exact hS.2.1 q h1 h2, fun q hq => by
      rcases List.mem_append.mp hq with h | h
      · exact hS.2.2 q h
      · exact hF _ (hL q h)⟩ T' rfl X'
  exact ⟨t2, st t2 a1, b1⟩
theorem freeAll {ws : va_W} (hD : va_D A ws) (hS : va_S A s.heap H locs) (hA : ∀ q : Nat, s.heap.size ≤ q → A q) : ∀ q, va_A ws H.size q → A q := by
  intro q h
  rcases h with ⟨k, e, h⟩ | h
  · exact hD.2 k (q, e) h
  · exact hA q (Nat.le_trans hS.1 h)
theorem preAll {ws : va_W} {As : List Value} {B : Nat → Prop} (hK : va_K D vwCl tys s) (hP : va_P D vwCl ws H) (hD : va_D B ws) (hS : va_S A s.heap H locs) (hF : ∀ q, va_A ws H.size q → A q) (hN : NW s) (hW : SW kv A s s.heap) : ∀ U : State, U.heap = H → s.WarmedH U.vm → va_Pc As (Pg kv D tys ws H.size) As.toArray U :=
  fun U hU hW' => ⟨rfl, by rw [hU], by rw [hU]; exact hP, va_K.moved hW'.alike hK, hD.weaken (fun _ _ _ _ => trivial), hN.warm hW', hW.step hS hF hU hW'⟩
variable {y0 y : MethodName} {nL nL' idx n : Nat} {ret0 ret' : Option FieldType} {own : String} {cc' : ByteArray} {ws ws' : va_W} {As : List Value} {rv : Option Value} {b : Nat} {st0 st1 : List Value}
/-- a call of an instance method, the receiver's cell given -/
theorem cVr (CF : CallFix p m c cc nL s args (wA y0 cc nL ret0) own) (hC : Ct l kv D tys y cc' nL' ret' fr lo ws ws' (.ref b :: As) rv) (hK : va_K D vwCl tys s) (hP : va_P D vwCl ws H) (hD : va_D A ws) (hS : va_S A s.heap H locs) (hA : ∀ q : Nat, s.heap.size ≤ q → A q) (hN : NW s) (hW : SW kv A s s.heap)
    (hl : Cond.methodLink own idx y ∈ wsA) (hg : gV y cc' nL' ret') (hy : gD y n) (hrec : ∃ cellB : Cell, H[b]? = some cellB ∧ cellB.vm.isStatics = false ∧ s.vm.findClass y.cls = some cellB.cls) (hn : As.length = n) (hst : st0 = As.reverse ++ .ref b :: rest) (hR : fr + 1 ≤ R.frames ∧ 8 + (nL' + 11) + lo ≤ R.locals) (hsz : ls.size = nL) (hrs : (rest.map fun v => v.category).sum ≤ 8) (hcs : cells ≤ R.cells ∧ slots ≤ R.slots) (hst1 : rv.toList ++ rest = st1) (hdg : decode cc pc = .ok (.invokevirtual idx, 3))
    (kk : ∀ (H1 : Heap) (locs1 : List Loc), va_P D vwCl ws' H1 → va_D A ws' → va_S A s.heap H1 locs1 → W p l e R s m args below meth c H1 locs1 cells slots Q (F0 m (pc + 3) ls st1)) : W p l e R s m args below meth c H locs cells slots Q (F0 m pc ls st0) := by
  have hF := freeAll hD hS hA
  exact cRun (ws := ws) (ws' := ws') (rv := rv) (va_runV (g := F0 m pc ls st0) (As := As) (rest := rest) CF (hC H.size) (cwV n CF.2.2.2.2 (gAV hl hg) rfl rfl rfl ⟨rfl, hy⟩ hR) ⟨Pg.blind, hrec, preAll hK hP hD hS hF hN hW⟩ rfl hn hsz hst (lv_room hrs) hdg hcs) hS hF hst1 kk
theorem cV {ci q0 : Nat} {fs : List Value} {T : u_T} {Nf : Nat} (CF : CallFix p m c cc nL s args (wA y0 cc nL ret0) own) (hC : Ct l kv D tys y cc' nL' ret' fr lo ws ws' (.ref b :: As) rv) (hK : va_K D vwCl tys s) (hP : va_P D vwCl ws H) (hD : va_D A ws) (hS : va_S A s.heap H locs) (hA : ∀ q : Nat, s.heap.size ≤ q → A q) (hN : NW s) (hW : SW kv A s s.heap)
    (hl : Cond.methodLink own idx y ∈ wsA) (hg : gV y cc' nL' ret') (hy : gD y n) (he : ws[q0]? = some (b, .inr (ci, fs))) (hc : vwCl[ci]? = some (y.cls, T, Nf)) (hn : As.length = n) (hst : st0 = As.reverse ++ .ref b :: rest) (hR : fr + 1 ≤ R.frames ∧ 8 + (nL' + 11) + lo ≤ R.locals) (hsz : ls.size = nL) (hrs : (rest.map fun v => v.category).sum ≤ 8) (hcs : cells ≤ R.cells ∧ slots ≤ R.slots) (hst1 : rv.toList ++ rest = st1) (hdg : decode cc pc = .ok (.invokevirtual idx, 3))
    (kk : ∀ (H1 : Heap) (locs1 : List Loc), va_P D vwCl ws' H1 → va_D A ws' → va_S A s.heap H1 locs1 → W p l e R s m args below meth c H1 locs1 cells slots Q (F0 m (pc + 3) ls st1)) : W p l e R s m args below meth c H locs cells slots Q (F0 m pc ls st0) :=
  cVr CF hC hK hP hD hS hA hN hW hl hg hy (va_recv hK hP hc he) hn hst hR hsz hrs hcs hst1 hdg kk
theorem cSt (CF : CallFix p m c cc nL s args (wA y0 cc nL ret0) own) (hC : Ct l kv D tys y cc' nL' ret' fr lo ws ws' As rv) (hK : va_K D vwCl tys s) (hP : va_P D vwCl ws H) (hD : va_D A ws) (hS : va_S A s.heap H locs) (hA : ∀ q : Nat, s.heap.size ≤ q → A q) (hN : NW s) (hW : SW kv A s s.heap)
    (hl : Cond.methodLink own idx y ∈ wsA) (hg : gS y cc' nL' ret') (hy : gD y n) (hn : As.length = n) (hst : st0 = As.reverse ++ rest) (hR : fr + 1 ≤ R.frames ∧ 8 + (nL' + 11) + lo ≤ R.locals) (hsz : ls.size = nL) (hrs : (rest.map fun v => v.category).sum ≤ 8) (hcs : cells ≤ R.cells ∧ slots ≤ R.slots) (hst1 : rv.toList ++ rest = st1) (hdg : decode cc pc = .ok (.invokestatic idx, 3))
    (kk : ∀ (H1 : Heap) (locs1 : List Loc), va_P D vwCl ws' H1 → va_D A ws' → va_S A s.heap H1 locs1 → W p l e R s m args below meth c H1 locs1 cells slots Q (F0 m (pc + 3) ls st1)) : W p l e R s m args below meth c H locs cells slots Q (F0 m pc ls st0) := by
  have hF := freeAll hD hS hA
  exact cRun (ws := ws) (ws' := ws') (rv := rv) (va_runS (g := F0 m pc ls st0) (As := As) (rest := rest) CF (hC H.size) (va_cwS n CF.2.2.2.2 (gAS hl hg) rfl rfl rfl hy hR) ⟨Pg.blind, preAll hK hP hD hS hF hN hW⟩ rfl hn hsz hst (lv_room hrs) hdg hcs) hS hF hst1 kk
/-- a static method of a nest mate -/
theorem cSN {host : String} (CF : CallFix p m c cc nL s args (wA y0 cc nL ret0) own) (hC : Ct l kv D tys y cc' nL' ret' fr lo ws ws' As rv) (hK : va_K D vwCl tys s) (hP : va_P D vwCl ws H) (hD : va_D A ws) (hS : va_S A s.heap H locs) (hA : ∀ q : Nat, s.heap.size ≤ q → A q) (hN : NW s) (hW : SW kv A s s.heap)
    (hl : (own, idx, y, host) ∈ nwM) (hg : gS y cc' nL' ret') (hy : gD y n) (hn : As.length = n) (hst : st0 = As.reverse ++ rest) (hR : fr + 1 ≤ R.frames ∧ 8 + (nL' + 11) + lo ≤ R.locals) (hsz : ls.size = nL) (hrs : (rest.map fun v => v.category).sum ≤ 8) (hcs : cells ≤ R.cells ∧ slots ≤ R.slots) (hst1 : rv.toList ++ rest = st1) (hdg : decode cc pc = .ok (.invokestatic idx, 3))
    (kk : ∀ (H1 : Heap) (locs1 : List Loc), va_P D vwCl ws' H1 → va_D A ws' → va_S A s.heap H1 locs1 → W p l e R s m args below meth c H1 locs1 cells slots Q (F0 m (pc + 3) ls st1)) : W p l e R s m args below meth c H locs cells slots Q (F0 m pc ls st0) := by
  have hF := freeAll hD hS hA
  have ht := CF.2.2.2.2
  exact cRun (ws := ws) (ws' := ws') (rv := rv) (va_runSN (g := F0 m pc ls st0) (As := As) (rest := rest) CF (hC H.size) ⟨va_cnB n ht (gA hg.2.2) rfl rfl rfl (hN.2 _ hl) (ht _ (List.mem_cons_of_mem _ hg.2.1)) hy hR, ht _ (List.mem_cons_of_mem _ hg.1), trivial⟩ ⟨Pg.blind, preAll hK hP hD hS hF hN hW⟩ rfl hn hsz hst (lv_room hrs) hdg hcs) hS hF hst1 kk
end RET
/-! ===== options: steps of the pure functions ===== -/
abbrev inB (i : Int32) (n : Nat) : Prop := ¬ (i < 0 ∨ n ≤ i.toNatClampNeg)
def bo {α β : Type} (x : Option α) (k : α → Option β) : Option β := match x with
  | none => none
  | some a => k a
def bd {α β γ : Type} (x : Option (α × β)) (k : α → β → Option γ) : Option γ := match x with
  | none => none
  | some (a, b) => k a b
theorem zz_t {α : Type} {c : Prop} [Decidable c] {a b : Option α} {r : α} (h : c) (hf : (if c then a else b) = some r) : a = some r := by rw [if_pos h] at hf; exact hf
theorem zz_f {α : Type} {c : Prop} [Decidable c] {a b : Option α} {r : α} (h : ¬ c) (hf : (if c then a else b) = some r) : b = some r := by rw [if_neg h] at hf; exact hf
theorem zz_nt {α : Type} {c : Prop} [Decidable c] {a b : Option α} {r : α} (h : c) (hf : (if ¬ c then a else b) = some r) : b = some r := by rw [if_neg (fun q => q h)] at hf; exact hf
theorem zz_k {α : Type} {c : Prop} [Decidable c] {a : Option α} {r : α} (hf : (if c then a else none) = some r) : c ∧ a = some r := by
  by_cases h : c
  · exact ⟨h, zz_t h hf⟩
  · rw [if_neg h] at hf; cases hf
theorem zz_o {α β : Type} {x : Option α} {k : α → Option β} {r : β} (hf : bo x k = some r) : ∃ a, x = some a ∧ k a = some r := by
  cases x with
  | none => cases hf
  | some a => exact ⟨a, rfl, hf⟩
theorem zz_b {α β γ : Type} {x : Option (α × β)} {k : α → β → Option γ} {r : γ} (hf : bd x k = some r) : ∃ a b, x = some (a, b) ∧ k a b = some r := by
  cases x with
  | none => cases hf
  | some q => obtain ⟨a, b⟩ := q; exact ⟨a, b, rfl, hf⟩
