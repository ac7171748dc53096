/-! THE CLAIM OUT OF ONE WALK OF THE LAW'S BODY. Your part is whole_start (and what it stands on); all else here is the same for every law, but numbers. -/
def R_law : String := "DugBySaidLaw"
def lw_P (b : Addr) (xs : List Int32) (args : Array Value) (s : State) : Prop := args = #[.ref b] ∧ s.IntsAt b xs ∧ xs.length ≤ 256 ∧ (Jvm.Cond.and given_1 narrow_1).before args s = true
def lw_Q (_ : Array Value) (s : State) (o : Outcome) (t : State) : Prop := o = .returned (some (.int 1)) ∧ Framed s o t [] 33 274
def lw_Z (below : List Frame) (a : Array Value) (s : State) : State → Prop := fun t => ∃ o, t.status = .running ∧ Ended t below o ∧ lw_Q a s o t
/-- the law's own end, with 1 on the stack, nothing written that was there before, its room as the claim has it -/
theorem lw_ret {p : Program} {l : Launch} {e : Env} {s : State} {m : MethodId} {below : List Frame} {meth : Method} {c : Code} {b : Nat} (hx : p.tables.exec = Jvm.exec) (hb : c.code = code) (hr : meth.sig.returnType = ret) (hlocks : meth.locks = false) {pc : Nat} {H : Heap} {ls : Array Slot} (hdg : decode code pc = .ok (.ireturn, 1)) : W p l e room_1 s m #[Value.ref b] below meth c H [] 33 274 (lw_Z below #[Value.ref b] s) (F0 m pc ls [.int 1]) := by
  intro T hT X
  obtain ⟨fs, hret, hrun, hended, hW, hframe⟩ := X.leave (v := some (.int 1)) (hlocks := hlocks) (fun h => by rw [hr] at h; cases h)
  have hmeth' : T.vm.method? m = some meth := X.method'
  refine ⟨T.setFrames fs, ?_, .returned (some (.int 1)), hrun, hended, rfl, ⟨_, rfl⟩, hW, hframe⟩
  jvm_step X.here [X.here.top, hx, hb, hdg, hmeth', hr, ret, narrow_b1]
  (try refine ⟨rfl, ?_⟩); (try refine ⟨rfl, ?_⟩)
  first | (intro acts; rw [hret _ acts rfl rfl rfl]) | rw [hret _ _ rfl rfl rfl]
  exact Steps.refl _
/-- what holds at the law's entry: the machine, the code, the tables' words (any of lw_tbl by 'hts w (by decide +kernel)'), the script of L ints xs at the cell b, what the Statement gives of the start (any of its parts by flat_of_before) -/
def lw_At (p : Program) (s : State) (m : MethodId) (meth : Method) (c : Code) (b L : Nat) (xs : Nat → Int32) : Prop :=
  p.tables.exec = Jvm.exec ∧ c.code = code ∧ meth.sig.returnType = ret ∧ c.maxLocals = 4 ∧ s.vm.findClass R_law = some m.cls ∧ (∀ w ∈ lw_tbl, w.before #[Value.ref b] s = true) ∧ va_X b L xs s s.heap ∧ b < s.heap.size ∧ meth.locks = false ∧ (Jvm.Cond.and given_1 narrow_1).before #[Value.ref b] s = true
/-- the steps of the law, each a pair of calls: the same answer, and the two states go on together -/
def LawOK (N : Nat) (Inv : Nat → SC → SM → Prop) : Prop :=
  (∀ (k : Nat) (σ : SC) (τ : SM) (a1 : Int32), k + 4 ≤ 256 → Inv k σ τ → ∃ (r : Int32) (σ1 : SC) (τ1 : SM), fX5_letter N σ a1 = some (r, σ1) ∧ fX6_letter N τ a1 = some (r, τ1) ∧ Inv (k + 4) σ1 τ1) ∧
  (∀ (k : Nat) (σ : SC) (τ : SM), k + 4 ≤ 256 → Inv k σ τ → ∃ (r : Int32) (σ1 : SC) (τ1 : SM), fX5_blank N σ = some (r, σ1) ∧ fX6_blank N τ = some (r, τ1) ∧ Inv (k + 4) σ1 τ1) ∧
  (∀ (k : Nat) (σ : SC) (τ : SM), k + 4 ≤ 256 → Inv k σ τ → ∃ (r : Int32) (τ1 : SM), fX5_fault N σ = some r ∧ fX6_fault N τ = some (r, τ1) ∧ Inv (k + 4) σ τ1) ∧
  (∀ (k : Nat) (σ : SC) (τ : SM), k + 4 ≤ 256 → Inv k σ τ → ∃ (r : Int32) (σ1 : SC) (τ1 : SM), fX5_hill N σ = some (r, σ1) ∧ fX6_hill N τ = some (r, τ1) ∧ Inv (k + 4) σ1 τ1) ∧
  (∀ (k : Nat) (σ : SC) (τ : SM) (a1 a2 : Int32), k + 4 ≤ 256 → Inv k σ τ → ∃ (r : Int32), fX5_person N σ a1 a2 = some r ∧ fX6_person N τ a1 a2 = some r) ∧
  (∀ (k : Nat) (σ : SC) (τ : SM) (a1 a2 : Int32), k + 4 ≤ 256 → Inv k σ τ → ∃ (r : Int32), fX5_as N σ a1 a2 = some r ∧ fX6_as N τ a1 a2 = some r) ∧
  (∀ (k : Nat) (σ : SC) (τ : SM) (a1 a2 : Int32), k + 4 ≤ 256 → Inv k σ τ → ∃ (r : Int32) (σ1 : SC) (τ1 : SM), fX5_next N σ a1 a2 = some (r, σ1) ∧ fX6_next N τ a1 a2 = some (r, τ1) ∧ Inv (k + 4) σ1 τ1) ∧
  (∀ (k : Nat) (σ : SC) (τ : SM) (a1 a2 : Int32), k + 4 ≤ 256 → Inv k σ τ → ∃ (r : Int32) (σ1 : SC) (τ1 : SM), fX5_tell N σ a1 a2 = some (r, σ1) ∧ fX6_tell N τ a1 a2 = some (r, τ1) ∧ Inv (k + 4) σ1 τ1) ∧
  (∀ (k : Nat) (σ : SC) (τ : SM), k + 4 ≤ 256 → Inv k σ τ → ∃ (r : Int32) (σ1 : SC) (τ1 : SM), fX5_day N σ = some (r, σ1) ∧ fX6_day N τ = some (r, τ1) ∧ Inv (k + 4) σ1 τ1) ∧
  (∀ (k : Nat) (σ : SC) (τ : SM) (a1 : Int32), k + 4 ≤ 256 → Inv k σ τ → ∃ (r : Int32) (σ1 : SC) (τ1 : SM), fX5_deny N σ a1 = some (r, σ1) ∧ fX6_deny N τ a1 = some (r, τ1) ∧ Inv (k + 4) σ1 τ1) ∧
  (∀ (k : Nat) (σ : SC) (τ : SM) (a1 a2 : Int32), k + 4 ≤ 256 → Inv k σ τ → ∃ (r : Int32), fX5_tunnel N σ a1 a2 = some r ∧ fX6_tunnel N τ a1 a2 = some r) ∧
  (∀ (k : Nat) (σ : SC) (τ : SM) (a1 a2 : Int32), k + 4 ≤ 256 → Inv k σ τ → ∃ (r : Int32), fX5_aim N σ a1 a2 = some r ∧ fX6_aim N τ a1 a2 = some r) ∧
  (∀ (k : Nat) (σ : SC) (τ : SM) (a1 a2 : Int32), k + 4 ≤ 256 → Inv k σ τ → ∃ (r : Int32) (σ1 : SC) (τ1 : SM), fX5_heard N σ a1 a2 = some (r, σ1) ∧ fX6_heard N τ a1 a2 = some (r, τ1) ∧ Inv (k + 4) σ1 τ1) ∧
  (∀ (k : Nat) (σ : SC) (τ : SM), k + 4 ≤ 256 → Inv k σ τ → ∃ (r : Int32) (σ1 : SC) (τ1 : SM), fX5_forget N σ = some (r, σ1) ∧ fX6_forget N τ = some (r, τ1) ∧ Inv (k + 4) σ1 τ1) ∧
  (∀ (k : Nat) (σ : SC) (τ : SM), k + 4 ≤ 256 → Inv k σ τ → ∃ (r : Int32), fX5_began N σ = some r ∧ fX6_began N τ = some r) ∧
  (∀ (k : Nat) (σ : SC) (τ : SM), k + 4 ≤ 256 → Inv k σ τ → ∃ (r : Int32) (σ1 : SC) (τ1 : SM), fX5_ask N σ = some (r, σ1) ∧ fX6_ask N τ = some (r, τ1) ∧ Inv (k + 4) σ1 τ1) ∧
  (∀ (k : Nat) (σ : SC) (τ : SM) (a1 a2 a3 : Int32), k + 4 ≤ 256 → Inv k σ τ → ∃ (r : Int32) (τ1 : SM), fX5_markets N σ a1 a2 a3 = some r ∧ fX6_markets N τ a1 a2 a3 = some (r, τ1) ∧ Inv (k + 4) σ τ1) ∧
  (∀ (k : Nat) (σ : SC) (τ : SM), k + 4 ≤ 256 → Inv k σ τ → ∃ (r : Int32) (σ1 : SC) (τ1 : SM), fX5_image N σ = some (r, σ1) ∧ fX6_image N τ = some (r, τ1) ∧ Inv (k + 4) σ1 τ1) ∧
  (∀ (k : Nat) (σ : SC) (τ : SM), k + 4 ≤ 256 → Inv k σ τ → ∃ (r : Int32) (σ1 : SC) (τ1 : SM), fX5_restore N σ = some (r, σ1) ∧ fX6_restore N τ = some (r, τ1) ∧ Inv (k + 4) σ1 τ1) ∧
  (∀ (k : Nat) (σ : SC) (τ : SM) (a1 : Int32), k + 4 ≤ 256 → Inv k σ τ → ∃ (r : Int32), fX5_count N σ a1 = some r ∧ fX6_count N τ a1 = some r) ∧
  (∀ (k : Nat) (σ : SC) (τ : SM), k + 4 ≤ 256 → Inv k σ τ → ∃ (r : Int64) (σ1 : SC) (τ1 : SM), fX5_digest N σ = some (r, σ1) ∧ fX6_digest N τ = some (r, τ1) ∧ Inv (k + 4) σ1 τ1) ∧
  (∀ (k : Nat) (σ : SC) (τ : SM), Inv k σ τ → Inv (k + 4) σ τ)
theorem LawOK.letter_ {N : Nat} {Inv : Nat → SC → SM → Prop} (h : LawOK N Inv) : ∀ (k : Nat) (σ : SC) (τ : SM) (a1 : Int32), k + 4 ≤ 256 → Inv k σ τ → ∃ (r : Int32) (σ1 : SC) (τ1 : SM), fX5_letter N σ a1 = some (r, σ1) ∧ fX6_letter N τ a1 = some (r, τ1) ∧ Inv (k + 4) σ1 τ1 := h.1
theorem LawOK.blank_ {N : Nat} {Inv : Nat → SC → SM → Prop} (h : LawOK N Inv) : ∀ (k : Nat) (σ : SC) (τ : SM), k + 4 ≤ 256 → Inv k σ τ → ∃ (r : Int32) (σ1 : SC) (τ1 : SM), fX5_blank N σ = some (r, σ1) ∧ fX6_blank N τ = some (r, τ1) ∧ Inv (k + 4) σ1 τ1 := h.2.1
theorem LawOK.fault_ {N : Nat} {Inv : Nat → SC → SM → Prop} (h : LawOK N Inv) : ∀ (k : Nat) (σ : SC) (τ : SM), k + 4 ≤ 256 → Inv k σ τ → ∃ (r : Int32) (τ1 : SM), fX5_fault N σ = some r ∧ fX6_fault N τ = some (r, τ1) ∧ Inv (k + 4) σ τ1 := h.2.2.1
theorem LawOK.hill_ {N : Nat} {Inv : Nat → SC → SM → Prop} (h : LawOK N Inv) : ∀ (k : Nat) (σ : SC) (τ : SM), k + 4 ≤ 256 → Inv k σ τ → ∃ (r : Int32) (σ1 : SC) (τ1 : SM), fX5_hill N σ = some (r, σ1) ∧ fX6_hill N τ = some (r, τ1) ∧ Inv (k + 4) σ1 τ1 := h.2.2.2.1
theorem LawOK.person_ {N : Nat} {Inv : Nat → SC → SM → Prop} (h : LawOK N Inv) : ∀ (k : Nat) (σ : SC) (τ : SM) (a1 a2 : Int32), k + 4 ≤ 256 → Inv k σ τ → ∃ (r : Int32), fX5_person N σ a1 a2 = some r ∧ fX6_person N τ a1 a2 = some r := h.2.2.2.2.1
theorem LawOK.as_ {N : Nat} {Inv : Nat → SC → SM → Prop} (h : LawOK N Inv) : ∀ (k : Nat) (σ : SC) (τ : SM) (a1 a2 : Int32), k + 4 ≤ 256 → Inv k σ τ → ∃ (r : Int32), fX5_as N σ a1 a2 = some r ∧ fX6_as N τ a1 a2 = some r := h.2.2.2.2.2.1
theorem LawOK.next_ {N : Nat} {Inv : Nat → SC → SM → Prop} (h : LawOK N Inv) : ∀ (k : Nat) (σ : SC) (τ : SM) (a1 a2 : Int32), k + 4 ≤ 256 → Inv k σ τ → ∃ (r : Int32) (σ1 : SC) (τ1 : SM), fX5_next N σ a1 a2 = some (r, σ1) ∧ fX6_next N τ a1 a2 = some (r, τ1) ∧ Inv (k + 4) σ1 τ1 := h.2.2.2.2.2.2.1
theorem LawOK.tell_ {N : Nat} {Inv : Nat → SC → SM → Prop} (h : LawOK N Inv) : ∀ (k : Nat) (σ : SC) (τ : SM) (a1 a2 : Int32), k + 4 ≤ 256 → Inv k σ τ → ∃ (r : Int32) (σ1 : SC) (τ1 : SM), fX5_tell N σ a1 a2 = some (r, σ1) ∧ fX6_tell N τ a1 a2 = some (r, τ1) ∧ Inv (k + 4) σ1 τ1 := h.2.2.2.2.2.2.2.1
theorem LawOK.day_ {N : Nat} {Inv : Nat → SC → SM → Prop} (h : LawOK N Inv) : ∀ (k : Nat) (σ : SC) (τ : SM), k + 4 ≤ 256 → Inv k σ τ → ∃ (r : Int32) (σ1 : SC) (τ1 : SM), fX5_day N σ = some (r, σ1) ∧ fX6_day N τ = some (r, τ1) ∧ Inv (k + 4) σ1 τ1 := h.2.2.2.2.2.2.2.2.1
theorem LawOK.deny_ {N : Nat} {Inv : Nat → SC → SM → Prop} (h : LawOK N Inv) : ∀ (k : Nat) (σ : SC) (τ : SM) (a1 : Int32), k + 4 ≤ 256 → Inv k σ τ → ∃ (r : Int32) (σ1 : SC) (τ1 : SM), fX5_deny N σ a1 = some (r, σ1) ∧ fX6_deny N τ a1 = some (r, τ1) ∧ Inv (k + 4) σ1 τ1 := h.2.2.2.2.2.2.2.2.2.1
theorem LawOK.tunnel_ {N : Nat} {Inv : Nat → SC → SM → Prop} (h : LawOK N Inv) : ∀ (k : Nat) (σ : SC) (τ : SM) (a1 a2 : Int32), k + 4 ≤ 256 → Inv k σ τ → ∃ (r : Int32), fX5_tunnel N σ a1 a2 = some r ∧ fX6_tunnel N τ a1 a2 = some r := h.2.2.2.2.2.2.2.2.2.2.1
theorem LawOK.aim_ {N : Nat} {Inv : Nat → SC → SM → Prop} (h : LawOK N Inv) : ∀ (k : Nat) (σ : SC) (τ : SM) (a1 a2 : Int32), k + 4 ≤ 256 → Inv k σ τ → ∃ (r : Int32), fX5_aim N σ a1 a2 = some r ∧ fX6_aim N τ a1 a2 = some r := h.2.2.2.2.2.2.2.2.2.2.2.1
theorem LawOK.heard_ {N : Nat} {Inv : Nat → SC → SM → Prop} (h : LawOK N Inv) : ∀ (k : Nat) (σ : SC) (τ : SM) (a1 a2 : Int32), k + 4 ≤ 256 → Inv k σ τ → ∃ (r : Int32) (σ1 : SC) (τ1 : SM), fX5_heard N σ a1 a2 = some (r, σ1) ∧ fX6_heard N τ a1 a2 = some (r, τ1) ∧ Inv (k + 4) σ1 τ1 := h.2.2.2.2.2.2.2.2.2.2.2.2.1
theorem LawOK.forget_ {N : Nat} {Inv : Nat → SC → SM → Prop} (h : LawOK N Inv) : ∀ (k : Nat) (σ : SC) (τ : SM), k + 4 ≤ 256 → Inv k σ τ → ∃ (r : Int32) (σ1 : SC) (τ1 : SM), fX5_forget N σ = some (r, σ1) ∧ fX6_forget N τ = some (r, τ1) ∧ Inv (k + 4) σ1 τ1 := h.2.2.2.2.2.2.2.2.2.2.2.2.2.1
theorem LawOK.began_ {N : Nat} {Inv : Nat → SC → SM → Prop} (h : LawOK N Inv) : ∀ (k : Nat) (σ : SC) (τ : SM), k + 4 ≤ 256 → Inv k σ τ → ∃ (r : Int32), fX5_began N σ = some r ∧ fX6_began N τ = some r := h.2.2.2.2.2.2.2.2.2.2.2.2.2.2.1
theorem LawOK.ask_ {N : Nat} {Inv : Nat → SC → SM → Prop} (h : LawOK N Inv) : ∀ (k : Nat) (σ : SC) (τ : SM), k + 4 ≤ 256 → Inv k σ τ → ∃ (r : Int32) (σ1 : SC) (τ1 : SM), fX5_ask N σ = some (r, σ1) ∧ fX6_ask N τ = some (r, τ1) ∧ Inv (k + 4) σ1 τ1 := h.2.2.2.2.2.2.2.2.2.2.2.2.2.2.2.1
theorem LawOK.markets_ {N : Nat} {Inv : Nat → SC → SM → Prop} (h : LawOK N Inv) : ∀ (k : Nat) (σ : SC) (τ : SM) (a1 a2 a3 : Int32), k + 4 ≤ 256 → Inv k σ τ → ∃ (r : Int32) (τ1 : SM), fX5_markets N σ a1 a2 a3 = some r ∧ fX6_markets N τ a1 a2 a3 = some (r, τ1) ∧ Inv (k + 4) σ τ1 := h.2.2.2.2.2.2.2.2.2.2.2.2.2.2.2.2.1
theorem LawOK.image_ {N : Nat} {Inv : Nat → SC → SM → Prop} (h : LawOK N Inv) : ∀ (k : Nat) (σ : SC) (τ : SM), k + 4 ≤ 256 → Inv k σ τ → ∃ (r : Int32) (σ1 : SC) (τ1 : SM), fX5_image N σ = some (r, σ1) ∧ fX6_image N τ = some (r, τ1) ∧ Inv (k + 4) σ1 τ1 := h.2.2.2.2.2.2.2.2.2.2.2.2.2.2.2.2.2.1
theorem LawOK.restore_ {N : Nat} {Inv : Nat → SC → SM → Prop} (h : LawOK N Inv) : ∀ (k : Nat) (σ : SC) (τ : SM), k + 4 ≤ 256 → Inv k σ τ → ∃ (r : Int32) (σ1 : SC) (τ1 : SM), fX5_restore N σ = some (r, σ1) ∧ fX6_restore N τ = some (r, τ1) ∧ Inv (k + 4) σ1 τ1 := h.2.2.2.2.2.2.2.2.2.2.2.2.2.2.2.2.2.2.1
theorem LawOK.count_ {N : Nat} {Inv : Nat → SC → SM → Prop} (h : LawOK N Inv) : ∀ (k : Nat) (σ : SC) (τ : SM) (a1 : Int32), k + 4 ≤ 256 → Inv k σ τ → ∃ (r : Int32), fX5_count N σ a1 = some r ∧ fX6_count N τ a1 = some r := h.2.2.2.2.2.2.2.2.2.2.2.2.2.2.2.2.2.2.2.1
theorem LawOK.digest_ {N : Nat} {Inv : Nat → SC → SM → Prop} (h : LawOK N Inv) : ∀ (k : Nat) (σ : SC) (τ : SM), k + 4 ≤ 256 → Inv k σ τ → ∃ (r : Int64) (σ1 : SC) (τ1 : SM), fX5_digest N σ = some (r, σ1) ∧ fX6_digest N τ = some (r, τ1) ∧ Inv (k + 4) σ1 τ1 := h.2.2.2.2.2.2.2.2.2.2.2.2.2.2.2.2.2.2.2.2.1
theorem LawOK.mono {N : Nat} {Inv : Nat → SC → SM → Prop} (h : LawOK N Inv) : ∀ (k : Nat) (σ : SC) (τ : SM), Inv k σ τ → Inv (k + 4) σ τ := h.2.2.2.2.2.2.2.2.2.2.2.2.2.2.2.2.2.2.2.2.2
/-- two worlds apart -/
def DD (A : Nat → Prop) (w1 w2 : va_W) : Prop := va_D A w1 ∧ va_D A w2 ∧ ∀ (i j : Nat) (p q : Nat × va_E), w1[i]? = some p → w2[j]? = some q → p.1 ≠ q.1
theorem DD.sym {A : Nat → Prop} {w1 w2 : va_W} (h : DD A w1 w2) : DD A w2 w1 := ⟨h.2.1, h.1, fun i j p q hp hq e => h.2.2 j i q p hq hp e.symm⟩
section LWC
variable {p : Program} {l : Launch} {e : Env} {R : Room} {s : State} {m : MethodId} {args : Array Value} {below : List Frame} {meth : Method} {c : Code} {H : Heap} {locs : List Loc} {cells slots : Nat} {Q : State → Prop}
variable {cc : ByteArray} {pc : Nat} {ls : Array Slot} {rest : List Value} {kv : Nat × Nat} {D : va_G} {A : Nat → Prop} {tys : List (ClassId × FieldType)} {fr lo : Nat}
theorem cVL {y : MethodName} {nL nL' idx n ci q0 Nf : Nat} {ret' : Option FieldType} {own : String} {cc' : ByteArray} {w1 w1' w2 : va_W} {As fs : List Value} {rv : Option Value} {b : Nat} {st0 st1 : List Value} {T : u_T} (hx : p.tables.exec = Jvm.exec) (hb : c.code = cc) (hml : c.maxLocals = nL) (hown : s.vm.findClass own = some m.cls) (hw : ∀ w ∈ wsA, w.before args s = true) (hC : Ct l kv D tys y cc' nL' ret' fr lo w1 w1' (.ref b :: As) rv) (hK : va_K D vwCl tys s) (hP1 : va_P D vwCl w1 H) (hP2 : va_P D vwCl w2 H) (hD : DD A w1 w2) (hS : va_S A s.heap H locs) (hA : ∀ q : Nat, s.heap.size ≤ q → A q) (hN : NW s) (hW : SW kv A s s.heap)
    (hl : Cond.methodLink own idx y ∈ wsA) (hg : gV y cc' nL' ret') (hy : gD y n) (he : w1[q0]? = some (b, .inr (ci, fs))) (hc : vwCl[ci]? = some (y.cls, T, Nf)) (hn : As.length = n) (hst : st0 = As.reverse ++ .ref b :: rest) (hR : fr + 1 ≤ R.frames ∧ 8 + (nL' + 11) + lo ≤ R.locals) (hsz : ls.size = nL) (hrs : (rest.map fun v => v.category).sum ≤ 8) (hcs : cells ≤ R.cells ∧ slots ≤ R.slots) (hst1 : rv.toList ++ rest = st1) (hdg : decode cc pc = .ok (.invokevirtual idx, 3))
    (kk : ∀ (H1 : Heap) (locs1 : List Loc), va_P D vwCl w1' H1 → va_P D vwCl w2 H1 → DD A w1' w2 → va_S A s.heap H1 locs1 → W p l e R s m args below meth c H1 locs1 cells slots Q (F0 m (pc + 3) ls st1)) : W p l e R s m args below meth c H locs cells slots Q (F0 m pc ls st0) := by
  have hF := freeAll hD.1 hS hA
  have hgG : GoodIn wsA (wsV own idx y.cls y (wA y cc' nL' ret')) := by
    obtain ⟨h1, h2, h3, h4⟩ := hg
    refine goodIn_app (fun w hw => ?_) (gT (fun _ h => h) h4)
    have hw' : w ∈ wsA := by
      simp only [List.mem_cons, List.not_mem_nil, or_false] at hw
      rcases hw with rfl | rfl | rfl | rfl
      · exact hl
      · exact h1
      · exact h2
      · exact h3
    exact ⟨hw', wsA_good _ hw'⟩
  have hr := va_runV (l := l) (e := e) (below := below) (meth := meth) (locs := locs) (g := F0 m pc ls st0) (As := As) (rest := rest) (Ts := wsA) ⟨hx, hb, hml, hown, hw⟩ (hC H.size) (cwV (R := R) n hw hgG rfl rfl rfl ⟨rfl, hy⟩ hR) ⟨Pg.blind, va_recv hK hP1 hc he, preAll hK hP1 hD.1 hS hF hN hW⟩ rfl hn hsz hst (lv_room hrs) hdg hcs
  subst hst1
  intro T hT X
  obtain ⟨v, st₀, t, T', L, h0, X', hL, e1, e2, ⟨⟨hv, hQ1, hD1⟩, hz, hk⟩, st⟩ := hr T hT X
  cases hv
  rw [h0] at hz hk
  have hap : ∀ (k : Nat) (q : Nat × va_E), w2[k]? = some q → q.1 < H.size ∧ ¬ va_A w1 H.size q.1 := by
    intro k q hq
    have hlt := (hP2 k q hq).lt
    refine ⟨hlt, fun h => ?_⟩
    rcases h with ⟨k2, e9, h⟩ | h
    · exact hD.2.2 k2 k (q.1, e9) q h hq rfl
    · omega
  obtain ⟨t2, a1, b1⟩ := kk T'.heap (locs ++ L) (by rw [e1]; exact hQ1) (fun k q hq => (hP2 k q hq).kept (by rw [e1]; exact hk q.1 (hap k q hq).1 (hap k q hq).2))
    ⟨hD1.weaken (fun _ q _ h => hF q.1 h), hD.2.1, fun i j x y hx hy exy => (hap j y hy).2 (by rw [← exy]; exact hD1.2 i x hx)⟩
    ⟨Nat.le_trans hS.1 (by rw [e1]; exact hz), fun q h1 h2 => by rw [e1, hk q (Nat.lt_of_lt_of_le h1 hS.1) (fun z => h2 (hF q z))]; exact hS.2.1 q h1 h2, fun q hq => by
      rcases List.mem_append.mp hq with h | h
      · exact hS.2.2 q h
      · exact hF _ (hL q h)⟩ T' rfl X'
  exact ⟨t2, st t2 a1, b1⟩
end LWC
theorem lcmp_self (x : Int64) : lg_cmp x x = 0 := by simp [lg_cmp]
theorem sw_0_20 {x : Int} (h0 : ¬ x = 0) (h1 : ¬ x = 1) (h2 : ¬ x = 2) (h3 : ¬ x = 3) (h4 : ¬ x = 4) (h5 : ¬ x = 5) (h6 : ¬ x = 6) (h7 : ¬ x = 7) (h8 : ¬ x = 8) (h9 : ¬ x = 9) (h10 : ¬ x = 10) (h11 : ¬ x = 11) (h12 : ¬ x = 12) (h13 : ¬ x = 13) (h14 : ¬ x = 14) (h15 : ¬ x = 15) (h16 : ¬ x = 16) (h17 : ¬ x = 17) (h18 : ¬ x = 18) (h19 : ¬ x = 19) (h20 : ¬ x = 20) : x < 0 ∨ 20 < x := by omega
theorem law_gt {L i : Nat} (hL : L ≤ 256) (hi : i ≤ L + 4) (h : ¬ (Int32.ofNat L - 4) < nI i) : i + 4 ≤ L := by
  rcases Nat.lt_or_ge L (i + 4) with q | q
  · refine absurd ?_ h
    rw [Int32.lt_iff_toInt_lt, show (Int32.ofNat L - 4 : Int32) = nI L - nI 4 from rfl, pk_sub_toInt (by omega) (by omega), nI_toInt (by omega)]
    omega
  · exact q
theorem law_in {L i : Nat} (k : Nat) (hL : L ≤ 256) (h : i + k < L) : vp_in (nI i + nI k) L := by rw [nI_add]; exact vp_in_nI h (by omega)
set_option maxHeartbeats 8000000 in
set_option maxRecDepth 100000 in
/-- the law's loop -/
theorem law_loop {p : Program} {e : Env} {s : State} {m : MethodId} {below : List Frame} {meth : Method} {c : Code} {l : Launch} {b L : Nat} {xs : Nat → Int32} (hL : L ≤ 256) (C0 : lw_At p s m meth c b L xs) {N : Nat} {Inv : Nat → SC → SM → Prop} (ST : LawOK N Inv) {kv : Nat × Nat} {D : va_G} {cA : ClassId} {ad ae : Nat → Nat} (hK : va_K D vwCl [(cA, .int)] s) (hN : NW s) (hW : SW kv (fun q : Nat => s.heap.size ≤ q) s s.heap) :
    ∀ (n i : Nat) (σ : SC) (τ : SM) (H : Heap) (locs : List Loc) (ls : Array Slot), L + 8 < i + n → i ≤ L + 4 → Inv i σ τ → va_P D vwCl (wC ad cA σ) H → va_P D vwCl (wM ae cA τ) H → DD (fun q : Nat => s.heap.size ≤ q) (wC ad cA σ) (wM ae cA τ) → va_S (fun q : Nat => s.heap.size ≤ q) s.heap H locs → lv_has ls 4 [(0, .ref b), (1, .ref (ad 0)), (2, .ref (ae 0)), (3, .int (nI i))] → W p l e room_1 s m #[Value.ref b] below meth c H locs 33 274 (lw_Z below #[Value.ref b] s) (F0 m 18 ls []) := by
  obtain ⟨hx, hb, hr, hml, hown, hts, hX, hbl, hlocks, hgv⟩ := id C0
  have hA : ∀ q : Nat, s.heap.size ≤ q → (fun q : Nat => s.heap.size ≤ q) q := fun _ h => h
  have hbA : ¬ (fun q : Nat => s.heap.size ≤ q) b := Nat.not_le.mpr hbl
  have hw : ∀ w ∈ wsA, w.before #[Value.ref b] s = true := fun w h => hts w (List.mem_filter.mp h).1
  intro n
  induction n with
  | zero => intro i σ τ H locs ls h1 h2; omega
  | succ n ih =>
    intro i σ τ H locs ls hn hi hI hP hQ hD hS hl
    have J606 : ∀ (σ : SC) (τ : SM) (H : Heap) (locs : List Loc) (ls : Array Slot), i + 4 ≤ L → Inv (i + 4) σ τ → va_P D vwCl (wC ad cA σ) H → va_P D vwCl (wM ae cA τ) H → DD (fun q : Nat => s.heap.size ≤ q) (wC ad cA σ) (wM ae cA τ) → va_S (fun q : Nat => s.heap.size ≤ q) s.heap H locs → lv_has ls 4 [(0, .ref b), (1, .ref (ad 0)), (2, .ref (ae 0)), (3, .int (nI i))] → W p l e room_1 s m #[Value.ref b] below meth c H locs 33 274 (lw_Z below #[Value.ref b] s) (F0 m 606 ls []) := by
      intro σ τ H locs ls h4 hI hP hQ hD hS hl
      refine lv_iinc (pc := 606) (v := nI (i + 4)) (lv' := [(3, .int (nI (i + 4))), (0, .ref b), (1, .ref (ad 0)), (2, .ref (ae 0))]) hx hb dL_law_606 hl (k := 3) rfl (nI_add i 4) (by decide) rfl (fun ls hl => ?_)
      refine lv_goto (pc := 609) (tgt := 18) hx hb dL_law_609 (by decide) ?_
      exact ih (i + 4) σ τ _ _ _ (by omega) (by omega) hI hP hQ hD hS (lv_sub hl [1, 2, 3, 0] rfl)
    refine lv_iload_n (pc := 18) hx hb dL_law_18 rfl (lv_at hl 3 rfl) ?_
    refine lv_aload_n (pc := 19) hx hb dL_law_19 rfl (lv_at hl 0 rfl) ?_
    refine va_slen (pc := 20) hx hb hX hbl hbA hS dL_law_20 ?_
    refine lv_iconst (pc := 21) (v := 4) hx hb dL_law_21 (by decide) ?_
    refine lv_isub (pc := 22) hx hb dL_law_22 ?_
    refine lv_icmp_gt (pc := 23) (tgt := 612) hx hb dL_law_23 (by decide) (fun c23 => ?_) (fun c23 => ?_)
    · refine lv_iconst (pc := 612) (v := 1) hx hb dL_law_612 (by decide) ?_
      refine va_forget (fun q hq => hS.2.2 q hq) ?_
      exact lw_ret hx hb hr hlocks dL_law_613
    have h4 : i + 4 ≤ L := law_gt hL hi c23
    have hi0 : vp_in (nI i) L := vp_in_nI (by omega) (by omega)
    have hi1 : vp_in (nI i + 1) L := law_in 1 hL (by omega)
    have hi2 : vp_in (nI i + 2) L := law_in 2 hL (by omega)
    have hi3 : vp_in (nI i + 3) L := law_in 3 hL (by omega)
    refine lv_aload_n (pc := 26) hx hb dL_law_26 rfl (lv_at hl 0 rfl) ?_
    refine lv_iload_n (pc := 27) hx hb dL_law_27 rfl (lv_at hl 3 rfl) ?_
    refine va_sld (pc := 28) hx hb hX hbl hbA hS hi0 dL_law_28 ?_
    refine lv_bipush (pc := 29) (v := 31) hx hb dL_law_29 (by decide) ?_
    refine lv_iand (pc := 31) hx hb dL_law_31 ?_
    generalize xs (nI i).toNatClampNeg &&& 31 = o
    generalize ha1 : xs (nI i + 1).toNatClampNeg = a1
    generalize ha2 : xs (nI i + 2).toNatClampNeg = a2
    generalize ha3 : xs (nI i + 3).toNatClampNeg = a3
    by_cases c32_0 : o = 0
    · refine lv_tableIn (pc := 32) (tgt := 132) hx hb dL_law_32 (by rw [c32_0] <;> decide) (by rw [c32_0] <;> decide) (by rw [c32_0] <;> rfl) (by decide) ?_
      obtain ⟨r, σ1, τ1, h1, h2, hI1⟩ := ST.letter_ i σ τ a1 (by omega) hI
      refine lv_aload_n (pc := 132) hx hb dL_law_132 rfl (lv_at hl 1 rfl) ?_
      refine lv_aload_n (pc := 133) hx hb dL_law_133 rfl (lv_at hl 0 rfl) ?_
      refine lv_iload_n (pc := 134) hx hb dL_law_134 rfl (lv_at hl 3 rfl) ?_
      refine lv_iconst (pc := 135) (v := 1) hx hb dL_law_135 (by decide) ?_
      refine lv_iadd (pc := 136) hx hb dL_law_136 ?_
      refine va_sld (pc := 137) hx hb hX hbl hbA hS hi1 dL_law_137 ?_
      rw [ha1]
      refine cVL (pc := 138) (rest := []) (st1 := [.int r]) (q0 := 0) hx hb hml hown hw (tX5_letter h1) hK hP hQ hD hS hA hN hW mL_L_13 kX5_letter nX5_letter rfl rfl rfl rfl ⟨by decide, by decide⟩ hl.1 (Nat.le_of_ble_eq_true rfl) ⟨Nat.le_refl _, Nat.le_refl _⟩ rfl dL_law_138 (fun H locs hP hQ hD hS => ?_)
      refine lv_aload_n (pc := 141) hx hb dL_law_141 rfl (lv_at hl 2 rfl) ?_
      refine lv_aload_n (pc := 142) hx hb dL_law_142 rfl (lv_at hl 0 rfl) ?_
      refine lv_iload_n (pc := 143) hx hb dL_law_143 rfl (lv_at hl 3 rfl) ?_
      refine lv_iconst (pc := 144) (v := 1) hx hb dL_law_144 (by decide) ?_
      refine lv_iadd (pc := 145) hx hb dL_law_145 ?_
      refine va_sld (pc := 146) hx hb hX hbl hbA hS hi1 dL_law_146 ?_
      rw [ha1]
      refine cVL (pc := 147) (rest := [.int r]) (st1 := [.int r, .int r]) (q0 := 0) hx hb hml hown hw (tX6_letter h2) hK hQ hP hD.sym hS hA hN hW mL_L_17 kX6_letter nX6_letter rfl rfl rfl rfl ⟨by decide, by decide⟩ hl.1 (Nat.le_of_ble_eq_true rfl) ⟨Nat.le_refl _, Nat.le_refl _⟩ rfl dL_law_147 (fun H locs hQ hP hD hS => ?_)
      have hD := hD.sym
      refine lv_icmp_eq (pc := 150) (tgt := 606) hx hb dL_law_150 (by decide) (fun c99 => ?_) (fun c99 => absurd rfl c99)
      exact J606 σ1 τ1 _ _ _ h4 hI1 hP hQ hD hS hl
    by_cases c32_1 : o = 1
    · refine lv_tableIn (pc := 32) (tgt := 155) hx hb dL_law_32 (by rw [c32_1] <;> decide) (by rw [c32_1] <;> decide) (by rw [c32_1] <;> rfl) (by decide) ?_
      obtain ⟨r, σ1, τ1, h1, h2, hI1⟩ := ST.blank_ i σ τ (by omega) hI
      refine lv_aload_n (pc := 155) hx hb dL_law_155 rfl (lv_at hl 1 rfl) ?_
      refine cVL (pc := 156) (rest := []) (st1 := [.int r]) (q0 := 0) hx hb hml hown hw (tX5_blank h1) hK hP hQ hD hS hA hN hW mL_L_18 kX5_blank nX5_blank rfl rfl rfl rfl ⟨by decide, by decide⟩ hl.1 (Nat.le_of_ble_eq_true rfl) ⟨Nat.le_refl _, Nat.le_refl _⟩ rfl dL_law_156 (fun H locs hP hQ hD hS => ?_)
      refine lv_aload_n (pc := 159) hx hb dL_law_159 rfl (lv_at hl 2 rfl) ?_
      refine cVL (pc := 160) (rest := [.int r]) (st1 := [.int r, .int r]) (q0 := 0) hx hb hml hown hw (tX6_blank h2) hK hQ hP hD.sym hS hA hN hW mL_L_22 kX6_blank nX6_blank rfl rfl rfl rfl ⟨by decide, by decide⟩ hl.1 (Nat.le_of_ble_eq_true rfl) ⟨Nat.le_refl _, Nat.le_refl _⟩ rfl dL_law_160 (fun H locs hQ hP hD hS => ?_)
      have hD := hD.sym
      refine lv_icmp_eq (pc := 163) (tgt := 606) hx hb dL_law_163 (by decide) (fun c99 => ?_) (fun c99 => absurd rfl c99)
      exact J606 σ1 τ1 _ _ _ h4 hI1 hP hQ hD hS hl
    by_cases c32_2 : o = 2
    · refine lv_tableIn (pc := 32) (tgt := 168) hx hb dL_law_32 (by rw [c32_2] <;> decide) (by rw [c32_2] <;> decide) (by rw [c32_2] <;> rfl) (by decide) ?_
      obtain ⟨r, τ1, h1, h2, hI1⟩ := ST.fault_ i σ τ (by omega) hI
      refine lv_aload_n (pc := 168) hx hb dL_law_168 rfl (lv_at hl 1 rfl) ?_
      refine cVL (pc := 169) (rest := []) (st1 := [.int r]) (q0 := 0) hx hb hml hown hw (tX5_fault h1) hK hP hQ hD hS hA hN hW mL_L_23 kX5_fault nX5_fault rfl rfl rfl rfl ⟨by decide, by decide⟩ hl.1 (Nat.le_of_ble_eq_true rfl) ⟨Nat.le_refl _, Nat.le_refl _⟩ rfl dL_law_169 (fun H locs hP hQ hD hS => ?_)
      refine lv_aload_n (pc := 172) hx hb dL_law_172 rfl (lv_at hl 2 rfl) ?_
      refine cVL (pc := 173) (rest := [.int r]) (st1 := [.int r, .int r]) (q0 := 0) hx hb hml hown hw (tX6_fault h2) hK hQ hP hD.sym hS hA hN hW mL_L_26 kX6_fault nX6_fault rfl rfl rfl rfl ⟨by decide, by decide⟩ hl.1 (Nat.le_of_ble_eq_true rfl) ⟨Nat.le_refl _, Nat.le_refl _⟩ rfl dL_law_173 (fun H locs hQ hP hD hS => ?_)
      have hD := hD.sym
      refine lv_icmp_eq (pc := 176) (tgt := 606) hx hb dL_law_176 (by decide) (fun c99 => ?_) (fun c99 => absurd rfl c99)
      exact J606 σ τ1 _ _ _ h4 hI1 hP hQ hD hS hl
    by_cases c32_3 : o = 3
    · refine lv_tableIn (pc := 32) (tgt := 181) hx hb dL_law_32 (by rw [c32_3] <;> decide) (by rw [c32_3] <;> decide) (by rw [c32_3] <;> rfl) (by decide) ?_
      obtain ⟨r, σ1, τ1, h1, h2, hI1⟩ := ST.hill_ i σ τ (by omega) hI
      refine lv_aload_n (pc := 181) hx hb dL_law_181 rfl (lv_at hl 1 rfl) ?_
      refine cVL (pc := 182) (rest := []) (st1 := [.int r]) (q0 := 0) hx hb hml hown hw (tX5_hill h1) hK hP hQ hD hS hA hN hW mL_L_27 kX5_hill nX5_hill rfl rfl rfl rfl ⟨by decide, by decide⟩ hl.1 (Nat.le_of_ble_eq_true rfl) ⟨Nat.le_refl _, Nat.le_refl _⟩ rfl dL_law_182 (fun H locs hP hQ hD hS => ?_)
      refine lv_aload_n (pc := 185) hx hb dL_law_185 rfl (lv_at hl 2 rfl) ?_
      refine cVL (pc := 186) (rest := [.int r]) (st1 := [.int r, .int r]) (q0 := 0) hx hb hml hown hw (tX6_hill h2) hK hQ hP hD.sym hS hA hN hW mL_L_30 kX6_hill nX6_hill rfl rfl rfl rfl ⟨by decide, by decide⟩ hl.1 (Nat.le_of_ble_eq_true rfl) ⟨Nat.le_refl _, Nat.le_refl _⟩ rfl dL_law_186 (fun H locs hQ hP hD hS => ?_)
      have hD := hD.sym
      refine lv_icmp_eq (pc := 189) (tgt := 606) hx hb dL_law_189 (by decide) (fun c99 => ?_) (fun c99 => absurd rfl c99)
      exact J606 σ1 τ1 _ _ _ h4 hI1 hP hQ hD hS hl
    by_cases c32_4 : o = 4
    · refine lv_tableIn (pc := 32) (tgt := 194) hx hb dL_law_32 (by rw [c32_4] <;> decide) (by rw [c32_4] <;> decide) (by rw [c32_4] <;> rfl) (by decide) ?_
      obtain ⟨r, h1, h2⟩ := ST.person_ i σ τ a1 a2 (by omega) hI
      refine lv_aload_n (pc := 194) hx hb dL_law_194 rfl (lv_at hl 1 rfl) ?_
      refine lv_aload_n (pc := 195) hx hb dL_law_195 rfl (lv_at hl 0 rfl) ?_
      refine lv_iload_n (pc := 196) hx hb dL_law_196 rfl (lv_at hl 3 rfl) ?_
      refine lv_iconst (pc := 197) (v := 1) hx hb dL_law_197 (by decide) ?_
      refine lv_iadd (pc := 198) hx hb dL_law_198 ?_
      refine va_sld (pc := 199) hx hb hX hbl hbA hS hi1 dL_law_199 ?_
      rw [ha1]
      refine lv_aload_n (pc := 200) hx hb dL_law_200 rfl (lv_at hl 0 rfl) ?_
      refine lv_iload_n (pc := 201) hx hb dL_law_201 rfl (lv_at hl 3 rfl) ?_
      refine lv_iconst (pc := 202) (v := 2) hx hb dL_law_202 (by decide) ?_
      refine lv_iadd (pc := 203) hx hb dL_law_203 ?_
      refine va_sld (pc := 204) hx hb hX hbl hbA hS hi2 dL_law_204 ?_
      rw [ha2]
      refine cVL (pc := 205) (rest := []) (st1 := [.int r]) (q0 := 0) hx hb hml hown hw (tX5_person h1) hK hP hQ hD hS hA hN hW mL_L_31 kX5_person nX5_person rfl rfl rfl rfl ⟨by decide, by decide⟩ hl.1 (Nat.le_of_ble_eq_true rfl) ⟨Nat.le_refl _, Nat.le_refl _⟩ rfl dL_law_205 (fun H locs hP hQ hD hS => ?_)
      refine lv_aload_n (pc := 208) hx hb dL_law_208 rfl (lv_at hl 2 rfl) ?_
      refine lv_aload_n (pc := 209) hx hb dL_law_209 rfl (lv_at hl 0 rfl) ?_
      refine lv_iload_n (pc := 210) hx hb dL_law_210 rfl (lv_at hl 3 rfl) ?_
      refine lv_iconst (pc := 211) (v := 1) hx hb dL_law_211 (by decide) ?_
      refine lv_iadd (pc := 212) hx hb dL_law_212 ?_
      refine va_sld (pc := 213) hx hb hX hbl hbA hS hi1 dL_law_213 ?_
      rw [ha1]
      refine lv_aload_n (pc := 214) hx hb dL_law_214 rfl (lv_at hl 0 rfl) ?_
      refine lv_iload_n (pc := 215) hx hb dL_law_215 rfl (lv_at hl 3 rfl) ?_
      refine lv_iconst (pc := 216) (v := 2) hx hb dL_law_216 (by decide) ?_
      refine lv_iadd (pc := 217) hx hb dL_law_217 ?_
      refine va_sld (pc := 218) hx hb hX hbl hbA hS hi2 dL_law_218 ?_
      rw [ha2]
      refine cVL (pc := 219) (rest := [.int r]) (st1 := [.int r, .int r]) (q0 := 0) hx hb hml hown hw (tX6_person h2) hK hQ hP hD.sym hS hA hN hW mL_L_35 kX6_person nX6_person rfl rfl rfl rfl ⟨by decide, by decide⟩ hl.1 (Nat.le_of_ble_eq_true rfl) ⟨Nat.le_refl _, Nat.le_refl _⟩ rfl dL_law_219 (fun H locs hQ hP hD hS => ?_)
      have hD := hD.sym
      refine lv_icmp_eq (pc := 222) (tgt := 606) hx hb dL_law_222 (by decide) (fun c99 => ?_) (fun c99 => absurd rfl c99)
      exact J606 σ τ _ _ _ h4 (ST.mono _ _ _ hI) hP hQ hD hS hl
    by_cases c32_5 : o = 5
    · refine lv_tableIn (pc := 32) (tgt := 227) hx hb dL_law_32 (by rw [c32_5] <;> decide) (by rw [c32_5] <;> decide) (by rw [c32_5] <;> rfl) (by decide) ?_
      obtain ⟨r, h1, h2⟩ := ST.as_ i σ τ a1 a2 (by omega) hI
      refine lv_aload_n (pc := 227) hx hb dL_law_227 rfl (lv_at hl 1 rfl) ?_
      refine lv_aload_n (pc := 228) hx hb dL_law_228 rfl (lv_at hl 0 rfl) ?_
      refine lv_iload_n (pc := 229) hx hb dL_law_229 rfl (lv_at hl 3 rfl) ?_
      refine lv_iconst (pc := 230) (v := 1) hx hb dL_law_230 (by decide) ?_
      refine lv_iadd (pc := 231) hx hb dL_law_231 ?_
      refine va_sld (pc := 232) hx hb hX hbl hbA hS hi1 dL_law_232 ?_
      rw [ha1]
      refine lv_aload_n (pc := 233) hx hb dL_law_233 rfl (lv_at hl 0 rfl) ?_
      refine lv_iload_n (pc := 234) hx hb dL_law_234 rfl (lv_at hl 3 rfl) ?_
      refine lv_iconst (pc := 235) (v := 2) hx hb dL_law_235 (by decide) ?_
      refine lv_iadd (pc := 236) hx hb dL_law_236 ?_
      refine va_sld (pc := 237) hx hb hX hbl hbA hS hi2 dL_law_237 ?_
      rw [ha2]
      refine cVL (pc := 238) (rest := []) (st1 := [.int r]) (q0 := 0) hx hb hml hown hw (tX5_as h1) hK hP hQ hD hS hA hN hW mL_L_36 kX5_as nX5_as rfl rfl rfl rfl ⟨by decide, by decide⟩ hl.1 (Nat.le_of_ble_eq_true rfl) ⟨Nat.le_refl _, Nat.le_refl _⟩ rfl dL_law_238 (fun H locs hP hQ hD hS => ?_)
      refine lv_aload_n (pc := 241) hx hb dL_law_241 rfl (lv_at hl 2 rfl) ?_
      refine lv_aload_n (pc := 242) hx hb dL_law_242 rfl (lv_at hl 0 rfl) ?_
      refine lv_iload_n (pc := 243) hx hb dL_law_243 rfl (lv_at hl 3 rfl) ?_
      refine lv_iconst (pc := 244) (v := 1) hx hb dL_law_244 (by decide) ?_
      refine lv_iadd (pc := 245) hx hb dL_law_245 ?_
      refine va_sld (pc := 246) hx hb hX hbl hbA hS hi1 dL_law_246 ?_
      rw [ha1]
      refine lv_aload_n (pc := 247) hx hb dL_law_247 rfl (lv_at hl 0 rfl) ?_
      refine lv_iload_n (pc := 248) hx hb dL_law_248 rfl (lv_at hl 3 rfl) ?_
      refine lv_iconst (pc := 249) (v := 2) hx hb dL_law_249 (by decide) ?_
      refine lv_iadd (pc := 250) hx hb dL_law_250 ?_
      refine va_sld (pc := 251) hx hb hX hbl hbA hS hi2 dL_law_251 ?_
      rw [ha2]
      refine cVL (pc := 252) (rest := [.int r]) (st1 := [.int r, .int r]) (q0 := 0) hx hb hml hown hw (tX6_as h2) hK hQ hP hD.sym hS hA hN hW mL_L_39 kX6_as nX6_as rfl rfl rfl rfl ⟨by decide, by decide⟩ hl.1 (Nat.le_of_ble_eq_true rfl) ⟨Nat.le_refl _, Nat.le_refl _⟩ rfl dL_law_252 (fun H locs hQ hP hD hS => ?_)
      have hD := hD.sym
      refine lv_icmp_eq (pc := 255) (tgt := 606) hx hb dL_law_255 (by decide) (fun c99 => ?_) (fun c99 => absurd rfl c99)
      exact J606 σ τ _ _ _ h4 (ST.mono _ _ _ hI) hP hQ hD hS hl
    by_cases c32_6 : o = 6
    · refine lv_tableIn (pc := 32) (tgt := 260) hx hb dL_law_32 (by rw [c32_6] <;> decide) (by rw [c32_6] <;> decide) (by rw [c32_6] <;> rfl) (by decide) ?_
      obtain ⟨r, σ1, τ1, h1, h2, hI1⟩ := ST.next_ i σ τ a1 a2 (by omega) hI
      refine lv_aload_n (pc := 260) hx hb dL_law_260 rfl (lv_at hl 1 rfl) ?_
      refine lv_aload_n (pc := 261) hx hb dL_law_261 rfl (lv_at hl 0 rfl) ?_
      refine lv_iload_n (pc := 262) hx hb dL_law_262 rfl (lv_at hl 3 rfl) ?_
      refine lv_iconst (pc := 263) (v := 1) hx hb dL_law_263 (by decide) ?_
      refine lv_iadd (pc := 264) hx hb dL_law_264 ?_
      refine va_sld (pc := 265) hx hb hX hbl hbA hS hi1 dL_law_265 ?_
      rw [ha1]
      refine lv_aload_n (pc := 266) hx hb dL_law_266 rfl (lv_at hl 0 rfl) ?_
      refine lv_iload_n (pc := 267) hx hb dL_law_267 rfl (lv_at hl 3 rfl) ?_
      refine lv_iconst (pc := 268) (v := 2) hx hb dL_law_268 (by decide) ?_
      refine lv_iadd (pc := 269) hx hb dL_law_269 ?_
      refine va_sld (pc := 270) hx hb hX hbl hbA hS hi2 dL_law_270 ?_
      rw [ha2]
      refine cVL (pc := 271) (rest := []) (st1 := [.int r]) (q0 := 0) hx hb hml hown hw (tX5_next h1) hK hP hQ hD hS hA hN hW mL_L_40 kX5_next nX5_next rfl rfl rfl rfl ⟨by decide, by decide⟩ hl.1 (Nat.le_of_ble_eq_true rfl) ⟨Nat.le_refl _, Nat.le_refl _⟩ rfl dL_law_271 (fun H locs hP hQ hD hS => ?_)
      refine lv_aload_n (pc := 274) hx hb dL_law_274 rfl (lv_at hl 2 rfl) ?_
      refine lv_aload_n (pc := 275) hx hb dL_law_275 rfl (lv_at hl 0 rfl) ?_
      refine lv_iload_n (pc := 276) hx hb dL_law_276 rfl (lv_at hl 3 rfl) ?_
      refine lv_iconst (pc := 277) (v := 1) hx hb dL_law_277 (by decide) ?_
      refine lv_iadd (pc := 278) hx hb dL_law_278 ?_
      refine va_sld (pc := 279) hx hb hX hbl hbA hS hi1 dL_law_279 ?_
      rw [ha1]
      refine lv_aload_n (pc := 280) hx hb dL_law_280 rfl (lv_at hl 0 rfl) ?_
      refine lv_iload_n (pc := 281) hx hb dL_law_281 rfl (lv_at hl 3 rfl) ?_
      refine lv_iconst (pc := 282) (v := 2) hx hb dL_law_282 (by decide) ?_
      refine lv_iadd (pc := 283) hx hb dL_law_283 ?_
      refine va_sld (pc := 284) hx hb hX hbl hbA hS hi2 dL_law_284 ?_
      rw [ha2]
      refine cVL (pc := 285) (rest := [.int r]) (st1 := [.int r, .int r]) (q0 := 0) hx hb hml hown hw (tX6_next h2) hK hQ hP hD.sym hS hA hN hW mL_L_43 kX6_next nX6_next rfl rfl rfl rfl ⟨by decide, by decide⟩ hl.1 (Nat.le_of_ble_eq_true rfl) ⟨Nat.le_refl _, Nat.le_refl _⟩ rfl dL_law_285 (fun H locs hQ hP hD hS => ?_)
      have hD := hD.sym
      refine lv_icmp_eq (pc := 288) (tgt := 606) hx hb dL_law_288 (by decide) (fun c99 => ?_) (fun c99 => absurd rfl c99)
      exact J606 σ1 τ1 _ _ _ h4 hI1 hP hQ hD hS hl
    by_cases c32_7 : o = 7
    · refine lv_tableIn (pc := 32) (tgt := 293) hx hb dL_law_32 (by rw [c32_7] <;> decide) (by rw [c32_7] <;> decide) (by rw [c32_7] <;> rfl) (by decide) ?_
      obtain ⟨r, σ1, τ1, h1, h2, hI1⟩ := ST.tell_ i σ τ a1 a2 (by omega) hI
      refine lv_aload_n (pc := 293) hx hb dL_law_293 rfl (lv_at hl 1 rfl) ?_
      refine lv_aload_n (pc := 294) hx hb dL_law_294 rfl (lv_at hl 0 rfl) ?_
      refine lv_iload_n (pc := 295) hx hb dL_law_295 rfl (lv_at hl 3 rfl) ?_
      refine lv_iconst (pc := 296) (v := 1) hx hb dL_law_296 (by decide) ?_
      refine lv_iadd (pc := 297) hx hb dL_law_297 ?_
      refine va_sld (pc := 298) hx hb hX hbl hbA hS hi1 dL_law_298 ?_
      rw [ha1]
      refine lv_aload_n (pc := 299) hx hb dL_law_299 rfl (lv_at hl 0 rfl) ?_
      refine lv_iload_n (pc := 300) hx hb dL_law_300 rfl (lv_at hl 3 rfl) ?_
      refine lv_iconst (pc := 301) (v := 2) hx hb dL_law_301 (by decide) ?_
      refine lv_iadd (pc := 302) hx hb dL_law_302 ?_
      refine va_sld (pc := 303) hx hb hX hbl hbA hS hi2 dL_law_303 ?_
      rw [ha2]
      refine cVL (pc := 304) (rest := []) (st1 := [.int r]) (q0 := 0) hx hb hml hown hw (tX5_tell h1) hK hP hQ hD hS hA hN hW mL_L_44 kX5_tell nX5_tell rfl rfl rfl rfl ⟨by decide, by decide⟩ hl.1 (Nat.le_of_ble_eq_true rfl) ⟨Nat.le_refl _, Nat.le_refl _⟩ rfl dL_law_304 (fun H locs hP hQ hD hS => ?_)
      refine lv_aload_n (pc := 307) hx hb dL_law_307 rfl (lv_at hl 2 rfl) ?_
      refine lv_aload_n (pc := 308) hx hb dL_law_308 rfl (lv_at hl 0 rfl) ?_
      refine lv_iload_n (pc := 309) hx hb dL_law_309 rfl (lv_at hl 3 rfl) ?_
      refine lv_iconst (pc := 310) (v := 1) hx hb dL_law_310 (by decide) ?_
      refine lv_iadd (pc := 311) hx hb dL_law_311 ?_
      refine va_sld (pc := 312) hx hb hX hbl hbA hS hi1 dL_law_312 ?_
      rw [ha1]
      refine lv_aload_n (pc := 313) hx hb dL_law_313 rfl (lv_at hl 0 rfl) ?_
      refine lv_iload_n (pc := 314) hx hb dL_law_314 rfl (lv_at hl 3 rfl) ?_
      refine lv_iconst (pc := 315) (v := 2) hx hb dL_law_315 (by decide) ?_
      refine lv_iadd (pc := 316) hx hb dL_law_316 ?_
      refine va_sld (pc := 317) hx hb hX hbl hbA hS hi2 dL_law_317 ?_
      rw [ha2]
      refine cVL (pc := 318) (rest := [.int r]) (st1 := [.int r, .int r]) (q0 := 0) hx hb hml hown hw (tX6_tell h2) hK hQ hP hD.sym hS hA hN hW mL_L_47 kX6_tell nX6_tell rfl rfl rfl rfl ⟨by decide, by decide⟩ hl.1 (Nat.le_of_ble_eq_true rfl) ⟨Nat.le_refl _, Nat.le_refl _⟩ rfl dL_law_318 (fun H locs hQ hP hD hS => ?_)
      have hD := hD.sym
      refine lv_icmp_eq (pc := 321) (tgt := 606) hx hb dL_law_321 (by decide) (fun c99 => ?_) (fun c99 => absurd rfl c99)
      exact J606 σ1 τ1 _ _ _ h4 hI1 hP hQ hD hS hl
    by_cases c32_8 : o = 8
    · refine lv_tableIn (pc := 32) (tgt := 326) hx hb dL_law_32 (by rw [c32_8] <;> decide) (by rw [c32_8] <;> decide) (by rw [c32_8] <;> rfl) (by decide) ?_
      obtain ⟨r, σ1, τ1, h1, h2, hI1⟩ := ST.day_ i σ τ (by omega) hI
      refine lv_aload_n (pc := 326) hx hb dL_law_326 rfl (lv_at hl 1 rfl) ?_
      refine cVL (pc := 327) (rest := []) (st1 := [.int r]) (q0 := 0) hx hb hml hown hw (tX5_day h1) hK hP hQ hD hS hA hN hW mL_L_48 kX5_day nX5_day rfl rfl rfl rfl ⟨by decide, by decide⟩ hl.1 (Nat.le_of_ble_eq_true rfl) ⟨Nat.le_refl _, Nat.le_refl _⟩ rfl dL_law_327 (fun H locs hP hQ hD hS => ?_)
      refine lv_aload_n (pc := 330) hx hb dL_law_330 rfl (lv_at hl 2 rfl) ?_
      refine cVL (pc := 331) (rest := [.int r]) (st1 := [.int r, .int r]) (q0 := 0) hx hb hml hown hw (tX6_day h2) hK hQ hP hD.sym hS hA hN hW mL_L_51 kX6_day nX6_day rfl rfl rfl rfl ⟨by decide, by decide⟩ hl.1 (Nat.le_of_ble_eq_true rfl) ⟨Nat.le_refl _, Nat.le_refl _⟩ rfl dL_law_331 (fun H locs hQ hP hD hS => ?_)
      have hD := hD.sym
      refine lv_icmp_eq (pc := 334) (tgt := 606) hx hb dL_law_334 (by decide) (fun c99 => ?_) (fun c99 => absurd rfl c99)
      exact J606 σ1 τ1 _ _ _ h4 hI1 hP hQ hD hS hl
    by_cases c32_9 : o = 9
    · refine lv_tableIn (pc := 32) (tgt := 339) hx hb dL_law_32 (by rw [c32_9] <;> decide) (by rw [c32_9] <;> decide) (by rw [c32_9] <;> rfl) (by decide) ?_
      obtain ⟨r, σ1, τ1, h1, h2, hI1⟩ := ST.deny_ i σ τ a1 (by omega) hI
      refine lv_aload_n (pc := 339) hx hb dL_law_339 rfl (lv_at hl 1 rfl) ?_
      refine lv_aload_n (pc := 340) hx hb dL_law_340 rfl (lv_at hl 0 rfl) ?_
      refine lv_iload_n (pc := 341) hx hb dL_law_341 rfl (lv_at hl 3 rfl) ?_
      refine lv_iconst (pc := 342) (v := 1) hx hb dL_law_342 (by decide) ?_
      refine lv_iadd (pc := 343) hx hb dL_law_343 ?_
      refine va_sld (pc := 344) hx hb hX hbl hbA hS hi1 dL_law_344 ?_
      rw [ha1]
      refine cVL (pc := 345) (rest := []) (st1 := [.int r]) (q0 := 0) hx hb hml hown hw (tX5_deny h1) hK hP hQ hD hS hA hN hW mL_L_52 kX5_deny nX5_deny rfl rfl rfl rfl ⟨by decide, by decide⟩ hl.1 (Nat.le_of_ble_eq_true rfl) ⟨Nat.le_refl _, Nat.le_refl _⟩ rfl dL_law_345 (fun H locs hP hQ hD hS => ?_)
      refine lv_aload_n (pc := 348) hx hb dL_law_348 rfl (lv_at hl 2 rfl) ?_
      refine lv_aload_n (pc := 349) hx hb dL_law_349 rfl (lv_at hl 0 rfl) ?_
      refine lv_iload_n (pc := 350) hx hb dL_law_350 rfl (lv_at hl 3 rfl) ?_
      refine lv_iconst (pc := 351) (v := 1) hx hb dL_law_351 (by decide) ?_
      refine lv_iadd (pc := 352) hx hb dL_law_352 ?_
      refine va_sld (pc := 353) hx hb hX hbl hbA hS hi1 dL_law_353 ?_
      rw [ha1]
      refine cVL (pc := 354) (rest := [.int r]) (st1 := [.int r, .int r]) (q0 := 0) hx hb hml hown hw (tX6_deny h2) hK hQ hP hD.sym hS hA hN hW mL_L_55 kX6_deny nX6_deny rfl rfl rfl rfl ⟨by decide, by decide⟩ hl.1 (Nat.le_of_ble_eq_true rfl) ⟨Nat.le_refl _, Nat.le_refl _⟩ rfl dL_law_354 (fun H locs hQ hP hD hS => ?_)
      have hD := hD.sym
      refine lv_icmp_eq (pc := 357) (tgt := 606) hx hb dL_law_357 (by decide) (fun c99 => ?_) (fun c99 => absurd rfl c99)
      exact J606 σ1 τ1 _ _ _ h4 hI1 hP hQ hD hS hl
    by_cases c32_10 : o = 10
    · refine lv_tableIn (pc := 32) (tgt := 362) hx hb dL_law_32 (by rw [c32_10] <;> decide) (by rw [c32_10] <;> decide) (by rw [c32_10] <;> rfl) (by decide) ?_
      obtain ⟨r, h1, h2⟩ := ST.tunnel_ i σ τ a1 a2 (by omega) hI
      refine lv_aload_n (pc := 362) hx hb dL_law_362 rfl (lv_at hl 1 rfl) ?_
      refine lv_aload_n (pc := 363) hx hb dL_law_363 rfl (lv_at hl 0 rfl) ?_
      refine lv_iload_n (pc := 364) hx hb dL_law_364 rfl (lv_at hl 3 rfl) ?_
      refine lv_iconst (pc := 365) (v := 1) hx hb dL_law_365 (by decide) ?_
      refine lv_iadd (pc := 366) hx hb dL_law_366 ?_
      refine va_sld (pc := 367) hx hb hX hbl hbA hS hi1 dL_law_367 ?_
      rw [ha1]
      refine lv_aload_n (pc := 368) hx hb dL_law_368 rfl (lv_at hl 0 rfl) ?_
      refine lv_iload_n (pc := 369) hx hb dL_law_369 rfl (lv_at hl 3 rfl) ?_
      refine lv_iconst (pc := 370) (v := 2) hx hb dL_law_370 (by decide) ?_
      refine lv_iadd (pc := 371) hx hb dL_law_371 ?_
      refine va_sld (pc := 372) hx hb hX hbl hbA hS hi2 dL_law_372 ?_
      rw [ha2]
      refine cVL (pc := 373) (rest := []) (st1 := [.int r]) (q0 := 0) hx hb hml hown hw (tX5_tunnel h1) hK hP hQ hD hS hA hN hW mL_L_56 kX5_tunnel nX5_tunnel rfl rfl rfl rfl ⟨by decide, by decide⟩ hl.1 (Nat.le_of_ble_eq_true rfl) ⟨Nat.le_refl _, Nat.le_refl _⟩ rfl dL_law_373 (fun H locs hP hQ hD hS => ?_)
      refine lv_aload_n (pc := 376) hx hb dL_law_376 rfl (lv_at hl 2 rfl) ?_
      refine lv_aload_n (pc := 377) hx hb dL_law_377 rfl (lv_at hl 0 rfl) ?_
      refine lv_iload_n (pc := 378) hx hb dL_law_378 rfl (lv_at hl 3 rfl) ?_
      refine lv_iconst (pc := 379) (v := 1) hx hb dL_law_379 (by decide) ?_
      refine lv_iadd (pc := 380) hx hb dL_law_380 ?_
      refine va_sld (pc := 381) hx hb hX hbl hbA hS hi1 dL_law_381 ?_
      rw [ha1]
      refine lv_aload_n (pc := 382) hx hb dL_law_382 rfl (lv_at hl 0 rfl) ?_
      refine lv_iload_n (pc := 383) hx hb dL_law_383 rfl (lv_at hl 3 rfl) ?_
      refine lv_iconst (pc := 384) (v := 2) hx hb dL_law_384 (by decide) ?_
      refine lv_iadd (pc := 385) hx hb dL_law_385 ?_
      refine va_sld (pc := 386) hx hb hX hbl hbA hS hi2 dL_law_386 ?_
      rw [ha2]
      refine cVL (pc := 387) (rest := [.int r]) (st1 := [.int r, .int r]) (q0 := 0) hx hb hml hown hw (tX6_tunnel h2) hK hQ hP hD.sym hS hA hN hW mL_L_59 kX6_tunnel nX6_tunnel rfl rfl rfl rfl ⟨by decide, by decide⟩ hl.1 (Nat.le_of_ble_eq_true rfl) ⟨Nat.le_refl _, Nat.le_refl _⟩ rfl dL_law_387 (fun H locs hQ hP hD hS => ?_)
      have hD := hD.sym
      refine lv_icmp_eq (pc := 390) (tgt := 606) hx hb dL_law_390 (by decide) (fun c99 => ?_) (fun c99 => absurd rfl c99)
      exact J606 σ τ _ _ _ h4 (ST.mono _ _ _ hI) hP hQ hD hS hl
    by_cases c32_11 : o = 11
    · refine lv_tableIn (pc := 32) (tgt := 395) hx hb dL_law_32 (by rw [c32_11] <;> decide) (by rw [c32_11] <;> decide) (by rw [c32_11] <;> rfl) (by decide) ?_
      obtain ⟨r, h1, h2⟩ := ST.aim_ i σ τ a1 a2 (by omega) hI
      refine lv_aload_n (pc := 395) hx hb dL_law_395 rfl (lv_at hl 1 rfl) ?_
      refine lv_aload_n (pc := 396) hx hb dL_law_396 rfl (lv_at hl 0 rfl) ?_
      refine lv_iload_n (pc := 397) hx hb dL_law_397 rfl (lv_at hl 3 rfl) ?_
      refine lv_iconst (pc := 398) (v := 1) hx hb dL_law_398 (by decide) ?_
      refine lv_iadd (pc := 399) hx hb dL_law_399 ?_
      refine va_sld (pc := 400) hx hb hX hbl hbA hS hi1 dL_law_400 ?_
      rw [ha1]
      refine lv_aload_n (pc := 401) hx hb dL_law_401 rfl (lv_at hl 0 rfl) ?_
      refine lv_iload_n (pc := 402) hx hb dL_law_402 rfl (lv_at hl 3 rfl) ?_
      refine lv_iconst (pc := 403) (v := 2) hx hb dL_law_403 (by decide) ?_
      refine lv_iadd (pc := 404) hx hb dL_law_404 ?_
      refine va_sld (pc := 405) hx hb hX hbl hbA hS hi2 dL_law_405 ?_
      rw [ha2]
      refine cVL (pc := 406) (rest := []) (st1 := [.int r]) (q0 := 0) hx hb hml hown hw (tX5_aim h1) hK hP hQ hD hS hA hN hW mL_L_60 kX5_aim nX5_aim rfl rfl rfl rfl ⟨by decide, by decide⟩ hl.1 (Nat.le_of_ble_eq_true rfl) ⟨Nat.le_refl _, Nat.le_refl _⟩ rfl dL_law_406 (fun H locs hP hQ hD hS => ?_)
      refine lv_aload_n (pc := 409) hx hb dL_law_409 rfl (lv_at hl 2 rfl) ?_
      refine lv_aload_n (pc := 410) hx hb dL_law_410 rfl (lv_at hl 0 rfl) ?_
      refine lv_iload_n (pc := 411) hx hb dL_law_411 rfl (lv_at hl 3 rfl) ?_
      refine lv_iconst (pc := 412) (v := 1) hx hb dL_law_412 (by decide) ?_
      refine lv_iadd (pc := 413) hx hb dL_law_413 ?_
      refine va_sld (pc := 414) hx hb hX hbl hbA hS hi1 dL_law_414 ?_
      rw [ha1]
      refine lv_aload_n (pc := 415) hx hb dL_law_415 rfl (lv_at hl 0 rfl) ?_
      refine lv_iload_n (pc := 416) hx hb dL_law_416 rfl (lv_at hl 3 rfl) ?_
      refine lv_iconst (pc := 417) (v := 2) hx hb dL_law_417 (by decide) ?_
      refine lv_iadd (pc := 418) hx hb dL_law_418 ?_
      refine va_sld (pc := 419) hx hb hX hbl hbA hS hi2 dL_law_419 ?_
      rw [ha2]
      refine cVL (pc := 420) (rest := [.int r]) (st1 := [.int r, .int r]) (q0 := 0) hx hb hml hown hw (tX6_aim h2) hK hQ hP hD.sym hS hA hN hW mL_L_63 kX6_aim nX6_aim rfl rfl rfl rfl ⟨by decide, by decide⟩ hl.1 (Nat.le_of_ble_eq_true rfl) ⟨Nat.le_refl _, Nat.le_refl _⟩ rfl dL_law_420 (fun H locs hQ hP hD hS => ?_)
      have hD := hD.sym
      refine lv_icmp_eq (pc := 423) (tgt := 606) hx hb dL_law_423 (by decide) (fun c99 => ?_) (fun c99 => absurd rfl c99)
      exact J606 σ τ _ _ _ h4 (ST.mono _ _ _ hI) hP hQ hD hS hl
    by_cases c32_12 : o = 12
    · refine lv_tableIn (pc := 32) (tgt := 428) hx hb dL_law_32 (by rw [c32_12] <;> decide) (by rw [c32_12] <;> decide) (by rw [c32_12] <;> rfl) (by decide) ?_
      obtain ⟨r, σ1, τ1, h1, h2, hI1⟩ := ST.heard_ i σ τ a1 a2 (by omega) hI
      refine lv_aload_n (pc := 428) hx hb dL_law_428 rfl (lv_at hl 1 rfl) ?_
      refine lv_aload_n (pc := 429) hx hb dL_law_429 rfl (lv_at hl 0 rfl) ?_
      refine lv_iload_n (pc := 430) hx hb dL_law_430 rfl (lv_at hl 3 rfl) ?_
      refine lv_iconst (pc := 431) (v := 1) hx hb dL_law_431 (by decide) ?_
      refine lv_iadd (pc := 432) hx hb dL_law_432 ?_
      refine va_sld (pc := 433) hx hb hX hbl hbA hS hi1 dL_law_433 ?_
      rw [ha1]
      refine lv_aload_n (pc := 434) hx hb dL_law_434 rfl (lv_at hl 0 rfl) ?_
      refine lv_iload_n (pc := 435) hx hb dL_law_435 rfl (lv_at hl 3 rfl) ?_
      refine lv_iconst (pc := 436) (v := 2) hx hb dL_law_436 (by decide) ?_
      refine lv_iadd (pc := 437) hx hb dL_law_437 ?_
      refine va_sld (pc := 438) hx hb hX hbl hbA hS hi2 dL_law_438 ?_
      rw [ha2]
      refine cVL (pc := 439) (rest := []) (st1 := [.int r]) (q0 := 0) hx hb hml hown hw (tX5_heard h1) hK hP hQ hD hS hA hN hW mL_L_64 kX5_heard nX5_heard rfl rfl rfl rfl ⟨by decide, by decide⟩ hl.1 (Nat.le_of_ble_eq_true rfl) ⟨Nat.le_refl _, Nat.le_refl _⟩ rfl dL_law_439 (fun H locs hP hQ hD hS => ?_)
      refine lv_aload_n (pc := 442) hx hb dL_law_442 rfl (lv_at hl 2 rfl) ?_
      refine lv_aload_n (pc := 443) hx hb dL_law_443 rfl (lv_at hl 0 rfl) ?_
      refine lv_iload_n (pc := 444) hx hb dL_law_444 rfl (lv_at hl 3 rfl) ?_
      refine lv_iconst (pc := 445) (v := 1) hx hb dL_law_445 (by decide) ?_
      refine lv_iadd (pc := 446) hx hb dL_law_446 ?_
      refine va_sld (pc := 447) hx hb hX hbl hbA hS hi1 dL_law_447 ?_
      rw [ha1]
      refine lv_aload_n (pc := 448) hx hb dL_law_448 rfl (lv_at hl 0 rfl) ?_
      refine lv_iload_n (pc := 449) hx hb dL_law_449 rfl (lv_at hl 3 rfl) ?_
      refine lv_iconst (pc := 450) (v := 2) hx hb dL_law_450 (by decide) ?_
      refine lv_iadd (pc := 451) hx hb dL_law_451 ?_
      refine va_sld (pc := 452) hx hb hX hbl hbA hS hi2 dL_law_452 ?_
      rw [ha2]
      refine cVL (pc := 453) (rest := [.int r]) (st1 := [.int r, .int r]) (q0 := 0) hx hb hml hown hw (tX6_heard h2) hK hQ hP hD.sym hS hA hN hW mL_L_67 kX6_heard nX6_heard rfl rfl rfl rfl ⟨by decide, by decide⟩ hl.1 (Nat.le_of_ble_eq_true rfl) ⟨Nat.le_refl _, Nat.le_refl _⟩ rfl dL_law_453 (fun H locs hQ hP hD hS => ?_)
      have hD := hD.sym
      refine lv_icmp_eq (pc := 456) (tgt := 606) hx hb dL_law_456 (by decide) (fun c99 => ?_) (fun c99 => absurd rfl c99)
      exact J606 σ1 τ1 _ _ _ h4 hI1 hP hQ hD hS hl
    by_cases c32_13 : o = 13
    · refine lv_tableIn (pc := 32) (tgt := 461) hx hb dL_law_32 (by rw [c32_13] <;> decide) (by rw [c32_13] <;> decide) (by rw [c32_13] <;> rfl) (by decide) ?_
      obtain ⟨r, σ1, τ1, h1, h2, hI1⟩ := ST.forget_ i σ τ (by omega) hI
      refine lv_aload_n (pc := 461) hx hb dL_law_461 rfl (lv_at hl 1 rfl) ?_
      refine cVL (pc := 462) (rest := []) (st1 := [.int r]) (q0 := 0) hx hb hml hown hw (tX5_forget h1) hK hP hQ hD hS hA hN hW mL_L_68 kX5_forget nX5_forget rfl rfl rfl rfl ⟨by decide, by decide⟩ hl.1 (Nat.le_of_ble_eq_true rfl) ⟨Nat.le_refl _, Nat.le_refl _⟩ rfl dL_law_462 (fun H locs hP hQ hD hS => ?_)
      refine lv_aload_n (pc := 465) hx hb dL_law_465 rfl (lv_at hl 2 rfl) ?_
      refine cVL (pc := 466) (rest := [.int r]) (st1 := [.int r, .int r]) (q0 := 0) hx hb hml hown hw (tX6_forget h2) hK hQ hP hD.sym hS hA hN hW mL_L_71 kX6_forget nX6_forget rfl rfl rfl rfl ⟨by decide, by decide⟩ hl.1 (Nat.le_of_ble_eq_true rfl) ⟨Nat.le_refl _, Nat.le_refl _⟩ rfl dL_law_466 (fun H locs hQ hP hD hS => ?_)
      have hD := hD.sym
      refine lv_icmp_eq (pc := 469) (tgt := 606) hx hb dL_law_469 (by decide) (fun c99 => ?_) (fun c99 => absurd rfl c99)
      exact J606 σ1 τ1 _ _ _ h4 hI1 hP hQ hD hS hl
    by_cases c32_14 : o = 14
    · refine lv_tableIn (pc := 32) (tgt := 474) hx hb dL_law_32 (by rw [c32_14] <;> decide) (by rw [c32_14] <;> decide) (by rw [c32_14] <;> rfl) (by decide) ?_
      obtain ⟨r, h1, h2⟩ := ST.began_ i σ τ (by omega) hI
      refine lv_aload_n (pc := 474) hx hb dL_law_474 rfl (lv_at hl 1 rfl) ?_
      refine cVL (pc := 475) (rest := []) (st1 := [.int r]) (q0 := 0) hx hb hml hown hw (tX5_began h1) hK hP hQ hD hS hA hN hW mL_L_72 kX5_began nX5_began rfl rfl rfl rfl ⟨by decide, by decide⟩ hl.1 (Nat.le_of_ble_eq_true rfl) ⟨Nat.le_refl _, Nat.le_refl _⟩ rfl dL_law_475 (fun H locs hP hQ hD hS => ?_)
      refine lv_aload_n (pc := 478) hx hb dL_law_478 rfl (lv_at hl 2 rfl) ?_
      refine cVL (pc := 479) (rest := [.int r]) (st1 := [.int r, .int r]) (q0 := 0) hx hb hml hown hw (tX6_began h2) hK hQ hP hD.sym hS hA hN hW mL_L_75 kX6_began nX6_began rfl rfl rfl rfl ⟨by decide, by decide⟩ hl.1 (Nat.le_of_ble_eq_true rfl) ⟨Nat.le_refl _, Nat.le_refl _⟩ rfl dL_law_479 (fun H locs hQ hP hD hS => ?_)
      have hD := hD.sym
      refine lv_icmp_eq (pc := 482) (tgt := 606) hx hb dL_law_482 (by decide) (fun c99 => ?_) (fun c99 => absurd rfl c99)
      exact J606 σ τ _ _ _ h4 (ST.mono _ _ _ hI) hP hQ hD hS hl
    by_cases c32_15 : o = 15
    · refine lv_tableIn (pc := 32) (tgt := 487) hx hb dL_law_32 (by rw [c32_15] <;> decide) (by rw [c32_15] <;> decide) (by rw [c32_15] <;> rfl) (by decide) ?_
      obtain ⟨r, σ1, τ1, h1, h2, hI1⟩ := ST.ask_ i σ τ (by omega) hI
      refine lv_aload_n (pc := 487) hx hb dL_law_487 rfl (lv_at hl 1 rfl) ?_
      refine cVL (pc := 488) (rest := []) (st1 := [.int r]) (q0 := 0) hx hb hml hown hw (tX5_ask h1) hK hP hQ hD hS hA hN hW mL_L_76 kX5_ask nX5_ask rfl rfl rfl rfl ⟨by decide, by decide⟩ hl.1 (Nat.le_of_ble_eq_true rfl) ⟨Nat.le_refl _, Nat.le_refl _⟩ rfl dL_law_488 (fun H locs hP hQ hD hS => ?_)
      refine lv_aload_n (pc := 491) hx hb dL_law_491 rfl (lv_at hl 2 rfl) ?_
      refine cVL (pc := 492) (rest := [.int r]) (st1 := [.int r, .int r]) (q0 := 0) hx hb hml hown hw (tX6_ask h2) hK hQ hP hD.sym hS hA hN hW mL_L_79 kX6_ask nX6_ask rfl rfl rfl rfl ⟨by decide, by decide⟩ hl.1 (Nat.le_of_ble_eq_true rfl) ⟨Nat.le_refl _, Nat.le_refl _⟩ rfl dL_law_492 (fun H locs hQ hP hD hS => ?_)
      have hD := hD.sym
      refine lv_icmp_eq (pc := 495) (tgt := 606) hx hb dL_law_495 (by decide) (fun c99 => ?_) (fun c99 => absurd rfl c99)
      exact J606 σ1 τ1 _ _ _ h4 hI1 hP hQ hD hS hl
    by_cases c32_16 : o = 16
    · refine lv_tableIn (pc := 32) (tgt := 500) hx hb dL_law_32 (by rw [c32_16] <;> decide) (by rw [c32_16] <;> decide) (by rw [c32_16] <;> rfl) (by decide) ?_
      obtain ⟨r, τ1, h1, h2, hI1⟩ := ST.markets_ i σ τ a1 a2 a3 (by omega) hI
      refine lv_aload_n (pc := 500) hx hb dL_law_500 rfl (lv_at hl 1 rfl) ?_
      refine lv_aload_n (pc := 501) hx hb dL_law_501 rfl (lv_at hl 0 rfl) ?_
      refine lv_iload_n (pc := 502) hx hb dL_law_502 rfl (lv_at hl 3 rfl) ?_
      refine lv_iconst (pc := 503) (v := 1) hx hb dL_law_503 (by decide) ?_
      refine lv_iadd (pc := 504) hx hb dL_law_504 ?_
      refine va_sld (pc := 505) hx hb hX hbl hbA hS hi1 dL_law_505 ?_
      rw [ha1]
      refine lv_aload_n (pc := 506) hx hb dL_law_506 rfl (lv_at hl 0 rfl) ?_
      refine lv_iload_n (pc := 507) hx hb dL_law_507 rfl (lv_at hl 3 rfl) ?_
      refine lv_iconst (pc := 508) (v := 2) hx hb dL_law_508 (by decide) ?_
      refine lv_iadd (pc := 509) hx hb dL_law_509 ?_
      refine va_sld (pc := 510) hx hb hX hbl hbA hS hi2 dL_law_510 ?_
      rw [ha2]
      refine lv_aload_n (pc := 511) hx hb dL_law_511 rfl (lv_at hl 0 rfl) ?_
      refine lv_iload_n (pc := 512) hx hb dL_law_512 rfl (lv_at hl 3 rfl) ?_
      refine lv_iconst (pc := 513) (v := 3) hx hb dL_law_513 (by decide) ?_
      refine lv_iadd (pc := 514) hx hb dL_law_514 ?_
      refine va_sld (pc := 515) hx hb hX hbl hbA hS hi3 dL_law_515 ?_
      rw [ha3]
      refine cVL (pc := 516) (rest := []) (st1 := [.int r]) (q0 := 0) hx hb hml hown hw (tX5_markets h1) hK hP hQ hD hS hA hN hW mL_L_80 kX5_markets nX5_markets rfl rfl rfl rfl ⟨by decide, by decide⟩ hl.1 (Nat.le_of_ble_eq_true rfl) ⟨Nat.le_refl _, Nat.le_refl _⟩ rfl dL_law_516 (fun H locs hP hQ hD hS => ?_)
      refine lv_aload_n (pc := 519) hx hb dL_law_519 rfl (lv_at hl 2 rfl) ?_
      refine lv_aload_n (pc := 520) hx hb dL_law_520 rfl (lv_at hl 0 rfl) ?_
      refine lv_iload_n (pc := 521) hx hb dL_law_521 rfl (lv_at hl 3 rfl) ?_
      refine lv_iconst (pc := 522) (v := 1) hx hb dL_law_522 (by decide) ?_
      refine lv_iadd (pc := 523) hx hb dL_law_523 ?_
      refine va_sld (pc := 524) hx hb hX hbl hbA hS hi1 dL_law_524 ?_
      rw [ha1]
      refine lv_aload_n (pc := 525) hx hb dL_law_525 rfl (lv_at hl 0 rfl) ?_
      refine lv_iload_n (pc := 526) hx hb dL_law_526 rfl (lv_at hl 3 rfl) ?_
      refine lv_iconst (pc := 527) (v := 2) hx hb dL_law_527 (by decide) ?_
      refine lv_iadd (pc := 528) hx hb dL_law_528 ?_
      refine va_sld (pc := 529) hx hb hX hbl hbA hS hi2 dL_law_529 ?_
      rw [ha2]
      refine lv_aload_n (pc := 530) hx hb dL_law_530 rfl (lv_at hl 0 rfl) ?_
      refine lv_iload_n (pc := 531) hx hb dL_law_531 rfl (lv_at hl 3 rfl) ?_
      refine lv_iconst (pc := 532) (v := 3) hx hb dL_law_532 (by decide) ?_
      refine lv_iadd (pc := 533) hx hb dL_law_533 ?_
      refine va_sld (pc := 534) hx hb hX hbl hbA hS hi3 dL_law_534 ?_
      rw [ha3]
      refine cVL (pc := 535) (rest := [.int r]) (st1 := [.int r, .int r]) (q0 := 0) hx hb hml hown hw (tX6_markets h2) hK hQ hP hD.sym hS hA hN hW mL_L_84 kX6_markets nX6_markets rfl rfl rfl rfl ⟨by decide, by decide⟩ hl.1 (Nat.le_of_ble_eq_true rfl) ⟨Nat.le_refl _, Nat.le_refl _⟩ rfl dL_law_535 (fun H locs hQ hP hD hS => ?_)
      have hD := hD.sym
      refine lv_icmp_eq (pc := 538) (tgt := 606) hx hb dL_law_538 (by decide) (fun c99 => ?_) (fun c99 => absurd rfl c99)
      exact J606 σ τ1 _ _ _ h4 hI1 hP hQ hD hS hl
    by_cases c32_17 : o = 17
    · refine lv_tableIn (pc := 32) (tgt := 543) hx hb dL_law_32 (by rw [c32_17] <;> decide) (by rw [c32_17] <;> decide) (by rw [c32_17] <;> rfl) (by decide) ?_
      obtain ⟨r, σ1, τ1, h1, h2, hI1⟩ := ST.image_ i σ τ (by omega) hI
      refine lv_aload_n (pc := 543) hx hb dL_law_543 rfl (lv_at hl 1 rfl) ?_
      refine cVL (pc := 544) (rest := []) (st1 := [.int r]) (q0 := 0) hx hb hml hown hw (tX5_image h1) hK hP hQ hD hS hA hN hW mL_L_85 kX5_image nX5_image rfl rfl rfl rfl ⟨by decide, by decide⟩ hl.1 (Nat.le_of_ble_eq_true rfl) ⟨Nat.le_refl _, Nat.le_refl _⟩ rfl dL_law_544 (fun H locs hP hQ hD hS => ?_)
      refine lv_aload_n (pc := 547) hx hb dL_law_547 rfl (lv_at hl 2 rfl) ?_
      refine cVL (pc := 548) (rest := [.int r]) (st1 := [.int r, .int r]) (q0 := 0) hx hb hml hown hw (tX6_image h2) hK hQ hP hD.sym hS hA hN hW mL_L_88 kX6_image nX6_image rfl rfl rfl rfl ⟨by decide, by decide⟩ hl.1 (Nat.le_of_ble_eq_true rfl) ⟨Nat.le_refl _, Nat.le_refl _⟩ rfl dL_law_548 (fun H locs hQ hP hD hS => ?_)
      have hD := hD.sym
      refine lv_icmp_eq (pc := 551) (tgt := 606) hx hb dL_law_551 (by decide) (fun c99 => ?_) (fun c99 => absurd rfl c99)
      exact J606 σ1 τ1 _ _ _ h4 hI1 hP hQ hD hS hl
    by_cases c32_18 : o = 18
    · refine lv_tableIn (pc := 32) (tgt := 556) hx hb dL_law_32 (by rw [c32_18] <;> decide) (by rw [c32_18] <;> decide) (by rw [c32_18] <;> rfl) (by decide) ?_
      obtain ⟨r, σ1, τ1, h1, h2, hI1⟩ := ST.restore_ i σ τ (by omega) hI
      refine lv_aload_n (pc := 556) hx hb dL_law_556 rfl (lv_at hl 1 rfl) ?_
      refine cVL (pc := 557) (rest := []) (st1 := [.int r]) (q0 := 0) hx hb hml hown hw (tX5_restore h1) hK hP hQ hD hS hA hN hW mL_L_89 kX5_restore nX5_restore rfl rfl rfl rfl ⟨by decide, by decide⟩ hl.1 (Nat.le_of_ble_eq_true rfl) ⟨Nat.le_refl _, Nat.le_refl _⟩ rfl dL_law_557 (fun H locs hP hQ hD hS => ?_)
      refine lv_aload_n (pc := 560) hx hb dL_law_560 rfl (lv_at hl 2 rfl) ?_
      refine cVL (pc := 561) (rest := [.int r]) (st1 := [.int r, .int r]) (q0 := 0) hx hb hml hown hw (tX6_restore h2) hK hQ hP hD.sym hS hA hN hW mL_L_92 kX6_restore nX6_restore rfl rfl rfl rfl ⟨by decide, by decide⟩ hl.1 (Nat.le_of_ble_eq_true rfl) ⟨Nat.le_refl _, Nat.le_refl _⟩ rfl dL_law_561 (fun H locs hQ hP hD hS => ?_)
      have hD := hD.sym
      refine lv_icmp_eq (pc := 564) (tgt := 606) hx hb dL_law_564 (by decide) (fun c99 => ?_) (fun c99 => absurd rfl c99)
      exact J606 σ1 τ1 _ _ _ h4 hI1 hP hQ hD hS hl
    by_cases c32_19 : o = 19
    · refine lv_tableIn (pc := 32) (tgt := 569) hx hb dL_law_32 (by rw [c32_19] <;> decide) (by rw [c32_19] <;> decide) (by rw [c32_19] <;> rfl) (by decide) ?_
      obtain ⟨r, h1, h2⟩ := ST.count_ i σ τ a1 (by omega) hI
      refine lv_aload_n (pc := 569) hx hb dL_law_569 rfl (lv_at hl 1 rfl) ?_
      refine lv_aload_n (pc := 570) hx hb dL_law_570 rfl (lv_at hl 0 rfl) ?_
      refine lv_iload_n (pc := 571) hx hb dL_law_571 rfl (lv_at hl 3 rfl) ?_
      refine lv_iconst (pc := 572) (v := 1) hx hb dL_law_572 (by decide) ?_
      refine lv_iadd (pc := 573) hx hb dL_law_573 ?_
      refine va_sld (pc := 574) hx hb hX hbl hbA hS hi1 dL_law_574 ?_
      rw [ha1]
      refine cVL (pc := 575) (rest := []) (st1 := [.int r]) (q0 := 0) hx hb hml hown hw (tX5_count h1) hK hP hQ hD hS hA hN hW mL_L_93 kX5_count nX5_count rfl rfl rfl rfl ⟨by decide, by decide⟩ hl.1 (Nat.le_of_ble_eq_true rfl) ⟨Nat.le_refl _, Nat.le_refl _⟩ rfl dL_law_575 (fun H locs hP hQ hD hS => ?_)
      refine lv_aload_n (pc := 578) hx hb dL_law_578 rfl (lv_at hl 2 rfl) ?_
      refine lv_aload_n (pc := 579) hx hb dL_law_579 rfl (lv_at hl 0 rfl) ?_
      refine lv_iload_n (pc := 580) hx hb dL_law_580 rfl (lv_at hl 3 rfl) ?_
      refine lv_iconst (pc := 581) (v := 1) hx hb dL_law_581 (by decide) ?_
      refine lv_iadd (pc := 582) hx hb dL_law_582 ?_
      refine va_sld (pc := 583) hx hb hX hbl hbA hS hi1 dL_law_583 ?_
      rw [ha1]
      refine cVL (pc := 584) (rest := [.int r]) (st1 := [.int r, .int r]) (q0 := 0) hx hb hml hown hw (tX6_count h2) hK hQ hP hD.sym hS hA hN hW mL_L_96 kX6_count nX6_count rfl rfl rfl rfl ⟨by decide, by decide⟩ hl.1 (Nat.le_of_ble_eq_true rfl) ⟨Nat.le_refl _, Nat.le_refl _⟩ rfl dL_law_584 (fun H locs hQ hP hD hS => ?_)
      have hD := hD.sym
      refine lv_icmp_eq (pc := 587) (tgt := 606) hx hb dL_law_587 (by decide) (fun c99 => ?_) (fun c99 => absurd rfl c99)
      exact J606 σ τ _ _ _ h4 (ST.mono _ _ _ hI) hP hQ hD hS hl
    by_cases c32_20 : o = 20
    · refine lv_tableIn (pc := 32) (tgt := 592) hx hb dL_law_32 (by rw [c32_20] <;> decide) (by rw [c32_20] <;> decide) (by rw [c32_20] <;> rfl) (by decide) ?_
      obtain ⟨r, σ1, τ1, h1, h2, hI1⟩ := ST.digest_ i σ τ (by omega) hI
      refine lv_aload_n (pc := 592) hx hb dL_law_592 rfl (lv_at hl 1 rfl) ?_
      refine cVL (pc := 593) (rest := []) (st1 := [.long r]) (q0 := 0) hx hb hml hown hw (tX5_digest h1) hK hP hQ hD hS hA hN hW mL_L_97 kX5_digest nX5_digest rfl rfl rfl rfl ⟨by decide, by decide⟩ hl.1 (Nat.le_of_ble_eq_true rfl) ⟨Nat.le_refl _, Nat.le_refl _⟩ rfl dL_law_593 (fun H locs hP hQ hD hS => ?_)
      refine lv_aload_n (pc := 596) hx hb dL_law_596 rfl (lv_at hl 2 rfl) ?_
      refine cVL (pc := 597) (rest := [.long r]) (st1 := [.long r, .long r]) (q0 := 0) hx hb hml hown hw (tX6_digest h2) hK hQ hP hD.sym hS hA hN hW mL_L_101 kX6_digest nX6_digest rfl rfl rfl rfl ⟨by decide, by decide⟩ hl.1 (Nat.le_of_ble_eq_true rfl) ⟨Nat.le_refl _, Nat.le_refl _⟩ rfl dL_law_597 (fun H locs hQ hP hD hS => ?_)
      have hD := hD.sym
      refine W.lcmp (pc := 600) hx hb dL_law_600 ?_
      refine lv_if_eq (pc := 601) (tgt := 606) hx hb dL_law_601 (by decide) (fun c99 => ?_) (fun c99 => absurd (lcmp_self r) c99)
      exact J606 σ1 τ1 _ _ _ h4 hI1 hP hQ hD hS hl
    refine lv_tableOut (pc := 32) (tgt := 606) hx hb dL_law_32 (sw_0_20 (lv_neT (a := 0) c32_0 rfl) (lv_neT (a := 1) c32_1 rfl) (lv_neT (a := 2) c32_2 rfl) (lv_neT (a := 3) c32_3 rfl) (lv_neT (a := 4) c32_4 rfl) (lv_neT (a := 5) c32_5 rfl) (lv_neT (a := 6) c32_6 rfl) (lv_neT (a := 7) c32_7 rfl) (lv_neT (a := 8) c32_8 rfl) (lv_neT (a := 9) c32_9 rfl) (lv_neT (a := 10) c32_10 rfl) (lv_neT (a := 11) c32_11 rfl) (lv_neT (a := 12) c32_12 rfl) (lv_neT (a := 13) c32_13 rfl) (lv_neT (a := 14) c32_14 rfl) (lv_neT (a := 15) c32_15 rfl) (lv_neT (a := 16) c32_16 rfl) (lv_neT (a := 17) c32_17 rfl) (lv_neT (a := 18) c32_18 rfl) (lv_neT (a := 19) c32_19 rfl) (lv_neT (a := 20) c32_20 rfl)) (by decide) ?_
    exact J606 σ τ _ _ _ h4 (ST.mono _ _ _ hI) hP hQ hD hS hl
