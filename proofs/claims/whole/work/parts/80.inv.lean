def Inv0 (k : Nat) (σ : SC) (τ : SM) : Prop := True
theorem lawOK : LawOK 100 Inv0 := sorry
theorem inv00 : Inv0 0 σ00 τ00 := trivial
