theorem irI_s {o : Option Nat} {p : Nat} (h : ∀ j, o = some j → j < 2 ^ 31) (hp : p < 2 ^ 31) : irI o = nI p ↔ o = some p := by
  cases o with
  | none => exact ⟨fun e => absurd e.symm (nI_neg1 hp), fun e => by cases e⟩
  | some j => exact ⟨fun e => congrArg some ((nI_eq (h j rfl) hp).mp e), fun e => by rw [Option.some.inj e]; rfl⟩
