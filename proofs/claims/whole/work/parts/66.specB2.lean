theorem irI_m {o : Option Nat} (h : ∀ j, o = some j → j < 2 ^ 31) : irI o = -1 ↔ o = none := by
  cases o with
  | none => exact ⟨fun _ => rfl, fun _ => rfl⟩
  | some j => exact ⟨fun e => absurd e (nI_neg1 (h j rfl)), fun e => by cases e⟩
theorem spB_e {S : St} {c r : Nat} (h : r < 31) : spB S c r = splA S c (nI r) := if_pos h
