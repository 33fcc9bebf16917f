/-! fractions in lowest terms: the two ways agree where they are asked -/
def fr_both (u : Nat) (l : Int32) (v : Nat) : Bool := (fX5_fraction (nI u - 192) l (nI v)).isSome && decide (fX5_fraction (nI u - 192) l (nI v) = fX6_fraction (nI u - 192) l (nI v))
theorem fr_24 : ∀ u, u < 385 → ∀ v, v < 2 → fr_both u 24 v = true := by decide +kernel
theorem fr_6 : ∀ u, u < 385 → ∀ v, v < 2 → fr_both u 6 v = true := by decide +kernel
theorem fr_b2 : ∀ u, u < 385 → ∀ v, v < 2 → fr_both u 2 v = true := by decide +kernel
theorem fr_b1 : ∀ u, u < 385 → ∀ v, v < 2 → fr_both u 1 v = true := by decide +kernel
theorem fr_luck : ∀ l, l < 8 → ∀ u, u < 9 → ∀ v, v < 2 → fr_both (192 + u) (nI (l + 1)) v = true := by decide +kernel
