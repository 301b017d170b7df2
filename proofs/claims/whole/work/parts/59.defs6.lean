theorem eqp_first {u w : Nat → Int32} : ∀ {k : Nat}, eqp u w k = false → ∃ q, q < k ∧ (∀ i, i < q → u i = w i) ∧ ¬ u q = w q
  | 0, h => by cases h
  | k + 1, h => by
    rcases bool2 (eqp u w k) with h1 | h1
    · refine ⟨k, Nat.lt_succ_self k, fun i hi => eqp_of h1 i hi, fun h2 => ?_⟩
      rw [eqp_yes h1 h2] at h
      cases h
    · obtain ⟨q, h2, h3, h4⟩ := eqp_first h1
      exact ⟨q, by omega, h3, h4⟩
