theorem pure_law : ∀ (L : Nat) (ys : Nat → Int32), L ≤ 3072 → ∃ σ2, f_law L ys FU 0 σ0 (fun σ => some (1, σ)) = some (1, σ2) := by
  sorry
