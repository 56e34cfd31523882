theorem pure_law : ∀ (L : Nat) (ys : Nat → Int32), L ≤ 3072 → ∃ σ2, f_law L ys FU 0 σ0 (fun σ => some (1, σ)) = some (1, σ2) := by
  intro L ys hL
  exact law_loop hL L 0 FU σ0 RR2_0 (by omega) (by omega) (fu_gt (by omega))
