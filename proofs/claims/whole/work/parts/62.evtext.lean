/-- a text of the class (Law t) beside the reference's (its row in group G): key, leaves, steps, well formed -/
def TxR (G : Nat) (σ τ : Mem) (t : Nat) : Prop := ∃ key len : Nat, key < 3 ∧ 1 ≤ len ∧ len ≤ 96 ∧ σ 1 t 0 = nI key ∧ τ G 0 (108 + 200 * t) = nI key ∧ σ 1 t 1 = τ G 0 (109 + 200 * t) ∧ σ 1 t 3 = nI len ∧ τ G 0 (110 + 200 * t) = nI len ∧
  (∀ j, j < len → encS key (σ 11 t j) (τ G 0 (112 + 200 * t + 2 * j)) (τ G 0 (113 + 200 * t + 2 * j))) ∧ WFc (fun j => σ 11 t j) len
theorem ev_text {σ τ : Mem} {t key : Nat} {a1 a2 a3 : Int32} (ht : t < 14) (h : TxR 22 σ τ t) (hk : σ 1 t 0 = nI key) (hkey : key < 3) (hnm : ∀ p, p < [3, 2, 2].getD key 0 → τ 37 0 (letV key p) = nmV p a1 a2 a3) :
    ∃ r σ' τ', f_X2_gives (nI t) a1 a2 a3 σ = some (r, σ') ∧ f_X8_worked (nI t) τ = some (r, τ') ∧ (∀ g, g ≠ 10 → σ' g = σ g) ∧ (∀ g, g ≠ 38 → τ' g = τ g) := by
  obtain ⟨ky, len, k1, k2, k3, k4, k5, k6, k7, k8, k9, k10⟩ := h
  have hky : ky = key := (nI_eq (by omega) (by omega)).mp (k4.symm.trans hk)
  subst hky
  obtain ⟨σ', τ', q1, q2, q3, q4, q5⟩ := ev_loop (a1 := a1) (a2 := a2) (a3 := a3) (nm := fun j => τ 37 0 j) ht k3 k1 k9 k10.1 hnm len 0 FU FU σ τ (by omega) (fu_gt (by omega)) (fu_gt (by omega)) k7 (fun _ _ => rfl) k8 (fun _ _ => ⟨rfl, rfl⟩) (fun _ => rfl) (fun i hi => absurd hi (Nat.not_lt_zero _))
  refine ⟨σ' 10 0 0, σ', τ', ?_, ?_, q4, q5⟩
  · unfold f_X2_gives
    rw [ix_nI (by omega) (by decide), bnd_s]
    refine (q1 _).trans ?_
    rw [show ix 96 (0 : Int32) = some 0 from by decide +kernel, bnd_s]
  · unfold f_X8_worked
    refine (q2 _).trans ?_
    rw [show ix 100 (0 : Int32) = some 0 from by decide +kernel, bnd_s, q3 0 k10.2]
