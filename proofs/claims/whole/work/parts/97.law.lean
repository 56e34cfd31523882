-- the law, call by call
theorem RR2_c {σ τ σ' τ' : Mem} (W : RR2 σ τ) (hs : ∀ g i, RgC g i → σ' g i = σ g i) (ht : ∀ g i, RgM g i → τ' g i = τ g i) : RR2 σ' τ' := by
  obtain ⟨n, nv, nt, N, h1, h2, h3, h4, h5⟩ := W
  have s : ∀ g, g < 22 → g ≠ 8 → σ' g = σ g := fun g h1 h2 => funext (fun i => hs g i ⟨h2, h1⟩)
  have m8 : τ' 8 = τ 8 := funext (fun i => ht 8 i (Or.inl rfl))
  have m : ∀ g, 22 ≤ g → τ' g = τ g := fun g h => funext (fun i => ht g i (Or.inr h))
  refine ⟨n, nv, nt, RNow_eq N (fun g hg => s g (by omega) (by omega)) (fun j _ => by rw [s 3 (by decide) (by decide)]) (m 22 (by decide)), ?_, ?_, ?_, ?_, ?_⟩
  · exact RImg_eq h1 (by rw [s 7 (by decide) (by decide)]) (by rw [m8]) (fun g hg => s g (by omega) (by omega)) (fun j _ => by rw [s 3 (by decide) (by decide)]) (m 23 (by decide))
  · exact RTape_fr h2 (by rw [s 7 (by decide) (by decide)]) (by rw [m8]) (s 17 (by decide) (by decide)) (m 36 (by decide))
  · exact RWait_fr h3 (by rw [s 7 (by decide) (by decide)]) (by rw [m8]) (s 18 (by decide) (by decide)) (m 40 (by decide))
  · exact RSheet_fr h4 (fun k _ => by rw [s 5 (by decide) (by decide)]) (fun k _ => by rw [s 20 (by decide) (by decide)]) (m 25 (by decide)) (m 26 (by decide)) (m 27 (by decide))
  · exact RSlot_fr h5 (s 6 (by decide) (by decide)) (fun k _ => by rw [s 3 (by decide) (by decide)]) (fun k _ => by rw [s 5 (by decide) (by decide)]) (fun k _ => by rw [s 20 (by decide) (by decide)]) (m 28 (by decide)) (m 29 (by decide)) (m 30 (by decide)) (m 31 (by decide)) (m 32 (by decide))
theorem nCM {g i : Nat} (h : RgC g i) : ¬ RgM g i := by unfold RgC at h; unfold RgM; omega
theorem nMC {g i : Nat} (h : RgM g i) : ¬ RgC g i := by unfold RgM at h; unfold RgC; omega
theorem law_A {A B : Mem → Option (Int32 × Mem)} {σ : Mem} (W : RR2 σ σ) (hop : ∀ s t, RR2 s t → LkS (A s) (B t) RR2) (frA : ∀ s res, A s = some res → Fm RgC s res.2) (frB : ∀ s res, B s = some res → Fm RgM s res.2) : ∃ r σ1 σ2, A σ = some (r, σ1) ∧ B σ1 = some (r, σ2) ∧ RR2 σ2 σ2 := by
  obtain ⟨r, σ1, -, a1, -, -⟩ := hop σ σ W
  have F1 : Fm RgC σ σ1 := frA σ _ a1
  obtain ⟨r', σ1', τ2, b1, b2, b3⟩ := hop σ σ1 (RR2_c W (fun _ _ _ => rfl) (fun g i h => F1 g i (nMC h)))
  rw [a1] at b1
  cases b1
  have F2 : Fm RgM σ1 τ2 := frB σ1 _ b2
  exact ⟨r, σ1, τ2, a1, b2, RR2_c b3 (fun g i h => F2 g i (nCM h)) (fun _ _ _ => rfl)⟩
theorem law_C {A : Mem → Option Int32} {B : Mem → Option (Int32 × Mem)} {σ : Mem} (W : RR2 σ σ) (hop : ∀ s t, RR2 s t → LkM (A s) (B t) s) (frB : ∀ s res, B s = some res → Fm RgM s res.2) : ∃ r σ2, A σ = some r ∧ B σ = some (r, σ2) ∧ RR2 σ2 σ2 := by
  obtain ⟨r, τ2, b1, b2, b3⟩ := hop σ σ W
  have F2 : Fm RgM σ τ2 := frB σ _ b2
  exact ⟨r, τ2, b1, b2, RR2_c b3 (fun g i h => F2 g i (nCM h)) (fun _ _ _ => rfl)⟩
theorem RR2_0 : RR2 σ0 σ0 := by
  refine ⟨0, 0, 0, ⟨⟨⟨by decide +kernel, by decide +kernel, by decide⟩, ⟨by decide +kernel, by decide +kernel, by decide⟩, fun j hj => absurd hj (Nat.not_lt_zero _), fun v hv => absurd hv (Nat.not_lt_zero _), ⟨by decide +kernel, by decide +kernel, by decide +kernel, by decide +kernel⟩, by decide +kernel, by decide +kernel, by decide, fun k hk => ?_⟩, by decide, fun t ht => absurd ht (Nat.not_lt_zero _), 0, by decide, by decide +kernel⟩, Or.inl ⟨by decide +kernel, by decide +kernel⟩, ⟨0, by decide, by decide +kernel, by decide +kernel, fun j hj => absurd hj (Nat.not_lt_zero _)⟩, ⟨0, by decide, by decide +kernel, by decide +kernel, fun j hj => absurd hj (Nat.not_lt_zero _)⟩, fun k hk => ?_, fun k hk => ?_⟩
  · rcases (show k = 0 ∨ k = 1 ∨ k = 2 by omega) with rfl | rfl | rfl
    · show σ0 16 0 0 = -1; decide +kernel
    · show σ0 16 0 1 = -1; decide +kernel
    · show σ0 16 0 2 = -1; decide +kernel
  · rcases (show k = 0 ∨ k = 1 ∨ k = 2 ∨ k = 3 by omega) with rfl | rfl | rfl | rfl
    · exact ⟨0, by decide, by decide +kernel, Or.inl (by decide +kernel), by decide +kernel, by decide +kernel, fun j hj => absurd hj (Nat.not_lt_zero _)⟩
    · exact ⟨0, by decide, by decide +kernel, Or.inl (by decide +kernel), by decide +kernel, by decide +kernel, fun j hj => absurd hj (Nat.not_lt_zero _)⟩
    · exact ⟨0, by decide, by decide +kernel, Or.inl (by decide +kernel), by decide +kernel, by decide +kernel, fun j hj => absurd hj (Nat.not_lt_zero _)⟩
    · exact ⟨0, by decide, by decide +kernel, Or.inl (by decide +kernel), by decide +kernel, by decide +kernel, fun j hj => absurd hj (Nat.not_lt_zero _)⟩
  · rcases (show k = 0 ∨ k = 1 ∨ k = 2 ∨ k = 3 ∨ k = 4 by omega) with rfl | rfl | rfl | rfl | rfl
    · exact ⟨by decide +kernel, Or.inl (by decide +kernel)⟩
    · exact ⟨by decide +kernel, Or.inl (by decide +kernel)⟩
    · exact ⟨by decide +kernel, Or.inl (by decide +kernel)⟩
    · exact ⟨by decide +kernel, Or.inl (by decide +kernel)⟩
    · exact ⟨by decide +kernel, Or.inl (by decide +kernel)⟩
set_option maxHeartbeats 8000000 in
theorem law_loop {L : Nat} {ys : Nat → Int32} (hL : L ≤ 3072) : ∀ (m i N : Nat) (σ : Mem), RR2 σ σ → i ≤ 3078 → L - i ≤ m → m < N → ∃ σ2, f_law L ys N (nI i) σ (fun σ => some (1, σ)) = some (1, σ2) := by
  intro m
  induction m with
  | zero =>
    intro i N σ W hi hm hN
    obtain ⟨N, rfl, -⟩ := succ_of hN
    have hc : (Int32.ofNat L) - (6 : Int32) < nI i := by
      rw [show Int32.ofNat L = nI L from rfl, pl_lt32, pl_sub (by rw [nI_toInt (by omega), show (6 : Int32).toInt = 6 from rfl]; omega) (by rw [nI_toInt (by omega), show (6 : Int32).toInt = 6 from rfl]; omega), nI_toInt (by omega), nI_toInt (by omega), show (6 : Int32).toInt = 6 from rfl]
      omega
    refine ⟨σ, ?_⟩
    rw [f_law.eq_2, if_pos hc]
  | succ m ih =>
    intro i N σ W hi hm hN
    obtain ⟨N, rfl, hN⟩ := succ_of hN
    by_cases hend : L < i + 6
    · have hc : (Int32.ofNat L) - (6 : Int32) < nI i := by
        rw [show Int32.ofNat L = nI L from rfl, pl_lt32, pl_sub (by rw [nI_toInt (by omega), show (6 : Int32).toInt = 6 from rfl]; omega) (by rw [nI_toInt (by omega), show (6 : Int32).toInt = 6 from rfl]; omega), nI_toInt (by omega), nI_toInt (by omega), show (6 : Int32).toInt = 6 from rfl]
        omega
      refine ⟨σ, ?_⟩
      rw [f_law.eq_2, if_pos hc]
    have hc : ¬ (Int32.ofNat L) - (6 : Int32) < nI i := by
      rw [show Int32.ofNat L = nI L from rfl, pl_lt32, pl_sub (by rw [nI_toInt (by omega), show (6 : Int32).toInt = 6 from rfl]; omega) (by rw [nI_toInt (by omega), show (6 : Int32).toInt = 6 from rfl]; omega), nI_toInt (by omega), nI_toInt (by omega), show (6 : Int32).toInt = 6 from rfl]
      omega
    have i0 : ix L (nI i) = some i := ix_nI (by omega) (by omega)
    have i1 : ix L (nI i + (1 : Int32)) = some (i + 1) := ix_eq (nI_add i 1) (by omega) (by omega)
    have i2 : ix L (nI i + (2 : Int32)) = some (i + 2) := ix_eq (nI_add i 2) (by omega) (by omega)
    have i3 : ix L (nI i + (3 : Int32)) = some (i + 3) := ix_eq (nI_add i 3) (by omega) (by omega)
    have i4 : ix L (nI i + (4 : Int32)) = some (i + 4) := ix_eq (nI_add i 4) (by omega) (by omega)
    have i5 : ix L (nI i + (5 : Int32)) = some (i + 5) := ix_eq (nI_add i 5) (by omega) (by omega)
    have i6 : nI i + (6 : Int32) = nI (i + 6) := nI_add i 6
    have go : ∀ s, RR2 s s → ∃ σ2, f_law L ys N (nI (i + 6)) s (fun σ => some (1, σ)) = some (1, σ2) := fun s w => ih (i + 6) N s w (by omega) (by omega) (by omega)
    rw [f_law.eq_2, if_neg hc, i0, bnd_s]
    by_cases h0 : ys i &&& 63 = 0
    · rw [if_pos h0]
      simp only [i1, i2, i3, bnd_s]
      obtain ⟨r, σ1, σ2, hA, hB, hW⟩ := law_A (A := fun s => f_X7_person (ys (i + 1)) (ys (i + 2)) (ys (i + 3)) s) (B := fun s => f_X8_person (ys (i + 1)) (ys (i + 2)) (ys (i + 3)) s) W (fun s t w => op_person w _ _ _) (fun s res h => fr_X7_person h) (fun s res h => fr_X8_person h)
      have hA : f_X7_person (ys (i + 1)) (ys (i + 2)) (ys (i + 3)) σ = some (r, σ1) := hA
      have hB : f_X8_person (ys (i + 1)) (ys (i + 2)) (ys (i + 3)) σ1 = some (r, σ2) := hB
      rw [hA, bnd_s]
      show ∃ σ3, bnd (f_X8_person (ys (i + 1)) (ys (i + 2)) (ys (i + 3)) σ1) _ = some (1, σ3)
      rw [hB, bnd_s]
      show ∃ σ3, (if r = r then f_law L ys N (nI i + (6 : Int32)) σ2 _ else _) = some (1, σ3)
      rw [if_pos rfl, i6]
      exact go σ2 hW
    rw [if_neg h0]
    by_cases h1 : ys i &&& 63 = 1
    · rw [if_pos h1]
      simp only [i1, i2, bnd_s]
      obtain ⟨r, hA, hB⟩ := op_told W (ys (i + 1)) (ys (i + 2))
      rw [hA, bnd_s, hB, bnd_s, if_pos rfl, i6]
      exact go σ W
    rw [if_neg h1]
    by_cases h2 : ys i &&& 63 = 2
    · rw [if_pos h2]
      simp only [i1, i2, bnd_s]
      obtain ⟨r, hA, hB⟩ := op_as W (ys (i + 1)) (ys (i + 2))
      rw [hA, bnd_s, hB, bnd_s, if_pos rfl, i6]
      exact go σ W
    rw [if_neg h2]
    by_cases h3 : ys i &&& 63 = 3
    · rw [if_pos h3]
      simp only [i1, i2, bnd_s]
      obtain ⟨r, σ1, σ2, hA, hB, hW⟩ := law_A (A := fun s => f_X7_turns (ys (i + 1)) (ys (i + 2)) s) (B := fun s => f_X8_turns (ys (i + 1)) (ys (i + 2)) s) W (fun s t w => op_turns w _ _) (fun s res h => fr_X7_turns h) (fun s res h => fr_X8_turns h)
      have hA : f_X7_turns (ys (i + 1)) (ys (i + 2)) σ = some (r, σ1) := hA
      have hB : f_X8_turns (ys (i + 1)) (ys (i + 2)) σ1 = some (r, σ2) := hB
      rw [hA, bnd_s]
      show ∃ σ3, bnd (f_X8_turns (ys (i + 1)) (ys (i + 2)) σ1) _ = some (1, σ3)
      rw [hB, bnd_s]
      show ∃ σ3, (if r = r then f_law L ys N (nI i + (6 : Int32)) σ2 _ else _) = some (1, σ3)
      rw [if_pos rfl, i6]
      exact go σ2 hW
    rw [if_neg h3]
    by_cases h4 : ys i &&& 63 = 4
    · rw [if_pos h4]
      simp only [i1, i2, i3, bnd_s]
      obtain ⟨r, σ1, σ2, hA, hB, hW⟩ := law_A (A := fun s => f_X7_set (ys (i + 1)) (ys (i + 2)) (ys (i + 3)) s) (B := fun s => f_X8_set (ys (i + 1)) (ys (i + 2)) (ys (i + 3)) s) W (fun s t w => op_set w _ _ _) (fun s res h => fr_X7_set h) (fun s res h => fr_X8_set h)
      have hA : f_X7_set (ys (i + 1)) (ys (i + 2)) (ys (i + 3)) σ = some (r, σ1) := hA
      have hB : f_X8_set (ys (i + 1)) (ys (i + 2)) (ys (i + 3)) σ1 = some (r, σ2) := hB
      rw [hA, bnd_s]
      show ∃ σ3, bnd (f_X8_set (ys (i + 1)) (ys (i + 2)) (ys (i + 3)) σ1) _ = some (1, σ3)
      rw [hB, bnd_s]
      show ∃ σ3, (if r = r then f_law L ys N (nI i + (6 : Int32)) σ2 _ else _) = some (1, σ3)
      rw [if_pos rfl, i6]
      exact go σ2 hW
    rw [if_neg h4]
    by_cases h5 : ys i &&& 63 = 5
    · rw [if_pos h5]
      simp only [i1, i2, i3, bnd_s]
      obtain ⟨r, σ1, σ2, hA, hB, hW⟩ := law_A (A := fun s => f_X7_vow (ys (i + 1)) (ys (i + 2)) (ys (i + 3)) s) (B := fun s => f_X8_vow (ys (i + 1)) (ys (i + 2)) (ys (i + 3)) s) W (fun s t w => op_vow w _ _ _) (fun s res h => fr_X7_vow h) (fun s res h => fr_X8_vow h)
      have hA : f_X7_vow (ys (i + 1)) (ys (i + 2)) (ys (i + 3)) σ = some (r, σ1) := hA
      have hB : f_X8_vow (ys (i + 1)) (ys (i + 2)) (ys (i + 3)) σ1 = some (r, σ2) := hB
      rw [hA, bnd_s]
      show ∃ σ3, bnd (f_X8_vow (ys (i + 1)) (ys (i + 2)) (ys (i + 3)) σ1) _ = some (1, σ3)
      rw [hB, bnd_s]
      show ∃ σ3, (if r = r then f_law L ys N (nI i + (6 : Int32)) σ2 _ else _) = some (1, σ3)
      rw [if_pos rfl, i6]
      exact go σ2 hW
    rw [if_neg h5]
    by_cases h6 : ys i &&& 63 = 6
    · rw [if_pos h6]
      simp only [i1, i2, bnd_s]
      obtain ⟨r, σ1, σ2, hA, hB, hW⟩ := law_A (A := fun s => f_X7_vowOf (ys (i + 1)) (ys (i + 2)) s) (B := fun s => f_X8_vowOf (ys (i + 1)) (ys (i + 2)) s) W (fun s t w => op_vowOf w _ _) (fun s res h => fr_X7_vowOf h) (fun s res h => fr_X8_vowOf h)
      have hA : f_X7_vowOf (ys (i + 1)) (ys (i + 2)) σ = some (r, σ1) := hA
      have hB : f_X8_vowOf (ys (i + 1)) (ys (i + 2)) σ1 = some (r, σ2) := hB
      rw [hA, bnd_s]
      show ∃ σ3, bnd (f_X8_vowOf (ys (i + 1)) (ys (i + 2)) σ1) _ = some (1, σ3)
      rw [hB, bnd_s]
      show ∃ σ3, (if r = r then f_law L ys N (nI i + (6 : Int32)) σ2 _ else _) = some (1, σ3)
      rw [if_pos rfl, i6]
      exact go σ2 hW
    rw [if_neg h6]
    by_cases h7 : ys i &&& 63 = 7
    · rw [if_pos h7]
      simp only [i1, bnd_s]
      obtain ⟨r, σ1, σ2, hA, hB, hW⟩ := law_A (A := fun s => f_X7_breaks (ys (i + 1)) s) (B := fun s => f_X8_breaks (ys (i + 1)) s) W (fun s t w => op_breaks w _) (fun s res h => fr_X7_breaks h) (fun s res h => fr_X8_breaks h)
      have hA : f_X7_breaks (ys (i + 1)) σ = some (r, σ1) := hA
      have hB : f_X8_breaks (ys (i + 1)) σ1 = some (r, σ2) := hB
      rw [hA, bnd_s]
      show ∃ σ3, bnd (f_X8_breaks (ys (i + 1)) σ1) _ = some (1, σ3)
      rw [hB, bnd_s]
      show ∃ σ3, (if r = r then f_law L ys N (nI i + (6 : Int32)) σ2 _ else _) = some (1, σ3)
      rw [if_pos rfl, i6]
      exact go σ2 hW
    rw [if_neg h7]
    by_cases h8 : ys i &&& 63 = 8
    · rw [if_pos h8]
      obtain ⟨r, σ1, σ2, hA, hB, hW⟩ := law_A (A := fun s => f_X7_eclipse s) (B := fun s => f_X8_eclipse s) W (fun s t w => op_eclipse w) (fun s res h => fr_X7_eclipse h) (fun s res h => fr_X8_eclipse h)
      have hA : f_X7_eclipse σ = some (r, σ1) := hA
      have hB : f_X8_eclipse σ1 = some (r, σ2) := hB
      rw [hA, bnd_s]
      show ∃ σ3, bnd (f_X8_eclipse σ1) _ = some (1, σ3)
      rw [hB, bnd_s]
      show ∃ σ3, (if r = r then f_law L ys N (nI i + (6 : Int32)) σ2 _ else _) = some (1, σ3)
      rw [if_pos rfl, i6]
      exact go σ2 hW
    rw [if_neg h8]
    by_cases h9 : ys i &&& 63 = 9
    · rw [if_pos h9]
      simp only [i1, bnd_s]
      obtain ⟨r, σ1, σ2, hA, hB, hW⟩ := law_A (A := fun s => f_X7_deal (ys (i + 1)) s) (B := fun s => f_X8_deal (ys (i + 1)) s) W (fun s t w => op_deal w _) (fun s res h => fr_X7_deal h) (fun s res h => fr_X8_deal h)
      have hA : f_X7_deal (ys (i + 1)) σ = some (r, σ1) := hA
      have hB : f_X8_deal (ys (i + 1)) σ1 = some (r, σ2) := hB
      rw [hA, bnd_s]
      show ∃ σ3, bnd (f_X8_deal (ys (i + 1)) σ1) _ = some (1, σ3)
      rw [hB, bnd_s]
      show ∃ σ3, (if r = r then f_law L ys N (nI i + (6 : Int32)) σ2 _ else _) = some (1, σ3)
      rw [if_pos rfl, i6]
      exact go σ2 hW
    rw [if_neg h9]
    by_cases h10 : ys i &&& 63 = 10
    · rw [if_pos h10]
      simp only [i1, bnd_s]
      obtain ⟨r, σ1, σ2, hA, hB, hW⟩ := law_A (A := fun s => f_X7_seed (ys (i + 1)) s) (B := fun s => f_X8_seed (ys (i + 1)) s) W (fun s t w => op_seed w _) (fun s res h => fr_X7_seed h) (fun s res h => fr_X8_seed h)
      have hA : f_X7_seed (ys (i + 1)) σ = some (r, σ1) := hA
      have hB : f_X8_seed (ys (i + 1)) σ1 = some (r, σ2) := hB
      rw [hA, bnd_s]
      show ∃ σ3, bnd (f_X8_seed (ys (i + 1)) σ1) _ = some (1, σ3)
      rw [hB, bnd_s]
      show ∃ σ3, (if r = r then f_law L ys N (nI i + (6 : Int32)) σ2 _ else _) = some (1, σ3)
      rw [if_pos rfl, i6]
      exact go σ2 hW
    rw [if_neg h10]
    by_cases h11 : ys i &&& 63 = 11
    · rw [if_pos h11]
      simp only [i1, bnd_s]
      obtain ⟨r, σ1, σ2, hA, hB, hW⟩ := law_A (A := fun s => f_X7_hours (ys (i + 1)) s) (B := fun s => f_X8_hours (ys (i + 1)) s) W (fun s t w => op_hours w _) (fun s res h => fr_X7_hours h) (fun s res h => fr_X8_hours h)
      have hA : f_X7_hours (ys (i + 1)) σ = some (r, σ1) := hA
      have hB : f_X8_hours (ys (i + 1)) σ1 = some (r, σ2) := hB
      rw [hA, bnd_s]
      show ∃ σ3, bnd (f_X8_hours (ys (i + 1)) σ1) _ = some (1, σ3)
      rw [hB, bnd_s]
      show ∃ σ3, (if r = r then f_law L ys N (nI i + (6 : Int32)) σ2 _ else _) = some (1, σ3)
      rw [if_pos rfl, i6]
      exact go σ2 hW
    rw [if_neg h11]
    by_cases h12 : ys i &&& 63 = 12
    · rw [if_pos h12]
      simp only [i1, bnd_s]
      obtain ⟨r, σ2, hA, hB, hW⟩ := law_C (A := fun s => f_X7_land (ys (i + 1)) s) (B := fun s => f_X8_land (ys (i + 1)) s) W (fun s t w => op_land w _) (fun s res h => fr_X8_land h)
      have hA : f_X7_land (ys (i + 1)) σ = some r := hA
      have hB : f_X8_land (ys (i + 1)) σ = some (r, σ2) := hB
      rw [hA, bnd_s, hB, bnd_s]
      show ∃ σ3, (if r = r then f_law L ys N (nI i + (6 : Int32)) σ2 _ else _) = some (1, σ3)
      rw [if_pos rfl, i6]
      exact go σ2 hW
    rw [if_neg h12]
    by_cases h13 : ys i &&& 63 = 13
    · rw [if_pos h13]
      simp only [i1, i2, bnd_s]
      obtain ⟨r, σ2, hA, hB, hW⟩ := law_C (A := fun s => f_X7_reaches (ys (i + 1)) (ys (i + 2)) s) (B := fun s => f_X8_reaches (ys (i + 1)) (ys (i + 2)) s) W (fun s t w => op_reaches w _ _) (fun s res h => fr_X8_reaches h)
      have hA : f_X7_reaches (ys (i + 1)) (ys (i + 2)) σ = some r := hA
      have hB : f_X8_reaches (ys (i + 1)) (ys (i + 2)) σ = some (r, σ2) := hB
      rw [hA, bnd_s, hB, bnd_s]
      show ∃ σ3, (if r = r then f_law L ys N (nI i + (6 : Int32)) σ2 _ else _) = some (1, σ3)
      rw [if_pos rfl, i6]
      exact go σ2 hW
    rw [if_neg h13]
    by_cases h14 : ys i &&& 63 = 14
    · rw [if_pos h14]
      simp only [i1, i2, bnd_s]
      obtain ⟨r, σ1, σ2, hA, hB, hW⟩ := law_A (A := fun s => f_X7_behind (ys (i + 1)) (ys (i + 2)) s) (B := fun s => f_X8_behind (ys (i + 1)) (ys (i + 2)) s) W (fun s t w => op_behind w _ _) (fun s res h => fr_X7_behind h) (fun s res h => fr_X8_behind h)
      have hA : f_X7_behind (ys (i + 1)) (ys (i + 2)) σ = some (r, σ1) := hA
      have hB : f_X8_behind (ys (i + 1)) (ys (i + 2)) σ1 = some (r, σ2) := hB
      rw [hA, bnd_s]
      show ∃ σ3, bnd (f_X8_behind (ys (i + 1)) (ys (i + 2)) σ1) _ = some (1, σ3)
      rw [hB, bnd_s]
      show ∃ σ3, (if r = r then f_law L ys N (nI i + (6 : Int32)) σ2 _ else _) = some (1, σ3)
      rw [if_pos rfl, i6]
      exact go σ2 hW
    rw [if_neg h14]
    by_cases h15 : ys i &&& 63 = 15
    · rw [if_pos h15]
      obtain ⟨r, σ1, σ2, hA, hB, hW⟩ := law_A (A := fun s => f_X7_free s) (B := fun s => f_X8_free s) W (fun s t w => op_free w) (fun s res h => fr_X7_free h) (fun s res h => fr_X8_free h)
      have hA : f_X7_free σ = some (r, σ1) := hA
      have hB : f_X8_free σ1 = some (r, σ2) := hB
      rw [hA, bnd_s]
      show ∃ σ3, bnd (f_X8_free σ1) _ = some (1, σ3)
      rw [hB, bnd_s]
      show ∃ σ3, (if r = r then f_law L ys N (nI i + (6 : Int32)) σ2 _ else _) = some (1, σ3)
      rw [if_pos rfl, i6]
      exact go σ2 hW
    rw [if_neg h15]
    by_cases h16 : ys i &&& 63 = 16
    · rw [if_pos h16]
      simp only [i1, i2, bnd_s]
      obtain ⟨r, σ1, σ2, hA, hB, hW⟩ := law_A (A := fun s => f_X7_sworn (ys (i + 1)) (ys (i + 2)) s) (B := fun s => f_X8_sworn (ys (i + 1)) (ys (i + 2)) s) W (fun s t w => op_sworn w _ _) (fun s res h => fr_X7_sworn h) (fun s res h => fr_X8_sworn h)
      have hA : f_X7_sworn (ys (i + 1)) (ys (i + 2)) σ = some (r, σ1) := hA
      have hB : f_X8_sworn (ys (i + 1)) (ys (i + 2)) σ1 = some (r, σ2) := hB
      rw [hA, bnd_s]
      show ∃ σ3, bnd (f_X8_sworn (ys (i + 1)) (ys (i + 2)) σ1) _ = some (1, σ3)
      rw [hB, bnd_s]
      show ∃ σ3, (if r = r then f_law L ys N (nI i + (6 : Int32)) σ2 _ else _) = some (1, σ3)
      rw [if_pos rfl, i6]
      exact go σ2 hW
    rw [if_neg h16]
    by_cases h17 : ys i &&& 63 = 17
    · rw [if_pos h17]
      simp only [i1, i2, bnd_s]
      obtain ⟨r, σ1, σ2, hA, hB, hW⟩ := law_A (A := fun s => f_X7_trust (ys (i + 1)) (ys (i + 2)) s) (B := fun s => f_X8_trust (ys (i + 1)) (ys (i + 2)) s) W (fun s t w => op_trust w _ _) (fun s res h => fr_X7_trust h) (fun s res h => fr_X8_trust h)
      have hA : f_X7_trust (ys (i + 1)) (ys (i + 2)) σ = some (r, σ1) := hA
      have hB : f_X8_trust (ys (i + 1)) (ys (i + 2)) σ1 = some (r, σ2) := hB
      rw [hA, bnd_s]
      show ∃ σ3, bnd (f_X8_trust (ys (i + 1)) (ys (i + 2)) σ1) _ = some (1, σ3)
      rw [hB, bnd_s]
      show ∃ σ3, (if r = r then f_law L ys N (nI i + (6 : Int32)) σ2 _ else _) = some (1, σ3)
      rw [if_pos rfl, i6]
      exact go σ2 hW
    rw [if_neg h17]
    by_cases h18 : ys i &&& 63 = 18
    · rw [if_pos h18]
      simp only [i1, i2, bnd_s]
      obtain ⟨r, σ1, σ2, hA, hB, hW⟩ := law_A (A := fun s => f_X7_debtor (ys (i + 1)) (ys (i + 2)) s) (B := fun s => f_X8_debtor (ys (i + 1)) (ys (i + 2)) s) W (fun s t w => op_debtor w _ _) (fun s res h => fr_X7_debtor h) (fun s res h => fr_X8_debtor h)
      have hA : f_X7_debtor (ys (i + 1)) (ys (i + 2)) σ = some (r, σ1) := hA
      have hB : f_X8_debtor (ys (i + 1)) (ys (i + 2)) σ1 = some (r, σ2) := hB
      rw [hA, bnd_s]
      show ∃ σ3, bnd (f_X8_debtor (ys (i + 1)) (ys (i + 2)) σ1) _ = some (1, σ3)
      rw [hB, bnd_s]
      show ∃ σ3, (if r = r then f_law L ys N (nI i + (6 : Int32)) σ2 _ else _) = some (1, σ3)
      rw [if_pos rfl, i6]
      exact go σ2 hW
    rw [if_neg h18]
    by_cases h19 : ys i &&& 63 = 19
    · rw [if_pos h19]
      simp only [i1, i2, i3, bnd_s]
      obtain ⟨r, σ1, σ2, hA, hB, hW⟩ := law_A (A := fun s => f_X7_clock (ys (i + 1)) (ys (i + 2)) (ys (i + 3)) s) (B := fun s => f_X8_clock (ys (i + 1)) (ys (i + 2)) (ys (i + 3)) s) W (fun s t w => op_clock w _ _ _) (fun s res h => fr_X7_clock h) (fun s res h => fr_X8_clock h)
      have hA : f_X7_clock (ys (i + 1)) (ys (i + 2)) (ys (i + 3)) σ = some (r, σ1) := hA
      have hB : f_X8_clock (ys (i + 1)) (ys (i + 2)) (ys (i + 3)) σ1 = some (r, σ2) := hB
      rw [hA, bnd_s]
      show ∃ σ3, bnd (f_X8_clock (ys (i + 1)) (ys (i + 2)) (ys (i + 3)) σ1) _ = some (1, σ3)
      rw [hB, bnd_s]
      show ∃ σ3, (if r = r then f_law L ys N (nI i + (6 : Int32)) σ2 _ else _) = some (1, σ3)
      rw [if_pos rfl, i6]
      exact go σ2 hW
    rw [if_neg h19]
    by_cases h20 : ys i &&& 63 = 20
    · rw [if_pos h20]
      obtain ⟨r, σ1, σ2, hA, hB, hW⟩ := law_A (A := fun s => f_X7_fee s) (B := fun s => f_X8_fee s) W (fun s t w => op_fee w) (fun s res h => fr_X7_fee h) (fun s res h => fr_X8_fee h)
      have hA : f_X7_fee σ = some (r, σ1) := hA
      have hB : f_X8_fee σ1 = some (r, σ2) := hB
      rw [hA, bnd_s]
      show ∃ σ3, bnd (f_X8_fee σ1) _ = some (1, σ3)
      rw [hB, bnd_s]
      show ∃ σ3, (if r = r then f_law L ys N (nI i + (6 : Int32)) σ2 _ else _) = some (1, σ3)
      rw [if_pos rfl, i6]
      exact go σ2 hW
    rw [if_neg h20]
    by_cases h21 : ys i &&& 63 = 21
    · rw [if_pos h21]
      simp only [i1, bnd_s]
      obtain ⟨r, σ1, σ2, hA, hB, hW⟩ := law_A (A := fun s => f_X7_fine (ys (i + 1)) s) (B := fun s => f_X8_fine (ys (i + 1)) s) W (fun s t w => op_fine w _) (fun s res h => fr_X7_fine h) (fun s res h => fr_X8_fine h)
      have hA : f_X7_fine (ys (i + 1)) σ = some (r, σ1) := hA
      have hB : f_X8_fine (ys (i + 1)) σ1 = some (r, σ2) := hB
      rw [hA, bnd_s]
      show ∃ σ3, bnd (f_X8_fine (ys (i + 1)) σ1) _ = some (1, σ3)
      rw [hB, bnd_s]
      show ∃ σ3, (if r = r then f_law L ys N (nI i + (6 : Int32)) σ2 _ else _) = some (1, σ3)
      rw [if_pos rfl, i6]
      exact go σ2 hW
    rw [if_neg h21]
    by_cases h22 : ys i &&& 63 = 22
    · rw [if_pos h22]
      simp only [i1, i2, i3, bnd_s]
      obtain ⟨r, σ1, σ2, hA, hB, hW⟩ := law_A (A := fun s => f_X7_feed (ys (i + 1)) (ys (i + 2)) (ys (i + 3)) s) (B := fun s => f_X8_feed (ys (i + 1)) (ys (i + 2)) (ys (i + 3)) s) W (fun s t w => op_feed w _ _ _) (fun s res h => fr_X7_feed h) (fun s res h => fr_X8_feed h)
      have hA : f_X7_feed (ys (i + 1)) (ys (i + 2)) (ys (i + 3)) σ = some (r, σ1) := hA
      have hB : f_X8_feed (ys (i + 1)) (ys (i + 2)) (ys (i + 3)) σ1 = some (r, σ2) := hB
      rw [hA, bnd_s]
      show ∃ σ3, bnd (f_X8_feed (ys (i + 1)) (ys (i + 2)) (ys (i + 3)) σ1) _ = some (1, σ3)
      rw [hB, bnd_s]
      show ∃ σ3, (if r = r then f_law L ys N (nI i + (6 : Int32)) σ2 _ else _) = some (1, σ3)
      rw [if_pos rfl, i6]
      exact go σ2 hW
    rw [if_neg h22]
    by_cases h23 : ys i &&& 63 = 23
    · rw [if_pos h23]
      simp only [i1, bnd_s]
      obtain ⟨r, σ1, σ2, hA, hB, hW⟩ := law_A (A := fun s => f_X7_trim (ys (i + 1)) s) (B := fun s => f_X8_trim (ys (i + 1)) s) W (fun s t w => op_trim w _) (fun s res h => fr_X7_trim h) (fun s res h => fr_X8_trim h)
      have hA : f_X7_trim (ys (i + 1)) σ = some (r, σ1) := hA
      have hB : f_X8_trim (ys (i + 1)) σ1 = some (r, σ2) := hB
      rw [hA, bnd_s]
      show ∃ σ3, bnd (f_X8_trim (ys (i + 1)) σ1) _ = some (1, σ3)
      rw [hB, bnd_s]
      show ∃ σ3, (if r = r then f_law L ys N (nI i + (6 : Int32)) σ2 _ else _) = some (1, σ3)
      rw [if_pos rfl, i6]
      exact go σ2 hW
    rw [if_neg h23]
    by_cases h24 : ys i &&& 63 = 24
    · rw [if_pos h24]
      obtain ⟨r, σ1, σ2, hA, hB, hW⟩ := law_A (A := fun s => f_X7_text s) (B := fun s => f_X8_text s) W (fun s t w => op_text w) (fun s res h => fr_X7_text h) (fun s res h => fr_X8_text h)
      have hA : f_X7_text σ = some (r, σ1) := hA
      have hB : f_X8_text σ1 = some (r, σ2) := hB
      rw [hA, bnd_s]
      show ∃ σ3, bnd (f_X8_text σ1) _ = some (1, σ3)
      rw [hB, bnd_s]
      show ∃ σ3, (if r = r then f_law L ys N (nI i + (6 : Int32)) σ2 _ else _) = some (1, σ3)
      rw [if_pos rfl, i6]
      exact go σ2 hW
    rw [if_neg h24]
    by_cases h25 : ys i &&& 63 = 25
    · rw [if_pos h25]
      simp only [i1, i2, bnd_s]
      obtain ⟨r, hA, hB⟩ := op_textTold W (ys (i + 1)) (ys (i + 2))
      rw [hA, bnd_s, hB, bnd_s, if_pos rfl, i6]
      exact go σ W
    rw [if_neg h25]
    by_cases h26 : ys i &&& 63 = 26
    · rw [if_pos h26]
      simp only [i1, bnd_s]
      obtain ⟨r, hA, hB⟩ := op_why W (ys (i + 1))
      rw [hA, bnd_s, hB, bnd_s, if_pos rfl, i6]
      exact go σ W
    rw [if_neg h26]
    by_cases h27 : ys i &&& 63 = 27
    · rw [if_pos h27]
      simp only [i1, i2, i3, bnd_s]
      obtain ⟨r, σ1, σ2, hA, hB, hW⟩ := law_A (A := fun s => f_X7_sheet (ys (i + 1)) (ys (i + 2)) (ys (i + 3)) s) (B := fun s => f_X8_sheet (ys (i + 1)) (ys (i + 2)) (ys (i + 3)) s) W (fun s t w => op_sheet w _ _ _) (fun s res h => fr_X7_sheet h) (fun s res h => fr_X8_sheet h)
      have hA : f_X7_sheet (ys (i + 1)) (ys (i + 2)) (ys (i + 3)) σ = some (r, σ1) := hA
      have hB : f_X8_sheet (ys (i + 1)) (ys (i + 2)) (ys (i + 3)) σ1 = some (r, σ2) := hB
      rw [hA, bnd_s]
      show ∃ σ3, bnd (f_X8_sheet (ys (i + 1)) (ys (i + 2)) (ys (i + 3)) σ1) _ = some (1, σ3)
      rw [hB, bnd_s]
      show ∃ σ3, (if r = r then f_law L ys N (nI i + (6 : Int32)) σ2 _ else _) = some (1, σ3)
      rw [if_pos rfl, i6]
      exact go σ2 hW
    rw [if_neg h27]
    by_cases h28 : ys i &&& 63 = 28
    · rw [if_pos h28]
      simp only [i1, i2, i3, bnd_s]
      obtain ⟨r, σ1, σ2, hA, hB, hW⟩ := law_A (A := fun s => f_X7_mark (ys (i + 1)) (ys (i + 2)) (ys (i + 3)) s) (B := fun s => f_X8_mark (ys (i + 1)) (ys (i + 2)) (ys (i + 3)) s) W (fun s t w => op_mark w _ _ _) (fun s res h => fr_X7_mark h) (fun s res h => fr_X8_mark h)
      have hA : f_X7_mark (ys (i + 1)) (ys (i + 2)) (ys (i + 3)) σ = some (r, σ1) := hA
      have hB : f_X8_mark (ys (i + 1)) (ys (i + 2)) (ys (i + 3)) σ1 = some (r, σ2) := hB
      rw [hA, bnd_s]
      show ∃ σ3, bnd (f_X8_mark (ys (i + 1)) (ys (i + 2)) (ys (i + 3)) σ1) _ = some (1, σ3)
      rw [hB, bnd_s]
      show ∃ σ3, (if r = r then f_law L ys N (nI i + (6 : Int32)) σ2 _ else _) = some (1, σ3)
      rw [if_pos rfl, i6]
      exact go σ2 hW
    rw [if_neg h28]
    by_cases h29 : ys i &&& 63 = 29
    · rw [if_pos h29]
      simp only [i1, bnd_s]
      obtain ⟨r, σ1, σ2, hA, hB, hW⟩ := law_A (A := fun s => f_X7_pour (ys (i + 1)) s) (B := fun s => f_X8_pour (ys (i + 1)) s) W (fun s t w => op_pour w _) (fun s res h => fr_X7_pour h) (fun s res h => fr_X8_pour h)
      have hA : f_X7_pour (ys (i + 1)) σ = some (r, σ1) := hA
      have hB : f_X8_pour (ys (i + 1)) σ1 = some (r, σ2) := hB
      rw [hA, bnd_s]
      show ∃ σ3, bnd (f_X8_pour (ys (i + 1)) σ1) _ = some (1, σ3)
      rw [hB, bnd_s]
      show ∃ σ3, (if r = r then f_law L ys N (nI i + (6 : Int32)) σ2 _ else _) = some (1, σ3)
      rw [if_pos rfl, i6]
      exact go σ2 hW
    rw [if_neg h29]
    by_cases h30 : ys i &&& 63 = 30
    · rw [if_pos h30]
      simp only [i1, bnd_s]
      obtain ⟨r, hA, hB⟩ := op_reads W (ys (i + 1))
      rw [hA, bnd_s, hB, bnd_s, if_pos rfl, i6]
      exact go σ W
    rw [if_neg h30]
    by_cases h31 : ys i &&& 63 = 31
    · rw [if_pos h31]
      simp only [i1, i2, i3, i4, i5, bnd_s]
      obtain ⟨r, σ1, σ2, hA, hB, hW⟩ := law_A (A := fun s => f_X7_copy (ys (i + 1)) (ys (i + 2)) (ys (i + 3)) (ys (i + 4)) (ys (i + 5)) s) (B := fun s => f_X8_copy (ys (i + 1)) (ys (i + 2)) (ys (i + 3)) (ys (i + 4)) (ys (i + 5)) s) W (fun s t w => op_copy w _ _ _ _ _) (fun s res h => fr_X7_copy h) (fun s res h => fr_X8_copy h)
      have hA : f_X7_copy (ys (i + 1)) (ys (i + 2)) (ys (i + 3)) (ys (i + 4)) (ys (i + 5)) σ = some (r, σ1) := hA
      have hB : f_X8_copy (ys (i + 1)) (ys (i + 2)) (ys (i + 3)) (ys (i + 4)) (ys (i + 5)) σ1 = some (r, σ2) := hB
      rw [hA, bnd_s]
      show ∃ σ3, bnd (f_X8_copy (ys (i + 1)) (ys (i + 2)) (ys (i + 3)) (ys (i + 4)) (ys (i + 5)) σ1) _ = some (1, σ3)
      rw [hB, bnd_s]
      show ∃ σ3, (if r = r then f_law L ys N (nI i + (6 : Int32)) σ2 _ else _) = some (1, σ3)
      rw [if_pos rfl, i6]
      exact go σ2 hW
    rw [if_neg h31]
    by_cases h32 : ys i &&& 63 = 32
    · rw [if_pos h32]
      simp only [i1, i2, i3, bnd_s]
      obtain ⟨r, σ1, σ2, hA, hB, hW⟩ := law_A (A := fun s => f_X7_lay (ys (i + 1)) (ys (i + 2)) (ys (i + 3)) s) (B := fun s => f_X8_lay (ys (i + 1)) (ys (i + 2)) (ys (i + 3)) s) W (fun s t w => op_lay w _ _ _) (fun s res h => fr_X7_lay h) (fun s res h => fr_X8_lay h)
      have hA : f_X7_lay (ys (i + 1)) (ys (i + 2)) (ys (i + 3)) σ = some (r, σ1) := hA
      have hB : f_X8_lay (ys (i + 1)) (ys (i + 2)) (ys (i + 3)) σ1 = some (r, σ2) := hB
      rw [hA, bnd_s]
      show ∃ σ3, bnd (f_X8_lay (ys (i + 1)) (ys (i + 2)) (ys (i + 3)) σ1) _ = some (1, σ3)
      rw [hB, bnd_s]
      show ∃ σ3, (if r = r then f_law L ys N (nI i + (6 : Int32)) σ2 _ else _) = some (1, σ3)
      rw [if_pos rfl, i6]
      exact go σ2 hW
    rw [if_neg h32]
    by_cases h33 : ys i &&& 63 = 33
    · rw [if_pos h33]
      simp only [i1, i2, bnd_s]
      obtain ⟨r, hA, hB⟩ := op_ask W (ys (i + 1)) (ys (i + 2))
      rw [hA, bnd_s, hB, bnd_s, if_pos rfl, i6]
      exact go σ W
    rw [if_neg h33]
    by_cases h34 : ys i &&& 63 = 34
    · rw [if_pos h34]
      simp only [i1, i2, bnd_s]
      obtain ⟨r, hA, hB⟩ := op_item W (ys (i + 1)) (ys (i + 2))
      rw [hA, bnd_s, hB, bnd_s, if_pos rfl, i6]
      exact go σ W
    rw [if_neg h34]
    by_cases h35 : ys i &&& 63 = 35
    · rw [if_pos h35]
      simp only [i1, i2, bnd_s]
      obtain ⟨r, hA, hB⟩ := op_rest W (ys (i + 1)) (ys (i + 2))
      rw [hA, bnd_s, hB, bnd_s, if_pos rfl, i6]
      exact go σ W
    rw [if_neg h35]
    by_cases h36 : ys i &&& 63 = 36
    · rw [if_pos h36]
      simp only [i1, bnd_s]
      obtain ⟨r, σ1, σ2, hA, hB, hW⟩ := law_A (A := fun s => f_X7_tell (ys (i + 1)) s) (B := fun s => f_X8_tell (ys (i + 1)) s) W (fun s t w => op_tell w _) (fun s res h => fr_X7_tell h) (fun s res h => fr_X8_tell h)
      have hA : f_X7_tell (ys (i + 1)) σ = some (r, σ1) := hA
      have hB : f_X8_tell (ys (i + 1)) σ1 = some (r, σ2) := hB
      rw [hA, bnd_s]
      show ∃ σ3, bnd (f_X8_tell (ys (i + 1)) σ1) _ = some (1, σ3)
      rw [hB, bnd_s]
      show ∃ σ3, (if r = r then f_law L ys N (nI i + (6 : Int32)) σ2 _ else _) = some (1, σ3)
      rw [if_pos rfl, i6]
      exact go σ2 hW
    rw [if_neg h36]
    by_cases h37 : ys i &&& 63 = 37
    · rw [if_pos h37]
      simp only [i1, bnd_s]
      obtain ⟨r, σ1, σ2, hA, hB, hW⟩ := law_A (A := fun s => f_X7_check (ys (i + 1)) s) (B := fun s => f_X8_check (ys (i + 1)) s) W (fun s t w => op_check w _) (fun s res h => fr_X7_check h) (fun s res h => fr_X8_check h)
      have hA : f_X7_check (ys (i + 1)) σ = some (r, σ1) := hA
      have hB : f_X8_check (ys (i + 1)) σ1 = some (r, σ2) := hB
      rw [hA, bnd_s]
      show ∃ σ3, bnd (f_X8_check (ys (i + 1)) σ1) _ = some (1, σ3)
      rw [hB, bnd_s]
      show ∃ σ3, (if r = r then f_law L ys N (nI i + (6 : Int32)) σ2 _ else _) = some (1, σ3)
      rw [if_pos rfl, i6]
      exact go σ2 hW
    rw [if_neg h37]
    by_cases h38 : ys i &&& 63 = 38
    · rw [if_pos h38]
      obtain ⟨r, σ1, σ2, hA, hB, hW⟩ := law_A (A := fun s => f_X7_keep s) (B := fun s => f_X8_keep s) W (fun s t w => op_keep w) (fun s res h => fr_X7_keep h) (fun s res h => fr_X8_keep h)
      have hA : f_X7_keep σ = some (r, σ1) := hA
      have hB : f_X8_keep σ1 = some (r, σ2) := hB
      rw [hA, bnd_s]
      show ∃ σ3, bnd (f_X8_keep σ1) _ = some (1, σ3)
      rw [hB, bnd_s]
      show ∃ σ3, (if r = r then f_law L ys N (nI i + (6 : Int32)) σ2 _ else _) = some (1, σ3)
      rw [if_pos rfl, i6]
      exact go σ2 hW
    rw [if_neg h38]
    by_cases h39 : ys i &&& 63 = 39
    · rw [if_pos h39]
      obtain ⟨r, σ1, σ2, hA, hB, hW⟩ := law_A (A := fun s => f_X7_back s) (B := fun s => f_X8_back s) W (fun s t w => op_back w) (fun s res h => fr_X7_back h) (fun s res h => fr_X8_back h)
      have hA : f_X7_back σ = some (r, σ1) := hA
      have hB : f_X8_back σ1 = some (r, σ2) := hB
      rw [hA, bnd_s]
      show ∃ σ3, bnd (f_X8_back σ1) _ = some (1, σ3)
      rw [hB, bnd_s]
      show ∃ σ3, (if r = r then f_law L ys N (nI i + (6 : Int32)) σ2 _ else _) = some (1, σ3)
      rw [if_pos rfl, i6]
      exact go σ2 hW
    rw [if_neg h39]
    by_cases h40 : ys i &&& 63 = 40
    · rw [if_pos h40]
      simp only [i1, bnd_s]
      obtain ⟨r, hA, hB⟩ := op_count W (ys (i + 1))
      rw [hA, bnd_s, hB, bnd_s, if_pos rfl, i6]
      exact go σ W
    rw [if_neg h40]
    rw [i6]
    exact go σ W
