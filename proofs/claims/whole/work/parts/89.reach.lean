-- reaches
theorem m_more {n nv a : Nat} {o u S : Nat → Nat} {τ : Mem} {p2 p4 : Int32} (hn : n ≤ 10) (h0 : τ 22 0 0 = nI n) (hS : Swn n nv o u S τ) (ho : ∀ w, w < nv → o w < n) (ha : a < 1024) : ∀ (m k acc N : Nat), k + m = n → acc < 1024 → m < N → ∃ r, r < 1024 ∧ (∀ K, f_X8_reaches_55 p2 (nI a) p4 τ N (nI acc) (nI k) K = K (nI r)) ∧ ∀ j, r.testBit j = true ↔ (acc.testBit j = true ∨ ∃ w, w < nv ∧ k ≤ o w ∧ a.testBit (o w) = true ∧ u w = j) := by
  intro m
  induction m with
  | zero =>
    intro k acc N hk hacc hN
    obtain ⟨N, rfl, -⟩ := succ_of hN
    refine ⟨acc, hacc, fun K => ?_, fun j => ⟨Or.inl, fun q => ?_⟩⟩
    · rw [f_X8_reaches_55.eq_2, sx0, bnd_s, h0, if_pos (nI_le (by omega) (by omega))]
    · rcases q with q | ⟨w, h1, h2, -⟩
      · exact q
      · have := ho w h1; omega
  | succ m ih =>
    intro k acc N hk hacc hN
    obtain ⟨N, rfl, hN⟩ := succ_of hN
    obtain ⟨s1, s2, s3⟩ := hS k (by omega)
    by_cases hb : a.testBit k = true
    · obtain ⟨r, r1, r2, r3⟩ := ih (k + 1) (acc ||| S k) N (by omega) (or_lt hacc s2) (by omega)
      refine ⟨r, r1, fun K => ?_, fun j => ?_⟩
      · rw [f_X8_reaches_55.eq_2, sx0, bnd_s, h0, if_neg (nI_ge (by omega) (by omega)), if_pos ((tb_shr ha (by omega)).mpr hb), ix_nI (by omega) (by decide), bnd_s, s1, b_or hacc s2, nI_s]
        exact r2 K
      · rw [r3 j, Nat.testBit_or, Bool.or_eq_true, s3 j]
        constructor
        · rintro ((q | ⟨w, h1, h2, h3⟩) | ⟨w, h1, h2, h3⟩)
          · exact Or.inl q
          · exact Or.inr ⟨w, h1, by omega, by rw [h2]; exact hb, h3⟩
          · exact Or.inr ⟨w, h1, by omega, h3⟩
        · rintro (q | ⟨w, h1, h2, h3, h4⟩)
          · exact Or.inl (Or.inl q)
          · by_cases e : o w = k
            · exact Or.inl (Or.inr ⟨w, h1, e, h4⟩)
            · exact Or.inr ⟨w, h1, by omega, h3, h4⟩
    · obtain ⟨r, r1, r2, r3⟩ := ih (k + 1) acc N (by omega) hacc (by omega)
      refine ⟨r, r1, fun K => ?_, fun j => ?_⟩
      · rw [f_X8_reaches_55.eq_2, sx0, bnd_s, h0, if_neg (nI_ge (by omega) (by omega)), if_neg (fun q => hb ((tb_shr ha (by omega)).mp q)), show nI acc ||| (0 : Int32) = nI acc from by rw [show (0 : Int32) = nI 0 from rfl, b_or hacc (by decide), Nat.or_zero], nI_s]
        exact r2 K
      · rw [r3 j]
        constructor
        · rintro (q | ⟨w, h1, h2, h3⟩)
          · exact Or.inl q
          · exact Or.inr ⟨w, h1, by omega, h3⟩
        · rintro (q | ⟨w, h1, h2, h3, h4⟩)
          · exact Or.inl q
          · by_cases e : o w = k
            · rw [e] at h3; exact absurd h3 hb
            · exact Or.inr ⟨w, h1, by omega, h3, h4⟩
theorem ls_reach {n nv ot : Nat} {o u S : Nat → Nat} {σ τ τ' : Mem} (E : Edg n nv o u σ τ) (h0 : τ' 22 0 0 = nI n) (hS : Swn n nv o u S τ') (hot : ot < n) : ∀ (m i a nC nM : Nat), i + m = 10 → a < 1024 → (∀ j, a.testBit j = true → j < 10) → (i = 10 → a.testBit ot = false) → ((∀ w, w < nv → a.testBit (o w) = true → a.testBit (u w) = true) ∨ i + 1 ≤ cdF (fun j => a.testBit j) 10) → m < nC → m + 1 < nM →
    ∃ r, f_X0_fewestVowsBetween_7 0 (nI ot) σ nC (nI a) (nI i) (some (-1000000005)) = some r ∧ f_X8_reaches_30 (nI ot) τ' nM (nI a) (nI i) (some (-1000000005, τ')) = some (r, τ') := by
  have n10 := E.1
  have nv17 := E.2.1
  have ho : ∀ w, w < nv → o w < n := fun w hw => (E.2.2.2.2.2.2 w hw).1
  have hu : ∀ w, w < nv → u w < n := fun w hw => (E.2.2.2.2.2.2 w hw).2.1
  intro m
  induction m with
  | zero =>
    intro i a nC nM hi ha hb hl hinv h3 h4
    obtain ⟨nC, rfl, -⟩ := succ_of h3
    obtain ⟨nM, rfl⟩ : ∃ c, nM = c + 1 + 1 := ⟨nM - 2, by omega⟩
    have hi : i = 10 := by omega
    subst hi
    obtain ⟨r, -, r2, -⟩ := m_more (p2 := nI ot) (p4 := nI 10) n10 h0 hS ho ha n 0 a FU (by omega) ha (fu_gt (by omega))
    refine ⟨-1000000005, ?_, ?_⟩
    · rw [f_X0_fewestVowsBetween_7.eq_2, if_pos (show (10 : Int32) ≤ nI 10 by decide)]
    · rw [f_X8_reaches_30.eq_2, if_neg (show ¬ (10 : Int32) < nI 10 by decide), if_neg (fun q => by rw [(tb_shr ha (by omega)).mp q] at hl; exact absurd (hl rfl) (by decide))]
      have r2' : f_X8_reaches_55 (nI ot) (nI a) (nI 10) τ' FU (nI a) 0 (fun e1 => f_X8_reaches_30 (nI ot) τ' (nM + 1) e1 (nI 10 + 1) (some (-1000000005, τ'))) = f_X8_reaches_30 (nI ot) τ' (nM + 1) (nI r) (nI 10 + 1) (some (-1000000005, τ')) := r2 _
      rw [r2', f_X8_reaches_30.eq_2, if_pos (show (10 : Int32) < nI 10 + 1 by decide)]
  | succ m ih =>
    intro i a nC nM hi ha hb hl hinv h3 h4
    obtain ⟨nC, rfl, h3⟩ := succ_of h3
    obtain ⟨nM, rfl, h4⟩ := succ_of h4
    have l1 : ¬ (10 : Int32) ≤ nI i := nI_ge (b := 10) (by omega) (by decide)
    have l2 : ¬ (10 : Int32) < nI i := nI_nlt (a := 10) (b := i) (by omega) (by decide)
    by_cases hit : a.testBit ot = true
    · refine ⟨nI i, ?_, ?_⟩
      · rw [f_X0_fewestVowsBetween_7.eq_2, if_neg l1, if_neg (fun q => by rw [(tb_and ha (by omega)).mp q] at hit; exact absurd hit (by decide))]
      · rw [f_X8_reaches_30.eq_2, if_neg l2, if_pos ((tb_shr ha (by omega)).mpr hit)]
    · have hit' : a.testBit ot = false := by cases hq : a.testBit ot; rfl; exact absurd hq hit
      obtain ⟨f, f1, f2, f3⟩ := c_further (p2 := nI ot) (p4 := nI i) E ha nv 0 0 FU (by omega) (by decide) (fu_gt (by omega))
      obtain ⟨r, r1, r2, r3⟩ := m_more (p2 := nI ot) (p4 := nI i) n10 h0 hS ho ha n 0 a FU (by omega) ha (fu_gt (by omega))
      have er : a ||| f = r := by
        apply Nat.eq_of_testBit_eq
        intro j
        have e1 : (a ||| f).testBit j = true ↔ r.testBit j = true := by
          rw [Nat.testBit_or, Bool.or_eq_true, f3 j, r3 j, Nat.zero_testBit]
          constructor
          · rintro (q | q | ⟨w, h1, h2, h3⟩)
            · exact Or.inl q
            · exact absurd q (by decide)
            · exact Or.inr ⟨w, h2, Nat.zero_le _, h3⟩
          · rintro (q | ⟨w, h1, h2, h3⟩)
            · exact Or.inl q
            · exact Or.inr (Or.inr ⟨w, Nat.zero_le _, h1, h3⟩)
        cases h1 : (a ||| f).testBit j <;> cases h2 : r.testBit j
        · rfl
        · rw [h1, h2] at e1; exact absurd (e1.mpr rfl) (by decide)
        · rw [h1, h2] at e1; exact absurd (e1.mp rfl) (by decide)
        · rfl
      have hr10 : ∀ j, r.testBit j = true → j < 10 := fun j hj => by
        rcases (r3 j).mp hj with q | ⟨w, h1, -, -, h4⟩
        · exact hb j q
        · have := hu w h1; omega
      have mono : ∀ j, a.testBit j = true → r.testBit j = true := fun j hj => (r3 j).mpr (Or.inl hj)
      have stable : (∀ w, w < nv → a.testBit (o w) = true → a.testBit (u w) = true) → r = a := fun hst => by
        apply Nat.eq_of_testBit_eq
        intro j
        cases h1 : r.testBit j <;> cases h2 : a.testBit j
        · rfl
        · rw [mono j h2] at h1; exact absurd h1 (by decide)
        · rcases (r3 j).mp h1 with q | ⟨w, w1, -, w3, w4⟩
          · rw [h2] at q; exact absurd q (by decide)
          · have := hst w w1 w3
            rw [w4, h2] at this
            exact absurd this (by decide)
        · rfl
      have inv' : (∀ w, w < nv → r.testBit (o w) = true → r.testBit (u w) = true) ∨ i + 1 + 1 ≤ cdF (fun j => r.testBit j) 10 := by
        by_cases hst : ∀ w, w < nv → a.testBit (o w) = true → a.testBit (u w) = true
        · rw [stable hst]; exact Or.inl hst
        · rcases hinv with q | q
          · exact absurd q hst
          · right
            have : ∃ w, w < nv ∧ a.testBit (o w) = true ∧ ¬ a.testBit (u w) = true := Classical.byContradiction (fun hne => hst (fun w w1 w2 => Classical.byContradiction (fun w3 => hne ⟨w, w1, w2, w3⟩)))
            obtain ⟨w, w1, w2, w3⟩ := this
            have := cd_lt (f := fun j => a.testBit j) (g := fun j => r.testBit j) 10 (fun k _ hk => mono k hk) ⟨u w, by have := hu w w1; omega, w3, (r3 (u w)).mpr (Or.inr ⟨w, w1, Nat.zero_le _, w2, rfl⟩)⟩
            omega
      have last : i + 1 = 10 → r.testBit ot = false := fun h10 => by
        rcases hinv with q | q
        · rw [stable q]; exact hit'
        · have := cd_full (fun j => a.testBit j) 10 (by omega) ot (by omega)
          exact absurd this hit
      obtain ⟨res, q1, q2⟩ := ih (i + 1) r nC nM (by omega) r1 hr10 last inv' (by omega) (by omega)
      refine ⟨res, ?_, ?_⟩
      · have f2' : f_X0_fewestVowsBetween_31 0 (nI ot) (nI a) (nI i) σ FU 0 0 (fun e1 => f_X0_fewestVowsBetween_7 0 (nI ot) σ nC (nI a ||| e1) (nI i + 1) (some (-1000000005))) = f_X0_fewestVowsBetween_7 0 (nI ot) σ nC (nI a ||| nI f) (nI i + 1) (some (-1000000005)) := f2 _
        rw [f_X0_fewestVowsBetween_7.eq_2, if_neg l1, if_pos ((tb_and ha (by omega)).mpr hit'), f2', b_or ha f1, er, nI_s]
        exact q1
      · have r2' : f_X8_reaches_55 (nI ot) (nI a) (nI i) τ' FU (nI a) 0 (fun e1 => f_X8_reaches_30 (nI ot) τ' nM e1 (nI i + 1) (some (-1000000005, τ'))) = f_X8_reaches_30 (nI ot) τ' nM (nI r) (nI i + 1) (some (-1000000005, τ')) := r2 _
        rw [f_X8_reaches_30.eq_2, if_neg l2, if_neg (fun q => hit ((tb_shr ha (by omega)).mp q)), r2', nI_s]
        exact q2
theorem one_cd : ∀ j, j < 10 → 1 ≤ cdF (fun k => (2 ^ j).testBit k) 10 := by decide
/-- calls whose answer on the class's side leaves no trace -/
def LkM (A : Option Int32) (B : Option (Int32 × Mem)) (σ : Mem) : Prop := ∃ r τ', A = some r ∧ B = some (r, τ') ∧ RR2 σ τ'
theorem RR2_sw {σ τ τ' : Mem} (W : RR2 σ τ) (h : ∀ g, g ≠ 33 → g ≠ 34 → τ' g = τ g) : RR2 σ τ' := by
  obtain ⟨n, nv, nt, N, hr⟩ := W
  exact ⟨n, nv, nt, RNow_fr N (fun _ _ => rfl) (h 22 (by decide) (by decide)), Rest_fr hr (Nat.le_refl _) Fm.rf (fun g _ _ h33 h34 _ _ _ _ _ => h g h33 h34)⟩
theorem op_reaches {σ τ : Mem} (W : RR2 σ τ) (a b : Int32) : LkM (f_X7_reaches a b σ) (f_X8_reaches a b τ) σ := by
  have W0 := W
  obtain ⟨n, nv, nt, N, hr⟩ := W
  have H := N.1
  have n10 := H.1.2.2
  unfold f_X7_reaches f_X8_reaches
  rcases gd_one (v := a) H.1 with ⟨j, hj, rfl, c1, m1⟩ | ⟨-, c1, m1⟩
  · rw [c1, bnd_s, if_neg (show ¬ (1 : Int32) = 0 by decide), m1, bnd_s, if_neg (show ¬ (1 : Int32) = 0 by decide)]
    rcases gd_one (v := b) H.1 with ⟨q, hq, rfl, c2, m2⟩ | ⟨-, c2, m2⟩
    · obtain ⟨o, u, E⟩ := Edg_of H
      obtain ⟨τ', S, s1, s2, s3⟩ := m_sworn E
      have k0 : τ' 22 0 0 = nI n := by rw [s3 22 (by decide)]; exact H.1.2.1
      obtain ⟨r, r1, r2⟩ := ls_reach E k0 s2 hq 10 0 (2 ^ j) FU FU (by omega) (p_lt j (by omega)) (fun i hi => by rw [Nat.testBit_two_pow, decide_eq_true_eq] at hi; omega) (fun h => by omega) (Or.inr (one_cd j (by omega))) (fu_gt (by omega)) (fu_gt (by omega))
      have r1' : f_X0_fewestVowsBetween 0 (nI j) (nI q) σ = some r := by
        unfold f_X0_fewestVowsBetween
        rw [b_bit j (by omega)]
        exact r1
      have r2' : f_X8_reaches_30 (nI q) τ' FU ((1 : Int32) <<< (nI j &&& (31 : Int32))) 0 (some (-1000000005, τ')) = some (r, τ') := by
        rw [b_bit j (by omega)]
        exact r2
      rw [c2, bnd_s, if_neg (show ¬ (1 : Int32) = 0 by decide), m2, bnd_s, if_neg (show ¬ (1 : Int32) = 0 by decide), r1', bnd_s, s1, bnd_s, r2']
      exact ⟨r, τ', rfl, rfl, RR2_sw W0 (fun g h33 _ => s3 g h33)⟩
    · rw [c2, bnd_s, if_pos rfl, m2, bnd_s, if_pos rfl]
      exact ⟨_, τ, rfl, rfl, W0⟩
  · rw [c1, bnd_s, if_pos rfl, m1, bnd_s, if_pos rfl]
    exact ⟨_, τ, rfl, rfl, W0⟩
