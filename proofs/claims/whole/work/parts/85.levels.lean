-- the levels
def sgL (ℓ : Nat) : List Nat := [[124], [38], [60, 61, 62], [43, 45], [42, 47]].getD ℓ []
theorem sg_ix : ∀ ℓ, ℓ < 5 → ∀ v, v < 256 → (v ∈ sgL ℓ ↔ ¬ strIx (6 + ℓ) (nI v) < 0) := by decide +kernel
theorem sg_all : ∀ ℓ, ℓ < 5 → ∀ ch ∈ sgL ℓ, ch ∈ [33, 38, 42, 43, 45, 47, 60, 61, 62, 124] ∧ ch ≠ 33 := by decide
theorem signsOf_l {ℓ : Nat} (h : ℓ < 5) (σ : Mem) : f_X4_signsOf (nI ℓ) σ = some (6 + ℓ) := by
  rcases (show ℓ = 0 ∨ ℓ = 1 ∨ ℓ = 2 ∨ ℓ = 3 ∨ ℓ = 4 by omega) with rfl | rfl | rfl | rfl | rfl <;> rfl
noncomputable def rlp (ℓ : Nat) (rec : RecM) (p1 : Int32) : Nat → Mem → (Mem → Option (Int32 × Mem)) → Option (Int32 × Mem) := match ℓ with
  | 0 => f_X8_either_10 rec p1
  | 1 => f_X8_both_10 rec p1
  | 3 => f_X8_sum_10 rec p1
  | _ => f_X8_term_10 rec p1
theorem rl_no {ℓ s v n : Nat} {rec : RecM} {p1 : Int32} {τ : Mem} {K : Mem → Option (Int32 × Mem)} (hℓ : ℓ = 0 ∨ ℓ = 1 ∨ ℓ = 3 ∨ ℓ = 4) (h19 : τ 8 0 19 = nI s) (hs : s ≤ 4) (h : s ≠ 3 ∨ (s = 3 ∧ τ 8 0 21 = nI v ∧ v < 256 ∧ v ∉ sgL ℓ)) : rlp ℓ rec p1 (n + 1) τ K = K τ := by
  have g : ∀ c, c ∈ sgL ℓ → c < 256 → f_X8_isSign (nI c) τ = some 0 := by
    intro c hc hlt
    rcases h with h | ⟨rfl, h21, hv, hn⟩
    · exact m_isSign h19 hs h
    · rw [m_isSign3 h19 h21 hv hlt, bI_f (show ¬ v = c from fun q => hn (by rw [q]; exact hc))]
  rcases hℓ with rfl | rfl | rfl | rfl
  · have g1 : f_X8_isSign 124 τ = some 0 := g 124 (by decide) (by decide)
    show f_X8_either_10 rec p1 (n + 1) τ K = K τ
    rw [f_X8_either_10.eq_2, g1, bnd_s, if_pos rfl]
  · have g1 : f_X8_isSign 38 τ = some 0 := g 38 (by decide) (by decide)
    show f_X8_both_10 rec p1 (n + 1) τ K = K τ
    rw [f_X8_both_10.eq_2, g1, bnd_s, if_pos rfl]
  · have g1 : f_X8_isSign 43 τ = some 0 := g 43 (by decide) (by decide)
    have g2 : f_X8_isSign 45 τ = some 0 := g 45 (by decide) (by decide)
    show f_X8_sum_10 rec p1 (n + 1) τ K = K τ
    rw [f_X8_sum_10.eq_2, g1, bnd_s, if_pos rfl, g2, bnd_s, if_pos rfl]
  · have g1 : f_X8_isSign 42 τ = some 0 := g 42 (by decide) (by decide)
    have g2 : f_X8_isSign 47 τ = some 0 := g 47 (by decide) (by decide)
    show f_X8_term_10 rec p1 (n + 1) τ K = K τ
    rw [f_X8_term_10.eq_2, g1, bnd_s, if_pos rfl, g2, bnd_s, if_pos rfl]
theorem rl_yes {ℓ v n : Nat} {rec : RecM} {p1 : Int32} {τ : Mem} {K : Mem → Option (Int32 × Mem)} (hℓ : ℓ = 0 ∨ ℓ = 1 ∨ ℓ = 3 ∨ ℓ = 4) (h19 : τ 8 0 19 = nI 3) (h21 : τ 8 0 21 = nI v) (hv : v < 256) (hin : v ∈ sgL ℓ) : rlp ℓ rec p1 (n + 1) τ K = bnd (f_X8_nextToken τ) (fun a2 => bnd (rec (ℓ + 1) p1 a2) (fun a3 => if a3.1 = 0 then some (0, a3.2) else bnd (f_X8_step 2 (nI v) a3.2) (fun a4 => rlp ℓ rec p1 n a4 K))) := by
  have g : ∀ c, c < 256 → f_X8_isSign (nI c) τ = some (bI (v = c)) := fun c hlt => m_isSign3 h19 h21 hv hlt
  have n1 : ¬ (1 : Int32) = 0 := by decide
  rcases hℓ with rfl | rfl | rfl | rfl
  · have hin : v = 124 := by simpa [sgL] using hin
    subst hin
    have g1 : f_X8_isSign 124 τ = some (bI (124 = 124)) := g 124 (by decide)
    show f_X8_either_10 rec p1 (n + 1) τ K = _
    rw [f_X8_either_10.eq_2, g1, bnd_s, bI_t rfl, if_neg n1]
    rfl
  · have hin : v = 38 := by simpa [sgL] using hin
    subst hin
    have g1 : f_X8_isSign 38 τ = some (bI (38 = 38)) := g 38 (by decide)
    show f_X8_both_10 rec p1 (n + 1) τ K = _
    rw [f_X8_both_10.eq_2, g1, bnd_s, bI_t rfl, if_neg n1]
    rfl
  · have hin : v = 43 ∨ v = 45 := by simpa [sgL] using hin
    have g1 : f_X8_isSign 43 τ = some (bI (v = 43)) := g 43 (by decide)
    have g2 : f_X8_isSign 45 τ = some (bI (v = 45)) := g 45 (by decide)
    show f_X8_sum_10 rec p1 (n + 1) τ K = _
    rw [f_X8_sum_10.eq_2, g1, bnd_s, h21]
    rcases hin with rfl | rfl
    · rw [bI_t rfl, if_neg n1]
      rfl
    · rw [bI_f (by decide), if_pos rfl, g2, bnd_s, bI_t rfl, if_neg n1]
      rfl
  · have hin : v = 42 ∨ v = 47 := by simpa [sgL] using hin
    have g1 : f_X8_isSign 42 τ = some (bI (v = 42)) := g 42 (by decide)
    have g2 : f_X8_isSign 47 τ = some (bI (v = 47)) := g 47 (by decide)
    show f_X8_term_10 rec p1 (n + 1) τ K = _
    rw [f_X8_term_10.eq_2, g1, bnd_s, h21]
    rcases hin with rfl | rfl
    · rw [bI_t rfl, if_neg n1]
      rfl
    · rw [bI_f (by decide), if_pos rfl, g2, bnd_s, bI_t rfl, if_neg n1]
      rfl
/-- the class's loop of a level: no sign of the level -/
theorem cl_no {x : Nat → Nat} {L T key ℓ n len D br no s b e : Nat} {recL : RecL} {recP : RecP} {p2 p3 p4 v5 : Int32} {σ τ : Mem} {K : Mem → Option (Int32 × Mem)} (hℓ : ℓ < 5) (h : PS x L T key σ τ len D br no s b e) (hn : s ≠ 3 ∨ (s = 3 ∧ x b ∉ sgL ℓ)) : f_X4_readsLevel_42 recL recP (nI ℓ) p2 p3 p4 (n + 1) v5 σ K = K σ := by
  obtain ⟨h1, h2, h3, -⟩ := h
  obtain ⟨t1, t2, t3, t4, t5, t6, t7, t8, t9, t10, -, t12, -⟩ := h3
  rw [f_X4_readsLevel_42.eq_2, t1]
  rcases hn with hn | ⟨rfl, hn⟩
  · rw [if_neg (show ¬ nI s = 3 from fun q => hn ((nI_eq (a := s) (b := 3) (by omega) (by decide)).mp q)), ite_self]
  · obtain ⟨n1, n2⟩ := t12 rfl
    have hv := (h1.2.2 b (by omega)).1
    have hneg : strIx (6 + ℓ) (nI (x b)) < 0 := Classical.byContradiction (fun q => hn ((sg_ix ℓ hℓ (x b) hv).mpr q))
    rw [if_pos (show nI 3 = 3 from rfl), signsOf_l hℓ, bnd_s, c_signH h1 t3 (by omega), bnd_s, if_pos hneg, ite_self]
theorem cl_yes {x : Nat → Nat} {L T key ℓ n len D br no b e : Nat} {recL : RecL} {recP : RecP} {p2 p3 p4 v5 : Int32} {σ τ : Mem} {K : Mem → Option (Int32 × Mem)} (hℓ : ℓ < 5) (h : PS x L T key σ τ len D br no 3 b e) (hin : x b ∈ sgL ℓ) (h4 : ¬ p4 ≤ v5) : f_X4_readsLevel_42 recL recP (nI ℓ) p2 p3 p4 (n + 1) v5 σ K = bnd (f_X4_goOn σ) (fun a4 => (bnd (recL (nI (ℓ + 1)) p2 p3 a4) (fun a5 => (if a5.1 = 0 then (some ((0 : Int32), a5.2)) else (bnd (dynL (a5.2 4 0 2)) (fun j1 => (bnd (f_X1_addSign j1 (nI (x b)) a5.2) (fun a6 => (f_X4_readsLevel_42 recL recP (nI ℓ) p2 p3 p4 n (v5 + (1 : Int32)) a6 K))))))))) := by
  obtain ⟨h1, h2, h3, -⟩ := h
  obtain ⟨t1, t2, t3, t4, t5, t6, t7, t8, t9, t10, -, t12, -⟩ := h3
  obtain ⟨n1, n2⟩ := t12 rfl
  have hv := (h1.2.2 b (by omega)).1
  rw [f_X4_readsLevel_42.eq_2, if_neg h4, t1, if_pos (show nI 3 = 3 from rfl), signsOf_l hℓ, bnd_s, c_signH h1 t3 (by omega), bnd_s, if_neg ((sg_ix ℓ hℓ (x b) hv).mp hin), bnd_s, nI_s]
/-- one more operand and its sign -/
theorem ls_more {x : Nat → Nat} {L T key ℓ br no : Nat} {recL : RecL} {rec : RecM} (hℓ : ℓ < 5)
    (hrec : ∀ σ τ len D s b e, PS x L T key σ τ len D br no s b e → len ≤ b → PRes x L T key σ τ len D br no b (recL (nI (ℓ + 1)) (nI br) (nI no) σ) (rec (ℓ + 1) (nI key) τ))
    {σ τ : Mem} {len D b e : Nat} (h : PS x L T key σ τ len (D + 1) br no 3 b e) (hl : len ≤ b) (hin : x b ∈ sgL ℓ) (Kc Km : Mem → Option (Int32 × Mem)) :
    (∃ σ' τ', bnd (f_X4_goOn σ) (fun a4 => (bnd (recL (nI (ℓ + 1)) (nI br) (nI no) a4) (fun a5 => (if a5.1 = 0 then (some ((0 : Int32), a5.2)) else (bnd (dynL (a5.2 4 0 2)) (fun j1 => (bnd (f_X1_addSign j1 (nI (x b)) a5.2) (fun a6 => Kc a6)))))))) = some (0, σ') ∧ bnd (f_X8_nextToken τ) (fun a2 => bnd (rec (ℓ + 1) (nI key) a2) (fun a3 => if a3.1 = 0 then some (0, a3.2) else bnd (f_X8_step 2 (nI (x b)) a3.2) (fun a4 => Km a4))) = some (0, τ') ∧ PF T σ' τ' ∧ FP T σ τ σ' τ') ∨
    (∃ σ' τ' len' s' b' e', bnd (f_X4_goOn σ) (fun a4 => (bnd (recL (nI (ℓ + 1)) (nI br) (nI no) a4) (fun a5 => (if a5.1 = 0 then (some ((0 : Int32), a5.2)) else (bnd (dynL (a5.2 4 0 2)) (fun j1 => (bnd (f_X1_addSign j1 (nI (x b)) a5.2) (fun a6 => Kc a6)))))))) = Kc σ' ∧ bnd (f_X8_nextToken τ) (fun a2 => bnd (rec (ℓ + 1) (nI key) a2) (fun a3 => if a3.1 = 0 then some (0, a3.2) else bnd (f_X8_step 2 (nI (x b)) a3.2) (fun a4 => Km a4))) = Km τ' ∧ PS x L T key σ' τ' len' (D + 1) br no s' b' e' ∧ len' + b ≤ len + b' ∧ b < b' ∧ FP T σ τ σ' τ') := by
  obtain ⟨c1, c2⟩ := sg_all ℓ hℓ (x b) hin
  have dT := dyn_T h.2.2.2.1.1
  have hbe : e = b + 1 := (h.2.2.1.2.2.2.2.2.2.2.2.2.2.2.1 rfl).1
  obtain ⟨σ1, τ1, s1, b1, e1, q1, q2, q3, q4, q5⟩ := PS_goOn h
  rw [q1, bnd_s, q2, bnd_s]
  rcases hrec σ1 τ1 len (D + 1) s1 b1 e1 q3 (by omega) with ⟨σ2, τ2, r1, r2, r3, r4⟩ | ⟨σ2, τ2, len2, s2, b2, e2, r1, r2, r3, r4, r5, r6⟩
  · rw [r1, bnd_s, r2, bnd_s, if_pos rfl, if_pos rfl]
    exact Or.inl ⟨σ2, τ2, rfl, rfl, r3, FP.trans q5 r4⟩
  · have k2' := r3.2.2.2.1.2.1
    have h96 := r3.1.1
    obtain ⟨-, -, -, -, -, -, w7, w8, -⟩ := r3.2.2.1
    obtain ⟨σ4, τ4, a1, a2, a3, a4⟩ := PS_sign (ch := x b) r3 (by omega) c1 ⟨fun q => absurd q c2, fun _ => by omega⟩
    rw [if_neg c2] at a3
    rw [r1, bnd_s, r2, bnd_s, if_neg (show ¬ (1 : Int32) = 0 by decide), if_neg (show ¬ (1 : Int32) = 0 by decide)]
    refine Or.inr ⟨σ4, τ4, len2 + 1, s2, b2, e2, ?_, ?_, a3, by omega, by omega, FP.trans (FP.trans q5 r6) a4⟩
    · show bnd (dynL (σ2 4 0 2)) _ = _
      rw [k2', dT, bnd_s]
      show bnd (f_X1_addSign T (nI (x b)) σ2) _ = _
      rw [a1, bnd_s]
    · show bnd (f_X8_step 2 (nI (x b)) τ2) _ = _
      rw [a2, bnd_s]
def K1 : Mem → Option (Int32 × Mem) := fun σ_1 => some (1, σ_1)
theorem ls_loop {x : Nat → Nat} {L T key ℓ br no : Nat} {recL : RecL} {recP : RecP} {rec : RecM} (hℓ : ℓ = 0 ∨ ℓ = 1 ∨ ℓ = 3 ∨ ℓ = 4)
    (hrec : ∀ σ τ len D s b e, PS x L T key σ τ len D br no s b e → len ≤ b → PRes x L T key σ τ len D br no b (recL (nI (ℓ + 1)) (nI br) (nI no) σ) (rec (ℓ + 1) (nI key) τ)) :
    ∀ (m i nC nM : Nat) (σ τ : Mem) (len D s b e : Nat), PS x L T key σ τ len (D + 1) br no s b e → len ≤ b → i ≤ b → L - b ≤ m → m < nC → m < nM →
      (∃ σ' τ', f_X4_readsLevel_42 recL recP (nI ℓ) (nI br) (nI no) 96 nC (nI i) σ K1 = some (0, σ') ∧ rlp ℓ rec (nI key) nM τ K1 = some (0, τ') ∧ PF T σ' τ' ∧ FP T σ τ σ' τ') ∨
      (∃ σ' τ' len' s' b' e', f_X4_readsLevel_42 recL recP (nI ℓ) (nI br) (nI no) 96 nC (nI i) σ K1 = some (1, σ') ∧ rlp ℓ rec (nI key) nM τ K1 = some (1, τ') ∧ PS x L T key σ' τ' len' (D + 1) br no s' b' e' ∧ len' + b ≤ len + b' ∧ b ≤ b' ∧ FP T σ τ σ' τ') := by
  intro m
  induction m with
  | zero =>
    intro i nC nM σ τ len D s b e h hl hi hm h3 h4
    obtain ⟨nC, rfl, -⟩ := succ_of h3
    obtain ⟨nM, rfl, -⟩ := succ_of h4
    obtain ⟨t1, t2, t3, t4, t5, t6, t7, t8, t9, t10, -⟩ := id h.2.2.1
    have hs : s ≠ 3 := fun q => by have := t10 (by omega); omega
    rw [cl_no (by omega) h (Or.inl hs), rl_no (v := 0) hℓ t2 t9 (Or.inl hs)]
    exact Or.inr ⟨σ, τ, len, s, b, e, rfl, rfl, h, by omega, Nat.le_refl _, FP.rf⟩
  | succ m ih =>
    intro i nC nM σ τ len D s b e h hl hi hm h3 h4
    obtain ⟨nC, rfl, h3⟩ := succ_of h3
    obtain ⟨nM, rfl, h4⟩ := succ_of h4
    obtain ⟨t1, t2, t3, t4, t5, t6, t7, t8, t9, t10, -, t12, -⟩ := id h.2.2.1
    have h96 := h.1.1
    by_cases hs : s = 3
    · subst hs
      obtain ⟨n1, n2⟩ := t12 rfl
      have hv := (h.1.2.2 b (by omega)).1
      by_cases hin : x b ∈ sgL ℓ
      · rw [cl_yes (by omega) h hin (show ¬ (96 : Int32) ≤ nI i from nI_ge (b := 96) (by omega) (by decide)), rl_yes hℓ t2 n2 hv hin, nI_s]
        rcases ls_more (by omega) hrec h hl hin (fun a6 => f_X4_readsLevel_42 recL recP (nI ℓ) (nI br) (nI no) 96 nC (nI (i + 1)) a6 K1) (fun a4 => rlp ℓ rec (nI key) nM a4 K1) with ⟨σ1, τ1, q1, q2, q3, q4⟩ | ⟨σ1, τ1, len1, s1, b1, e1, q1, q2, q3, q4, q5, q6⟩
        · rw [q1, q2]
          exact Or.inl ⟨σ1, τ1, rfl, rfl, q3, q4⟩
        · rw [q1, q2]
          rcases ih (i + 1) nC nM σ1 τ1 len1 D s1 b1 e1 q3 (by omega) (by omega) (by omega) (by omega) (by omega) with ⟨σ2, τ2, r1, r2, r3, r4⟩ | ⟨σ2, τ2, len2, s2, b2, e2, r1, r2, r3, r4, r5, r6⟩
          · exact Or.inl ⟨σ2, τ2, r1, r2, r3, FP.trans q6 r4⟩
          · exact Or.inr ⟨σ2, τ2, len2, s2, b2, e2, r1, r2, r3, by omega, by omega, FP.trans q6 r6⟩
      · rw [cl_no (by omega) h (Or.inr ⟨rfl, hin⟩), rl_no hℓ t2 t9 (Or.inr ⟨rfl, n2, hv, hin⟩)]
        exact Or.inr ⟨σ, τ, len, 3, b, e, rfl, rfl, h, by omega, Nat.le_refl _, FP.rf⟩
    · rw [cl_no (by omega) h (Or.inl hs), rl_no (v := 0) hℓ t2 t9 (Or.inl hs)]
      exact Or.inr ⟨σ, τ, len, s, b, e, rfl, rfl, h, by omega, Nat.le_refl _, FP.rf⟩
/-- a level but that of tests -/
theorem ls_level {x : Nat → Nat} {L T key ℓ br no g : Nat} {recL : RecL} {recP : RecP} (hℓ : ℓ = 0 ∨ ℓ = 1 ∨ ℓ = 3 ∨ ℓ = 4)
    (hrec : ∀ σ τ len D s b e, PS x L T key σ τ len D br no s b e → len ≤ b → PRes x L T key σ τ len D br no b (recL (nI (ℓ + 1)) (nI br) (nI no) σ) (S_m g (ℓ + 1) (nI key) τ))
    {σ τ : Mem} {len D s b e : Nat} (h : PS x L T key σ τ len D br no s b e) (hl : len ≤ b) : PRes x L T key σ τ len D br no b (f_X4_readsLevel recL recP (nI ℓ) (nI br) (nI no) σ) (S_m (g + 1) ℓ (nI key) τ) := by
  have eM : S_m (g + 1) ℓ (nI key) τ = bnd (S_m g (ℓ + 1) (nI key) τ) (fun a1 => (if a1.1 = 0 then (some ((0 : Int32), a1.2)) else (rlp ℓ (S_m g) (nI key) FU a1.2 K1))) := by
    rcases hℓ with rfl | rfl | rfl | rfl <;> rfl
  have eC : f_X4_readsLevel recL recP (nI ℓ) (nI br) (nI no) σ = bnd (recL (nI (ℓ + 1)) (nI br) (nI no) σ) (fun a1 => (if a1.1 = 0 then (some ((0 : Int32), a1.2)) else (f_X4_readsLevel_42 recL recP (nI ℓ) (nI br) (nI no) (96 : Int32) FU (nI 0) a1.2 K1))) := by
    unfold f_X4_readsLevel
    rw [if_pos (show nI ℓ < 5 from nI_lt (b := 5) (by omega) (by decide)), nI_s]
    simp only [if_neg (show ¬ nI ℓ = 2 from fun q => by have := (nI_eq (a := ℓ) (b := 2) (by omega) (by decide)).mp q; omega)]
    rfl
  rw [eM, eC]
  rcases hrec σ τ len D s b e h hl with ⟨σ2, τ2, r1, r2, r3, r4⟩ | ⟨σ2, τ2, len2, s2, b2, e2, r1, r2, r3, r4, r5, r6⟩
  · rw [r1, bnd_s, r2, bnd_s, if_pos rfl, if_pos rfl]
    exact Or.inl ⟨σ2, τ2, rfl, rfl, r3, r4⟩
  · have h96 := r3.1.1
    rw [r1, bnd_s, r2, bnd_s, if_neg (show ¬ (1 : Int32) = 0 by decide), if_neg (show ¬ (1 : Int32) = 0 by decide)]
    rcases ls_loop (recP := recP) hℓ hrec (L - b2) 0 FU FU σ2 τ2 len2 D s2 b2 e2 r3 (by omega) (by omega) (Nat.le_refl _) (fu_gt (by omega)) (fu_gt (by omega)) with ⟨σ3, τ3, q1, q2, q3, q4⟩ | ⟨σ3, τ3, len3, s3, b3, e3, q1, q2, q3, q4, q5, q6⟩
    · exact Or.inl ⟨σ3, τ3, q1, q2, q3, FP.trans r6 q4⟩
    · exact Or.inr ⟨σ3, τ3, len3, s3, b3, e3, q1, q2, q3, by omega, by omega, FP.trans r6 q6⟩
/-- tests -/
theorem ls_test {x : Nat → Nat} {L T key br no g : Nat} {recL : RecL} {recP : RecP}
    (hrec : ∀ σ τ len D s b e, PS x L T key σ τ len D br no s b e → len ≤ b → PRes x L T key σ τ len D br no b (recL (nI (2 + 1)) (nI br) (nI no) σ) (S_m g (2 + 1) (nI key) τ))
    {σ τ : Mem} {len D s b e : Nat} (h : PS x L T key σ τ len D br no s b e) (hl : len ≤ b) : PRes x L T key σ τ len D br no b (f_X4_readsLevel recL recP (nI 2) (nI br) (nI no) σ) (S_m (g + 1) 2 (nI key) τ) := by
  obtain ⟨F, hF⟩ : ∃ F, FU = F + 1 + 1 := ⟨FU - 2, by rw [FU_eq]⟩
  have eC : f_X4_readsLevel recL recP (nI 2) (nI br) (nI no) σ = bnd (recL (nI (2 + 1)) (nI br) (nI no) σ) (fun a1 => (if a1.1 = 0 then (some ((0 : Int32), a1.2)) else (f_X4_readsLevel_42 recL recP (nI 2) (nI br) (nI no) (1 : Int32) (F + 1 + 1) (nI 0) a1.2 K1))) := by
    unfold f_X4_readsLevel
    rw [if_pos (show nI 2 < 5 by decide), nI_s]
    simp only [if_pos (show nI 2 = 2 from rfl), hF]
    rfl
  have eM : S_m (g + 1) 2 (nI key) τ = f_X8_test (S_m g) (nI key) τ := rfl
  rw [eC, eM]
  unfold f_X8_test
  have n1 : ¬ (1 : Int32) = 0 := by decide
  rcases hrec σ τ len D s b e h hl with ⟨σ2, τ2, r1, r2, r3, r4⟩ | ⟨σ2, τ2, len2, s2, b2, e2, r1, r2, r3, r4, r5, r6⟩
  · have r2' : S_m g 3 (nI key) τ = some (0, τ2) := r2
    rw [r1, bnd_s, r2', bnd_s, if_pos rfl, if_pos rfl]
    exact Or.inl ⟨σ2, τ2, rfl, rfl, r3, r4⟩
  · have r2' : S_m g 3 (nI key) τ = some (1, τ2) := r2
    have h96 := r3.1.1
    obtain ⟨t1, t2, t3, t4, t5, t6, t7, t8, t9, t10, -, t12, -⟩ := id r3.2.2.1
    rw [r1, bnd_s, r2', bnd_s, if_neg n1, if_neg n1]
    show PRes x L T key σ τ len D br no b (f_X4_readsLevel_42 recL recP (nI 2) (nI br) (nI no) 1 (F + 1 + 1) (nI 0) σ2 K1) (bnd (f_X8_isSign 60 τ2) _)
    by_cases hs : s2 = 3 ∧ x b2 ∈ sgL 2
    · obtain ⟨rfl, hin⟩ := hs
      obtain ⟨w1, w2⟩ := t12 rfl
      have hv := (r3.1.2.2 b2 (by omega)).1
      have g60 : f_X8_isSign 60 τ2 = some (bI (x b2 = 60)) := m_isSign3 (c := 60) t2 w2 hv (by decide)
      have g61 : f_X8_isSign 61 τ2 = some (bI (x b2 = 61)) := m_isSign3 (c := 61) t2 w2 hv (by decide)
      have g62 : f_X8_isSign 62 τ2 = some (bI (x b2 = 62)) := m_isSign3 (c := 62) t2 w2 hv (by decide)
      have m := ls_more (ℓ := 2) (by decide) hrec r3 (by omega) hin (fun a6 => f_X4_readsLevel_42 recL recP (nI 2) (nI br) (nI no) 1 (F + 1) (nI (0 + 1)) a6 K1) K1
      have em : (bnd (f_X8_isSign (60 : Int32) τ2) (fun a2 => (if a2 = 0 then (bnd (f_X8_isSign (61 : Int32) τ2) (fun a6 => (if a6 = 0 then (bnd (f_X8_isSign (62 : Int32) τ2) (fun a10 => (if a10 = 0 then (some ((1 : Int32), τ2)) else (bnd (f_X8_nextToken τ2) (fun a11 => (bnd (S_m g 3 (nI key) a11) (fun a12 => (if a12.1 = 0 then (some ((0 : Int32), a12.2)) else (bnd (f_X8_step (2 : Int32) (τ2 8 0 21) a12.2) (fun a13 => (some ((1 : Int32), a13)))))))))))) else (bnd (f_X8_nextToken τ2) (fun a7 => (bnd (S_m g 3 (nI key) a7) (fun a8 => (if a8.1 = 0 then (some ((0 : Int32), a8.2)) else (bnd (f_X8_step (2 : Int32) (τ2 8 0 21) a8.2) (fun a9 => (some ((1 : Int32), a9)))))))))))) else (bnd (f_X8_nextToken τ2) (fun a3 => (bnd (S_m g 3 (nI key) a3) (fun a4 => (if a4.1 = 0 then (some ((0 : Int32), a4.2)) else (bnd (f_X8_step (2 : Int32) (τ2 8 0 21) a4.2) (fun a5 => (some ((1 : Int32), a5)))))))))))) = bnd (f_X8_nextToken τ2) (fun a2 => bnd (S_m g (2 + 1) (nI key) a2) (fun a3 => if a3.1 = 0 then some (0, a3.2) else bnd (f_X8_step 2 (nI (x b2)) a3.2) (fun a4 => K1 a4))) := by
        have hin' : x b2 = 60 ∨ x b2 = 61 ∨ x b2 = 62 := by simpa [sgL] using hin
        rw [g60, bnd_s, w2]
        rcases hin' with q | q | q
        · rw [bI_t q, if_neg n1]; rfl
        · rw [bI_f (by omega), if_pos rfl, g61, bnd_s, bI_t q, if_neg n1]; rfl
        · rw [bI_f (by omega), if_pos rfl, g61, bnd_s, bI_f (by omega), if_pos rfl, g62, bnd_s, bI_t q, if_neg n1]; rfl
      refine (congrArg (PRes x L T key σ τ len D br no b (f_X4_readsLevel_42 recL recP (nI 2) (nI br) (nI no) 1 (F + 1 + 1) (nI 0) σ2 K1)) em).mpr ?_
      rw [cl_yes (by decide) r3 hin (show ¬ (1 : Int32) ≤ nI 0 by decide), nI_s]
      rcases m with ⟨σ3, τ3, q1, q2, q3, q4⟩ | ⟨σ3, τ3, len3, s3, b3, e3, q1, q2, q3, q4, q5, q6⟩
      · rw [q1, q2]
        exact Or.inl ⟨σ3, τ3, rfl, rfl, q3, FP.trans r6 q4⟩
      · rw [q1, q2, f_X4_readsLevel_42.eq_2, if_pos (show (1 : Int32) ≤ nI (0 + 1) by decide)]
        exact Or.inr ⟨σ3, τ3, len3, s3, b3, e3, rfl, rfl, q3, by omega, by omega, FP.trans r6 q6⟩
    · have hn : s2 ≠ 3 ∨ (s2 = 3 ∧ x b2 ∉ sgL 2) := by
        by_cases q : s2 = 3
        · exact Or.inr ⟨q, fun r => hs ⟨q, r⟩⟩
        · exact Or.inl q
      have g : ∀ c, c ∈ sgL 2 → c < 256 → f_X8_isSign (nI c) τ2 = some 0 := by
        intro c hc hlt
        rcases hn with q | ⟨rfl, q⟩
        · exact m_isSign t2 t9 q
        · obtain ⟨w1, w2⟩ := t12 rfl
          have hv := (r3.1.2.2 b2 (by omega)).1
          rw [m_isSign3 t2 w2 hv hlt, bI_f (show ¬ x b2 = c from fun r => q (by rw [r]; exact hc))]
      have g60 : f_X8_isSign 60 τ2 = some 0 := g 60 (by decide) (by decide)
      have g61 : f_X8_isSign 61 τ2 = some 0 := g 61 (by decide) (by decide)
      have g62 : f_X8_isSign 62 τ2 = some 0 := g 62 (by decide) (by decide)
      rw [cl_no (by decide) r3 hn, g60, bnd_s, if_pos rfl, g61, bnd_s, if_pos rfl, g62, bnd_s, if_pos rfl]
      exact Or.inr ⟨σ2, τ2, len2, s2, b2, e2, rfl, rfl, r3, by omega, by omega, r6⟩
/-- all levels and pieces -/
theorem ls_parse {x : Nat → Nat} {L T key : Nat} : ∀ n, (∀ ℓ br no g σ τ len D s b e, ℓ ≤ 5 → (6 - ℓ) + (1 + (8 - no) + 7 * (8 - br)) ≤ n → (6 - ℓ) + (1 + (8 - no) + 7 * (8 - br)) ≤ g → PS x L T key σ τ len D br no s b e → len ≤ b → PRes x L T key σ τ len D br no b ((S_r n).1 (nI ℓ) (nI br) (nI no) σ) (S_m g ℓ (nI key) τ)) ∧
    (∀ br no g σ τ len D s b e, 1 + (8 - no) + 7 * (8 - br) ≤ n → 1 + (8 - no) + 7 * (8 - br) ≤ g → PS x L T key σ τ len D br no s b e → len ≤ b → PRes x L T key σ τ len D br no b ((S_r n).2 (nI br) (nI no) σ) (S_m g 5 (nI key) τ)) := by
  intro n
  induction n with
  | zero => exact ⟨fun ℓ br no g σ τ len D s b e hl h1 => by omega, fun br no g σ τ len D s b e h1 => by omega⟩
  | succ n ih =>
    obtain ⟨ihL, ihP⟩ := ih
    refine ⟨fun ℓ br no g σ τ len D s b e hℓ h1 h2 h hl => ?_, fun br no g σ τ len D s b e h1 h2 h hl => ?_⟩
    · obtain ⟨g, rfl⟩ : ∃ g', g = g' + 1 := ⟨g - 1, by omega⟩
      show PRes x L T key σ τ len D br no b (f_X4_readsLevel (S_r n).1 (S_r n).2 (nI ℓ) (nI br) (nI no) σ) (S_m (g + 1) ℓ (nI key) τ)
      rcases (show ℓ = 5 ∨ ℓ = 2 ∨ (ℓ = 0 ∨ ℓ = 1 ∨ ℓ = 3 ∨ ℓ = 4) by omega) with rfl | rfl | hq
      · have eC : f_X4_readsLevel (S_r n).1 (S_r n).2 (nI 5) (nI br) (nI no) σ = bnd ((S_r n).2 (nI br) (nI no) σ) (fun a2 => (if isB a2.1 = true then (some (a2.1, a2.2)) else none)) := by
          unfold f_X4_readsLevel
          rw [if_neg (show ¬ nI 5 < 5 by decide)]
        rw [eC]
        rcases ihP br no (g + 1) σ τ len D s b e (by omega) (by omega) h hl with ⟨σ2, τ2, r1, r2, r3⟩ | ⟨σ2, τ2, len2, s2, b2, e2, r1, r2, r3⟩
        · rw [r1, bnd_s]
          exact Or.inl ⟨σ2, τ2, rfl, r2, r3⟩
        · rw [r1, bnd_s]
          exact Or.inr ⟨σ2, τ2, len2, s2, b2, e2, rfl, r2, r3⟩
      · exact ls_test (fun σ τ len D s b e h' hl' => ihL (2 + 1) br no g σ τ len D s b e (by omega) (by omega) (by omega) h' hl') h hl
      · exact ls_level hq (fun σ τ len D s b e h' hl' => ihL (ℓ + 1) br no g σ τ len D s b e (by omega) (by omega) (by omega) h' hl') h hl
    · obtain ⟨g, rfl⟩ : ∃ g', g = g' + 1 := ⟨g - 1, by omega⟩
      show PRes x L T key σ τ len D br no b (f_X4_readsPiece (S_r n).1 (S_r n).2 (nI br) (nI no) σ) (f_X8_part0 (S_m g) (nI key) τ)
      exact ls_piece (fun hno σ τ len D s b e h' hl' => ihP br (no + 1) g σ τ len D s b e (by omega) (by omega) h' hl') (fun hbr σ τ len D s b e h' hl' => ihL 0 (br + 1) no g σ τ len D s b e (by omega) (by omega) (by omega) h' hl') h hl
