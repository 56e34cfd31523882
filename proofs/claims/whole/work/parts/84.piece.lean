-- a piece
abbrev RecL : Type := Int32 → Int32 → Int32 → Mem → Option (Int32 × Mem)
abbrev RecP : Type := Int32 → Int32 → Mem → Option (Int32 × Mem)
abbrev RecM : Type := Nat → Int32 → Mem → Option (Int32 × Mem)
theorem nam_ix : ∀ key, key < 3 → ∀ v, v < 256 → (strIx (3 + key) (nI v) < 0 ∧ f_X8_isName (nI key) (nI v) σ0 = some 0) ∨ (∃ p, p < 3 ∧ p < [3, 2, 2].getD key 0 ∧ strIx (3 + key) (nI v) = nI p ∧ letV key p = v ∧ f_X8_isName (nI key) (nI v) σ0 = some 1) := by decide +kernel
theorem nameOf {key : Nat} (h : key < 3) (σ : Mem) : f_X4_namesOf (nI key) σ = some (3 + key) := by
  rcases (show key = 0 ∨ key = 1 ∨ key = 2 by omega) with rfl | rfl | rfl <;> rfl
theorem nam_rng {p : Nat} (h : p < 3) : -32768 ≤ ((-1 : Int32) - nI p).toInt ∧ ((-1 : Int32) - nI p).toInt < 32768 := by
  rcases (show p = 0 ∨ p = 1 ∨ p = 2 by omega) with rfl | rfl | rfl <;> decide
theorem sgn_rng : ∀ ch ∈ [33, 38, 42, 43, 45, 47, 60, 61, 62, 124], -32768 ≤ (-nI ch).toInt ∧ (-nI ch).toInt < 32768 := by decide
theorem c_addSign {σ : Mem} {T len ch : Nat} (hch : ch ∈ [33, 38, 42, 43, 45, 47, 60, 61, 62, 124]) (h : σ 1 T 3 = nI len) (hl : len < 96) : f_X1_addSign T (nI ch) σ = some (mput (mput σ 11 T len (-nI ch)) 1 T 3 (nI (len + 1))) := by
  unfold f_X1_addSign
  rw [c_put h hl (sgn_rng ch hch).1 (sgn_rng ch hch).2, bnd_s]
/-- a sign is laid on both sides -/
theorem PS_sign {x : Nat → Nat} {L T key : Nat} {σ τ : Mem} {len D br no s b e ch : Nat} (h : PS x L T key σ τ len D br no s b e) (hl : len < 96) (hch : ch ∈ [33, 38, 42, 43, 45, 47, 60, 61, 62, 124]) (hD : (ch = 33 → 1 ≤ D) ∧ (ch ≠ 33 → 2 ≤ D)) : ∃ σ' τ', f_X1_addSign T (nI ch) σ = some σ' ∧ f_X8_step 2 (nI ch) τ = some τ' ∧ PS x L T key σ' τ' (len + 1) (if ch = 33 then D else D - 1) br no s b e ∧ FP T σ τ σ' τ' := by
  obtain ⟨z1, z2, -, -⟩ := sgn_neg ch hch
  have l1 := h.2.2.2.2.1
  have hT := atT_le h.2.2.2.1.1
  obtain ⟨q1, q2⟩ := PS_push (cv := -nI ch) (w := 2) (v := nI ch) h hl (Or.inr (Or.inr ⟨ch, hch, rfl, rfl, rfl⟩)) (D' := if ch = 33 then D else D - 1) (by
    rw [if_pos z1]
    by_cases h33 : ch = 33
    · rw [if_pos h33, if_pos (z2.mpr h33)]
    · rw [if_neg h33, if_neg (fun q => h33 (z2.mp q))]) ⟨fun q => hD.1 (z2.mp q), fun _ q => hD.2 (fun r => q (z2.mpr r))⟩
  exact ⟨_, _, c_addSign hch l1.1 hl, m_step l1.2.1 l1.2.2.1 (by omega), q1, q2⟩
theorem c_addAny {σ : Mem} {T len : Nat} (h : σ 1 T 3 = nI len) (hl : len ≤ 96) (v : Int32) : ∃ σ', f_X1_addSign T v σ = some σ' ∧ (∀ g i, ¬ ((g = 1 ∨ g = 11) ∧ i = T) → σ' g i = σ g i) ∧ ∃ len', len' ≤ 96 ∧ σ' 1 T 3 = nI len' := by
  unfold f_X1_addSign f_X1_put
  rw [h]
  by_cases hlt : len < 96
  · rw [if_neg (show ¬ (96 : Int32) ≤ nI len from nI_ge (b := 96) hlt (by decide)), ix_nI hlt (by decide), bnd_s, bnd_s, bnd_s, mp_g (by decide), h, nI_s]
    exact ⟨_, rfl, fun g i hn => by rw [mput_cell (fun q => hn (by cases q; exact ⟨Or.inl rfl, rfl⟩)), mput_cell (fun q => hn (by cases q; exact ⟨Or.inr rfl, rfl⟩))], len + 1, by omega, mput_same⟩
  · rw [if_pos (show (96 : Int32) ≤ nI len from nI_le (a := 96) (by omega) (by omega)), bnd_s]
    exact ⟨σ, rfl, fun _ _ _ => rfl, len, hl, h⟩
set_option maxHeartbeats 2000000 in
theorem ls_piece {x : Nat → Nat} {L T key br no : Nat} {recL : RecL} {recP : RecP} {rec : RecM}
    (hP : no < 8 → ∀ σ τ len D s b e, PS x L T key σ τ len D br (no + 1) s b e → len ≤ b → PRes x L T key σ τ len D br (no + 1) b (recP (nI br) (nI (no + 1)) σ) (rec 5 (nI key) τ))
    (hL : br < 8 → ∀ σ τ len D s b e, PS x L T key σ τ len D (br + 1) no s b e → len ≤ b → PRes x L T key σ τ len D (br + 1) no b (recL 0 (nI (br + 1)) (nI no) σ) (rec 0 (nI key) τ))
    {σ τ : Mem} {len D s b e : Nat} (h : PS x L T key σ τ len D br no s b e) (hl : len ≤ b) : PRes x L T key σ τ len D br no b (f_X4_readsPiece recL recP (nI br) (nI no) σ) (f_X8_part0 rec (nI key) τ) := by
  obtain ⟨h1, h2, h3, ⟨k1, k2, k3, k4⟩, ⟨l1, l2, l3, l4⟩, h6, h7, h8, ⟨m1, m2, m3, m4⟩⟩ := id h
  obtain ⟨t1, t2, t3, t4, t5, t6, t7, t8, t9, t10, t11, t12, t13⟩ := id h3
  have h96 := h1.1
  have hA := atT_le k1
  have dT := dyn_T k1
  rcases (show s = 0 ∨ s = 4 ∨ s = 2 ∨ s = 1 ∨ s = 3 by omega) with rfl | rfl | rfl | rfl | rfl
  · unfold f_X4_readsPiece f_X8_part0
    have g33 : f_X8_isSign 33 τ = some 0 := m_isSign t2 t9 (by decide)
    have g40 : f_X8_isSign 40 τ = some 0 := m_isSign t2 t9 (by decide)
    rw [t1, t2, if_neg (show ¬ nI 0 = 2 by decide), if_neg (show ¬ nI 0 = 1 by decide), if_neg (show ¬ nI 0 = 3 by decide), if_neg (show ¬ nI 0 = 2 by decide), if_neg (show ¬ nI 0 = 1 by decide), g33, bnd_s, if_pos rfl, g40, bnd_s, if_pos rfl]
    exact h.fail hl
  · unfold f_X4_readsPiece f_X8_part0
    have g33 : f_X8_isSign 33 τ = some 0 := m_isSign t2 t9 (by decide)
    have g40 : f_X8_isSign 40 τ = some 0 := m_isSign t2 t9 (by decide)
    rw [t1, t2, if_neg (show ¬ nI 4 = 2 by decide), if_neg (show ¬ nI 4 = 1 by decide), if_neg (show ¬ nI 4 = 3 by decide), if_neg (show ¬ nI 4 = 2 by decide), if_neg (show ¬ nI 4 = 1 by decide), g33, bnd_s, if_pos rfl, g40, bnd_s, if_pos rfl]
    exact h.fail hl
  · -- a number
    obtain ⟨n1, n2, n3⟩ := t13 rfl
    have hbe := t10 (by decide)
    have h10 := nvN_4 n1 n2
    obtain ⟨P1, F1⟩ := PS_push (cv := nI (nvN x b (e - b) 0)) (w := 0) (v := nI (nvN x b (e - b) 0)) h (by omega) (Or.inl ⟨_, h10, rfl, rfl, rfl⟩) (D' := D + 1) (by rw [if_neg (num_pos h10).1]) ⟨fun q => absurd (by rw [q]; decide) (num_pos h10).1, fun q => absurd q (num_pos h10).1⟩
    obtain ⟨P2, F2⟩ := PS_leaf P1
    obtain ⟨σ', τ', s', b', e', q1, q2, q3, q4, q5⟩ := PS_goOn P2
    refine Or.inr ⟨σ', τ', len + 1, s', b', e', ?_, ?_, q3, by omega, by omega, FP.trans (FP.trans F1 F2) q5⟩
    · unfold f_X4_readsPiece f_X1_addNumber
      rw [t1, if_pos (show nI 2 = 2 from rfl), k2, dT, bnd_s, c_numberH h1 t3 t5 t8 t7 n2, bnd_s, c_put l1 (by omega) (by rw [nI_toInt (by omega)]; omega) (by rw [nI_toInt (by omega)]; omega), bnd_s, bnd_s, q1, bnd_s]
    · unfold f_X8_part0
      rw [t2, if_pos (show nI 2 = 2 from rfl), n3, m_step l2 l3 (by omega), bnd_s, q2, bnd_s]
  · -- a word
    obtain ⟨n1, n2⟩ := t11 rfl
    have hbe := t10 (by decide)
    obtain ⟨hv, ev⟩ := h1.2.2 b (by omega)
    have g33 : f_X8_isSign 33 τ = some 0 := m_isSign t2 t9 (by decide)
    have g40 : f_X8_isSign 40 τ = some 0 := m_isSign t2 t9 (by decide)
    have e1 : f_X4_readsPiece recL recP (nI br) (nI no) σ = bnd (f_X4_readsName σ) (fun a13 => (if isB a13.1 = true then (some (a13.1, a13.2)) else none)) := by
      unfold f_X4_readsPiece
      rw [t1, if_neg (show ¬ nI 1 = 2 by decide), if_pos (show nI 1 = 1 from rfl)]
    by_cases h1e : e = b + 1
    · subst h1e
      rw [if_pos rfl] at n2
      have nz : ¬ nI (x b) = 0 := nI_ne0 (by unfold isLe at n1; rw [Bool.and_eq_true, decide_eq_true_eq] at n1; omega) (by omega)
      have er : f_X4_readsName σ = (if 0 ≤ (strIx (3 + key) (nI (x b))) then (bnd (f_X1_addName T (strIx (3 + key) (nI (x b))) σ) (fun a3 => (bnd (f_X4_goOn a3) (fun a4 => (some ((1 : Int32), a4)))))) else (some ((0 : Int32), σ))) := by
        unfold f_X4_readsName
        rw [t3, t5, pk_sub (by omega), show b + 1 - b = 1 by omega, if_pos (show nI 1 = 1 from rfl), k2, dT, bnd_s, k4, nameOf k3, bnd_s, c_signH h1 t3 (by omega), bnd_s, bnd_s]
      rcases nam_ix key k3 (x b) hv with ⟨r1, r2⟩ | ⟨p, p3, pl, r1, r2, r3⟩
      · have em : f_X8_isName (nI key) (nI (x b)) τ = some 0 := r2
        rw [e1, er, if_neg (pl_nle.mpr r1), bnd_s]
        unfold f_X8_part0
        rw [t2, if_neg (show ¬ nI 1 = 2 by decide), if_pos (show nI 1 = 1 from rfl), n2, if_neg nz, em, bnd_s, if_pos rfl, g33, bnd_s, if_pos rfl, g40, bnd_s, if_pos rfl]
        exact h.fail hl
      · have em : f_X8_isName (nI key) (nI (x b)) τ = some 1 := r3
        obtain ⟨w1, w2, -, -⟩ := nam_neg p p3
        obtain ⟨P1, F1⟩ := PS_push (cv := -1 - nI p) (w := 1) (v := nI (x b)) h (by omega) (Or.inr (Or.inl ⟨p, pl, rfl, rfl, by rw [r2]⟩)) (D' := D + 1) (by rw [if_neg w1]) ⟨fun q => absurd (by rw [q]; decide) w1, fun q => absurd q w1⟩
        obtain ⟨P2, F2⟩ := PS_leaf P1
        obtain ⟨σ', τ', s', b', e', q1, q2, q3, q4, q5⟩ := PS_goOn P2
        refine Or.inr ⟨σ', τ', len + 1, s', b', e', ?_, ?_, q3, by omega, by omega, FP.trans (FP.trans F1 F2) q5⟩
        · rw [e1, er, r1, if_pos (nI_pos' (by omega))]
          unfold f_X1_addName
          rw [c_put l1 (by omega) (nam_rng p3).1 (nam_rng p3).2, bnd_s, bnd_s, q1, bnd_s, bnd_s]
          rfl
        · unfold f_X8_part0
          rw [t2, if_neg (show ¬ nI 1 = 2 by decide), if_pos (show nI 1 = 1 from rfl), n2, if_neg nz, em, bnd_s, if_neg (show ¬ (1 : Int32) = 0 by decide), m_step l2 l3 (by omega), bnd_s, q2, bnd_s]
    · rw [if_neg h1e] at n2
      have er : f_X4_readsName σ = some (0, σ) := by
        unfold f_X4_readsName
        rw [t3, t5, pk_sub (by omega), if_neg (show ¬ nI (e - b) = 1 from fun q => by have := (nI_eq (a := e - b) (b := 1) (by omega) (by decide)).mp q; omega)]
      rw [e1, er, bnd_s]
      unfold f_X8_part0
      rw [t2, if_neg (show ¬ nI 1 = 2 by decide), if_pos (show nI 1 = 1 from rfl), n2, if_pos rfl, g33, bnd_s, if_pos rfl, g40, bnd_s, if_pos rfl]
      exact h.fail hl
  · -- a sign
    obtain ⟨n1, n2⟩ := t12 rfl
    subst n1
    obtain ⟨hv, ev⟩ := h1.2.2 b (by omega)
    have sg := c_signH h1 t3 (show b < L by omega)
    have g33 : f_X8_isSign 33 τ = some (bI (x b = 33)) := m_isSign3 (c := 33) t2 n2 hv (by decide)
    have g40 : f_X8_isSign 40 τ = some (bI (x b = 40)) := m_isSign3 (c := 40) t2 n2 hv (by decide)
    have bracket : ∀ (A B : Option (Int32 × Mem)), x b = 40 → A = (if (8 : Int32) ≤ nI br then (some ((0 : Int32), σ)) else (bnd (f_X4_goOn σ) (fun a3 => (bnd (recL (0 : Int32) (nI br + (1 : Int32)) (nI no) a3) (fun a4 => (if a4.1 = 0 then (some ((0 : Int32), a4.2)) else (bnd (f_X4_closesBracket a4.2) (fun a5 => (if a5.1 = 0 then (some ((0 : Int32), a5.2)) else (some ((1 : Int32), a5.2))))))))))) → B = (if (τ 8 0 22) = (8 : Int32) then (some ((0 : Int32), τ)) else (bnd (f_X8_nextToken (mput τ 8 0 22 ((τ 8 0 22) + (1 : Int32)))) (fun a3 => (bnd (rec 0 (nI key) a3) (fun a4 => (if a4.1 = 0 then (some ((0 : Int32), a4.2)) else (bnd (f_X8_isSign (41 : Int32) a4.2) (fun a5 => (if a5 = 0 then (some ((0 : Int32), a4.2)) else (bnd (f_X8_nextToken (mput a4.2 8 0 22 ((a4.2 8 0 22) - (1 : Int32)))) (fun a6 => (some ((1 : Int32), a6))))))))))))) → PRes x L T key σ τ len D br no b A B := by
      intro A B h40 hA hB
      subst hA
      subst hB
      rw [m1]
      by_cases h8 : br = 8
      · subst h8
        rw [if_pos (show (8 : Int32) ≤ nI 8 by decide), if_pos (show nI 8 = 8 from rfl)]
        exact h.fail hl
      · rw [if_neg (show ¬ (8 : Int32) ≤ nI br from nI_ge (b := 8) (by omega) (by decide)), if_neg (show ¬ nI br = 8 from fun q => h8 ((nI_eq (a := br) (b := 8) (by omega) (by decide)).mp q)), nI_s]
        obtain ⟨P1, F1⟩ := PS_deep (br' := br + 1) h (by omega)
        obtain ⟨σ1, τ1, s1, b1, e1, q1, q2, q3, q4, q5⟩ := PS_goOn P1
        rw [q1, bnd_s, q2, bnd_s]
        rcases hL (by omega) σ1 τ1 len D s1 b1 e1 q3 (by omega) with ⟨σ2, τ2, r1, r2, r3, r4⟩ | ⟨σ2, τ2, len2, s2, b2, e2, r1, r2, r3, r4, r5, r6⟩
        · rw [r1, bnd_s, r2, bnd_s, if_pos rfl, if_pos rfl]
          exact Or.inl ⟨σ2, τ2, rfl, rfl, r3, FP.trans (FP.trans F1 q5) r4⟩
        · rw [r1, bnd_s, r2, bnd_s, if_neg (show ¬ (1 : Int32) = 0 by decide), if_neg (show ¬ (1 : Int32) = 0 by decide)]
          obtain ⟨u1, u2, u3, -, -, -, -, -, ⟨v1, -⟩⟩ := id r3
          obtain ⟨y1, y2, y3, y4, y5, y6, y7, y8, y9, y10, -, y12, -⟩ := u3
          show PRes x L T key σ τ len D br no b (bnd (f_X4_closesBracket σ2) _) (bnd (f_X8_isSign 41 τ2) _)
          unfold f_X4_closesBracket
          by_cases hs3 : s2 = 3
          · subst hs3
            obtain ⟨w1, w2⟩ := y12 rfl
            subst w1
            obtain ⟨hv2, -⟩ := u1.2.2 b2 (by omega)
            have g41 : f_X8_isSign 41 τ2 = some (bI (x b2 = 41)) := m_isSign3 (c := 41) y2 w2 hv2 (by decide)
            rw [y1, if_pos (show nI 3 = 3 from rfl), c_signH u1 y3 (by omega), bnd_s, g41, bnd_s]
            by_cases h41 : x b2 = 41
            · rw [h41, if_pos (show nI 41 = 41 from rfl), bI_t rfl, if_neg (show ¬ (1 : Int32) = 0 by decide)]
              show PRes x L T key σ τ len D br no b (bnd (bnd (f_X4_goOn σ2) _) _) (bnd (f_X8_nextToken (mput τ2 8 0 22 (τ2 8 0 22 - 1))) _)
              rw [v1, show nI (br + 1) - (1 : Int32) = nI br from nI_pred br]
              obtain ⟨P3, F3⟩ := PS_deep (br' := br) r3 (by omega)
              obtain ⟨σ3, τ3, s3, b3, e3, z1, z2, z3, z4, z5⟩ := PS_goOn P3
              rw [z1, bnd_s, bnd_s, z2, bnd_s]
              exact Or.inr ⟨σ3, τ3, len2, s3, b3, e3, rfl, rfl, z3, by omega, by omega, FP.trans (FP.trans (FP.trans F1 q5) r6) (FP.trans F3 z5)⟩
            · rw [if_neg (show ¬ nI (x b2) = 41 from fun q => h41 ((nI_eq (a := x b2) (b := 41) (by omega) (by decide)).mp q)), bI_f h41, bnd_s, if_pos rfl, if_pos rfl]
              exact Or.inl ⟨σ2, τ2, rfl, rfl, r3.pf (by omega), FP.trans (FP.trans F1 q5) r6⟩
          · have g41 : f_X8_isSign 41 τ2 = some 0 := m_isSign y2 y9 hs3
            rw [y1, if_neg (show ¬ nI s2 = 3 from fun q => hs3 ((nI_eq (a := s2) (b := 3) (by omega) (by decide)).mp q)), bnd_s, g41, bnd_s, if_pos rfl, if_pos rfl]
            exact Or.inl ⟨σ2, τ2, rfl, rfl, r3.pf (by omega), FP.trans (FP.trans F1 q5) r6⟩
    by_cases h33 : x b = 33
    · by_cases h8 : no = 8
      · subst h8
        unfold f_X4_readsPiece f_X8_part0
        rw [t1, t2, if_neg (show ¬ nI 3 = 2 by decide), if_neg (show ¬ nI 3 = 1 by decide), if_pos (show nI 3 = 3 from rfl), sg, bnd_s, h33, if_pos (show nI 33 = 33 from rfl), if_pos (show (8 : Int32) ≤ nI 8 by decide), bnd_s, if_neg (show ¬ nI 33 = 40 by decide), if_neg (show ¬ nI 3 = 2 by decide), if_neg (show ¬ nI 3 = 1 by decide), g33, bnd_s, bI_t h33, if_neg (show ¬ (1 : Int32) = 0 by decide), m2, if_pos (show (8 : Int32) ≤ nI 8 by decide), g40, bnd_s, bI_f (by omega), if_pos rfl]
        exact h.fail hl
      · have hn8 : ¬ (8 : Int32) ≤ nI no := nI_ge (b := 8) (by omega) (by decide)
        obtain ⟨P1, F1⟩ := PS_turn (no' := no + 1) h (by omega)
        obtain ⟨σ1, τ1, s1, b1, e1, q1, q2, q3, q4, q5⟩ := PS_goOn P1
        unfold f_X4_readsPiece f_X8_part0
        rw [t1, t2, if_neg (show ¬ nI 3 = 2 by decide), if_neg (show ¬ nI 3 = 1 by decide), if_pos (show nI 3 = 3 from rfl), sg, bnd_s, h33, if_pos (show nI 33 = 33 from rfl), if_neg hn8, q1, bnd_s, nI_s, if_neg (show ¬ nI 3 = 2 by decide), if_neg (show ¬ nI 3 = 1 by decide), g33, bnd_s, bI_t h33, if_neg (show ¬ (1 : Int32) = 0 by decide), m2, if_neg hn8, nI_s, q2, bnd_s]
        rcases hP (by omega) σ1 τ1 len D s1 b1 e1 q3 (by omega) with ⟨σ2, τ2, r1, r2, r3, r4⟩ | ⟨σ2, τ2, len2, s2, b2, e2, r1, r2, r3, r4, r5, r6⟩
        · obtain ⟨f1, f2, lf, f3, f4⟩ := r3
          obtain ⟨σ3, a1, a2, lf3, a3, a4⟩ := c_addAny f4 f3 33
          rw [r1, bnd_s, r2, bnd_s, if_pos rfl]
          show PRes x L T key σ τ len D br no b (bnd (dynL (σ2 4 0 2)) _) _
          rw [f2, dT, bnd_s]
          show PRes x L T key σ τ len D br no b (bnd (f_X1_addSign T 33 σ2) _) _
          rw [a1, bnd_s]
          refine Or.inl ⟨σ3, τ2, rfl, rfl, ⟨by rw [a2 4 0 (by omega)]; exact f1, by rw [a2 4 0 (by omega)]; exact f2, lf3, a3, a4⟩, FP.trans (FP.trans (FP.trans F1 q5) r4) ⟨fun g i hg hn => a2 g i hn, fun _ _ _ => rfl, fun _ _ => rfl, fun _ _ => rfl⟩⟩
        · obtain ⟨P3, F3⟩ := PS_turn (no' := no) r3 (by omega)
          have k2' := r3.2.2.2.1.2.1
          have v2 := r3.2.2.2.2.2.2.2.2.2.1
          obtain ⟨σ4, τ4, a1, a2, a3, a4⟩ := PS_sign (ch := 33) P3 (by have := r3.2.2.1; obtain ⟨-, -, -, -, -, -, w7, w8, -⟩ := this; omega) (by decide) ⟨fun _ => by omega, fun q => absurd rfl q⟩
          rw [r1, bnd_s, r2, bnd_s, if_neg (show ¬ (1 : Int32) = 0 by decide)]
          show PRes x L T key σ τ len D br no b (bnd (dynL (σ2 4 0 2)) _) (bnd (f_X8_step 2 33 (mput τ2 8 0 23 (τ2 8 0 23 - 1))) _)
          rw [k2', dT, bnd_s, v2, show nI (no + 1) - (1 : Int32) = nI no from nI_pred no]
          show PRes x L T key σ τ len D br no b (bnd (f_X1_addSign T (nI 33) σ2) _) (bnd (f_X8_step 2 (nI 33) (mput τ2 8 0 23 (nI no))) _)
          rw [a1, bnd_s, a2, bnd_s]
          exact Or.inr ⟨σ4, τ4, len2 + 1, s2, b2, e2, rfl, rfl, a3, by omega, by omega, FP.trans (FP.trans (FP.trans F1 q5) r6) (FP.trans F3 a4)⟩
    · have n33 : ¬ nI (x b) = 33 := fun q => h33 ((nI_eq (a := x b) (b := 33) (by omega) (by decide)).mp q)
      by_cases h40 : x b = 40
      · refine bracket _ _ h40 ?_ ?_
        · unfold f_X4_readsPiece
          rw [t1, if_neg (show ¬ nI 3 = 2 by decide), if_neg (show ¬ nI 3 = 1 by decide), if_pos (show nI 3 = 3 from rfl), sg, bnd_s, if_neg n33, bnd_s, h40, if_pos (show nI 40 = 40 from rfl)]
        · unfold f_X8_part0
          rw [t2, if_neg (show ¬ nI 3 = 2 by decide), if_neg (show ¬ nI 3 = 1 by decide), g33, bnd_s, bI_f h33, if_pos rfl, g40, bnd_s, bI_t h40, if_neg (show ¬ (1 : Int32) = 0 by decide)]
      · have n40 : ¬ nI (x b) = 40 := fun q => h40 ((nI_eq (a := x b) (b := 40) (by omega) (by decide)).mp q)
        unfold f_X4_readsPiece f_X8_part0
        rw [t1, t2, if_neg (show ¬ nI 3 = 2 by decide), if_neg (show ¬ nI 3 = 1 by decide), if_pos (show nI 3 = 3 from rfl), sg, bnd_s, if_neg n33, bnd_s, if_neg n40, if_neg (show ¬ nI 3 = 2 by decide), if_neg (show ¬ nI 3 = 1 by decide), g33, bnd_s, bI_f h33, if_pos rfl, g40, bnd_s, bI_f h40, if_pos rfl]
        exact h.fail hl
