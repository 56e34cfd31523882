-- copies of lands and rows
theorem c_pbec {a b : Nat} {σ : Mem} (h : a ≠ b) : ∃ σ', f_X3_becomes a b σ = some σ' ∧ (∀ k, k < 5 → σ' 3 a k = σ 3 b k) ∧ (∀ q, q ≠ a → σ' 3 q = σ 3 q) ∧ (∀ g, g ≠ 3 → σ' g = σ g) := by
  unfold f_X3_becomes
  refine ⟨_, rfl, ?_, ?_, ?_⟩
  · intro k hk
    rcases (show k = 0 ∨ k = 1 ∨ k = 2 ∨ k = 3 ∨ k = 4 by omega) with rfl | rfl | rfl | rfl | rfl <;> simp [mput, Ne.symm h]
  · intro q hq
    rw [mp_i hq, mp_i hq, mp_i hq, mp_i hq, mp_i hq]
  · intro g hg
    rw [mp_g hg, mp_g hg, mp_g hg, mp_g hg, mp_g hg]
theorem c_becL {p0 p1 n : Nat} (hne : p0 ≠ p1) (hn : n ≤ 10) : ∀ (m i nC : Nat) (σ : Mem), σ 0 p0 2 = nI n → i + m = n → m < nC →
    ∃ σ', (∀ K, f_X0_becomes_10 p0 p1 nC (nI i) σ K = K σ') ∧ (∀ j, i ≤ j → j < n → ∀ k, k < 5 → σ' 3 (10 * p0 + j) k = σ 3 (10 * p1 + j) k) ∧ (∀ q, (q < 10 * p0 + i ∨ 10 * p0 + n ≤ q) → σ' 3 q = σ 3 q) ∧ (∀ g, g ≠ 3 → σ' g = σ g) := by
  intro m
  induction m with
  | zero =>
    intro i nC σ h0 hi h3
    obtain ⟨nC, rfl, -⟩ := succ_of h3
    refine ⟨σ, fun K => ?_, fun j h1 h2 => by omega, fun _ _ => rfl, fun _ _ => rfl⟩
    rw [f_X0_becomes_10.eq_2, h0, if_pos (nI_le (by omega) (by omega))]
  | succ m ih =>
    intro i nC σ h0 hi h3
    obtain ⟨nC, rfl, h3⟩ := succ_of h3
    obtain ⟨σ1, q1, q2, q3, q4⟩ := c_pbec (a := 10 * p0 + i) (b := 10 * p1 + i) (σ := σ) (by omega)
    obtain ⟨σ', r1, r2, r3, r4⟩ := ih (i + 1) nC σ1 (by rw [q4 0 (by decide)]; exact h0) (by omega) (by omega)
    refine ⟨σ', fun K => ?_, fun j h1 h2 k hk => ?_, fun q hq => ?_, fun g hg => (r4 g hg).trans (q4 g hg)⟩
    · have i10 : ix 10 (nI i) = some i := ix_nI (by omega) (by decide)
      rw [f_X0_becomes_10.eq_2, h0, if_neg (nI_ge (by omega) (by omega)), i10, bnd_s, bnd_s, q1, bnd_s, nI_s]
      exact r1 K
    · by_cases e : j = i
      · subst e
        rw [r3 (10 * p0 + j) (by omega)]
        exact q2 k hk
      · rw [r2 j (by omega) h2 k hk, q3 (10 * p1 + j) (by omega)]
    · rw [r3 q (by omega), q3 q (by omega)]
theorem cp17 {nv : Nat} (hv : nv ≤ 17) : cpOK (0 : Int32) (0 : Int32) (nI nv) 17 17 = true := by
  unfold cpOK
  rw [decide_eq_true_eq, nI_clamp (by omega), show ((0 : Int32)).toNatClampNeg = 0 from rfl]
  exact ⟨by decide, by decide, nI_pos (by omega), by omega, by omega⟩
theorem mc_i {σ : Mem} {g0 i0 sp g1 i1 dp n g i : Nat} (h : i ≠ i1) : mcopy σ g0 i0 sp g1 i1 dp n g i = σ g i := by
  funext k
  unfold mcopy
  rw [if_neg (fun q => h q.2)]
/-- the fields of a land but its people's number, and its rows -/
theorem c_becT {s : Mem} {p0 p1 nv : Nat} (hne : p0 ≠ p1) (z6 : s 0 p1 6 = nI nv) (hv : nv ≤ 17) :
    ∃ s', (if cpOK (0 : Int32) (0 : Int32) ((mput s 0 p0 6 (s 0 p1 6)) 0 p0 6) 17 17 = true then (bnd (some (mcopy (mput s 0 p0 6 (s 0 p1 6)) 13 p1 ((0 : Int32)).toNatClampNeg 13 p0 ((0 : Int32)).toNatClampNeg (((mput s 0 p0 6 (s 0 p1 6)) 0 p0 6)).toNatClampNeg)) (fun s1 => (if cpOK (0 : Int32) (0 : Int32) (s1 0 p0 6) 17 17 = true then (bnd (some (mcopy s1 14 p1 ((0 : Int32)).toNatClampNeg 14 p0 ((0 : Int32)).toNatClampNeg ((s1 0 p0 6)).toNatClampNeg)) (fun s2 => (if cpOK (0 : Int32) (0 : Int32) (s2 0 p0 6) 17 17 = true then (bnd (some (mcopy s2 15 p1 ((0 : Int32)).toNatClampNeg 15 p0 ((0 : Int32)).toNatClampNeg ((s2 0 p0 6)).toNatClampNeg)) (fun s3 => (bnd (some (mput (mput (mput s3 0 p0 7 (s3 0 p1 7)) 0 p0 8 ((mput s3 0 p0 7 (s3 0 p1 7)) 0 p1 8)) 0 p0 9 ((mput (mput s3 0 p0 7 (s3 0 p1 7)) 0 p0 8 ((mput s3 0 p0 7 (s3 0 p1 7)) 0 p1 8)) 0 p1 9))) (fun s4 => (if cpOK (0 : Int32) (0 : Int32) (3 : Int32) 3 3 = true then (bnd (some (mcopy (mput (mput s4 0 p0 10 (s4 0 p1 10)) 0 p0 11 ((mput s4 0 p0 10 (s4 0 p1 10)) 0 p1 11)) 16 p1 ((0 : Int32)).toNatClampNeg 16 p0 ((0 : Int32)).toNatClampNeg ((3 : Int32)).toNatClampNeg)) (fun s5 => (some s5))) else none))))) else none))) else none))) else none) = some s' ∧
      (∀ i, i ≠ p0 → ∀ g, s' g i = s g i) ∧ (∀ g, g ≠ 0 → g ≠ 13 → g ≠ 14 → g ≠ 15 → g ≠ 16 → s' g = s g) ∧ s' 0 p0 2 = s 0 p0 2 ∧ (∀ k, 6 ≤ k → k ≤ 11 → s' 0 p0 k = s 0 p1 k) ∧
      (∀ v, v < nv → s' 13 p0 v = s 13 p1 v ∧ s' 14 p0 v = s 14 p1 v ∧ s' 15 p0 v = s 15 p1 v) ∧ (∀ k, k < 3 → s' 16 p0 k = s 16 p1 k) := by
  have c0 : ((0 : Int32)).toNatClampNeg = 0 := rfl
  have c3 : ((3 : Int32)).toNatClampNeg = 3 := rfl
  have cv : (nI nv).toNatClampNeg = nv := nI_clamp (by omega)
  have hne' : p1 ≠ p0 := Ne.symm hne
  rw [z6, mput_same, if_pos (cp17 hv), bnd_s, c0, cv]
  have f1 : (mcopy (mput s 0 p0 6 (nI nv)) 13 p1 0 13 p0 0 nv) 0 p0 6 = nI nv := by rw [mc_g (by decide), mput_same]
  rw [f1, if_pos (cp17 hv), bnd_s, cv, mc_g (by decide), f1, if_pos (cp17 hv), bnd_s, cv, bnd_s, if_pos (show cpOK (0 : Int32) (0 : Int32) (3 : Int32) 3 3 = true by decide), bnd_s, c3]
  refine ⟨_, rfl, ?_, ?_, ?_, ?_, ?_, ?_⟩
  · intro i hi g
    rw [mc_i hi, mp_i hi, mp_i hi, mp_i hi, mp_i hi, mp_i hi, mc_i hi, mc_i hi, mc_i hi, mp_i hi]
  · intro g h0 h13 h14 h15 h16
    rw [mc_g h16, mp_g h0, mp_g h0, mp_g h0, mp_g h0, mp_g h0, mc_g h15, mc_g h14, mc_g h13, mp_g h0]
  · rw [mc_g (by decide), mp_k (by decide), mp_k (by decide), mp_k (by decide), mp_k (by decide), mp_k (by decide), mc_g (by decide), mc_g (by decide), mc_g (by decide), mp_k (by decide)]
  · intro k h1 h2
    rcases (show k = 6 ∨ k = 7 ∨ k = 8 ∨ k = 9 ∨ k = 10 ∨ k = 11 by omega) with rfl | rfl | rfl | rfl | rfl | rfl
    · rw [mc_g (by decide), mp_k (by decide), mp_k (by decide), mp_k (by decide), mp_k (by decide), mp_k (by decide), mc_g (by decide), mc_g (by decide), f1, z6]
    · rw [mc_g (by decide), mp_k (by decide), mp_k (by decide), mp_k (by decide), mp_k (by decide), mput_same, mc_g (by decide), mc_g (by decide), mc_g (by decide), mp_i hne']
    · rw [mc_g (by decide), mp_k (by decide), mp_k (by decide), mp_k (by decide), mput_same, mp_i hne', mc_g (by decide), mc_g (by decide), mc_g (by decide), mp_i hne']
    · rw [mc_g (by decide), mp_k (by decide), mp_k (by decide), mput_same, mp_i hne', mp_i hne', mc_g (by decide), mc_g (by decide), mc_g (by decide), mp_i hne']
    · rw [mc_g (by decide), mp_k (by decide), mput_same, mp_i hne', mp_i hne', mp_i hne', mc_g (by decide), mc_g (by decide), mc_g (by decide), mp_i hne']
    · rw [mc_g (by decide), mput_same, mp_i hne', mp_i hne', mp_i hne', mp_i hne', mc_g (by decide), mc_g (by decide), mc_g (by decide), mp_i hne']
  · intro v hvv
    have e : 0 ≤ v ∧ v < 0 + nv := ⟨Nat.zero_le _, by omega⟩
    refine ⟨?_, ?_, ?_⟩
    · rw [mc_g (by decide), mp_g (by decide), mp_g (by decide), mp_g (by decide), mp_g (by decide), mp_g (by decide), mc_g (by decide), mc_g (by decide), mc_on, if_pos e, mp_g (by decide), show 0 + (v - 0) = v by omega]
    · rw [mc_g (by decide), mp_g (by decide), mp_g (by decide), mp_g (by decide), mp_g (by decide), mp_g (by decide), mc_g (by decide), mc_on, if_pos e, mc_g (by decide), mp_g (by decide), show 0 + (v - 0) = v by omega]
    · rw [mc_g (by decide), mp_g (by decide), mp_g (by decide), mp_g (by decide), mp_g (by decide), mp_g (by decide), mc_on, if_pos e, mc_g (by decide), mc_g (by decide), mp_g (by decide), show 0 + (v - 0) = v by omega]
  · intro k hk
    rw [mc_on, if_pos (show 0 ≤ k ∧ k < 0 + 3 by omega), mp_g (by decide), mp_g (by decide), mp_g (by decide), mp_g (by decide), mp_g (by decide), mc_g (by decide), mc_g (by decide), mc_g (by decide), mp_g (by decide), show 0 + (k - 0) = k by omega]
/-- a land becomes another: what it then is, beside a row -/
theorem c_becomes {b : Bool} {p0 p1 n nv nt G : Nat} {σ τ : Mem} (hne : p0 ≠ p1) (H : RLd b p1 G σ τ n nv nt) : ∃ σ', f_X0_becomes p0 p1 σ = some σ' ∧ Fm (RgD p0) σ σ' ∧ σ' 10 = σ 10 ∧ RLd b p0 G σ' τ n nv nt ∧ RLd b p1 G σ' τ n nv nt := by
  have H0 := H
  obtain ⟨⟨a1, a2, a3⟩, ⟨b1, b2, b3⟩, hp, hw, ⟨d1, d2, d3, d4⟩, e1, e2, e3, e4⟩ := H
  have hne' : p1 ≠ p0 := Ne.symm hne
  obtain ⟨s, q1, q2, q3, q4⟩ := c_becL (p1 := p1) hne a3 n 0 FU (mput σ 0 p0 2 (nI n)) mput_same (by omega) (fu_gt (by omega))
  have zz : ∀ k, s 0 p1 k = σ 0 p1 k := fun k => by rw [q4 0 (by decide), mp_i hne']
  obtain ⟨s', r1, r2, r3, r4, r5, r6, r7⟩ := c_becT (s := s) hne ((zz 6).trans b1) b3
  have E : f_X0_becomes p0 p1 σ = some s' := by
    unfold f_X0_becomes
    rw [a1]
    show f_X0_becomes_10 p0 p1 FU (nI 0) (mput σ 0 p0 2 (nI n)) _ = _
    rw [q1]
    exact r1
  have s3 : ∀ q, (q < 10 * p0 ∨ 10 * p0 + 10 ≤ q) → s' 3 q = σ 3 q := fun q hq => by rw [r3 3 (by decide) (by decide) (by decide) (by decide) (by decide), q3 q (by omega), mp_g (by decide)]
  have F : Fm (RgD p0) σ s' := by
    intro g i hn
    by_cases hg : g = 0 ∨ g = 13 ∨ g = 14 ∨ g = 15 ∨ g = 16
    · have hi : i ≠ p0 := fun q => hn (by unfold RgD; omega)
      rw [r2 i hi g, q4 g (by omega), mp_i hi]
    · by_cases h3 : g = 3
      · subst h3
        exact s3 i (by unfold RgD at hn; omega)
      · rw [r3 g (by omega) (by omega) (by omega) (by omega) (by omega), q4 g h3, mp_g (by omega)]
  refine ⟨s', E, F, ?_, ?_, ?_⟩
  · rw [r3 10 (by decide) (by decide) (by decide) (by decide) (by decide), q4 10 (by decide), mp_g (by decide)]
  · refine RLd_move H0 ?_ ?_ ?_ ?_ ?_ ?_ rfl rfl rfl (fun _ _ _ => rfl) ⟨?_, ?_, ?_, ?_⟩
    · rw [r4, q4 0 (by decide), mput_same, a1]
    · rw [r5 6 (by decide) (by decide), zz]
    · rw [r5 11 (by decide) (by decide), zz]
    · intro j hj k hk
      rw [r3 3 (by decide) (by decide) (by decide) (by decide) (by decide), q2 j (by omega) hj k hk, mp_g (by decide)]
    · intro v hv
      obtain ⟨x1, x2, x3⟩ := r6 v hv
      refine ⟨?_, ?_, ?_⟩
      · rw [x1, q4 13 (by decide), mp_g (by decide)]
      · rw [x2, q4 14 (by decide), mp_g (by decide)]
      · rw [x3, q4 15 (by decide), mp_g (by decide)]
    · intro k hk
      rw [r7 k hk, q4 16 (by decide), mp_g (by decide)]
    · rw [r5 7 (by decide) (by decide), zz]; exact d1
    · rw [r5 8 (by decide) (by decide), zz]; exact d2
    · rw [r5 9 (by decide) (by decide), zz]; exact d3
    · rw [r5 10 (by decide) (by decide), zz]; exact d4
  · have g0 : ∀ g, (g = 0 ∨ g = 13 ∨ g = 14 ∨ g = 15 ∨ g = 16) → s' g p1 = σ g p1 := fun g hg => F g p1 (by unfold RgD; omega)
    refine RLd_move H0 (by rw [g0 0 (by decide)]) (by rw [g0 0 (by decide)]) (by rw [g0 0 (by decide)]) (fun j hj k _ => by rw [s3 _ (by omega)]) (fun v _ => ⟨by rw [g0 13 (by decide)], by rw [g0 14 (by decide)], by rw [g0 15 (by decide)]⟩) (fun k _ => by rw [g0 16 (by decide)]) rfl rfl rfl (fun _ _ _ => rfl) ⟨?_, ?_, ?_, ?_⟩
    · rw [g0 0 (by decide)]; exact d1
    · rw [g0 0 (by decide)]; exact d2
    · rw [g0 0 (by decide)]; exact d3
    · rw [g0 0 (by decide)]; exact d4
/-- a place more is copied -/
theorem mc_step {τ : Mem} {g0 g1 i : Nat} (h : g0 ≠ g1) : mput (mcopy τ g0 0 0 g1 0 0 i) g1 0 i (mcopy τ g0 0 0 g1 0 0 i g0 0 i) = mcopy τ g0 0 0 g1 0 0 (i + 1) := by
  rw [mc_g h]
  funext g a k
  unfold mput mcopy
  by_cases hg : g = g1 ∧ a = 0
  · obtain ⟨rfl, rfl⟩ := hg
    by_cases hk : k = i
    · subst hk
      rw [if_pos ⟨rfl, rfl, rfl⟩, if_pos ⟨rfl, rfl⟩, if_pos (by omega), show 0 + (k - 0) = k by omega]
    · rw [if_neg (fun q => hk q.2.2), if_pos (show g = g ∧ (0 : Nat) = 0 from ⟨rfl, rfl⟩), if_pos (show g = g ∧ (0 : Nat) = 0 from ⟨rfl, rfl⟩)]
      by_cases hlt : k < i
      · rw [if_pos (by omega), if_pos (by omega)]
      · rw [if_neg (by omega), if_neg (by omega)]
  · rw [if_neg (fun q => hg ⟨q.1, q.2.1⟩), if_neg hg, if_neg hg]
theorem mc_0 {τ : Mem} {g0 g1 : Nat} : mcopy τ g0 0 0 g1 0 0 0 = τ := by
  funext g a k
  unfold mcopy
  split
  · rw [if_neg (by omega)]
  · rfl
theorem mc_at {τ : Mem} {g0 g1 n k : Nat} (h : k < n) : mcopy τ g0 0 0 g1 0 0 n g1 0 k = τ g0 0 k := by
  rw [mc_on, if_pos (by omega), show 0 + (k - 0) = k by omega]
theorem mc_out {τ : Mem} {g0 g1 n k : Nat} (h : n ≤ k) : mcopy τ g0 0 0 g1 0 0 n g1 0 k = τ g1 0 k := by
  rw [mc_on, if_neg (by omega)]
theorem m_laysByL {τ : Mem} : ∀ (m i n : Nat) (K : Mem → Option Mem), i + m = 108 → m < n → f_X8_laysBy_2 n (nI i) (mcopy τ 22 0 0 35 0 0 i) K = K (mcopy τ 22 0 0 35 0 0 108) := by
  intro m
  induction m with
  | zero =>
    intro i n K hi h
    obtain ⟨n, rfl, -⟩ := succ_of h
    have hi : i = 108 := by omega
    subst hi
    rw [f_X8_laysBy_2.eq_2, if_pos (show (108 : Int32) ≤ nI 108 from nI_le (a := 108) (b := 108) (by omega) (by omega))]
  | succ m ih =>
    intro i n K hi h
    obtain ⟨n, rfl, h⟩ := succ_of h
    rw [f_X8_laysBy_2.eq_2, if_neg (show ¬ (108 : Int32) ≤ nI i from nI_ge (a := i) (b := 108) (by omega) (by omega)), ix_nI (by omega) (by decide), bnd_s, ix_nI (by omega) (by decide), bnd_s, mc_step (by decide), nI_s]
    exact ih (i + 1) n K (by omega) (by omega)
theorem m_laysBy {τ : Mem} : f_X8_laysBy τ = some (mcopy τ 22 0 0 35 0 0 108) := by
  have h := m_laysByL (τ := τ) 108 0 FU (fun σ_1 => some σ_1) (by omega) (fu_gt (by omega))
  rw [mc_0] at h
  exact h
theorem m_laysBackL {τ : Mem} : ∀ (m i n : Nat) (K : Mem → Option Mem), i + m = 108 → m < n → f_X8_laysBack_2 n (nI i) (mcopy τ 35 0 0 22 0 0 i) K = K (mcopy τ 35 0 0 22 0 0 108) := by
  intro m
  induction m with
  | zero =>
    intro i n K hi h
    obtain ⟨n, rfl, -⟩ := succ_of h
    have hi : i = 108 := by omega
    subst hi
    rw [f_X8_laysBack_2.eq_2, if_pos (show (108 : Int32) ≤ nI 108 from nI_le (a := 108) (b := 108) (by omega) (by omega))]
  | succ m ih =>
    intro i n K hi h
    obtain ⟨n, rfl, h⟩ := succ_of h
    rw [f_X8_laysBack_2.eq_2, if_neg (show ¬ (108 : Int32) ≤ nI i from nI_ge (a := i) (b := 108) (by omega) (by omega)), ix_nI (by omega) (by decide), bnd_s, ix_nI (by omega) (by decide), bnd_s, mc_step (by decide), nI_s]
    exact ih (i + 1) n K (by omega) (by omega)
theorem m_laysBack {τ : Mem} : f_X8_laysBack τ = some (mcopy τ 35 0 0 22 0 0 108) := by
  have h := m_laysBackL (τ := τ) 108 0 FU (fun σ_1 => some σ_1) (by omega) (fu_gt (by omega))
  rw [mc_0] at h
  exact h
theorem m_asideL {τ : Mem} {g0 g1 : Nat} (hne : g0 ≠ g1) (h0 : alen g0 = 3108) (h1 : alen g1 = 3108) : ∀ (m i n : Nat) (K : Mem → Option Mem), i + m = 2908 → m < n → f_X8_setAside_2 g0 0 g1 0 n (nI i) (mcopy τ g0 0 0 g1 0 0 i) K = K (mcopy τ g0 0 0 g1 0 0 2908) := by
  intro m
  induction m with
  | zero =>
    intro i n K hi h
    obtain ⟨n, rfl, -⟩ := succ_of h
    have hi : i = 2908 := by omega
    subst hi
    rw [f_X8_setAside_2.eq_2, if_pos (show (2908 : Int32) ≤ nI 2908 from nI_le (a := 2908) (b := 2908) (by omega) (by omega))]
  | succ m ih =>
    intro i n K hi h
    obtain ⟨n, rfl, h⟩ := succ_of h
    rw [f_X8_setAside_2.eq_2, if_neg (show ¬ (2908 : Int32) ≤ nI i from nI_ge (a := i) (b := 2908) (by omega) (by omega)), h0, h1, ix_nI (by omega) (by decide), bnd_s, bnd_s, mc_step hne, nI_s]
    exact ih (i + 1) n K (by omega) (by omega)
theorem m_aside {τ : Mem} {g0 g1 : Nat} (hne : g0 ≠ g1) (h0 : alen g0 = 3108) (h1 : alen g1 = 3108) : f_X8_setAside g0 0 g1 0 τ = some (mcopy τ g0 0 0 g1 0 0 2908) := by
  have h := m_asideL (τ := τ) hne h0 h1 2908 0 FU (fun σ_1 => some σ_1) (by omega) (fu_gt (by omega))
  rw [mc_0] at h
  exact h
