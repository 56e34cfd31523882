-- slots
theorem zn_0_1 : ((0 : Int32) = 1) = False := eq_false (by decide)
theorem zn_0_2 : ((0 : Int32) = 2) = False := eq_false (by decide)
theorem zn_0_3 : ((0 : Int32) = 3) = False := eq_false (by decide)
theorem zn_1_0 : ((1 : Int32) = 0) = False := eq_false (by decide)
theorem zn_1_2 : ((1 : Int32) = 2) = False := eq_false (by decide)
theorem zn_1_3 : ((1 : Int32) = 3) = False := eq_false (by decide)
theorem zn_2_0 : ((2 : Int32) = 0) = False := eq_false (by decide)
theorem zn_2_1 : ((2 : Int32) = 1) = False := eq_false (by decide)
theorem zn_2_3 : ((2 : Int32) = 3) = False := eq_false (by decide)
theorem zn_3_0 : ((3 : Int32) = 0) = False := eq_false (by decide)
theorem zn_3_1 : ((3 : Int32) = 1) = False := eq_false (by decide)
theorem zn_3_2 : ((3 : Int32) = 2) = False := eq_false (by decide)
theorem zn_4_0 : ((4 : Int32) = 0) = False := eq_false (by decide)
theorem zn_4_1 : ((4 : Int32) = 1) = False := eq_false (by decide)
theorem zn_4_2 : ((4 : Int32) = 2) = False := eq_false (by decide)
theorem zn_4_3 : ((4 : Int32) = 3) = False := eq_false (by decide)
theorem zn_5_0 : ((5 : Int32) = 0) = False := eq_false (by decide)
theorem zn_5_1 : ((5 : Int32) = 1) = False := eq_false (by decide)
theorem zn_5_2 : ((5 : Int32) = 2) = False := eq_false (by decide)
theorem zn_5_3 : ((5 : Int32) = 3) = False := eq_false (by decide)
theorem zn_6_0 : ((6 : Int32) = 0) = False := eq_false (by decide)
theorem zn_6_1 : ((6 : Int32) = 1) = False := eq_false (by decide)
theorem zn_6_2 : ((6 : Int32) = 2) = False := eq_false (by decide)
theorem zn_6_3 : ((6 : Int32) = 3) = False := eq_false (by decide)
theorem zn_7_0 : ((7 : Int32) = 0) = False := eq_false (by decide)
theorem zn_7_1 : ((7 : Int32) = 1) = False := eq_false (by decide)
theorem zn_7_2 : ((7 : Int32) = 2) = False := eq_false (by decide)
theorem zn_7_3 : ((7 : Int32) = 3) = False := eq_false (by decide)
theorem zn_8_0 : ((8 : Int32) = 0) = False := eq_false (by decide)
theorem zn_8_1 : ((8 : Int32) = 1) = False := eq_false (by decide)
theorem zn_8_2 : ((8 : Int32) = 2) = False := eq_false (by decide)
theorem zn_8_3 : ((8 : Int32) = 3) = False := eq_false (by decide)
theorem zn_0_0 : ((0 : Int32) = 0) = True := eq_true rfl
theorem zn_1_1 : ((1 : Int32) = 1) = True := eq_true rfl
theorem zn_2_2 : ((2 : Int32) = 2) = True := eq_true rfl
theorem zn_3_3 : ((3 : Int32) = 3) = True := eq_true rfl
def SL1 (σ τ : Mem) (k : Nat) : Prop := σ 6 k 0 = τ 28 0 k ∧
  (σ 6 k 0 = 0 ∨ (σ 6 k 0 = 1 ∧ ∃ kd f, kd < 6 ∧ f < 100 ∧ σ 3 (30 + k) 0 = nI kd ∧ τ 29 0 k = nI kd ∧ σ 3 (30 + k) 2 = nI f ∧ τ 30 0 k = worthV kd (nI f)) ∨
   (σ 6 k 0 = 2 ∧ ∃ z, z ≤ 24 ∧ σ 5 (4 + k) 1 = nI z ∧ τ 31 0 k = nI z ∧ ∀ j, j < z → σ 20 (4 + k) j = τ 32 0 (24 * k + j)) ∨ (σ 6 k 0 = 3 ∧ σ 6 k 3 = τ 29 0 k))
theorem RR2_slot {σ τ σ' τ' : Mem} {n nv nt s : Nat} (N : RNow σ τ n nv nt) (hr : Rest σ τ nt) (hs : ∀ g, g ≠ 3 → g ≠ 5 → g ≠ 6 → g ≠ 20 → σ' g = σ g) (h3 : ∀ i, i ≠ 30 + s → σ' 3 i = σ 3 i) (h5 : ∀ i, i ≠ 4 + s → σ' 5 i = σ 5 i ∧ σ' 20 i = σ 20 i) (h6 : ∀ i, i ≠ s → σ' 6 i = σ 6 i)
    (ht : ∀ g, g ≠ 28 → g ≠ 29 → g ≠ 30 → g ≠ 31 → g ≠ 32 → τ' g = τ g) (hk : ∀ g, (g = 28 ∨ g = 29 ∨ g = 30 ∨ g = 31) → ∀ k, k ≠ s → τ' g 0 k = τ g 0 k) (h32 : ∀ k q, k ≠ s → q < 24 → τ' 32 0 (24 * k + q) = τ 32 0 (24 * k + q)) (hS : SL1 σ' τ' s) : RR2 σ' τ' := by
  obtain ⟨h1, h2, h33, h4, h55⟩ := hr
  have tt : ∀ g, g < 28 ∨ 33 ≤ g → τ' g = τ g := fun g hg => ht g (by omega) (by omega) (by omega) (by omega) (by omega)
  have ss : ∀ g, (g = 0 ∨ g = 1 ∨ g = 11 ∨ g = 13 ∨ g = 14 ∨ g = 15 ∨ g = 16 ∨ g = 7 ∨ g = 17 ∨ g = 18) → σ' g = σ g := fun g hg => hs g (by omega) (by omega) (by omega) (by omega)
  refine ⟨n, nv, nt, RNow_eq N (fun g hg => ss g (by omega)) (fun j _ => h3 j (by omega)) (tt 22 (by decide)), ?_, ?_, ?_, ?_, ?_⟩
  · exact RImg_eq h1 (by rw [ss 7 (by decide)]) (by rw [tt 8 (by decide)]) (fun g hg => ss g (by omega)) (fun j _ => h3 j (by omega)) (tt 23 (by decide))
  · exact RTape_fr h2 (by rw [ss 7 (by decide)]) (by rw [tt 8 (by decide)]) (ss 17 (by decide)) (tt 36 (by decide))
  · exact RWait_fr h33 (by rw [ss 7 (by decide)]) (by rw [tt 8 (by decide)]) (ss 18 (by decide)) (tt 40 (by decide))
  · exact RSheet_fr h4 (fun k _ => (h5 k (by omega)).1) (fun k _ => (h5 k (by omega)).2) (tt 25 (by decide)) (tt 26 (by decide)) (tt 27 (by decide))
  · intro k hk5
    by_cases e : k = s
    · subst e; exact hS
    · obtain ⟨q1, q2⟩ := h55 k hk5
      rw [h6 k e, h3 (30 + k) (by omega), (h5 (4 + k) (by omega)).1, (h5 (4 + k) (by omega)).2, hk 28 (by decide) k e, hk 29 (by decide) k e, hk 30 (by decide) k e, hk 31 (by decide) k e]
      refine ⟨q1, ?_⟩
      rcases q2 with q | q | ⟨q, z, z1, z2, z3, z4⟩ | q
      · exact Or.inl q
      · exact Or.inr (Or.inl q)
      · exact Or.inr (Or.inr (Or.inl ⟨q, z, z1, z2, z3, fun j hj => by rw [h32 k j e (by omega)]; exact z4 j hj⟩))
      · exact Or.inr (Or.inr (Or.inr q))
theorem m_layL {s j : Nat} {p5 : Int32} (hs : s < 5) (hj : j < 4) : ∀ (m i nM : Nat) (τ : Mem), i + m = 24 → m < nM → ∃ τ', (∀ K, f_X8_lay_150 (nI s) (nI j) p5 nM (nI i) τ K = K τ') ∧ (∀ q, i ≤ q → q < 24 → τ' 32 0 (24 * s + q) = τ 27 0 (24 * j + q)) ∧ (∀ k, (k < 24 * s + i ∨ 24 * s + 24 ≤ k) → τ' 32 0 k = τ 32 0 k) ∧ (∀ g, g ≠ 32 → τ' g = τ g) := by
  intro m
  induction m with
  | zero =>
    intro i nM τ hi h3
    obtain ⟨nM, rfl, -⟩ := succ_of h3
    refine ⟨τ, fun K => ?_, fun q h1 h2 => by omega, fun _ _ => rfl, fun _ _ => rfl⟩
    rw [f_X8_lay_150.eq_2, if_pos (show (24 : Int32) ≤ nI i from nI_le (a := 24) (by omega) (by omega))]
  | succ m ih =>
    intro i nM τ hi h3
    obtain ⟨nM, rfl, h3⟩ := succ_of h3
    obtain ⟨τ', q1, q2, q3, q4⟩ := ih (i + 1) nM (mput τ 32 0 (24 * s + i) (τ 27 0 (24 * j + i))) (by omega) (by omega)
    refine ⟨τ', fun K => ?_, fun q h1 h2 => ?_, fun k hk => by rw [q3 k (by omega), mp_k (by omega)], fun g hg => by rw [q4 g hg, mp_g hg]⟩
    · rw [f_X8_lay_150.eq_2, if_neg (show ¬ (24 : Int32) ≤ nI i from nI_ge (b := 24) (by omega) (by omega)), sh_ix, ix_nI (by omega) (by decide), bnd_s, sh_ix, ix_nI (by omega) (by decide), bnd_s, nI_s]
      exact q1 K
    · by_cases e : q = i
      · subst e; rw [q3 _ (by omega), mput_same]
      · rw [q2 q (by omega) h2, mp_g (by decide)]
theorem c_sbec {a b z : Nat} {σ : Mem} (hne : a ≠ b) (h : σ 5 b 1 = nI z) (hz : z ≤ 24) : ∃ σ', f_X5_becomes a b σ = some σ' ∧ σ' 5 a 1 = nI z ∧ (∀ q, q < z → σ' 20 a q = σ 20 b q) ∧ (∀ g, g ≠ 5 → g ≠ 20 → σ' g = σ g) ∧ (∀ i, i ≠ a → σ' 5 i = σ 5 i ∧ σ' 20 i = σ 20 i) := by
  have hok : cpOK (0 : Int32) (0 : Int32) (nI z) 24 24 = true := by
    unfold cpOK
    rw [decide_eq_true_eq, nI_clamp (by omega), show ((0 : Int32)).toNatClampNeg = 0 from rfl]
    exact ⟨by decide, by decide, nI_pos (by omega), by omega, by omega⟩
  unfold f_X5_becomes
  rw [mp_i (Ne.symm hne), h, mput_same, if_pos hok, bnd_s, nI_clamp (by omega), show ((0 : Int32)).toNatClampNeg = 0 from rfl]
  refine ⟨_, rfl, ?_, fun q hq => ?_, fun g h5 h20 => ?_, fun i hi => ⟨?_, ?_⟩⟩
  · rw [mc_g (by decide), mput_same]
  · rw [mc_on, if_pos (by omega), mp_g (by decide), mp_g (by decide), show 0 + (q - 0) = q by omega]
  · rw [mc_g h20, mp_g h5, mp_g h5]
  · rw [mc_g (by decide), mp_i hi, mp_i hi]
  · rw [mc_i hi, mp_g (by decide), mp_g (by decide)]
set_option maxHeartbeats 4000000 in
theorem op_lay {σ τ : Mem} (W : RR2 σ τ) (a b c : Int32) : LkS (f_X7_lay a b c σ) (f_X8_lay a b c τ) RR2 := by
  have W0 := W
  obtain ⟨n, nv, nt, N, hr⟩ := W
  have H := N.1
  have n10 := H.1.2.2
  rcases gd_slot (v := a) with ⟨s, hs, rfl, c1, m1⟩ | ⟨c1, m1⟩
  · have i5 : ix 5 (nI s) = some s := ix_nI hs (by decide)
    have e28 := (hr.2.2.2.2 s hs).1
    rcases or9 b with rfl | rfl | rfl | rfl | rfl | rfl | rfl | rfl | rfl | ⟨k0, k1, k2, k3, k4, k5, k6, k7, k8⟩
    · unfold f_X7_lay f_X8_lay
      have w : ∀ σ, f_X7_isWithin 0 0 3 σ = some 1 := fun σ => rfl
      simp only [c1, m1, i5, w, bnd_s, e10, e01, if_false, if_true, zn_0_1, zn_0_2, zn_0_3, zn_1_0, zn_1_2, zn_1_3, zn_2_0, zn_2_1, zn_2_3, zn_3_0, zn_3_1, zn_3_2, zn_4_0, zn_4_1, zn_4_2, zn_4_3, zn_5_0, zn_5_1, zn_5_2, zn_5_3, zn_6_0, zn_6_1, zn_6_2, zn_6_3, zn_7_0, zn_7_1, zn_7_2, zn_7_3, zn_8_0, zn_8_1, zn_8_2, zn_8_3, zn_0_0, zn_1_1, zn_2_2, zn_3_3]
      refine LkS_mk2 e28 (RR2_slot (s := s) N hr (fun g _ _ h6 _ => mp_g h6) (fun i _ => by rw [mp_g (by decide)]) (fun i _ => ⟨by rw [mp_g (by decide)], by rw [mp_g (by decide)]⟩) (fun i hi => mp_i hi) (fun g h28 h29 h30 _ _ => by rw [mp_g h30, mp_g h29, mp_g h28]) (fun g hg k hk => by rw [mp_k hk, mp_k hk, mp_k hk]) (fun k q _ _ => by rw [mp_g (by decide), mp_g (by decide), mp_g (by decide)]) ⟨?_, Or.inl mput_same⟩)
      rw [mput_same, mp_g (by decide), mp_g (by decide), mput_same]
    · rcases gd_one (v := c) H.1 with ⟨j, hj, rfl, c2, m2⟩ | ⟨-, c2, m2⟩
      · unfold f_X7_lay f_X8_lay
        have w : ∀ σ, f_X7_isWithin 1 0 3 σ = some 1 := fun σ => rfl
        have i10 : ix 10 (nI j) = some j := ix_nI (by omega) (by decide)
        obtain ⟨⟨kd, hkd, p1, p2⟩, -, ⟨f, hf, p5, p6⟩, -⟩ := H.2.2.1 j hj
        obtain ⟨σ', q1, q2, q3, q4⟩ := c_pbec (a := 30 + s) (b := 10 * 0 + j) (σ := mput σ 6 s 0 1) (by omega)
        have o0 : f_X8_of (nI j) 0 (mput τ 28 0 s 1) = some (nI kd) := by rw [q_of (e := 0) j 0 rfl (by omega), Nat.add_zero, mp_g (by decide), p2]
        have ow : f_X8_worth (nI j) (mput (mput τ 28 0 s 1) 29 0 s (nI kd)) = some (worthV kd (nI f)) := by
          rw [m_worth (kd := kd) (by rw [mp_g (by decide), mp_g (by decide)]; exact p2) hkd (by omega), mp_g (by decide), mp_g (by decide), p6]
        simp only [c1, m1, c2, m2, i5, i10, w, q1, o0, ow, bnd_s, e10, e01, if_false, if_true, zn_0_1, zn_0_2, zn_0_3, zn_1_0, zn_1_2, zn_1_3, zn_2_0, zn_2_1, zn_2_3, zn_3_0, zn_3_1, zn_3_2, zn_4_0, zn_4_1, zn_4_2, zn_4_3, zn_5_0, zn_5_1, zn_5_2, zn_5_3, zn_6_0, zn_6_1, zn_6_2, zn_6_3, zn_7_0, zn_7_1, zn_7_2, zn_7_3, zn_8_0, zn_8_1, zn_8_2, zn_8_3, zn_0_0, zn_1_1, zn_2_2, zn_3_3, -Nat.reduceMul]
        refine LkS_mk2 e28 (RR2_slot (s := s) N hr (fun g h3 _ h6 _ => by rw [q4 g h3, mp_g h6]) (fun i hi => by rw [q3 i hi, mp_g (by decide)]) (fun i _ => ⟨by rw [q4 5 (by decide), mp_g (by decide)], by rw [q4 20 (by decide), mp_g (by decide)]⟩) (fun i hi => by rw [q4 6 (by decide), mp_i hi]) (fun g h28 h29 h30 _ _ => by rw [mp_g h30, mp_g h29, mp_g h28]) (fun g hg k hk => by rw [mp_k hk, mp_k hk, mp_k hk]) (fun k q _ _ => by rw [mp_g (by decide), mp_g (by decide), mp_g (by decide)]) ⟨?_, Or.inr (Or.inl ⟨?_, kd, f, hkd, hf, ?_, ?_, ?_, mput_same⟩)⟩)
        · rw [q4 6 (by decide), mput_same, mp_g (by decide), mp_g (by decide), mput_same]
        · rw [q4 6 (by decide), mput_same]
        · rw [q2 0 (by decide), mp_g (by decide)]; exact p1
        · rw [mp_g (by decide), mput_same]
        · rw [q2 2 (by decide), mp_g (by decide)]; exact p5
      · unfold f_X7_lay f_X8_lay
        have w : ∀ σ, f_X7_isWithin 1 0 3 σ = some 1 := fun σ => rfl
        simp only [c1, m1, c2, m2, w, bnd_s, e10, e01, if_false, if_true, zn_0_1, zn_0_2, zn_0_3, zn_1_0, zn_1_2, zn_1_3, zn_2_0, zn_2_1, zn_2_3, zn_3_0, zn_3_1, zn_3_2, zn_4_0, zn_4_1, zn_4_2, zn_4_3, zn_5_0, zn_5_1, zn_5_2, zn_5_3, zn_6_0, zn_6_1, zn_6_2, zn_6_3, zn_7_0, zn_7_1, zn_7_2, zn_7_3, zn_8_0, zn_8_1, zn_8_2, zn_8_3, zn_0_0, zn_1_1, zn_2_2, zn_3_3, -Nat.reduceMul]
        exact LkS_mk W0
    · rcases gd_sheet (v := c) with ⟨j, hj, rfl, c2, m2⟩ | ⟨-, c2, m2⟩
      · unfold f_X7_lay f_X8_lay
        have w : ∀ σ, f_X7_isWithin 2 0 3 σ = some 1 := fun σ => rfl
        have i4 : ix 4 (nI j) = some j := ix_nI hj (by decide)
        obtain ⟨z, z1, z2, z3, z4, z5, z6⟩ := hr.2.2.2.1 j hj
        have z2' := z2.symm
        simp only [c1, m1, c2, m2, i5, i4, w, c_missing, z2', bnd_s, e10, e01, if_false, if_true, zn_0_1, zn_0_2, zn_0_3, zn_1_0, zn_1_2, zn_1_3, zn_2_0, zn_2_1, zn_2_3, zn_3_0, zn_3_1, zn_3_2, zn_4_0, zn_4_1, zn_4_2, zn_4_3, zn_5_0, zn_5_1, zn_5_2, zn_5_3, zn_6_0, zn_6_1, zn_6_2, zn_6_3, zn_7_0, zn_7_1, zn_7_2, zn_7_3, zn_8_0, zn_8_1, zn_8_2, zn_8_3, zn_0_0, zn_1_1, zn_2_2, zn_3_3, -Nat.reduceMul]
        rcases sort_cases z3 with ⟨k1, k2, k3⟩ | ⟨k1, k2, k3⟩
        · simp only [bI_t k1, if_neg k2, e10, if_false]
          exact LkS_mk W0
        · obtain ⟨σ', q1, q2, q3, q4, q5⟩ := c_sbec (a := 4 + s) (b := j) (z := z) (σ := mput σ 6 s 0 2) (by omega) (by rw [mp_g (by decide)]; exact z4) z1
          have et : mput (mput (mput τ 28 0 s 2) 29 0 s (nI j)) 30 0 s 0 26 0 j = nI z := by rw [mp_g (by decide), mp_g (by decide), mp_g (by decide)]; exact z5
          obtain ⟨τ', r1, r2, r3, r4⟩ := m_layL (p5 := τ 28 0 s) hs hj 24 0 FU (mput (mput (mput (mput τ 28 0 s 2) 29 0 s (nI j)) 30 0 s 0) 31 0 s (nI z)) (by omega) (fu_gt (by omega))
          have r1' := r1 (fun σ_1 => some (τ 28 0 s, σ_1))
          rw [show nI 0 = (0 : Int32) from rfl] at r1'
          simp only [bI_f k1, if_pos k2, e01, if_true, q1, bnd_s, et, r1']
          refine LkS_mk2 e28 (RR2_slot (s := s) N hr (fun g _ h5 h6 h20 => by rw [q4 g h5 h20, mp_g h6]) (fun i _ => by rw [q4 3 (by decide) (by decide), mp_g (by decide)]) (fun i hi => ⟨by rw [(q5 i hi).1, mp_g (by decide)], by rw [(q5 i hi).2, mp_g (by decide)]⟩) (fun i hi => by rw [q4 6 (by decide) (by decide), mp_i hi]) (fun g h28 h29 h30 h31 h32 => by rw [r4 g h32, mp_g h31, mp_g h30, mp_g h29, mp_g h28]) (fun g hg k hk => by rw [r4 g (by omega), mp_k hk, mp_k hk, mp_k hk, mp_k hk]) (fun k q hk hq => by rw [r3 _ (by omega), mp_g (by decide), mp_g (by decide), mp_g (by decide), mp_g (by decide)]) ⟨?_, Or.inr (Or.inr (Or.inl ⟨?_, z, z1, q2, ?_, fun q hq => ?_⟩))⟩)
          · rw [q4 6 (by decide) (by decide), mput_same, r4 28 (by decide), mp_g (by decide), mp_g (by decide), mp_g (by decide), mput_same]
          · rw [q4 6 (by decide) (by decide), mput_same]
          · rw [r4 31 (by decide), mput_same]
          · rw [q3 q hq, mp_g (by decide), r2 q (by omega) (by omega), mp_g (by decide), mp_g (by decide), mp_g (by decide), mp_g (by decide)]
            exact (z6 q hq).1
      · unfold f_X7_lay f_X8_lay
        have w : ∀ σ, f_X7_isWithin 2 0 3 σ = some 1 := fun σ => rfl
        simp only [c1, m1, c2, m2, w, bnd_s, e10, e01, if_false, if_true, zn_0_1, zn_0_2, zn_0_3, zn_1_0, zn_1_2, zn_1_3, zn_2_0, zn_2_1, zn_2_3, zn_3_0, zn_3_1, zn_3_2, zn_4_0, zn_4_1, zn_4_2, zn_4_3, zn_5_0, zn_5_1, zn_5_2, zn_5_3, zn_6_0, zn_6_1, zn_6_2, zn_6_3, zn_7_0, zn_7_1, zn_7_2, zn_7_3, zn_8_0, zn_8_1, zn_8_2, zn_8_3, zn_0_0, zn_1_1, zn_2_2, zn_3_3, -Nat.reduceMul]
        exact LkS_mk W0
    · unfold f_X7_lay f_X8_lay
      have w : ∀ σ, f_X7_isWithin 3 0 3 σ = some 1 := fun σ => rfl
      simp only [c1, m1, i5, w, bnd_s, e10, e01, if_false, if_true, zn_0_1, zn_0_2, zn_0_3, zn_1_0, zn_1_2, zn_1_3, zn_2_0, zn_2_1, zn_2_3, zn_3_0, zn_3_1, zn_3_2, zn_4_0, zn_4_1, zn_4_2, zn_4_3, zn_5_0, zn_5_1, zn_5_2, zn_5_3, zn_6_0, zn_6_1, zn_6_2, zn_6_3, zn_7_0, zn_7_1, zn_7_2, zn_7_3, zn_8_0, zn_8_1, zn_8_2, zn_8_3, zn_0_0, zn_1_1, zn_2_2, zn_3_3]
      refine LkS_mk2 e28 (RR2_slot (s := s) N hr (fun g _ _ h6 _ => by rw [mp_g h6, mp_g h6]) (fun i _ => by rw [mp_g (by decide), mp_g (by decide)]) (fun i _ => ⟨by rw [mp_g (by decide), mp_g (by decide)], by rw [mp_g (by decide), mp_g (by decide)]⟩) (fun i hi => by rw [mp_i hi, mp_i hi]) (fun g h28 h29 h30 _ _ => by rw [mp_g h30, mp_g h29, mp_g h28]) (fun g hg k hk => by rw [mp_k hk, mp_k hk, mp_k hk]) (fun k q _ _ => by rw [mp_g (by decide), mp_g (by decide), mp_g (by decide)]) ⟨?_, Or.inr (Or.inr (Or.inr ⟨?_, ?_⟩))⟩)
      · rw [mp_k (by decide), mput_same, mp_g (by decide), mp_g (by decide), mput_same]
      · rw [mp_k (by decide), mput_same]
      · rw [mput_same, mp_g (by decide), mput_same]
    · unfold f_X7_lay f_X8_lay
      have w : ∀ σ, f_X7_isWithin 4 0 3 σ = some 0 := fun σ => rfl
      simp only [c1, m1, w, bnd_s, e10, e01, if_false, if_true, zn_0_1, zn_0_2, zn_0_3, zn_1_0, zn_1_2, zn_1_3, zn_2_0, zn_2_1, zn_2_3, zn_3_0, zn_3_1, zn_3_2, zn_4_0, zn_4_1, zn_4_2, zn_4_3, zn_5_0, zn_5_1, zn_5_2, zn_5_3, zn_6_0, zn_6_1, zn_6_2, zn_6_3, zn_7_0, zn_7_1, zn_7_2, zn_7_3, zn_8_0, zn_8_1, zn_8_2, zn_8_3, zn_0_0, zn_1_1, zn_2_2, zn_3_3]
      exact LkS_mk W0
    · unfold f_X7_lay f_X8_lay
      have w : ∀ σ, f_X7_isWithin 5 0 3 σ = some 0 := fun σ => rfl
      simp only [c1, m1, w, bnd_s, e10, e01, if_false, if_true, zn_0_1, zn_0_2, zn_0_3, zn_1_0, zn_1_2, zn_1_3, zn_2_0, zn_2_1, zn_2_3, zn_3_0, zn_3_1, zn_3_2, zn_4_0, zn_4_1, zn_4_2, zn_4_3, zn_5_0, zn_5_1, zn_5_2, zn_5_3, zn_6_0, zn_6_1, zn_6_2, zn_6_3, zn_7_0, zn_7_1, zn_7_2, zn_7_3, zn_8_0, zn_8_1, zn_8_2, zn_8_3, zn_0_0, zn_1_1, zn_2_2, zn_3_3]
      exact LkS_mk W0
    · unfold f_X7_lay f_X8_lay
      have w : ∀ σ, f_X7_isWithin 6 0 3 σ = some 0 := fun σ => rfl
      simp only [c1, m1, w, bnd_s, e10, e01, if_false, if_true, zn_0_1, zn_0_2, zn_0_3, zn_1_0, zn_1_2, zn_1_3, zn_2_0, zn_2_1, zn_2_3, zn_3_0, zn_3_1, zn_3_2, zn_4_0, zn_4_1, zn_4_2, zn_4_3, zn_5_0, zn_5_1, zn_5_2, zn_5_3, zn_6_0, zn_6_1, zn_6_2, zn_6_3, zn_7_0, zn_7_1, zn_7_2, zn_7_3, zn_8_0, zn_8_1, zn_8_2, zn_8_3, zn_0_0, zn_1_1, zn_2_2, zn_3_3]
      exact LkS_mk W0
    · unfold f_X7_lay f_X8_lay
      have w : ∀ σ, f_X7_isWithin 7 0 3 σ = some 0 := fun σ => rfl
      simp only [c1, m1, w, bnd_s, e10, e01, if_false, if_true, zn_0_1, zn_0_2, zn_0_3, zn_1_0, zn_1_2, zn_1_3, zn_2_0, zn_2_1, zn_2_3, zn_3_0, zn_3_1, zn_3_2, zn_4_0, zn_4_1, zn_4_2, zn_4_3, zn_5_0, zn_5_1, zn_5_2, zn_5_3, zn_6_0, zn_6_1, zn_6_2, zn_6_3, zn_7_0, zn_7_1, zn_7_2, zn_7_3, zn_8_0, zn_8_1, zn_8_2, zn_8_3, zn_0_0, zn_1_1, zn_2_2, zn_3_3]
      exact LkS_mk W0
    · unfold f_X7_lay f_X8_lay
      have w : ∀ σ, f_X7_isWithin 8 0 3 σ = some 0 := fun σ => rfl
      simp only [c1, m1, w, bnd_s, e10, e01, if_false, if_true, zn_0_1, zn_0_2, zn_0_3, zn_1_0, zn_1_2, zn_1_3, zn_2_0, zn_2_1, zn_2_3, zn_3_0, zn_3_1, zn_3_2, zn_4_0, zn_4_1, zn_4_2, zn_4_3, zn_5_0, zn_5_1, zn_5_2, zn_5_3, zn_6_0, zn_6_1, zn_6_2, zn_6_3, zn_7_0, zn_7_1, zn_7_2, zn_7_3, zn_8_0, zn_8_1, zn_8_2, zn_8_3, zn_0_0, zn_1_1, zn_2_2, zn_3_3]
      exact LkS_mk W0
    · unfold f_X7_lay f_X8_lay
      have w : ∀ σ, f_X7_isWithin b 0 3 σ = some 0 := fun σ => by
        rw [q_within, bI_f]
        rintro ⟨x, y⟩
        obtain ⟨q, hq, e⟩ := nI_of2 (M := 3) (n := 3) rfl (pl_nlt.mpr x) y
        rcases (show q = 0 ∨ q = 1 ∨ q = 2 ∨ q = 3 by omega) with rfl | rfl | rfl | rfl
        · exact k0 e
        · exact k1 e
        · exact k2 e
        · exact k3 e
      simp only [c1, m1, w, if_neg k0, if_neg k1, if_neg k2, if_neg k3, bnd_s, e10, e01, if_false, if_true]
      exact LkS_mk W0
  · unfold f_X7_lay f_X8_lay
    simp only [c1, m1, bnd_s, e10, e01, if_false, if_true]
    have R : ∀ x : Option (Int32 × Mem), x = some (-1000000001, τ) → LkS (some (-1000000001, σ)) x RR2 := fun x hx => by rw [hx]; exact LkS_mk W0
    apply R
    rcases or9 b with rfl | rfl | rfl | rfl | rfl | rfl | rfl | rfl | rfl | ⟨k0, k1, k2, k3, k4, k5, k6, k7, k8⟩
    · simp only [zn_0_1, zn_0_2, zn_0_3, zn_1_0, zn_1_2, zn_1_3, zn_2_0, zn_2_1, zn_2_3, zn_3_0, zn_3_1, zn_3_2, zn_4_0, zn_4_1, zn_4_2, zn_4_3, zn_5_0, zn_5_1, zn_5_2, zn_5_3, zn_6_0, zn_6_1, zn_6_2, zn_6_3, zn_7_0, zn_7_1, zn_7_2, zn_7_3, zn_8_0, zn_8_1, zn_8_2, zn_8_3, zn_0_0, zn_1_1, zn_2_2, zn_3_3, if_true, if_false]
    · rcases gd_one (v := c) H.1 with ⟨j, hj, rfl, c2, m2⟩ | ⟨-, c2, m2⟩
      · simp only [m2, bnd_s, e10, e01, if_false, if_true, zn_0_1, zn_0_2, zn_0_3, zn_1_0, zn_1_2, zn_1_3, zn_2_0, zn_2_1, zn_2_3, zn_3_0, zn_3_1, zn_3_2, zn_4_0, zn_4_1, zn_4_2, zn_4_3, zn_5_0, zn_5_1, zn_5_2, zn_5_3, zn_6_0, zn_6_1, zn_6_2, zn_6_3, zn_7_0, zn_7_1, zn_7_2, zn_7_3, zn_8_0, zn_8_1, zn_8_2, zn_8_3, zn_0_0, zn_1_1, zn_2_2, zn_3_3]
      · simp only [m2, bnd_s, e10, e01, if_false, if_true, zn_0_1, zn_0_2, zn_0_3, zn_1_0, zn_1_2, zn_1_3, zn_2_0, zn_2_1, zn_2_3, zn_3_0, zn_3_1, zn_3_2, zn_4_0, zn_4_1, zn_4_2, zn_4_3, zn_5_0, zn_5_1, zn_5_2, zn_5_3, zn_6_0, zn_6_1, zn_6_2, zn_6_3, zn_7_0, zn_7_1, zn_7_2, zn_7_3, zn_8_0, zn_8_1, zn_8_2, zn_8_3, zn_0_0, zn_1_1, zn_2_2, zn_3_3]
    · rcases gd_sheet (v := c) with ⟨j, hj, rfl, c2, m2⟩ | ⟨-, c2, m2⟩
      · simp only [m2, bnd_s, e10, e01, if_false, if_true, zn_0_1, zn_0_2, zn_0_3, zn_1_0, zn_1_2, zn_1_3, zn_2_0, zn_2_1, zn_2_3, zn_3_0, zn_3_1, zn_3_2, zn_4_0, zn_4_1, zn_4_2, zn_4_3, zn_5_0, zn_5_1, zn_5_2, zn_5_3, zn_6_0, zn_6_1, zn_6_2, zn_6_3, zn_7_0, zn_7_1, zn_7_2, zn_7_3, zn_8_0, zn_8_1, zn_8_2, zn_8_3, zn_0_0, zn_1_1, zn_2_2, zn_3_3]
      · simp only [m2, bnd_s, e10, e01, if_false, if_true, zn_0_1, zn_0_2, zn_0_3, zn_1_0, zn_1_2, zn_1_3, zn_2_0, zn_2_1, zn_2_3, zn_3_0, zn_3_1, zn_3_2, zn_4_0, zn_4_1, zn_4_2, zn_4_3, zn_5_0, zn_5_1, zn_5_2, zn_5_3, zn_6_0, zn_6_1, zn_6_2, zn_6_3, zn_7_0, zn_7_1, zn_7_2, zn_7_3, zn_8_0, zn_8_1, zn_8_2, zn_8_3, zn_0_0, zn_1_1, zn_2_2, zn_3_3]
    · simp only [zn_0_1, zn_0_2, zn_0_3, zn_1_0, zn_1_2, zn_1_3, zn_2_0, zn_2_1, zn_2_3, zn_3_0, zn_3_1, zn_3_2, zn_4_0, zn_4_1, zn_4_2, zn_4_3, zn_5_0, zn_5_1, zn_5_2, zn_5_3, zn_6_0, zn_6_1, zn_6_2, zn_6_3, zn_7_0, zn_7_1, zn_7_2, zn_7_3, zn_8_0, zn_8_1, zn_8_2, zn_8_3, zn_0_0, zn_1_1, zn_2_2, zn_3_3, if_true, if_false]
    · simp only [zn_0_1, zn_0_2, zn_0_3, zn_1_0, zn_1_2, zn_1_3, zn_2_0, zn_2_1, zn_2_3, zn_3_0, zn_3_1, zn_3_2, zn_4_0, zn_4_1, zn_4_2, zn_4_3, zn_5_0, zn_5_1, zn_5_2, zn_5_3, zn_6_0, zn_6_1, zn_6_2, zn_6_3, zn_7_0, zn_7_1, zn_7_2, zn_7_3, zn_8_0, zn_8_1, zn_8_2, zn_8_3, zn_0_0, zn_1_1, zn_2_2, zn_3_3, if_true, if_false]
    · simp only [zn_0_1, zn_0_2, zn_0_3, zn_1_0, zn_1_2, zn_1_3, zn_2_0, zn_2_1, zn_2_3, zn_3_0, zn_3_1, zn_3_2, zn_4_0, zn_4_1, zn_4_2, zn_4_3, zn_5_0, zn_5_1, zn_5_2, zn_5_3, zn_6_0, zn_6_1, zn_6_2, zn_6_3, zn_7_0, zn_7_1, zn_7_2, zn_7_3, zn_8_0, zn_8_1, zn_8_2, zn_8_3, zn_0_0, zn_1_1, zn_2_2, zn_3_3, if_true, if_false]
    · simp only [zn_0_1, zn_0_2, zn_0_3, zn_1_0, zn_1_2, zn_1_3, zn_2_0, zn_2_1, zn_2_3, zn_3_0, zn_3_1, zn_3_2, zn_4_0, zn_4_1, zn_4_2, zn_4_3, zn_5_0, zn_5_1, zn_5_2, zn_5_3, zn_6_0, zn_6_1, zn_6_2, zn_6_3, zn_7_0, zn_7_1, zn_7_2, zn_7_3, zn_8_0, zn_8_1, zn_8_2, zn_8_3, zn_0_0, zn_1_1, zn_2_2, zn_3_3, if_true, if_false]
    · simp only [zn_0_1, zn_0_2, zn_0_3, zn_1_0, zn_1_2, zn_1_3, zn_2_0, zn_2_1, zn_2_3, zn_3_0, zn_3_1, zn_3_2, zn_4_0, zn_4_1, zn_4_2, zn_4_3, zn_5_0, zn_5_1, zn_5_2, zn_5_3, zn_6_0, zn_6_1, zn_6_2, zn_6_3, zn_7_0, zn_7_1, zn_7_2, zn_7_3, zn_8_0, zn_8_1, zn_8_2, zn_8_3, zn_0_0, zn_1_1, zn_2_2, zn_3_3, if_true, if_false]
    · simp only [zn_0_1, zn_0_2, zn_0_3, zn_1_0, zn_1_2, zn_1_3, zn_2_0, zn_2_1, zn_2_3, zn_3_0, zn_3_1, zn_3_2, zn_4_0, zn_4_1, zn_4_2, zn_4_3, zn_5_0, zn_5_1, zn_5_2, zn_5_3, zn_6_0, zn_6_1, zn_6_2, zn_6_3, zn_7_0, zn_7_1, zn_7_2, zn_7_3, zn_8_0, zn_8_1, zn_8_2, zn_8_3, zn_0_0, zn_1_1, zn_2_2, zn_3_3, if_true, if_false]
    · simp only [if_neg k0, if_neg k1, if_neg k2, if_neg k3]
theorem op_ask {σ τ : Mem} (W : RR2 σ τ) (a b : Int32) : LkR (f_X7_ask a b σ) (f_X8_ask a b τ) := by
  obtain ⟨n, nv, nt, N, hr⟩ := W
  unfold f_X7_ask f_X8_ask
  rcases gd_slot (v := a) with ⟨s, hs, rfl, c1, m1⟩ | ⟨c1, m1⟩
  · have i5 : ix 5 (nI s) = some s := ix_nI hs (by decide)
    obtain ⟨e28, cs⟩ := hr.2.2.2.2 s hs
    have e28' := e28.symm
    rcases in05 (v := b) with ⟨q, hq, rfl, c2, m2⟩ | ⟨c2, m2⟩
    · simp only [c1, m1, c2, m2, i5, e28', bnd_s, e10, e01, if_false, if_true]
      rcases cs with h0 | ⟨h0, kd, f, hkd, hf, s1, s2, s3, s4⟩ | ⟨h0, -⟩ | ⟨h0, -⟩
      · simp only [h0, bnd_s, e10, e01, if_false, if_true]; exact LkR_mk
      · obtain ⟨x, hx, y1, y2⟩ := c_isOf (kd := q) s1 hkd hq
        simp only [h0, s2, y1, y2, s4, c_worth s1 hkd s3 hf, s3, bnd_s, e10, e01, if_false, if_true]
        by_cases h0 : x = 0
        · simp only [if_pos h0]; exact LkR_mk
        · simp only [if_neg h0]; exact LkR_mk
      · simp only [h0, zn_0_1, zn_0_2, zn_0_3, zn_1_0, zn_1_2, zn_1_3, zn_2_0, zn_2_1, zn_2_3, zn_3_0, zn_3_1, zn_3_2, zn_4_0, zn_4_1, zn_4_2, zn_4_3, zn_5_0, zn_5_1, zn_5_2, zn_5_3, zn_6_0, zn_6_1, zn_6_2, zn_6_3, zn_7_0, zn_7_1, zn_7_2, zn_7_3, zn_8_0, zn_8_1, zn_8_2, zn_8_3, zn_0_0, zn_1_1, zn_2_2, zn_3_3, if_true, if_false]; exact LkR_mk
      · simp only [h0, zn_0_1, zn_0_2, zn_0_3, zn_1_0, zn_1_2, zn_1_3, zn_2_0, zn_2_1, zn_2_3, zn_3_0, zn_3_1, zn_3_2, zn_4_0, zn_4_1, zn_4_2, zn_4_3, zn_5_0, zn_5_1, zn_5_2, zn_5_3, zn_6_0, zn_6_1, zn_6_2, zn_6_3, zn_7_0, zn_7_1, zn_7_2, zn_7_3, zn_8_0, zn_8_1, zn_8_2, zn_8_3, zn_0_0, zn_1_1, zn_2_2, zn_3_3, if_true, if_false]; exact LkR_mk
    · simp only [c1, m1, c2, m2, bnd_s, e10, e01, if_false, if_true]
      exact LkR_mk
  · simp only [c1, m1, bnd_s, e10, e01, if_false, if_true]
    exact LkR_mk
theorem op_item {σ τ : Mem} (W : RR2 σ τ) (a b : Int32) : LkR (f_X7_item a b σ) (f_X8_item a b τ) := by
  obtain ⟨n, nv, nt, N, hr⟩ := W
  unfold f_X7_item f_X8_item
  rcases gd_slot (v := a) with ⟨s, hs, rfl, c1, m1⟩ | ⟨c1, m1⟩
  · have i5 : ix 5 (nI s) = some s := ix_nI hs (by decide)
    obtain ⟨e28, cs⟩ := hr.2.2.2.2 s hs
    have e28' := e28.symm
    simp only [c1, m1, i5, e28', bnd_s, e10, e01, if_false, if_true]
    rcases cs with h0 | ⟨h0, -⟩ | ⟨h0, z, z1, z2, z3, z4⟩ | ⟨h0, -⟩
    · simp only [h0, zn_0_1, zn_0_2, zn_0_3, zn_1_0, zn_1_2, zn_1_3, zn_2_0, zn_2_1, zn_2_3, zn_3_0, zn_3_1, zn_3_2, zn_4_0, zn_4_1, zn_4_2, zn_4_3, zn_5_0, zn_5_1, zn_5_2, zn_5_3, zn_6_0, zn_6_1, zn_6_2, zn_6_3, zn_7_0, zn_7_1, zn_7_2, zn_7_3, zn_8_0, zn_8_1, zn_8_2, zn_8_3, zn_0_0, zn_1_1, zn_2_2, zn_3_3, if_true, if_false]; exact LkR_mk
    · simp only [h0, zn_0_1, zn_0_2, zn_0_3, zn_1_0, zn_1_2, zn_1_3, zn_2_0, zn_2_1, zn_2_3, zn_3_0, zn_3_1, zn_3_2, zn_4_0, zn_4_1, zn_4_2, zn_4_3, zn_5_0, zn_5_1, zn_5_2, zn_5_3, zn_6_0, zn_6_1, zn_6_2, zn_6_3, zn_7_0, zn_7_1, zn_7_2, zn_7_3, zn_8_0, zn_8_1, zn_8_2, zn_8_3, zn_0_0, zn_1_1, zn_2_2, zn_3_3, if_true, if_false]; exact LkR_mk
    · simp only [h0, z3, zn_0_1, zn_0_2, zn_0_3, zn_1_0, zn_1_2, zn_1_3, zn_2_0, zn_2_1, zn_2_3, zn_3_0, zn_3_1, zn_3_2, zn_4_0, zn_4_1, zn_4_2, zn_4_3, zn_5_0, zn_5_1, zn_5_2, zn_5_3, zn_6_0, zn_6_1, zn_6_2, zn_6_3, zn_7_0, zn_7_1, zn_7_2, zn_7_3, zn_8_0, zn_8_1, zn_8_2, zn_8_3, zn_0_0, zn_1_1, zn_2_2, zn_3_3, if_true, if_false]
      rcases gd_place (v := b) z2 z1 with ⟨q, hq, rfl, c2, m2⟩ | ⟨-, c2, m2⟩
      · have i24 : ix 24 (nI q) = some q := ix_nI (by omega) (by decide)
        have i120 : ix 120 (nI (24 * s + q)) = some (24 * s + q) := ix_nI (by omega) (by decide)
        have z4' := (z4 q hq).symm
        simp only [c2, m2, i24, sh_ix, i120, c_number (show q < 24 by omega), z4', bnd_s, e10, e01, if_false, if_true]
        by_cases hno : σ 20 (4 + s) q = -1000000005
        · rw [bI_f (fun q => q hno), if_pos rfl, if_pos hno]; exact LkR_mk
        · rw [bI_t hno, if_neg (show ¬ (1 : Int32) = 0 by decide), if_neg hno]; exact LkR_mk
      · simp only [c2, m2, bnd_s, e10, e01, if_false, if_true]; exact LkR_mk
    · simp only [h0, zn_0_1, zn_0_2, zn_0_3, zn_1_0, zn_1_2, zn_1_3, zn_2_0, zn_2_1, zn_2_3, zn_3_0, zn_3_1, zn_3_2, zn_4_0, zn_4_1, zn_4_2, zn_4_3, zn_5_0, zn_5_1, zn_5_2, zn_5_3, zn_6_0, zn_6_1, zn_6_2, zn_6_3, zn_7_0, zn_7_1, zn_7_2, zn_7_3, zn_8_0, zn_8_1, zn_8_2, zn_8_3, zn_0_0, zn_1_1, zn_2_2, zn_3_3, if_true, if_false]; exact LkR_mk
  · simp only [c1, m1, bnd_s, e10, e01, if_false, if_true]
    exact LkR_mk
theorem op_rest {σ τ : Mem} (W : RR2 σ τ) (a b : Int32) : LkR (f_X7_rest a b σ) (f_X8_rest a b τ) := by
  obtain ⟨n, nv, nt, N, hr⟩ := W
  unfold f_X7_rest f_X8_rest
  rcases gd_slot (v := a) with ⟨s, hs, rfl, c1, m1⟩ | ⟨c1, m1⟩
  · have i5 : ix 5 (nI s) = some s := ix_nI hs (by decide)
    obtain ⟨e28, cs⟩ := hr.2.2.2.2 s hs
    have e28' := e28.symm
    simp only [c1, m1, i5, e28', bnd_s, e10, e01, if_false, if_true]
    rcases cs with h0 | ⟨h0, -⟩ | ⟨h0, -⟩ | ⟨h0, e⟩
    · simp only [h0, zn_0_1, zn_0_2, zn_0_3, zn_1_0, zn_1_2, zn_1_3, zn_2_0, zn_2_1, zn_2_3, zn_3_0, zn_3_1, zn_3_2, zn_4_0, zn_4_1, zn_4_2, zn_4_3, zn_5_0, zn_5_1, zn_5_2, zn_5_3, zn_6_0, zn_6_1, zn_6_2, zn_6_3, zn_7_0, zn_7_1, zn_7_2, zn_7_3, zn_8_0, zn_8_1, zn_8_2, zn_8_3, zn_0_0, zn_1_1, zn_2_2, zn_3_3, if_true, if_false]; exact LkR_mk
    · simp only [h0, zn_0_1, zn_0_2, zn_0_3, zn_1_0, zn_1_2, zn_1_3, zn_2_0, zn_2_1, zn_2_3, zn_3_0, zn_3_1, zn_3_2, zn_4_0, zn_4_1, zn_4_2, zn_4_3, zn_5_0, zn_5_1, zn_5_2, zn_5_3, zn_6_0, zn_6_1, zn_6_2, zn_6_3, zn_7_0, zn_7_1, zn_7_2, zn_7_3, zn_8_0, zn_8_1, zn_8_2, zn_8_3, zn_0_0, zn_1_1, zn_2_2, zn_3_3, if_true, if_false]; exact LkR_mk
    · simp only [h0, zn_0_1, zn_0_2, zn_0_3, zn_1_0, zn_1_2, zn_1_3, zn_2_0, zn_2_1, zn_2_3, zn_3_0, zn_3_1, zn_3_2, zn_4_0, zn_4_1, zn_4_2, zn_4_3, zn_5_0, zn_5_1, zn_5_2, zn_5_3, zn_6_0, zn_6_1, zn_6_2, zn_6_3, zn_7_0, zn_7_1, zn_7_2, zn_7_3, zn_8_0, zn_8_1, zn_8_2, zn_8_3, zn_0_0, zn_1_1, zn_2_2, zn_3_3, if_true, if_false]; exact LkR_mk
    · simp only [h0, e, zn_0_1, zn_0_2, zn_0_3, zn_1_0, zn_1_2, zn_1_3, zn_2_0, zn_2_1, zn_2_3, zn_3_0, zn_3_1, zn_3_2, zn_4_0, zn_4_1, zn_4_2, zn_4_3, zn_5_0, zn_5_1, zn_5_2, zn_5_3, zn_6_0, zn_6_1, zn_6_2, zn_6_3, zn_7_0, zn_7_1, zn_7_2, zn_7_3, zn_8_0, zn_8_1, zn_8_2, zn_8_3, zn_0_0, zn_1_1, zn_2_2, zn_3_3, if_true, if_false]
      by_cases hb : b = 0
      · simp only [if_pos hb]; exact LkR_mk
      · simp only [if_neg hb]; exact LkR_mk
  · simp only [c1, m1, bnd_s, e10, e01, if_false, if_true]
    exact LkR_mk
