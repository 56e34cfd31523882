-- who promises twice is struck off
theorem i_m1 (x : Int32) : x + (-1 : Int32) = x - 1 := by rw [Int32.sub_eq_add_neg]
theorem ls_strike {b : Bool} {l n nt o : Nat} : ∀ (m nv nC nM : Nat) (σ τ : Mem), RLd b l 22 σ τ n nv nt → m ≤ nv → m < nC → m < nM →
    ∃ σ' τ' nv', (∀ K, f_X0_strikeOff_17 l (nI o) nC (nI m - 1) σ K = K σ') ∧ (∀ K, f_X8_strikes_16 (nI o) nM (nI m - 1) τ K = K τ') ∧ RLd b l 22 σ' τ' n nv' nt ∧ Fm (RgD l) σ σ' ∧ FrM τ τ' ∧ τ' 22 0 2 = τ 22 0 2 ∧ nv' ≤ nv := by
  intro m
  induction m with
  | zero =>
    intro nv nC nM σ τ H hm h3 h4
    obtain ⟨nC, rfl, -⟩ := succ_of h3
    obtain ⟨nM, rfl, -⟩ := succ_of h4
    refine ⟨σ, τ, nv, fun K => ?_, fun K => ?_, H, Fm.rf, FrM.rf, rfl, Nat.le_refl _⟩
    · rw [f_X0_strikeOff_17.eq_2, if_pos (show nI 0 - 1 < 0 by decide)]
    · rw [f_X8_strikes_16.eq_2, if_pos (show nI 0 - 1 < 0 by decide)]
  | succ m ih =>
    intro nv nC nM σ τ H hm h3 h4
    obtain ⟨nC, rfl, h3⟩ := succ_of h3
    obtain ⟨nM, rfl, h4⟩ := succ_of h4
    have b3 := H.2.1.2.2
    obtain ⟨⟨u, hu, w1, w2⟩, -, -⟩ := H.2.2.2.1 m (by omega)
    have i17 : ix 17 (nI m) = some m := ix_nI (by omega) (by decide)
    have m0 : f_X8_vowIs (nI m) 0 τ = some (nI u) := by rw [q_vowIs (e := 0) m 0 rfl (by omega), Nat.add_zero, w2]
    have e : nI (m + 1) - 1 = nI m := nI_pred m
    have np : ¬ nI m < 0 := nI_pos (by omega)
    by_cases ho : nI u = nI o
    · have H2 := RLd_lapse H (v := m) (by omega)
      obtain ⟨σ', τ', nv', q1, q2, q3, q4, q5, q6, q7⟩ := ih (nv - 1) nC nM _ _ H2 (by omega) (by omega) (by omega)
      refine ⟨σ', τ', nv', fun K => ?_, fun K => ?_, q3, Fm.trans (Fm.lap Fm.rf) q4, FrM.trans (FrM.lap FrM.rf b3) q5, ?_, by omega⟩
      · rw [f_X0_strikeOff_17.eq_2, e, if_neg np, i17, bnd_s, w1, if_pos ho, c_lapse H.2.1.1 b3 (by omega), bnd_s, i_m1]
        exact q1 K
      · rw [f_X8_strikes_16.eq_2, e, if_neg np, m0, bnd_s, if_pos ho, m_goes H.2.1.2.1 b3 (by omega), bnd_s, i_m1]
        exact q2 K
      · rw [q6, lapM_at (by decide) (by decide), if_neg (by omega)]
    · obtain ⟨σ', τ', nv', q1, q2, q⟩ := ih nv nC nM σ τ H (by omega) (by omega) (by omega)
      refine ⟨σ', τ', nv', fun K => ?_, fun K => ?_, q⟩
      · rw [f_X0_strikeOff_17.eq_2, e, if_neg np, i17, bnd_s, w1, if_neg ho, i_m1]
        exact q1 K
      · rw [f_X8_strikes_16.eq_2, e, if_neg np, m0, bnd_s, if_neg ho, i_m1]
        exact q2 K
theorem op_vow {σ τ : Mem} (W : RR2 σ τ) (a b c : Int32) : LkS (f_X7_vow a b c σ) (f_X8_vow a b c τ) RR2 := by
  have W0 := W
  obtain ⟨n, nv, nt, ⟨H, hv16, T, h, hh, h2⟩, hr⟩ := W
  have n10 := H.1.2.2
  unfold f_X7_vow f_X8_vow
  rcases gd_one (v := a) H.1 with ⟨j, hj, rfl, c1, m1⟩ | ⟨-, c1, m1⟩
  · have i10 : ix 10 (nI j) = some j := ix_nI (by omega) (by decide)
    obtain ⟨⟨kd, hkd, p1, p2⟩, -, -, -, p8⟩ := H.2.2.1 j hj
    have o0 : f_X8_of (nI j) 0 τ = some (nI kd) := by rw [q_of (e := 0) j 0 rfl (by omega), Nat.add_zero, p2]
    have o4 : f_X8_of (nI j) 4 τ = some (τ 22 0 (11 + 5 * j)) := by rw [q_of (e := 4) j 4 rfl (by omega), show 7 + 5 * j + 4 = 11 + 5 * j by omega]
    simp only [c1, m1, bnd_s, e10, e01, if_false, if_true]
    rcases gd_one (v := b) H.1 with ⟨u, hu, rfl, c2, m2⟩ | ⟨-, c2, m2⟩
    · simp only [c2, m2, bnd_s, e10, e01, if_false, if_true]
      by_cases hab : nI j = nI u
      · simp only [if_pos hab]
        exact LkS_mk W0
      · simp only [if_neg hab]
        rcases gd_nat (v := c) 2 (hi := 2) (lo' := 0) (hi' := 2) (by decide) (by decide) (by decide) rfl with ⟨w, lw, rfl, c3, m3⟩ | ⟨-, c3, m3⟩
        · simp only [c3, m3, i10, o0, o4, sx2, sx3, p1, p8, H.2.2.2.2.1.2.2.1, H.2.1.1, H.2.1.2.1, h2, bnd_s, e10, e01, if_false, if_true, -Nat.reduceMul]
          by_cases k5 : nI kd = 5
          · simp only [if_pos k5]
            exact LkS_mk W0
          · simp only [if_neg k5]
            by_cases kg : τ 22 0 (11 + 5 * j) = nI h
            · simp only [if_pos kg]
              have H1 := RLd_pcell (f := 0) (v := 5) H hj (Or.inl ⟨rfl, 5, by decide, rfl⟩)
              have F1 : Fm (RgD 0) σ (mput σ 3 (10 * 0 + j) 0 5) := Fm.put Fm.rf (by unfold RgD; omega)
              have G1 : FrM τ (mput τ 22 0 (7 + 5 * j + 0) 5) := FrM.put FrM.rf (by omega)
              obtain ⟨σ', τ', nv', q1, q2, q3, q4, q5, q6, q7⟩ := ls_strike (o := j) nv nv FU FU _ _ H1 (Nat.le_refl _) (fu_gt (by omega)) (fu_gt (by omega))
              have E1 : f_X0_strikeOff 0 (nI j) σ = some σ' := by
                unfold f_X0_strikeOff
                rw [i10, bnd_s, H1.2.1.1, q1]
              have E2 : f_X8_strikes (nI j) τ = some τ' := by
                unfold f_X8_strikes
                rw [q_sets (e := 0) j 0 rfl (by omega), bnd_s, sx3, bnd_s, H1.2.1.2.1, q2]
              rw [E1, E2, bnd_s, bnd_s]
              exact LkS_mk (RR2_land (n := n) (nv := nv) hr T rfl q3 (by omega) hh (by rw [q6, mp_k (by omega)]; exact h2) (Fm.trans F1 q4).n0 (FrM.trans G1 q5).n (fun k hk _ => (FrM.trans G1 q5).2 k hk))
            · simp only [if_neg kg]
              by_cases hv : nv < 16
              · have H1 := RLd_pcell (f := 4) (v := nI h) H hj (Or.inr (Or.inr (Or.inr (Or.inr rfl))))
                have F1 : Fm (RgD 0) σ (mput σ 3 (10 * 0 + j) 4 (nI h)) := Fm.put Fm.rf (by unfold RgD; omega)
                obtain ⟨σ1, τ1, q1, q2, q3, q4, q5, q6⟩ := ls_vow (w := nI w) (u := u) (u' := u) H (by omega) hj hu hu (fun _ => rfl)
                obtain ⟨σ2, τ2, r1, -, r3, r4, -⟩ := ls_vow (w := nI w) (u := u) (u' := u) H1 (by omega) hj hu hu (fun _ => rfl)
                have H3 := RLd_pcell (f := 4) (v := nI h) q3 hj (Or.inr (Or.inr (Or.inr (Or.inr rfl))))
                have hs : σ2 = mput σ1 3 (10 * 0 + j) 4 (nI h) := by
                  unfold f_X0_addVow at q1 r1
                  have ii : ix 17 (nI nv) = some nv := ix_nI (by omega) (by decide)
                  have z0 : mput σ 3 (10 * 0 + j) 4 (nI h) 0 = σ 0 := mp_g (by decide)
                  simp only [z0, H.2.1.1, ii, bnd_s, mp_g (show 0 ≠ 13 by decide), mp_g (show 0 ≠ 14 by decide), mp_g (show 0 ≠ 15 by decide), -Nat.reduceMul] at q1 r1
                  cases q1
                  cases r1
                  funext g i k
                  unfold mput
                  by_cases h3 : g = 3
                  · subst h3; simp
                  · simp [h3]
                rw [if_pos (show nI nv < 16 from nI_lt (b := 16) hv (by decide)), r1, bnd_s, if_neg (show ¬ nI nv = 16 from fun q => by have := (nI_eq (a := nv) (b := 16) (by omega) (by decide)).mp q; omega), q2, bnd_s, q6, h2, q_sets (e := 4) j 4 rfl (by omega), bnd_s, hs]
                rw [H3.2.1.1, H3.2.1.2.1]
                exact LkS_mk (RR2_land (n := n) (nv := nv) hr T rfl H3 (by omega) hh (by rw [mp_k (by omega), q6]; exact h2) (Fm.put q4 (by unfold RgD; omega)).n0 (FrM.put q5 (by omega)).n (fun k hk _ => (FrM.put q5 (by omega)).2 k hk))
              · have hv : nv = 16 := by omega
                subst hv
                rw [if_neg (show ¬ nI 16 < 16 by decide), if_pos (show nI 16 = 16 from rfl)]
                exact LkS_mk W0
        · simp only [c3, m3, bnd_s, e10, e01, if_false, if_true]
          exact LkS_mk W0
    · simp only [c2, m2, bnd_s, e10, e01, if_false, if_true]
      exact LkS_mk W0
  · simp only [c1, m1, bnd_s, e10, e01, if_false, if_true]
    exact LkS_mk W0
theorem RNow_fr {σ τ σ' τ' : Mem} {n nv nt : Nat} (N : RNow σ τ n nv nt) (hs : ∀ g, g ≠ 10 → σ' g = σ g) (ht : τ' 22 = τ 22) : RNow σ' τ' n nv nt := by
  obtain ⟨H, hv16, T, h, hh, h2⟩ := N
  have e3 := H.2.2.2.2.2.2.2.1
  exact ⟨RLd_off H (by rw [hs 0 (by decide)]) (hs 3 (by decide)) (by rw [hs 13 (by decide)]) (by rw [hs 14 (by decide)]) (by rw [hs 15 (by decide)]) (by rw [hs 16 (by decide)]) (fun k _ => by rw [ht]), hv16, fun t htt => TxR_congr (T t htt) (by omega) (by rw [hs 1 (by decide)]) (by rw [hs 11 (by decide)]) (fun k _ _ => by rw [ht]), h, hh, by rw [ht]; exact h2⟩
theorem RR2_keeps {σ τ σ' τ' : Mem} {n nv nt : Nat} (N : RNow σ τ n nv nt) (hr : Rest σ τ nt) (hs : ∀ g, g ≠ 10 → σ' g = σ g) (ht : ∀ g, g ≠ 37 → g ≠ 38 → τ' g = τ g) : RR2 σ' τ' :=
  ⟨n, nv, nt, RNow_fr N hs (ht 22 (by decide) (by decide)), Rest_fr hr (Nat.le_refl _) (fun g i hn => by rw [hs g (fun q => hn (by unfold RgN RgD; omega))]) (fun g _ _ _ _ _ h37 h38 _ _ => ht g h37 h38)⟩
theorem op_vowOf {σ τ : Mem} (W : RR2 σ τ) (a b : Int32) : LkS (f_X7_vowOf a b σ) (f_X8_vowOf a b τ) RR2 := by
  have W0 := W
  obtain ⟨n, nv, nt, N, hr⟩ := W
  obtain ⟨H, hv16, T, h, hh, h2⟩ := N
  unfold f_X7_vowOf f_X8_vowOf
  rcases gd_vow (v := a) H.2.1 with ⟨j, hj, rfl, c1, m1⟩ | ⟨c1, m1⟩
  · obtain ⟨⟨o, ho, w1, w2⟩, ⟨u, u', hu, hu', w3, w4, w5⟩, w6⟩ := H.2.2.2.1 j hj
    have i17 : ix 17 (nI j) = some j := ix_nI (by omega) (by decide)
    rw [c1, bnd_s, if_neg (show ¬ (1 : Int32) = 0 by decide), m1, bnd_s, if_neg (show ¬ (1 : Int32) = 0 by decide)]
    by_cases b0 : b = 0
    · subst b0
      rw [if_pos rfl, show f_X8_isIn ((0 : Int32)).toInt64 (0 : Int64) (3 : Int64) τ = some 1 from rfl, bnd_s, if_neg (show ¬ (1 : Int32) = 0 by decide), if_neg (show ¬ (0 : Int32) = 3 by decide), i17, bnd_s, q_vowIs (e := 0) j 0 rfl (by omega), bnd_s, Nat.add_zero, w1, w2]
      exact LkS_mk W0
    by_cases b1 : b = 1
    · subst b1
      rw [if_neg b0, if_pos rfl, show f_X8_isIn ((1 : Int32)).toInt64 (0 : Int64) (3 : Int64) τ = some 1 from rfl, bnd_s, if_neg (show ¬ (1 : Int32) = 0 by decide), if_neg (show ¬ (1 : Int32) = 3 by decide), i17, bnd_s, q_vowIs (e := 1) j 1 rfl (by omega), bnd_s, show 57 + 3 * j + 1 = 58 + 3 * j by omega, w3, w4, w5 rfl]
      exact LkS_mk W0
    by_cases b2 : b = 2
    · subst b2
      rw [if_neg b0, if_neg b1, if_pos rfl, show f_X8_isIn ((2 : Int32)).toInt64 (0 : Int64) (3 : Int64) τ = some 1 from rfl, bnd_s, if_neg (show ¬ (1 : Int32) = 0 by decide), if_neg (show ¬ (2 : Int32) = 3 by decide), i17, bnd_s, q_vowIs (e := 2) j 2 rfl (by omega), bnd_s, show 57 + 3 * j + 2 = 59 + 3 * j by omega, w6]
      exact LkS_mk W0
    by_cases b3 : b = 3
    · subst b3
      rw [if_neg b0, if_neg b1, if_neg b2, if_pos rfl, show f_X8_isIn ((3 : Int32)).toInt64 (0 : Int64) (3 : Int64) τ = some 1 from rfl, bnd_s, if_neg (show ¬ (1 : Int32) = 0 by decide), if_pos rfl]
      obtain ⟨r, σ', τ', x1, x2, x3, x4⟩ := ls_keeps H T hj
      rw [x1, x2, bnd_s, bnd_s]
      exact LkS_mk (RR2_keeps ⟨H, hv16, T, h, hh, h2⟩ hr x3 x4)
    have m0 : f_X8_isIn b.toInt64 (0 : Int64) (3 : Int64) τ = some 0 := by
      rcases gd_nat (v := b) 3 (hi := 3) (lo' := 0) (hi' := 3) (by decide) (by decide) (by decide) rfl with ⟨q, hq, e, -⟩ | ⟨-, -, m⟩
      · rcases (show q = 0 ∨ q = 1 ∨ q = 2 ∨ q = 3 by omega) with rfl | rfl | rfl | rfl
        · exact absurd e b0
        · exact absurd e b1
        · exact absurd e b2
        · exact absurd e b3
      · exact m τ
    rw [if_neg b0, if_neg b1, if_neg b2, if_neg b3, m0, bnd_s, if_pos rfl]
    exact LkS_mk W0
  · rw [c1, bnd_s, if_pos rfl, m1, bnd_s, if_pos rfl]
    exact LkS_mk W0
theorem op_breaks {σ τ : Mem} (W : RR2 σ τ) (a : Int32) : LkS (f_X7_breaks a σ) (f_X8_breaks a τ) RR2 := by
  have W0 := W
  obtain ⟨n, nv, nt, ⟨H, hv16, T, h, hh, h2⟩, hr⟩ := W
  unfold f_X7_breaks f_X8_breaks
  rcases gd_vow (v := a) H.2.1 with ⟨j, hj, rfl, c1, m1⟩ | ⟨c1, m1⟩
  · have H1 := RLd_lapse H hj
    have b3 := H.2.1.2.2
    rw [c1, bnd_s, if_neg (show ¬ (1 : Int32) = 0 by decide), m1, bnd_s, if_neg (show ¬ (1 : Int32) = 0 by decide), c_lapse H.2.1.1 b3 hj, bnd_s, m_goes H.2.1.2.1 b3 hj, bnd_s, sx3, bnd_s, H1.2.1.1, H1.2.1.2.1]
    exact LkS_mk (RR2_land (n := n) (nv := nv) hr T rfl H1 (by omega) hh (by rw [lapM_at (by decide) (by decide), if_neg (by omega)]; exact h2) (Fm.lap Fm.rf).n0 (FrM.lap FrM.rf b3).n (fun k hk _ => (FrM.lap FrM.rf b3).2 k hk))
  · rw [c1, bnd_s, if_pos rfl, m1, bnd_s, if_pos rfl]
    exact LkS_mk W0
theorem op_eclipse {σ τ : Mem} (W : RR2 σ τ) : LkS (f_X7_eclipse σ) (f_X8_eclipse τ) RR2 := by
  obtain ⟨n, nv, nt, ⟨H, hv16, T, h, hh, h2⟩, hr⟩ := W
  have d2 := H.2.2.2.2.1.2.1
  have H1 := RLd_cell (k := 8) (k' := 5) (v := τ 22 0 5 + nI nv) (RLd_less H (Nat.zero_le nv)) (by decide)
  have e1 : mput (mput σ 0 0 8 (τ 22 0 5 + nI nv)) 0 0 6 (0 : Int32) = mput (mput σ 0 0 6 (nI 0)) 0 0 8 (τ 22 0 5 + nI nv) := by
    funext g i k
    unfold mput
    by_cases h6 : k = 6
    · subst h6; simp [nI_0]
    · simp [h6]
  unfold f_X7_eclipse f_X8_eclipse
  rw [sx3, bnd_s, bnd_s, sx5, bnd_s, bnd_s, bnd_s, H.2.1.1, H.2.1.2.1, d2, mp_k (by decide), e1]
  exact LkS_mk (RR2_land (n := n) (nv := nv) hr T rfl H1 (by omega) hh (by rw [mp_k (by decide), mp_k (by decide)]; exact h2) (Fm.put (Fm.put Fm.rf (by unfold RgD; omega)) (by unfold RgD; omega)).n0 (FrM.put (FrM.put FrM.rf (by decide)) (by decide)).n (fun k hk _ => (FrM.put (FrM.put FrM.rf (by decide)) (by decide)).2 k hk))
theorem op_seed {σ τ : Mem} (W : RR2 σ τ) (a : Int32) : LkS (f_X7_seed a σ) (f_X8_seed a τ) RR2 := by
  obtain ⟨n, nv, nt, ⟨H, hv16, T, h, hh, h2⟩, hr⟩ := W
  have H1 := RLd_cell (k := 10) (k' := 6) (v := a) H (by decide)
  unfold f_X7_seed f_X8_seed
  rw [q_becomes (e := 6) 6 rfl (by decide), bnd_s]
  show LkS (some (σ 0 0 10, mput σ 0 0 10 a)) (some (τ 22 0 6, mput τ 22 0 6 a)) RR2
  exact LkS_mk2 H.2.2.2.2.1.2.2.2 (RR2_land (n := n) (nv := nv) hr T rfl H1 (by omega) hh ((mp_k (σ := τ) (show 2 ≠ 6 by decide)).trans h2) (Fm.put Fm.rf (by unfold RgD; omega)).n0 (FrM.put FrM.rf (by decide)).n (fun k hk _ => (FrM.put FrM.rf (by decide)).2 k hk))
