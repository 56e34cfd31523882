-- people by lot, hours
theorem bv_nI {x : Int32} {m : Nat} (h : x.toBitVec.toNat = m) : x = nI m := by
  have hm : m < 2 ^ 32 := by rw [← h]; exact x.toBitVec.isLt
  apply Int32.toBitVec_inj.mp
  apply BitVec.eq_of_toNat_eq
  rw [h, pk_tn hm]
theorem drw_nat (z : Int32) : ∃ q, q < 16777216 ∧ drwV z = nI q := by
  refine ⟨(nxtV z).toBitVec.toNat / 2 ^ 8, ?_, ?_⟩
  · have := (nxtV z).toBitVec.isLt
    omega
  · exact bv_nI (pk_ushr (nxtV z) 8 8 (by decide))
theorem drw_rem (z : Int32) (d : Nat) (h0 : 0 < d) (hd : d < 2 ^ 31) : ∃ q, q < d ∧ drwV z - drwV z / nI d * nI d = nI q := by
  obtain ⟨q, hq, e⟩ := drw_nat z
  exact ⟨q % d, Nat.mod_lt _ h0, by rw [e, pk_rem (by omega) h0 hd]⟩
theorem ls_drawP {b : Bool} {l n nv nt : Nat} {σ τ : Mem} (H : RLd b l 22 σ τ n nv nt) (hn : n < 10) : ∃ σ' τ', f_X0_drawPerson l σ = some σ' ∧ (∀ (α : Type) (K : Mem → Option α), (bnd (f_X8_drawn τ) (fun a1 => (bnd (f_X8_drawn a1.2) (fun a2 => (bnd (f_X8_drawn a2.2) (fun a3 => (bnd (f_X8_comes (a1.1 - a1.1 / (6 : Int32) * (6 : Int32)) (a2.1 - a2.1 / (24 : Int32) * (24 : Int32)) (a3.1 - a3.1 / (100 : Int32) * (100 : Int32)) a3.2) (fun a4 => K a4)))))))) = K τ') ∧ RLd b l 22 σ' τ' (n + 1) nv nt ∧ Fm (RgD l) σ σ' ∧ FrM τ τ' ∧ τ' 22 0 2 = τ 22 0 2 := by
  have d4 := H.2.2.2.2.1.2.2.2
  have H1 := RLd_cell (k := 10) (k' := 6) (v := nxtV (τ 22 0 6)) H (by decide)
  have H2 := RLd_cell (k := 10) (k' := 6) (v := nxtV (nxtV (τ 22 0 6))) H1 (by decide)
  have H3 := RLd_cell (k := 10) (k' := 6) (v := nxtV (nxtV (nxtV (τ 22 0 6)))) H2 (by decide)
  obtain ⟨qa, la, ea⟩ := drw_rem (τ 22 0 6) 6 (by decide) (by decide)
  obtain ⟨qb, lb, eb⟩ := drw_rem (nxtV (τ 22 0 6)) 24 (by decide) (by decide)
  obtain ⟨qc, lc, ec⟩ := drw_rem (nxtV (nxtV (τ 22 0 6))) 100 (by decide) (by decide)
  rw [show nI 6 = (6 : Int32) from rfl] at ea
  rw [show nI 24 = (24 : Int32) from rfl] at eb
  rw [show nI 100 = (100 : Int32) from rfl] at ec
  obtain ⟨σ', τ', q1, q2, q3, q4, q5, q6⟩ := ls_comes H3 hn la lb lc
  refine ⟨σ', τ', ?_, fun α K => ?_, q3, Fm.trans (Fm.put (Fm.put (Fm.put Fm.rf (by unfold RgD; omega)) (by unfold RgD; omega)) (by unfold RgD; omega)) q4, FrM.trans (FrM.put (FrM.put (FrM.put FrM.rf (by decide)) (by decide)) (by decide)) q5, ?_⟩
  · unfold f_X0_drawPerson
    simp only [c_draw, bnd_s, mput_same, d4, ea, eb, ec, q1]
  · simp only [m_drawn, bnd_s, mput_same, ea, eb, ec, q2]
  · rw [q6, mp_k (by decide), mp_k (by decide), mp_k (by decide)]
theorem ls_deal {b : Bool} {nv nt d : Nat} : ∀ (m i n nC nM : Nat) (σ τ : Mem), RLd b 0 22 σ τ n nv nt → n + m ≤ 10 → i + m ≤ d → d ≤ 10 → (n + m = 10 ∨ i + m = d) → m < nC → m < nM →
    ∃ σ' τ', (∀ K, f_X7_deal_30 (nI (i + m)) nC (nI i) σ K = K σ') ∧ (∀ K, f_X8_deal_17 (nI d) nM (nI i) τ K = K (nI (i + m)) τ') ∧ RLd b 0 22 σ' τ' (n + m) nv nt ∧ Fm (RgD 0) σ σ' ∧ FrM τ τ' ∧ τ' 22 0 2 = τ 22 0 2 := by
  intro m
  induction m with
  | zero =>
    intro i n nC nM σ τ H h1 h2 h3 h4 h5 h6
    obtain ⟨nC, rfl, -⟩ := succ_of h5
    obtain ⟨nM, rfl, -⟩ := succ_of h6
    refine ⟨σ, τ, fun K => ?_, fun K => ?_, H, Fm.rf, FrM.rf, rfl⟩
    · rw [f_X7_deal_30.eq_2, if_pos (nI_le (by omega) (by omega))]
    · rw [f_X8_deal_17.eq_2]
      by_cases hd : i = d
      · subst hd
        rw [if_pos (nI_le (by omega) (by omega))]
        rfl
      · rw [if_neg (nI_ge (by omega) (by omega)), sx0, bnd_s, H.1.2.1, if_pos (show (10 : Int32) ≤ nI n from nI_le (a := 10) (b := n) (by omega) (by omega))]
        rfl
  | succ m ih =>
    intro i n nC nM σ τ H h1 h2 h3 h4 h5 h6
    obtain ⟨nC, rfl, h5⟩ := succ_of h5
    obtain ⟨nM, rfl, h6⟩ := succ_of h6
    obtain ⟨σ1, τ1, q1, q2, q3, q4, q5, q6⟩ := ls_drawP H (by omega)
    obtain ⟨σ', τ', r1, r2, r3, r4, r5, r6⟩ := ih (i + 1) (n + 1) nC nM σ1 τ1 q3 (by omega) (by omega) h3 (by omega) (by omega) (by omega)
    rw [show i + 1 + m = i + (m + 1) by omega] at r1 r2
    rw [show n + 1 + m = n + (m + 1) by omega] at r3
    refine ⟨σ', τ', fun K => ?_, fun K => ?_, r3, Fm.trans q4 r4, FrM.trans q5 r5, r6.trans q6⟩
    · rw [f_X7_deal_30.eq_2, if_neg (nI_ge (by omega) (by omega)), q1, bnd_s, nI_s]
      exact r1 K
    · rw [f_X8_deal_17.eq_2, if_neg (nI_ge (by omega) (by omega)), sx0, bnd_s, H.1.2.1, if_neg (show ¬ (10 : Int32) ≤ nI n from nI_ge (a := n) (b := 10) (by omega) (by omega)), q2, nI_s]
      exact r2 K
theorem min_nI {a b : Nat} (ha : a < 2 ^ 31) (hb : b < 2 ^ 31) : (if nI a < nI b then nI a else nI b) = nI (min a b) := by
  by_cases h : a < b
  · rw [if_pos (nI_lt h hb), Nat.min_eq_left (by omega)]
  · rw [if_neg (nI_nlt (by omega) ha), Nat.min_eq_right (by omega)]
theorem in1 {v : Int32} (m : Nat) {hi : Int32} {hi' : Int64} (hm : m < 2 ^ 31) (h2 : hi' = hi.toInt64) (h3 : hi = nI m) : (∃ j, 1 ≤ j ∧ j ≤ m ∧ v = nI j ∧ (∀ σ, f_X7_isWithin v 1 hi σ = some 1) ∧ (∀ τ, f_X8_isIn v.toInt64 1 hi' τ = some 1)) ∨ ((∀ σ, f_X7_isWithin v 1 hi σ = some 0) ∧ (∀ τ, f_X8_isIn v.toInt64 1 hi' τ = some 0)) := by
  rcases gd_in (v := v) 1 hi (lo' := 1) (by decide) h2 with ⟨⟨a, b⟩, c, d⟩ | ⟨-, c, d⟩
  · have a' := a
    rw [pl_le32, show (1 : Int32).toInt = 1 from rfl] at a'
    obtain ⟨j, hj, e⟩ := nI_of2 (M := hi) (n := m) (by rw [h3]; exact nI_toInt hm) (x := v) (by rw [pl_lt32]; show ¬ v.toInt < 0; omega) b
    subst e
    rw [nI_toInt (by omega)] at a'
    exact Or.inl ⟨j, by omega, hj, rfl, c, d⟩
  · exact Or.inr ⟨c, d⟩
theorem op_deal {σ τ : Mem} (W : RR2 σ τ) (a : Int32) : LkS (f_X7_deal a σ) (f_X8_deal a τ) RR2 := by
  have W0 := W
  obtain ⟨n, nv, nt, ⟨H, hv16, T, h, hh, h2⟩, hr⟩ := W
  have n10 := H.1.2.2
  unfold f_X7_deal f_X8_deal
  rcases in1 (v := a) 10 (hi := 10) (hi' := 10) (by decide) (by decide) rfl with ⟨d, d1, d2, rfl, c1, m1⟩ | ⟨c1, m1⟩
  · have e : (if ((10 : Int32) - (σ 0 0 2)) < nI d then ((10 : Int32) - (σ 0 0 2)) else nI d) = nI (min (10 - n) d) := by
      rw [H.1.1, show (10 : Int32) = nI 10 from rfl, pk_sub (by omega), min_nI (by omega) (by omega)]
    obtain ⟨σ', τ', q1, q2, q3, q4, q5, q6⟩ := ls_deal (d := d) (min (10 - n) d) 0 n FU FU σ τ H (by omega) (by omega) d2 (by omega) (fu_gt (by omega)) (fu_gt (by omega))
    rw [Nat.zero_add] at q1 q2
    rw [c1, bnd_s, if_neg (show ¬ (1 : Int32) = 0 by decide), m1, bnd_s, if_neg (show ¬ (1 : Int32) = 0 by decide), e]
    have z1 := q1 (fun σ_1 => some (nI (min (10 - n) d), σ_1))
    have z2 := q2 (fun e1 σ_1 => some (e1, σ_1))
    rw [show nI 0 = (0 : Int32) from rfl] at z1 z2
    rw [z1, z2]
    exact LkS_mk (RR2_land (n := n) (nv := nv) hr T rfl q3 hv16 hh (q6.trans h2) q4.n0 q5.n (fun k hk _ => q5.2 k hk))
  · rw [c1, bnd_s, if_pos rfl, m1, bnd_s, if_pos rfl]
    exact LkS_mk W0
theorem ls_hrs {b : Bool} {l n nt d : Nat} {p2 : Int32} (hd : d < 5000) : ∀ (m i h nv nC nM : Nat) (σ τ : Mem), RLd b l 22 σ τ n nv nt → (∀ t, t < nt → TxR 22 σ τ t) → τ 22 0 2 = nI h → i + m ≤ d → h + m ≤ 9999 → (i + m = d ∨ h + m = 9999) → m < nC → m < nM →
    ∃ σ' τ' nv', (∀ K, f_X0_passHours_2 l (nI (i + m)) nC (nI i) σ K = K σ') ∧ (∀ K, f_X8_hours_24 (nI d) p2 nM (nI i) τ K = K τ') ∧ RLd b l 22 σ' τ' n nv' nt ∧ Fm (RgD l) σ σ' ∧ FrM τ τ' ∧ nv' ≤ nv ∧ τ' 22 0 2 = nI (h + m) := by
  intro m
  induction m with
  | zero =>
    intro i h nv nC nM σ τ H T e h1 h2 h3 h4 h5
    obtain ⟨nC, rfl, -⟩ := succ_of h4
    obtain ⟨nM, rfl, -⟩ := succ_of h5
    refine ⟨σ, τ, nv, fun K => ?_, fun K => ?_, H, Fm.rf, FrM.rf, Nat.le_refl _, e⟩
    · rw [f_X0_passHours_2.eq_2, if_pos (nI_le (by omega) (by omega))]
    · rw [f_X8_hours_24.eq_2]
      by_cases hi : i = d
      · rw [if_pos (nI_le (by omega) (by omega))]
      · rw [if_neg (nI_ge (by omega) (by omega)), sx2, bnd_s, e, if_pos (show (9999 : Int32) ≤ nI h from nI_le (a := 9999) (b := h) (by omega) (by omega))]
  | succ m ih =>
    intro i h nv nC nM σ τ H T e h1 h2 h3 h4 h5
    obtain ⟨nC, rfl, h4⟩ := succ_of h4
    obtain ⟨nM, rfl, h5⟩ := succ_of h5
    have e3 := H.2.2.2.2.2.2.2.1
    obtain ⟨σ1, τ1, nv1, q1, q2, q3, q4, q5, q6, q7⟩ := ls_hour H T
    obtain ⟨σ', τ', nv', r1, r2, r3, r4, r5, r6, r7⟩ := ih (i + 1) (h + 1) nv1 nC nM σ1 τ1 q3 (T_fr T e3 q4 q5) (by rw [q6, e, nI_s]) (by omega) (by omega) (by omega) (by omega) (by omega)
    rw [show i + 1 + m = i + (m + 1) by omega] at r1
    rw [show h + 1 + m = h + (m + 1) by omega] at r7
    refine ⟨σ', τ', nv', fun K => ?_, fun K => ?_, r3, Fm.trans q4 r4, FrM.trans q5 r5, by omega, r7⟩
    · rw [f_X0_passHours_2.eq_2, if_neg (nI_ge (by omega) (by omega)), q1, bnd_s, nI_s]
      exact r1 K
    · rw [f_X8_hours_24.eq_2, if_neg (nI_ge (by omega) (by omega)), sx2, bnd_s, e, if_neg (show ¬ (9999 : Int32) ≤ nI h from nI_ge (a := h) (b := 9999) (by omega) (by omega)), q2, bnd_s, nI_s]
      exact r2 K
theorem op_hours {σ τ : Mem} (W : RR2 σ τ) (a : Int32) : LkS (f_X7_hours a σ) (f_X8_hours a τ) RR2 := by
  have W0 := W
  obtain ⟨n, nv, nt, ⟨H, hv16, T, h, hh, h2⟩, hr⟩ := W
  unfold f_X7_hours f_X8_hours
  rcases in1 (v := a) 100 (hi := 100) (hi' := 100) (by decide) (by decide) rfl with ⟨d, d1, d2, rfl, c1, m1⟩ | ⟨c1, m1⟩
  · have e : (if ((9999 : Int32) - (σ 0 0 9)) < nI d then ((9999 : Int32) - (σ 0 0 9)) else nI d) = nI (min (9999 - h) d) := by
      rw [H.2.2.2.2.1.2.2.1, h2, show (9999 : Int32) = nI 9999 from rfl, pk_sub (by omega), min_nI (by omega) (by omega)]
    obtain ⟨σ', τ', nv', q1, q2, q3, q4, q5, q6, q7⟩ := ls_hrs (d := d) (p2 := τ 22 0 5) (by omega) (min (9999 - h) d) 0 h nv FU FU σ τ H T h2 (by omega) (by omega) (by omega) (fu_gt (by omega)) (fu_gt (by omega))
    rw [Nat.zero_add] at q1
    rw [c1, bnd_s, if_neg (show ¬ (1 : Int32) = 0 by decide), m1, bnd_s, if_neg (show ¬ (1 : Int32) = 0 by decide), e, sx5, bnd_s]
    have z1 : f_X0_passHours 0 (nI (min (9999 - h) d)) σ = some σ' := q1 _
    have z2 := q2 (fun σ_1 => bnd (some 5) (fun j2 => some (σ_1 22 0 j2 - τ 22 0 5, σ_1)))
    rw [show nI 0 = (0 : Int32) from rfl] at z2
    rw [z1, z2, bnd_s, bnd_s, q3.2.2.2.2.1.2.1, H.2.2.2.2.1.2.1]
    exact LkS_mk (RR2_land (h := h + min (9999 - h) d) (n := n) (nv := nv) hr T rfl q3 (by omega) (by omega) q7 q4.n0 q5.n (fun k hk _ => q5.2 k hk))
  · rw [c1, bnd_s, if_pos rfl, m1, bnd_s, if_pos rfl]
    exact LkS_mk W0
-- numbers told
theorem c_struck {l n : Nat} {σ : Mem} (hv : σ 0 l 2 = nI n) (hb : n ≤ 10) : ∀ (m idx N : Nat) (acc : Int32) (k : Int32 → Option Int32), idx + m = n → m < N → f_X0_struckCount_4 l σ N acc (nI idx) k = k (accF (fun j => σ 3 (10 * l + j) 0) 5 idx m acc) := by
  intro m
  induction m with
  | zero =>
    intro idx N acc k he hn
    obtain ⟨N, rfl, -⟩ := succ_of hn
    rw [f_X0_struckCount_4.eq_2, hv, if_pos (by rw [← he]; exact nI_le (by omega) (by omega))]
    rfl
  | succ m ih =>
    intro idx N acc k he hn
    obtain ⟨N, rfl, hn⟩ := succ_of hn
    rw [f_X0_struckCount_4.eq_2, hv, if_neg (nI_ge (by omega) (by omega)), ix_nI (by omega) (by decide), bnd_s, nI_s]
    rw [accF]
    by_cases h : σ 3 (10 * l + idx) 0 = 5
    · rw [if_pos h, if_pos h]
      exact ih (idx + 1) N _ k (by omega) (by omega)
    · rw [if_neg h, if_neg h]
      exact ih (idx + 1) N _ k (by omega) (by omega)
theorem m_struck {n : Nat} {τ : Mem} (hv : τ 22 0 0 = nI n) (hb : n ≤ 10) : ∀ (m idx N : Nat) (acc : Int32) (k : Int32 → Option Int32), idx + m = n → m < N → f_X8_manyStruck_4 τ N acc (nI idx) k = k (accF (fun j => τ 22 0 (7 + 5 * j)) 5 idx m acc) := by
  intro m
  induction m with
  | zero =>
    intro idx N acc k he hn
    obtain ⟨N, rfl, -⟩ := succ_of hn
    rw [f_X8_manyStruck_4.eq_2, sx0, bnd_s, hv, if_pos (by rw [← he]; exact nI_le (by omega) (by omega))]
    rfl
  | succ m ih =>
    intro idx N acc k he hn
    obtain ⟨N, rfl, hn⟩ := succ_of hn
    rw [f_X8_manyStruck_4.eq_2, sx0, bnd_s, hv, if_neg (nI_ge (by omega) (by omega)), q_of (e := 0) idx 0 rfl (by omega), bnd_s, nI_s, Nat.add_zero, Int32.add_zero]
    rw [accF]
    by_cases h : τ 22 0 (7 + 5 * idx) = 5
    · rw [if_pos h, if_pos h]
      exact ih (idx + 1) N _ k (by omega) (by omega)
    · rw [if_neg h, if_neg h]
      exact ih (idx + 1) N _ k (by omega) (by omega)
theorem op_count {σ τ : Mem} (W : RR2 σ τ) (a : Int32) : LkR (f_X7_count a σ) (f_X8_count a τ) := by
  obtain ⟨n, nv, nt, ⟨H, hv16, T, h, hh, h2⟩, -, ⟨kt, -, t1, t2, -⟩, ⟨kw, -, w1, w2, -⟩, -⟩ := W
  obtain ⟨⟨a1, a2, a3⟩, ⟨b1, b2, b3⟩, hp, hw, ⟨d1, d2, d3, d4⟩, e1, e2, e3, e4⟩ := H
  unfold f_X7_count f_X8_count
  rcases or9 a with rfl | rfl | rfl | rfl | rfl | rfl | rfl | rfl | rfl | ⟨k0, k1, k2, k3, k4, k5, k6, k7, k8⟩
  · simp only [if_true, if_false, eq_self, reduceCtorEq]
    rw [sx0, bnd_s, a1, a2]; exact LkR_mk
  · simp only [if_true, if_false, eq_self, reduceCtorEq]
    rw [sx3, bnd_s, b1, b2]; exact LkR_mk
  · simp only [if_true, if_false, eq_self, reduceCtorEq]
    rw [sx2, bnd_s, d3]; exact LkR_mk
  · simp only [if_true, if_false, eq_self, reduceCtorEq]
    have x1 : f_X0_struckCount 0 σ = some (accF (fun j => σ 3 (10 * 0 + j) 0) 5 0 n 0) := c_struck a1 a3 n 0 FU 0 _ (by omega) (fu_gt (by omega))
    have x2 : f_X8_manyStruck τ = some (accF (fun j => τ 22 0 (7 + 5 * j)) 5 0 n 0) := m_struck a2 a3 n 0 FU 0 _ (by omega) (fu_gt (by omega))
    rw [x1, x2, accF_congr (g := fun j => τ 22 0 (7 + 5 * j)) n 0 0 (fun v _ hv => by
      obtain ⟨⟨kd, -, p1, p2⟩, -⟩ := hp v (by omega)
      show σ 3 (10 * 0 + v) 0 = τ 22 0 (7 + 5 * v)
      rw [p1, p2])]
    exact LkR_mk
  · simp only [if_true, if_false, eq_self, reduceCtorEq]
    rw [sx1, bnd_s, e1, e2]; exact LkR_mk
  · simp only [if_true, if_false, eq_self, reduceCtorEq]
    rw [w1, w2]; exact LkR_mk
  · simp only [if_true, if_false, eq_self, reduceCtorEq]
    rw [t1, t2]; exact LkR_mk
  · simp only [if_true, if_false, eq_self, reduceCtorEq]
    rw [sx6, bnd_s, d4]; exact LkR_mk
  · exact LkR_mk
  · simp only [if_neg k0, if_neg k1, if_neg k2, if_neg k3, if_neg k4, if_neg k5, if_neg k6, if_neg k7]
    exact LkR_mk
theorem op_why {σ τ : Mem} (W : RR2 σ τ) (a : Int32) : LkR (f_X7_why a σ) (f_X8_why a τ) := by
  obtain ⟨n, nv, nt, ⟨H, hv16, T, h, hh, h2⟩, -⟩ := W
  obtain ⟨-, -, -, -, -, e1, e2, e3, e4⟩ := H
  unfold f_X7_why f_X8_why
  rcases gd_nat (v := a) 2 (hi := 2) (lo' := 0) (hi' := 2) (by decide) (by decide) (by decide) rfl with ⟨j, hj, rfl, c1, m1⟩ | ⟨-, c1, m1⟩
  · rw [c1, bnd_s, if_neg (show ¬ (1 : Int32) = 0 by decide), m1, bnd_s, if_neg (show ¬ (1 : Int32) = 0 by decide), ix_nI (by omega) (by decide), bnd_s, bnd_s, q_counts e2 e3, bnd_s, e4 j (by omega)]
    unfold f_X8_orNone
    by_cases h0 : 0 ≤ co τ 22 j nt
    · rw [if_pos h0]; exact LkR_mk
    · rw [if_neg h0]; exact LkR_mk
  · rw [c1, bnd_s, if_pos rfl, m1, bnd_s, if_pos rfl]
    exact LkR_mk
theorem op_textTold {σ τ : Mem} (W : RR2 σ τ) (a b : Int32) : LkR (f_X7_textTold a b σ) (f_X8_textTold a b τ) := by
  obtain ⟨n, nv, nt, ⟨H, hv16, T, h, hh, h2⟩, -⟩ := W
  obtain ⟨-, -, -, -, -, e1, e2, e3, e4⟩ := H
  unfold f_X7_textTold f_X8_textTold f_X8_isText
  rw [q_within, bnd_s, e1, sx1, bnd_s, e2, q_isIn τ (lo := 0) (hi := (nI nt - 1).toInt64) (a := 0) (b := nI nt - 1) (by decide) rfl, bnd_s, if_pos isB_bI, bnd_s]
  by_cases hin : 0 ≤ a ∧ a ≤ nI nt - 1
  · obtain ⟨j, hj, rfl⟩ := (in_iff (by omega)).mp hin
    obtain ⟨key, len, k1, k2, k3, k4, k5, k6, -⟩ := T j hj
    rw [bI_t hin, if_neg (show ¬ (1 : Int32) = 0 by decide), if_neg (show ¬ (1 : Int32) = 0 by decide)]
    rcases gd_nat (v := b) 1 (hi := 1) (lo' := 0) (hi' := 1) (by decide) (by decide) (by decide) rfl with ⟨q, hq, rfl, -, m1⟩ | ⟨hq, -, m1⟩
    · rw [m1, bnd_s, if_neg (show ¬ (1 : Int32) = 0 by decide), m_textAt, bnd_s, nI_add, ix_nI (by omega) (by decide), bnd_s, ix_nI (by omega) (by decide), bnd_s, bnd_s]
      rcases (show q = 0 ∨ q = 1 by omega) with rfl | rfl
      · rw [if_pos (show nI 0 = 0 from rfl), Nat.add_zero, k4, k5]
        exact LkR_mk
      · rw [if_neg (show ¬ nI 1 = 0 by decide), if_pos (show nI 1 = 1 from rfl), k6, show 108 + 200 * j + 1 = 109 + 200 * j by omega]
        exact LkR_mk
    · rw [m1, bnd_s, if_pos rfl, if_neg (show ¬ b = 0 from hq 0 (by decide)), if_neg (show ¬ b = 1 from hq 1 (by decide))]
      exact LkR_mk
  · rw [bI_f hin, if_pos rfl, if_pos rfl]
    exact LkR_mk
