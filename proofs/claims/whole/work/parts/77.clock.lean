-- clock
theorem abs_off {c : Nat} {x : Int32} (hc : c ≤ 17) (h1 : -99999 ≤ x) (h2 : x ≤ 99999) : (if 0 ≤ (nI c - x) then (nI c - x) else 0 - (nI c - x)) = (if nI c ≤ x then x - nI c else nI c - x) := by
  rw [pl_le32, show (-99999 : Int32).toInt = -99999 by decide] at h1
  rw [pl_le32, show (99999 : Int32).toInt = 99999 by decide] at h2
  have ec : (nI c).toInt = c := nI_toInt (by omega)
  have e1 : (nI c - x).toInt = c - x.toInt := by rw [pl_sub (by rw [ec]; omega) (by rw [ec]; omega), ec]
  have e2 : (x - nI c).toInt = x.toInt - c := by rw [pl_sub (by rw [ec]; omega) (by rw [ec]; omega), ec]
  by_cases hx : nI c ≤ x
  · rw [if_pos hx]
    rw [pl_le32, ec] at hx
    by_cases h0 : 0 ≤ nI c - x
    · rw [if_pos h0]
      rw [pl_le32, e1, show (0 : Int32).toInt = 0 from rfl] at h0
      rw [pl_eq32, e1, e2]
      omega
    · rw [if_neg h0, pl_eq32, e2, pl_sub (by rw [e1, show (0 : Int32).toInt = 0 from rfl]; omega) (by rw [e1, show (0 : Int32).toInt = 0 from rfl]; omega), e1, show (0 : Int32).toInt = 0 from rfl]
      omega
  · rw [if_neg hx]
    rw [pl_le32, ec] at hx
    rw [if_pos (by rw [pl_le32, e1, show (0 : Int32).toInt = 0 from rfl]; omega)]
theorem ls_diff {n nt j z o : Nat} {p3 p4 p5 p6 : Int32} (hj : j < 4) (hz : z ≤ 24) : ∀ (m i nv nC nM : Nat) (acc : Int32) (σ τ : Mem), RLd true 2 22 σ τ n nv nt → (∀ t, t < nt → TxR 22 σ τ t) → σ 5 j 1 = nI z → τ 26 0 j = nI z → (∀ q, q < z → σ 20 j q = τ 27 0 (24 * j + q) ∧ okP (σ 20 j q)) → i + m = z → m < nC → m < nM →
    ∃ acc' σ' τ', (∀ K, f_X7_differencesWithEast_30 j (nI o) nC acc (nI i) σ K = K acc' σ') ∧ (∀ K, f_X8_clock_75 (nI j) (nI o) p3 p4 p5 p6 nM acc (nI i) τ K = K acc' τ') ∧ Fm (RgD 2) σ σ' ∧ FrM τ τ' := by
  intro m
  induction m with
  | zero =>
    intro i nv nC nM acc σ τ H T s1 t1 hv hi h3 h4
    obtain ⟨nC, rfl, -⟩ := succ_of h3
    obtain ⟨nM, rfl, -⟩ := succ_of h4
    refine ⟨acc, σ, τ, fun K => ?_, fun K => ?_, Fm.rf, FrM.rf⟩
    · rw [f_X7_differencesWithEast_30.eq_2, s1, if_pos (nI_le (by omega) (by omega))]
    · rw [f_X8_clock_75.eq_2, ix_nI hj (by decide), bnd_s, t1, if_pos (nI_le (by omega) (by omega))]
  | succ m ih =>
    intro i nv nC nM acc σ τ H T s1 t1 hv hi h3 h4
    obtain ⟨nC, rfl, h3⟩ := succ_of h3
    obtain ⟨nM, rfl, h4⟩ := succ_of h4
    have e3 := H.2.2.2.2.2.2.2.1
    have b3 := H.2.1.2.2
    have i24 : ix 24 (nI i) = some i := ix_nI (by omega) (by decide)
    have i96 : ix 96 (nI (24 * j + i)) = some (24 * j + i) := ix_nI (by omega) (by decide)
    obtain ⟨e, ok⟩ := hv i (by omega)
    obtain ⟨σ1, τ1, nv1, q1, q2, q3, q4, q5, q6, q7⟩ := ls_hour H T
    have k5 : σ1 5 j = σ 5 j := q4 5 j (by unfold RgD; omega)
    have k20 : σ1 20 j = σ 20 j := q4 20 j (by unfold RgD; omega)
    have k26 : τ1 26 = τ 26 := q5.1 26 (by decide) (by decide) (by decide)
    have k27 : τ1 27 = τ 27 := q5.1 27 (by decide) (by decide) (by decide)
    have T1 := T_fr T e3 q4 q5
    by_cases hno : σ 20 j i = -1000000005
    · obtain ⟨acc', σ', τ', u1, u2, u3, u4⟩ := ih (i + 1) nv1 nC nM acc σ1 τ1 q3 T1 (by rw [k5]; exact s1) (by rw [k26]; exact t1) (by rw [k20, k27]; exact hv) (by omega) (by omega) (by omega)
      refine ⟨acc', σ', τ', fun K => ?_, fun K => ?_, Fm.trans q4 u3, FrM.trans q5 u4⟩
      · rw [f_X7_differencesWithEast_30.eq_2, s1, if_neg (nI_ge (by omega) (by omega)), c_number (by omega), bnd_s, bI_f (fun q => q hno), if_pos rfl, q1, bnd_s, nI_s]
        exact u1 K
      · rw [f_X8_clock_75.eq_2, ix_nI hj (by decide), bnd_s, t1, if_neg (nI_ge (by omega) (by omega)), sh_ix, i96, bnd_s, ← e, if_pos hno, q2, bnd_s, nI_s, Int32.add_zero]
        exact u2 K
    · obtain ⟨c, g1, g2, g3⟩ := many_eq (j := o) H
      have hr : -99999 ≤ σ 20 j i ∧ σ 20 j i ≤ 99999 := by
        rcases ok with q | q
        · exact absurd q hno
        · exact q
      obtain ⟨acc', σ', τ', u1, u2, u3, u4⟩ := ih (i + 1) nv1 nC nM (acc + (if nI c ≤ σ 20 j i then σ 20 j i - nI c else nI c - σ 20 j i)) σ1 τ1 q3 T1 (by rw [k5]; exact s1) (by rw [k26]; exact t1) (by rw [k20, k27]; exact hv) (by omega) (by omega) (by omega)
      refine ⟨acc', σ', τ', fun K => ?_, fun K => ?_, Fm.trans q4 u3, FrM.trans q5 u4⟩
      · rw [f_X7_differencesWithEast_30.eq_2, s1, if_neg (nI_ge (by omega) (by omega)), c_number (by omega), bnd_s, bI_t hno, if_neg (show ¬ (1 : Int32) = 0 by decide), g1, bnd_s, i24, bnd_s, q1, bnd_s, nI_s, abs_off (by omega) hr.1 hr.2]
        exact u1 K
      · have eo : f_X8_off (σ 20 j i) (nI c) τ = some (if nI c ≤ σ 20 j i then σ 20 j i - nI c else nI c - σ 20 j i) := by
          unfold f_X8_off
          by_cases hh : nI c ≤ σ 20 j i
          · rw [if_pos hh, if_pos hh]
          · rw [if_neg hh, if_neg hh]
        rw [f_X8_clock_75.eq_2, ix_nI hj (by decide), bnd_s, t1, if_neg (nI_ge (by omega) (by omega)), sh_ix, i96, bnd_s, ← e, if_neg hno, g2, bnd_s, eo, bnd_s, q2, bnd_s, nI_s]
        exact u2 K
theorem ls_dwe {n nv nt j z o e : Nat} {σ0 τ0 σ τ : Mem} (hj : j < 4) (hz : z ≤ 24) (H : RLd true 0 22 σ0 τ0 n nv nt) (T : ∀ t, t < nt → TxR 22 σ0 τ0 t) (s1 : σ0 5 j 1 = nI z) (t1 : τ0 26 0 j = nI z) (hv : ∀ q, q < z → σ0 20 j q = τ0 27 0 (24 * j + q) ∧ okP (σ0 20 j q)) (ho : o < n) (he : e < 24) (hF : Fm (RgD 2) σ0 σ) (hS : Sav τ0 τ) (hM : Sam τ0 τ) :
    ∃ s σ', f_X7_differencesWithEast j (nI o) (nI e) σ = some (s, σ') ∧ Fm (RgD 2) σ0 σ' ∧ ∀ p3 p4 p5, ∃ τ', Sav τ0 τ' ∧ ∀ K, bnd (f_X8_sets (nI o) 1 (nI e) τ) (fun a1 => f_X8_clock_75 (nI j) (nI o) p3 p4 p5 (nI e) FU 0 0 a1 K) = K s τ' := by
  have n10 := H.1.2.2
  have e3 := H.2.2.2.2.2.2.2.1
  have H1 := RLd_02 (by decide) H hF
  obtain ⟨σ1, q1, q2, q3, q4, q5⟩ := c_becomes (p0 := 2) (p1 := 0) (by decide) H1
  have H2 := RLd_pcell (f := 1) (v := nI e) (j := o) (RLd_sam q4 hM) ho (Or.inr (Or.inl ⟨rfl, e, he, rfl⟩))
  have F2 : Fm (RgD 2) σ0 (mput σ1 3 (10 * 2 + o) 1 (nI e)) := Fm.put (Fm.trans hF q2) (by unfold RgD; omega)
  have G2 : FrM τ (mput τ 22 0 (7 + 5 * o + 1) (nI e)) := FrM.put FrM.rf (by omega)
  have S2 := Sav.go hS G2
  have T2 := T_sam T e3 F2 S2.2.1
  have k5 : mput σ1 3 (10 * 2 + o) 1 (nI e) 5 j = σ0 5 j := F2 5 j (by unfold RgD; omega)
  have k20 : mput σ1 3 (10 * 2 + o) 1 (nI e) 20 j = σ0 20 j := F2 20 j (by unfold RgD; omega)
  have k26 : mput τ 22 0 (7 + 5 * o + 1) (nI e) 26 = τ0 26 := S2.2.2 26 (by decide) (by decide) (by decide) (by decide) (by decide) (by decide) (by decide) (by decide) (by decide)
  have k27 : mput τ 22 0 (7 + 5 * o + 1) (nI e) 27 = τ0 27 := S2.2.2 27 (by decide) (by decide) (by decide) (by decide) (by decide) (by decide) (by decide) (by decide) (by decide)
  have go : ∀ p3 p4 p5, ∃ acc' σ' τ', (∀ K, f_X7_differencesWithEast_30 j (nI o) FU 0 (nI 0) (mput σ1 3 (10 * 2 + o) 1 (nI e)) K = K acc' σ') ∧ (∀ K, f_X8_clock_75 (nI j) (nI o) p3 p4 p5 (nI e) FU 0 (nI 0) (mput τ 22 0 (7 + 5 * o + 1) (nI e)) K = K acc' τ') ∧ Fm (RgD 2) (mput σ1 3 (10 * 2 + o) 1 (nI e)) σ' ∧ FrM (mput τ 22 0 (7 + 5 * o + 1) (nI e)) τ' := fun p3 p4 p5 => ls_diff (p3 := p3) (p4 := p4) (p5 := p5) (p6 := nI e) hj hz z 0 nv FU FU 0 _ _ H2 T2 (by rw [k5]; exact s1) (by rw [k26]; exact t1) (by rw [k20, k27]; exact hv) (by omega) (fu_gt (by omega)) (fu_gt (by omega))
  obtain ⟨s, σ', τ', u1, u2, u3, u4⟩ := go 0 0 0
  refine ⟨s, σ', ?_, Fm.trans F2 u3, fun p3 p4 p5 => ?_⟩
  · unfold f_X7_differencesWithEast
    rw [q1, bnd_s, ix_nI (by omega) (by decide), bnd_s]
    exact u1 _
  · obtain ⟨s', σ'', τ'', v1, v2, v3, v4⟩ := go p3 p4 p5
    have es : s' = s := by
      have a := u1 (fun a b => some (a, b))
      rw [v1 (fun a b => some (a, b))] at a
      cases a
      rfl
    subst es
    refine ⟨τ'', Sav.go S2 v4, fun K => ?_⟩
    rw [q_sets (e := 1) o 1 rfl (by omega), bnd_s]
    exact v2 K
theorem ck_loop {n nv nt j z o : Nat} {p3 : Int32} {σ0 τ0 : Mem} (hj : j < 4) (hz : z ≤ 24) (H : RLd true 0 22 σ0 τ0 n nv nt) (T : ∀ t, t < nt → TxR 22 σ0 τ0 t) (s1 : σ0 5 j 1 = nI z) (t1 : τ0 26 0 j = nI z) (hv : ∀ q, q < z → σ0 20 j q = τ0 27 0 (24 * j + q) ∧ okP (σ0 20 j q)) (ho : o < n) :
    ∀ (m e nC nM : Nat) (best least : Int32) (σ τ : Mem), ¬ best < 0 → Fm (RgD 2) σ0 σ → Sav τ0 τ → Sam τ0 τ → e + m = 24 → m < nC → m < nM →
      ∃ best' least' σ' τ', (∀ K, f_X7_clock_67 (nI j) (nI o) p3 nC best least (nI e) σ K = K best' least' σ') ∧ (∀ K, f_X8_clock_54 (nI j) (nI o) p3 nM best least (nI e) τ K = K best' least' τ') ∧ Fm (RgD 2) σ0 σ' ∧ Sav τ0 τ' ∧ Sam τ0 τ' := by
  intro m
  induction m with
  | zero =>
    intro e nC nM best least σ τ hb hF hS hM he h3 h4
    obtain ⟨nC, rfl, -⟩ := succ_of h3
    obtain ⟨nM, rfl, -⟩ := succ_of h4
    refine ⟨best, least, σ, τ, fun K => ?_, fun K => ?_, hF, hS, hM⟩
    · rw [f_X7_clock_67.eq_2, if_pos (show (24 : Int32) ≤ nI e from nI_le (a := 24) (by omega) (by omega))]
    · rw [f_X8_clock_54.eq_2, if_pos (show (24 : Int32) ≤ nI e from nI_le (a := 24) (by omega) (by omega))]
  | succ m ih =>
    intro e nC nM best least σ τ hb hF hS hM he h3 h4
    obtain ⟨nC, rfl, h3⟩ := succ_of h3
    obtain ⟨nM, rfl, h4⟩ := succ_of h4
    have hlt : ¬ (24 : Int32) ≤ nI e := nI_ge (b := 24) (by omega) (by omega)
    obtain ⟨s, σ1, q1, q2, q3⟩ := ls_dwe (e := e) hj hz H T s1 t1 hv ho (by omega) hF hS hM
    obtain ⟨τ1, r1, r2⟩ := q3 p3 best least
    obtain ⟨z1, z2⟩ := Sav.back r1
    have hm : ∀ K, f_X8_clock_54 (nI j) (nI o) p3 (nM + 1) best least (nI e) τ K = (if least ≤ s then (f_X8_clock_54 (nI j) (nI o) p3 nM best least (nI (e + 1)) (mcopy τ1 35 0 0 22 0 0 108) K) else (f_X8_clock_54 (nI j) (nI o) p3 nM (nI e) s (nI (e + 1)) (mcopy τ1 35 0 0 22 0 0 108) K)) := by
      intro K
      rw [f_X8_clock_54.eq_2, if_neg hlt, r2, m_laysBack, bnd_s, if_neg hb, nI_s]
    by_cases hs : least ≤ s
    · obtain ⟨best', least', σ', τ', u1, u2, u3⟩ := ih (e + 1) nC nM best least σ1 _ hb q2 z1 z2 (by omega) (by omega) (by omega)
      refine ⟨best', least', σ', τ', fun K => ?_, fun K => ?_, u3⟩
      · rw [f_X7_clock_67.eq_2, if_neg hlt, ix_nI hj (by decide), bnd_s, q1, bnd_s]
        show (if least ≤ s then _ else _) = _
        rw [if_pos hs, nI_s]
        exact u1 K
      · rw [hm, if_pos hs]; exact u2 K
    · obtain ⟨best', least', σ', τ', u1, u2, u3⟩ := ih (e + 1) nC nM (nI e) s σ1 _ (nI_pos (by omega)) q2 z1 z2 (by omega) (by omega) (by omega)
      refine ⟨best', least', σ', τ', fun K => ?_, fun K => ?_, u3⟩
      · rw [f_X7_clock_67.eq_2, if_neg hlt, ix_nI hj (by decide), bnd_s, q1, bnd_s]
        show (if least ≤ s then _ else _) = _
        rw [if_neg hs, nI_s]
        exact u1 K
      · rw [hm, if_neg hs]; exact u2 K
theorem op_clock {σ τ : Mem} (W : RR2 σ τ) (a b c : Int32) : LkS (f_X7_clock a b c σ) (f_X8_clock a b c τ) RR2 := by
  have W0 := W
  obtain ⟨n, nv, nt, N, hr⟩ := W
  obtain ⟨H, hv16, T, h, hh, h2⟩ := id N
  unfold f_X7_clock f_X8_clock
  rcases gd_sheet (v := a) with ⟨j, hj, rfl, c1, m1⟩ | ⟨-, c1, m1⟩
  · have i4 : ix 4 (nI j) = some j := ix_nI hj (by decide)
    obtain ⟨z, z1, z2, z3, z4, z5, z6⟩ := hr.2.2.2.1 j hj
    have z2' := z2.symm
    rcases gd_one (v := b) H.1 with ⟨o, ho, rfl, c2, m2⟩ | ⟨-, c2, m2⟩
    · rcases gd_nat (v := c) 1 (hi := 1) (lo' := 0) (hi' := 1) (by decide) (by decide) (by decide) rfl with ⟨q, hq, rfl, c3, m3⟩ | ⟨-, c3, m3⟩
      · simp only [c1, m1, c2, m2, c3, m3, i4, c_missing, z2', bnd_s, e10, e01, if_false, if_true]
        rcases sort_cases z3 with ⟨k1, k2, k3⟩ | ⟨k1, k2, k3⟩
        · simp only [bI_t k1, if_neg k2, e10, if_false]
          exact LkS_mk W0
        · simp only [bI_f k1, if_pos k2, e01, if_true, m_laysBy, bnd_s]
          obtain ⟨y1, y2⟩ := Sav_by (τ := τ)
          obtain ⟨s, σ1, q1, q2, q3⟩ := ls_dwe (e := 0) hj z1 H T z4 z5 z6 ho (by decide) Fm.rf y1 y2
          obtain ⟨τ1, r1, r2⟩ := q3 (nI q) (-1) 0
          obtain ⟨x1, x2⟩ := Sav.back r1
          obtain ⟨F, hF⟩ : ∃ F, FU = F + 1 := ⟨FU - 1, by rw [FU_eq]⟩
          have hF5 : F = 4999 := by have := FU_eq; omega
          obtain ⟨best, least, σ', τ', u1, u2, u3, u4, u5⟩ := ck_loop (p3 := nI q) hj z1 H T z4 z5 z6 ho 23 1 FU F 0 s σ1 _ (by decide) q2 x1 x2 (by decide) (fu_gt (by decide)) (by omega)
          have q1' : f_X7_differencesWithEast j (nI o) 0 σ = some (s, σ1) := q1
          have u1' : f_X7_clock_67 (nI j) (nI o) (nI q) FU 0 s 1 σ1 (fun e1 e2 σ_1 => if nI q = 0 then some (e1, σ_1) else some (e2, σ_1)) = (fun e1 e2 σ_1 => if nI q = 0 then some (e1, σ_1) else some (e2, σ_1)) best least σ' := u1 _
          have em : f_X8_clock_54 (nI j) (nI o) (nI q) FU (-1) 0 0 (mcopy τ 22 0 0 35 0 0 108) (fun e1 e2 σ_1 => if nI q = 0 then some (e1, σ_1) else some (e2, σ_1)) = (fun e1 e2 σ_1 => if nI q = 0 then some (e1, σ_1) else some (e2, σ_1)) best least τ' := by
            have r2' := r2 (fun e1 σ_1 => (bnd (f_X8_laysBack σ_1) (fun a2 => (if (-1 : Int32) < 0 then (f_X8_clock_54 (nI j) (nI o) (nI q) F (nI 0) e1 (nI 0 + (1 : Int32)) a2 (fun e1 e2 σ_1 => if nI q = 0 then some (e1, σ_1) else some (e2, σ_1))) else (if (0 : Int32) ≤ e1 then (f_X8_clock_54 (nI j) (nI o) (nI q) F (-1) 0 (nI 0 + (1 : Int32)) a2 (fun e1 e2 σ_1 => if nI q = 0 then some (e1, σ_1) else some (e2, σ_1))) else (f_X8_clock_54 (nI j) (nI o) (nI q) F (nI 0) e1 (nI 0 + (1 : Int32)) a2 (fun e1 e2 σ_1 => if nI q = 0 then some (e1, σ_1) else some (e2, σ_1))))))))
            have e1 : f_X8_clock_54 (nI j) (nI o) (nI q) (F + 1) (-1) 0 (nI 0) (mcopy τ 22 0 0 35 0 0 108) (fun e1 e2 σ_1 => if nI q = 0 then some (e1, σ_1) else some (e2, σ_1)) = (fun e1 e2 σ_1 => if nI q = 0 then some (e1, σ_1) else some (e2, σ_1)) best least τ' := by
              rw [f_X8_clock_54.eq_2, if_neg (show ¬ (24 : Int32) ≤ nI 0 by decide), r2', m_laysBack, bnd_s, if_pos (show (-1 : Int32) < 0 by decide), nI_s]
              exact u2 _
            rw [← hF] at e1
            exact e1
          rw [q1', bnd_s]
          show LkS (f_X7_clock_67 (nI j) (nI o) (nI q) FU 0 s 1 σ1 _) _ _
          rw [u1', em]
          have fin : RR2 σ' τ' := RR2_thought N hr u3 u5 u4.2.2
          show LkS (if nI q = 0 then some (best, σ') else some (least, σ')) (if nI q = 0 then some (best, τ') else some (least, τ')) RR2
          by_cases h0 : nI q = 0
          · rw [if_pos h0, if_pos h0]; exact LkS_mk fin
          · rw [if_neg h0, if_neg h0]; exact LkS_mk fin
      · simp only [c1, m1, c2, m2, c3, m3, bnd_s, e10, e01, if_false, if_true]
        exact LkS_mk W0
    · simp only [c1, m1, c2, m2, bnd_s, e10, e01, if_false, if_true]
      exact LkS_mk W0
  · simp only [c1, m1, bnd_s, e10, e01, if_false, if_true]
    exact LkS_mk W0
