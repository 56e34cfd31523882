-- pour, reads, copy
theorem clamp99 (x : Int32) : ∃ q, q < 100 ∧ clampV x 0 99 = nI q := by
  unfold clampV
  by_cases h1 : (0 : Int32) ≤ x
  · rw [if_pos h1]
    by_cases h2 : x ≤ 99
    · rw [if_pos h2]
      obtain ⟨j, hj, e⟩ := nI_of2 (M := 99) (n := 99) rfl (pl_nlt.mpr h1) h2
      exact ⟨j, by omega, e⟩
    · rw [if_neg h2]
      exact ⟨99, by decide, rfl⟩
  · rw [if_neg h1]
    exact ⟨0, by decide, rfl⟩
theorem c_number {σ : Mem} {i q : Nat} (hq : q < 24) : f_X5_isNumber i (nI q) σ = some (bI (¬ σ 20 i q = -1000000005)) := by
  unfold f_X5_isNumber
  rw [ix_nI hq (by decide), bnd_s]
  by_cases h : σ 20 i q = -1000000005
  · rw [if_pos h, bI_f (fun q => q h)]
  · rw [if_neg h, bI_t h]
theorem ls_pour {n nv nt j z : Nat} (hj : j < 4) (hz : z ≤ 24) : ∀ (m i nC nM : Nat) (acc : Int32) (σ τ : Mem), RLd true 0 22 σ τ n nv nt → σ 5 j 1 = nI z → τ 26 0 j = nI z → (∀ q, q < z → σ 20 j q = τ 27 0 (24 * j + q)) → i + m = min n z → m < nC → m < nM →
    ∃ acc' σ' τ', (∀ K, f_X7_pour_50 j (nI (min n z)) nC acc (nI i) σ K = K acc' σ') ∧ (∀ K, f_X8_pour_27 (nI j) nM acc (nI i) τ K = K acc' τ') ∧ RLd true 0 22 σ' τ' n nv nt ∧ Fm (RgD 0) σ σ' ∧ FrM τ τ' ∧ τ' 22 0 2 = τ 22 0 2 := by
  intro m
  induction m with
  | zero =>
    intro i nC nM acc σ τ H s1 t1 hv hi h3 h4
    obtain ⟨nC, rfl, -⟩ := succ_of h3
    obtain ⟨nM, rfl, -⟩ := succ_of h4
    have n10 := H.1.2.2
    refine ⟨acc, σ, τ, fun K => ?_, fun K => ?_, H, Fm.rf, FrM.rf, rfl⟩
    · rw [f_X7_pour_50.eq_2, if_pos (nI_le (by omega) (by omega))]
    · rw [f_X8_pour_27.eq_2, ix_nI hj (by decide), bnd_s, t1]
      by_cases hzi : z ≤ i
      · rw [if_pos (nI_le (by omega) (by omega))]
      · rw [if_neg (nI_ge (by omega) (by omega)), sx0, bnd_s, H.1.2.1, if_pos (nI_le (by omega) (by omega))]
  | succ m ih =>
    intro i nC nM acc σ τ H s1 t1 hv hi h3 h4
    obtain ⟨nC, rfl, h3⟩ := succ_of h3
    obtain ⟨nM, rfl, h4⟩ := succ_of h4
    have n10 := H.1.2.2
    have i24 : ix 24 (nI i) = some i := ix_nI (by omega) (by decide)
    have i96 : ix 96 (nI (24 * j + i)) = some (24 * j + i) := ix_nI (by omega) (by decide)
    have i10 : ix 10 (nI i) = some i := ix_nI (by omega) (by decide)
    have hc : ∀ K, f_X7_pour_50 j (nI (min n z)) (nC + 1) acc (nI i) σ K = (bnd (some (bI (¬ σ 20 j i = -1000000005))) (fun a1 => (if a1 = 0 then (f_X7_pour_50 j (nI (min n z)) nC acc (nI (i + 1)) σ K) else (bnd (f_X7_heldWithin (σ 20 j i) (0 : Int32) (99 : Int32) σ) (fun a2 => (bnd (f_X3_changeFaith (10 * 0 + i) a2 σ) (fun a3 => (if a3.1 = a2 then (f_X7_pour_50 j (nI (min n z)) nC acc (nI (i + 1)) a3.2 K) else (f_X7_pour_50 j (nI (min n z)) nC (acc + (1 : Int32)) (nI (i + 1)) a3.2 K))))))))) := by
      intro K
      rw [f_X7_pour_50.eq_2, if_neg (nI_ge (by omega) (by omega)), c_number (by omega), nI_s, i24, i10]
      rfl
    have hm : ∀ K, f_X8_pour_27 (nI j) (nM + 1) acc (nI i) τ K = (if (τ 27 0 (24 * j + i)) = (-1000000005 : Int32) then (bnd (f_X8_becomes (((7 : Int32) + ((5 : Int32) * nI i)) + (2 : Int32)) (τ 22 0 (7 + 5 * i + 2)) τ) (fun a3 => (if (τ 22 0 (7 + 5 * i + 2)) = a3.1 then (f_X8_pour_27 (nI j) nM (acc + (0 : Int32)) (nI (i + 1)) a3.2 K) else (f_X8_pour_27 (nI j) nM (acc + (1 : Int32)) (nI (i + 1)) a3.2 K)))) else (bnd (f_X8_within (τ 27 0 (24 * j + i)) (0 : Int32) (99 : Int32) τ) (fun a1 => (bnd (f_X8_becomes (((7 : Int32) + ((5 : Int32) * nI i)) + (2 : Int32)) a1 τ) (fun a2 => (if a1 = a2.1 then (f_X8_pour_27 (nI j) nM (acc + (0 : Int32)) (nI (i + 1)) a2.2 K) else (f_X8_pour_27 (nI j) nM (acc + (1 : Int32)) (nI (i + 1)) a2.2 K))))))) := by
      intro K
      rw [f_X8_pour_27.eq_2, ix_nI hj (by decide), bnd_s, t1, if_neg (nI_ge (by omega) (by omega)), sx0, bnd_s, H.1.2.1, if_neg (nI_ge (by omega) (by omega)), sh_ix, i96, bnd_s, ix_eq (n := 3108) (j := 7 + 5 * i + 2) (v := (7 : Int32) + (5 : Int32) * nI i + (2 : Int32)) (of_ix i 2) (by omega) (by decide), bnd_s, nI_s]
    have bq : ∀ v, f_X8_becomes (((7 : Int32) + ((5 : Int32) * nI i)) + (2 : Int32)) v τ = some (τ 22 0 (7 + 5 * i + 2), mput τ 22 0 (7 + 5 * i + 2) v) := fun v => q_becomes _ (of_ix i 2) (by omega)
    have e := hv i (by omega)
    have pf := p_field (f := 2) H (show i < n by omega) (by decide)
    by_cases hno : σ 20 j i = -1000000005
    · have H1 : RLd true 0 22 σ (mput τ 22 0 (7 + 5 * i + 2) (τ 22 0 (7 + 5 * i + 2))) n nv nt := RLd_off H rfl rfl rfl rfl rfl rfl (fun k _ => by
        by_cases ek : k = 7 + 5 * i + 2
        · subst ek; rw [mput_same]
        · rw [mp_k ek])
      obtain ⟨acc', σ', τ', u1, u2, u3, u4, u5, u6⟩ := ih (i + 1) nC nM acc σ _ H1 s1 (by rw [mp_g (by decide)]; exact t1) (by rw [mp_g (by decide)]; exact hv) (by omega) (by omega) (by omega)
      refine ⟨acc', σ', τ', fun K => ?_, fun K => ?_, u3, u4, FrM.trans (FrM.put FrM.rf (by omega)) u5, u6.trans (mp_k (by omega))⟩
      · rw [hc, bI_f (fun q => q hno), bnd_s, if_pos rfl]
        exact u1 K
      · rw [hm, if_pos (e ▸ hno), bq, bnd_s, if_pos rfl, Int32.add_zero]
        exact u2 K
    · obtain ⟨w, hw, ew⟩ := clamp99 (τ 27 0 (24 * j + i))
      have H1 := RLd_pcell (f := 2) (v := nI w) H (show i < n by omega) (Or.inr (Or.inr (Or.inl ⟨rfl, w, hw, rfl⟩)))
      have F1 : Fm (RgD 0) σ (mput σ 3 (10 * 0 + i) 2 (nI w)) := Fm.put Fm.rf (by unfold RgD; omega)
      have G1 : FrM τ (mput τ 22 0 (7 + 5 * i + 2) (nI w)) := FrM.put FrM.rf (by omega)
      have hx : ∀ K, f_X7_pour_50 j (nI (min n z)) (nC + 1) acc (nI i) σ K = (if τ 22 0 (7 + 5 * i + 2) = nI w then (f_X7_pour_50 j (nI (min n z)) nC acc (nI (i + 1)) (mput σ 3 (10 * 0 + i) 2 (nI w)) K) else (f_X7_pour_50 j (nI (min n z)) nC (acc + (1 : Int32)) (nI (i + 1)) (mput σ 3 (10 * 0 + i) 2 (nI w)) K)) := by
        intro K
        rw [hc, bI_t hno, bnd_s, if_neg (show ¬ (1 : Int32) = 0 by decide), c_held σ (by decide), bnd_s, e, ew]
        show (if σ 3 (10 * 0 + i) 2 = nI w then _ else _) = _
        rw [pf]
      have hy : ∀ K, f_X8_pour_27 (nI j) (nM + 1) acc (nI i) τ K = (if nI w = τ 22 0 (7 + 5 * i + 2) then (f_X8_pour_27 (nI j) nM acc (nI (i + 1)) (mput τ 22 0 (7 + 5 * i + 2) (nI w)) K) else (f_X8_pour_27 (nI j) nM (acc + (1 : Int32)) (nI (i + 1)) (mput τ 22 0 (7 + 5 * i + 2) (nI w)) K)) := by
        intro K
        rw [hm, if_neg (e ▸ hno), m_within, bnd_s, ew, bq, bnd_s, Int32.add_zero]
      have k26 : mput τ 22 0 (7 + 5 * i + 2) (nI w) 26 0 j = nI z := by rw [mp_g (by decide)]; exact t1
      have k5 : mput σ 3 (10 * 0 + i) 2 (nI w) 5 j 1 = nI z := by rw [mp_g (by decide)]; exact s1
      have kv : ∀ q, q < z → mput σ 3 (10 * 0 + i) 2 (nI w) 20 j q = mput τ 22 0 (7 + 5 * i + 2) (nI w) 27 0 (24 * j + q) := by rw [mp_g (show 20 ≠ 3 by decide), mp_g (show 27 ≠ 22 by decide)]; exact hv
      by_cases hs : nI w = τ 22 0 (7 + 5 * i + 2)
      · obtain ⟨acc', σ', τ', u1, u2, u3, u4, u5, u6⟩ := ih (i + 1) nC nM acc _ _ H1 k5 k26 kv (by omega) (by omega) (by omega)
        refine ⟨acc', σ', τ', fun K => ?_, fun K => ?_, u3, Fm.trans F1 u4, FrM.trans G1 u5, u6.trans (mp_k (by omega))⟩
        · rw [hx, if_pos hs.symm]; exact u1 K
        · rw [hy, if_pos hs]; exact u2 K
      · obtain ⟨acc', σ', τ', u1, u2, u3, u4, u5, u6⟩ := ih (i + 1) nC nM (acc + 1) _ _ H1 k5 k26 kv (by omega) (by omega) (by omega)
        refine ⟨acc', σ', τ', fun K => ?_, fun K => ?_, u3, Fm.trans F1 u4, FrM.trans G1 u5, u6.trans (mp_k (by omega))⟩
        · rw [hx, if_neg (fun q => hs q.symm)]; exact u1 K
        · rw [hy, if_neg hs]; exact u2 K
theorem sort_cases {x : Int32} (h : x = -1 ∨ x = 0 ∨ x = 1) : (x = -1 ∧ ¬ 0 ≤ x ∧ x < 0) ∨ (x ≠ -1 ∧ 0 ≤ x ∧ ¬ x < 0) := by
  rcases h with rfl | rfl | rfl
  · exact Or.inl ⟨rfl, by decide, by decide⟩
  · exact Or.inr ⟨by decide, by decide, by decide⟩
  · exact Or.inr ⟨by decide, by decide, by decide⟩
theorem op_pour {σ τ : Mem} (W : RR2 σ τ) (a : Int32) : LkS (f_X7_pour a σ) (f_X8_pour a τ) RR2 := by
  have W0 := W
  obtain ⟨n, nv, nt, N, hr⟩ := W
  obtain ⟨H, hv16, T, h, hh, h2⟩ := id N
  have n10 := H.1.2.2
  unfold f_X7_pour f_X8_pour
  rcases gd_sheet (v := a) with ⟨j, hj, rfl, c1, m1⟩ | ⟨-, c1, m1⟩
  · have i4 : ix 4 (nI j) = some j := ix_nI hj (by decide)
    obtain ⟨z, z1, z2, z3, z4, z5, z6⟩ := hr.2.2.2.1 j hj
    have z2' := z2.symm
    rw [c1, bnd_s, if_neg (show ¬ (1 : Int32) = 0 by decide), i4, bnd_s, c_missing, bnd_s, m1, bnd_s, if_neg (show ¬ (1 : Int32) = 0 by decide), bnd_s, z2']
    rcases sort_cases z3 with ⟨k1, k2, k3⟩ | ⟨k1, k2, k3⟩
    · rw [bI_t k1, if_neg (show ¬ (1 : Int32) = 0 by decide), if_neg k2]
      exact LkS_mk W0
    · rw [bI_f k1, if_pos rfl, if_pos k2]
      have em : (if (σ 0 0 2) < (σ 5 j 1) then (σ 0 0 2) else (σ 5 j 1)) = nI (min n z) := by rw [H.1.1, z4, min_nI (by omega) (by omega)]
      obtain ⟨acc, σ', τ', u1, u2, u3, u4, u5, u6⟩ := ls_pour hj z1 (min n z) 0 FU FU 0 σ τ H z4 z5 (fun q hq => (z6 q hq).1) (by omega) (fu_gt (by omega)) (fu_gt (by omega))
      have u1' := u1 (fun e1 σ_1 => some (e1, σ_1))
      have u2' := u2 (fun e1 σ_1 => some (e1, σ_1))
      rw [show nI 0 = (0 : Int32) from rfl] at u1' u2'
      rw [em, u1', u2']
      exact LkS_mk (RR2_land (n := n) (nv := nv) hr T rfl u3 hv16 hh (u6.trans h2) u4.n0 u5.n (fun k hk _ => u5.2 k hk))
  · rw [c1, bnd_s, if_pos rfl, m1, bnd_s, if_pos rfl]
    exact LkS_mk W0
theorem ls_reads {n nv nt j z : Nat} {σ τ : Mem} (hj : j < 4) (hz : z ≤ 24) (H : RLd true 0 22 σ τ n nv nt) (s1 : σ 5 j 1 = nI z) (t1 : τ 26 0 j = nI z) (hv : ∀ q, q < z → σ 20 j q = τ 27 0 (24 * j + q)) : ∀ (m i nC nM : Nat) (K : Option Int32), i + m = z → m < nC → m < nM → (∃ r, K = some r) →
    ∃ r, f_X7_reads_31 j σ nC (nI i) K = some r ∧ f_X8_reads_25 (nI j) τ nM (nI i) K = some r := by
  intro m
  have n10 := H.1.2.2
  induction m with
  | zero =>
    intro i nC nM K hi h3 h4 hK
    obtain ⟨nC, rfl, -⟩ := succ_of h3
    obtain ⟨nM, rfl, -⟩ := succ_of h4
    obtain ⟨r, rfl⟩ := hK
    refine ⟨r, ?_, ?_⟩
    · rw [f_X7_reads_31.eq_2, s1, if_pos (nI_le (by omega) (by omega))]
    · rw [f_X8_reads_25.eq_2, ix_nI hj (by decide), bnd_s, t1, if_pos (nI_le (by omega) (by omega))]
  | succ m ih =>
    intro i nC nM K hi h3 h4 hK
    obtain ⟨nC, rfl, h3⟩ := succ_of h3
    obtain ⟨nM, rfl, h4⟩ := succ_of h4
    obtain ⟨r, u1, u2⟩ := ih (i + 1) nC nM K (by omega) (by omega) (by omega) hK
    have i24 : ix 24 (nI i) = some i := ix_nI (by omega) (by decide)
    have i96 : ix 96 (nI (24 * j + i)) = some (24 * j + i) := ix_nI (by omega) (by decide)
    have e := hv i (by omega)
    rw [f_X7_reads_31.eq_2, s1, if_neg (nI_ge (by omega) (by omega)), c_number (by omega), bnd_s, nI_s, f_X8_reads_25.eq_2, ix_nI hj (by decide), bnd_s, t1, if_neg (nI_ge (by omega) (by omega)), sh_ix, i96, bnd_s, nI_s, ← e]
    by_cases hno : σ 20 j i = -1000000005
    · rw [bI_f (fun q => q hno), if_pos rfl, if_pos hno]
      exact ⟨r, u1, u2⟩
    · rw [bI_t hno, if_neg (show ¬ (1 : Int32) = 0 by decide), if_neg hno, sx0, bnd_s, H.1.2.1]
      rcases gd_one (v := nI i) H.1 with ⟨q, hq, eq, c1, m1⟩ | ⟨hq, c1, m1⟩
      · have eq : i = q := (nI_eq (by omega) (by omega)).mp eq
        subst eq
        obtain ⟨⟨kd, hkd, p1, p2⟩, ⟨ea, he, p3, p4⟩, -⟩ := H.2.2.1 i hq
        have i10 : ix 10 (nI i) = some i := ix_nI (by omega) (by decide)
        rw [c1, bnd_s, if_neg (show ¬ (1 : Int32) = 0 by decide), i24, bnd_s, i10, bnd_s, c_noon p1 hkd, bnd_s, if_neg (nI_ge hq (by omega)), m_noon p2 hkd (by omega), bnd_s, p3, p4]
        by_cases hn : σ 20 j i = noonV kd (nI ea)
        · rw [if_pos hn, if_pos hn]; exact ⟨r, u1, u2⟩
        · rw [if_neg hn, if_neg hn]; exact ⟨nI i, rfl, rfl⟩
      · have hle : n ≤ i := by
          by_cases hlt : i < n
          · exact absurd rfl (hq i hlt)
          · omega
        rw [c1, bnd_s, if_pos rfl, if_pos (nI_le hle (by omega))]
        exact ⟨nI i, rfl, rfl⟩
theorem op_reads {σ τ : Mem} (W : RR2 σ τ) (a : Int32) : LkR (f_X7_reads a σ) (f_X8_reads a τ) := by
  obtain ⟨n, nv, nt, N, hr⟩ := W
  obtain ⟨H, hv16, T, h, hh, h2⟩ := id N
  unfold f_X7_reads f_X8_reads
  rcases gd_sheet (v := a) with ⟨j, hj, rfl, c1, m1⟩ | ⟨-, c1, m1⟩
  · have i4 : ix 4 (nI j) = some j := ix_nI hj (by decide)
    obtain ⟨z, z1, z2, z3, z4, z5, z6⟩ := hr.2.2.2.1 j hj
    have z2' := z2.symm
    rw [c1, bnd_s, if_neg (show ¬ (1 : Int32) = 0 by decide), i4, bnd_s, c_missing, bnd_s, m1, bnd_s, if_neg (show ¬ (1 : Int32) = 0 by decide), bnd_s, z2']
    rcases sort_cases z3 with ⟨k1, k2, k3⟩ | ⟨k1, k2, k3⟩
    · rw [bI_t k1, if_neg (show ¬ (1 : Int32) = 0 by decide), if_neg k2]
      exact LkR_mk
    · rw [bI_f k1, if_pos rfl, if_pos k2]
      exact ls_reads hj z1 H z4 z5 (fun q hq => (z6 q hq).1) z 0 FU FU _ (by omega) (fu_gt (by omega)) (fu_gt (by omega)) ⟨_, rfl⟩
  · rw [c1, bnd_s, if_pos rfl, m1, bnd_s, if_pos rfl]
    exact LkR_mk
-- copy
theorem c_hasRun {i z : Nat} {p q : Int32} {σ : Mem} (h : σ 5 i 1 = nI z) (hz : z ≤ 24) : f_X5_hasRun i p q σ = some (bI (0 ≤ p.toInt ∧ 0 ≤ q.toInt ∧ p.toInt + q.toInt ≤ z)) := by
  have zt : (nI z).toInt = z := nI_toInt (by omega)
  unfold f_X5_hasRun
  rw [h, q_within, bnd_s]
  by_cases h1 : 0 ≤ p ∧ p ≤ nI z
  · rw [bI_t h1, if_neg (show ¬ (1 : Int32) = 0 by decide), q_within, bnd_s]
    obtain ⟨h1a, h1b⟩ := h1
    rw [pl_le32, show (0 : Int32).toInt = 0 from rfl] at h1a
    rw [pl_le32, zt] at h1b
    have es : (nI z - p).toInt = z - p.toInt := by rw [pl_sub (by rw [zt]; omega) (by rw [zt]; omega), zt]
    by_cases h2 : 0 ≤ q ∧ q ≤ nI z - p
    · rw [bI_t h2, if_neg (show ¬ (1 : Int32) = 0 by decide)]
      obtain ⟨h2a, h2b⟩ := h2
      rw [pl_le32, show (0 : Int32).toInt = 0 from rfl] at h2a
      rw [pl_le32, es] at h2b
      rw [bI_t (by omega)]
    · rw [bI_f h2, if_pos rfl]
      rw [bI_f (fun hh => h2 ⟨by rw [pl_le32, show (0 : Int32).toInt = 0 from rfl]; omega, by rw [pl_le32, es]; omega⟩)]
  · rw [bI_f h1, if_pos rfl, bI_f (fun hh => h1 ⟨by rw [pl_le32, show (0 : Int32).toInt = 0 from rfl]; omega, by rw [pl_le32, zt]; omega⟩)]
theorem lg_sum {p q : Int32} {z : Nat} (hz : z ≤ 24) : 0 < lg_cmp (p.toInt64 + q.toInt64) (nI z).toInt64 ↔ (z : Int) < p.toInt + q.toInt := by
  rw [lg_gt, Int64.lt_iff_toInt_lt, Int32.toInt_toInt64, nI_toInt (by omega), Int64.toInt_add, Int32.toInt_toInt64, Int32.toInt_toInt64]
  have h1 := Int32.le_toInt p
  have h2 := Int32.toInt_lt p
  have h3 := Int32.le_toInt q
  have h4 := Int32.toInt_lt q
  rw [Int.bmod_eq_of_le (by omega) (by omega)]
theorem m_carry {j a b c p3 p4 : Nat} (hj : 24 * j + a + c ≤ 96) (hc : c ≤ 24) : ∀ (m i nM : Nat) (τ : Mem), i + m = c → m < nM → ∃ τ', (∀ K, f_X8_copy_113 (nI j) (nI a) (nI p3) (nI p4) (nI c) nM (nI i) τ K = K τ') ∧ (∀ q, i ≤ q → q < c → τ' 39 0 q = τ 27 0 (24 * j + a + q)) ∧ (∀ q, q < i → τ' 39 0 q = τ 39 0 q) ∧ (∀ g, g ≠ 39 → τ' g = τ g) := by
  intro m
  induction m with
  | zero =>
    intro i nM τ hi h3
    obtain ⟨nM, rfl, -⟩ := succ_of h3
    refine ⟨τ, fun K => ?_, fun q h1 h2 => by omega, fun _ _ => rfl, fun _ _ => rfl⟩
    rw [f_X8_copy_113.eq_2, if_pos (nI_le (by omega) (by omega))]
  | succ m ih =>
    intro i nM τ hi h3
    obtain ⟨nM, rfl, h3⟩ := succ_of h3
    obtain ⟨τ', q1, q2, q3, q4⟩ := ih (i + 1) nM (mput τ 39 0 i (τ 27 0 (24 * j + a + i))) (by omega) (by omega)
    refine ⟨τ', fun K => ?_, fun q h1 h2 => ?_, fun q hq => by rw [q3 q (by omega), mp_k (by omega)], fun g hg => by rw [q4 g hg, mp_g hg]⟩
    · rw [f_X8_copy_113.eq_2, if_neg (nI_ge (by omega) (by omega)), sh_ix, nI_add, ix_nI (by omega) (by decide), bnd_s, ix_nI (by omega) (by decide), bnd_s, nI_s]
      exact q1 K
    · by_cases e : q = i
      · subst e; rw [q3 q (by omega), mput_same]
      · rw [q2 q (by omega) h2, mp_g (by decide)]
theorem m_lay {j b c : Nat} (hj : 24 * j + b + c ≤ 96) (hc : c ≤ 24) : ∀ (m i nM : Nat) (τ : Mem), i + m = c → m < nM → ∃ τ', (∀ K, f_X8_copy_150 (nI j) (nI b) (nI c) nM (nI i) τ K = K τ') ∧ (∀ q, i ≤ q → q < c → τ' 27 0 (24 * j + b + q) = τ 39 0 q) ∧ (∀ k, (k < 24 * j + b + i ∨ 24 * j + b + c ≤ k) → τ' 27 0 k = τ 27 0 k) ∧ (∀ g, g ≠ 27 → τ' g = τ g) := by
  intro m
  induction m with
  | zero =>
    intro i nM τ hi h3
    obtain ⟨nM, rfl, -⟩ := succ_of h3
    refine ⟨τ, fun K => ?_, fun q h1 h2 => by omega, fun _ _ => rfl, fun _ _ => rfl⟩
    rw [f_X8_copy_150.eq_2, if_pos (nI_le (by omega) (by omega))]
  | succ m ih =>
    intro i nM τ hi h3
    obtain ⟨nM, rfl, h3⟩ := succ_of h3
    obtain ⟨τ', q1, q2, q3, q4⟩ := ih (i + 1) nM (mput τ 27 0 (24 * j + b + i) (τ 39 0 i)) (by omega) (by omega)
    refine ⟨τ', fun K => ?_, fun q h1 h2 => ?_, fun k hk => by rw [q3 k (by omega), mp_k (by omega)], fun g hg => by rw [q4 g hg, mp_g hg]⟩
    · rw [f_X8_copy_150.eq_2, if_neg (nI_ge (by omega) (by omega)), ix_nI (by omega) (by decide), bnd_s, sh_ix, nI_add, ix_nI (by omega) (by decide), bnd_s, nI_s]
      exact q1 K
    · by_cases e : q = i
      · subst e; rw [q3 _ (by omega), mput_same]
      · rw [q2 q (by omega) h2, mp_g (by decide)]
theorem op_copy {σ τ : Mem} (W : RR2 σ τ) (p1 p2 p3 p4 p5 : Int32) : LkS (f_X7_copy p1 p2 p3 p4 p5 σ) (f_X8_copy p1 p2 p3 p4 p5 τ) RR2 := by
  have W0 := W
  obtain ⟨n, nv, nt, N, hr⟩ := W
  unfold f_X7_copy f_X8_copy
  rcases gd_sheet (v := p1) with ⟨j, hj, rfl, c1, m1⟩ | ⟨-, c1, m1⟩
  · have i4 : ix 4 (nI j) = some j := ix_nI hj (by decide)
    obtain ⟨z, z1, z2, z3, z4, z5, z6⟩ := hr.2.2.2.1 j hj
    have z2' := z2.symm
    rcases gd_sheet (v := p3) with ⟨i, hi, rfl, c2, m2⟩ | ⟨-, c2, m2⟩
    · have i4' : ix 4 (nI i) = some i := ix_nI hi (by decide)
      obtain ⟨y, y1, y2, y3, y4, y5, y6⟩ := hr.2.2.2.1 i hi
      have y2' := y2.symm
      simp only [c1, m1, c2, m2, i4, i4', c_missing, c_hasRun z4 z1, c_hasRun y4 y1, z2', y2', z5, y5, bnd_s, e10, e01, if_false, if_true]
      rcases sort_cases z3 with ⟨k1, k2, k3⟩ | ⟨k1, k2, k3⟩
      · simp only [bI_t k1, if_pos k3, e10, if_false]
        exact LkS_mk W0
      · simp only [bI_f k1, if_neg k3, e01, if_true]
        rcases sort_cases y3 with ⟨l1, l2, l3⟩ | ⟨l1, l2, l3⟩
        · simp only [bI_t l1, if_neg l2, e10, if_false]
          exact LkS_mk W0
        · simp only [bI_f l1, if_pos l2, e01, if_true]
          by_cases hso : σ 5 j 0 = σ 5 i 0
          · simp only [if_pos hso]
            by_cases h1 : 0 ≤ p2.toInt ∧ 0 ≤ p5.toInt ∧ p2.toInt + p5.toInt ≤ z
            · by_cases h2 : 0 ≤ p4.toInt ∧ 0 ≤ p5.toInt ∧ p4.toInt + p5.toInt ≤ y
              · obtain ⟨a, ha, rfl⟩ := nI_of (x := p2) (by rw [pl_lt32]; show ¬ p2.toInt < 0; omega)
                obtain ⟨b, hb, rfl⟩ := nI_of (x := p4) (by rw [pl_lt32]; show ¬ p4.toInt < 0; omega)
                obtain ⟨c, hc, rfl⟩ := nI_of (x := p5) (by rw [pl_lt32]; show ¬ p5.toInt < 0; omega)
                have g1 : ¬ 0 < lg_cmp ((nI a).toInt64 + (nI c).toInt64) (nI z).toInt64 := by rw [lg_sum z1]; omega
                have g2 : lg_cmp ((nI b).toInt64 + (nI c).toInt64) (nI y).toInt64 ≤ 0 := by
                  have : ¬ 0 < lg_cmp ((nI b).toInt64 + (nI c).toInt64) (nI y).toInt64 := by rw [lg_sum y1]; omega
                  exact pl_nlt.mp this
                have h1' := h1
                have h2' := h2
                rw [nI_toInt ha, nI_toInt hc] at h1'
                rw [nI_toInt hb, nI_toInt hc] at h2'
                have hok : cpOK (nI a) (nI b) (nI c) 24 24 = true := by
                  unfold cpOK
                  rw [decide_eq_true_eq, nI_clamp ha, nI_clamp hb, nI_clamp hc]
                  exact ⟨nI_pos ha, nI_pos hb, nI_pos hc, by omega, by omega⟩
                obtain ⟨τ1, q1, q2, q3, q4⟩ := m_carry (j := j) (a := a) (b := b) (c := c) (p3 := i) (p4 := b) (by omega) (by omega) c 0 FU τ (by omega) (fu_gt (by omega))
                obtain ⟨τ2, r1, r2, r3, r4⟩ := m_lay (j := i) (b := b) (c := c) (by omega) (by omega) c 0 FU τ1 (by omega) (fu_gt (by omega))
                have q1' := q1 (fun σ_1 => f_X8_copy_150 (nI i) (nI b) (nI c) FU 0 σ_1 (fun σ_2 => some (nI c, σ_2)))
                have r1' := r1 (fun σ_2 => some (nI c, σ_2))
                rw [show nI 0 = (0 : Int32) from rfl] at q1' r1'
                simp only [bI_t h1, bI_t h2, e10, if_false, if_pos hok, nI_clamp ha, nI_clamp hb, nI_clamp hc, if_neg (nI_pos ha), if_neg (nI_pos hb), if_neg (nI_pos hc), if_neg g1, if_pos g2, q1', r1']
                have cell : ∀ k, (k < 24 * i + b ∨ 24 * i + b + c ≤ k) → τ2 27 0 k = τ 27 0 k := fun k hk => by rw [r3 k (by omega), q4 27 (by decide)]
                have cin : ∀ q, q < c → τ2 27 0 (24 * i + b + q) = τ 27 0 (24 * j + a + q) := fun q hq => by rw [r2 q (by omega) hq, q2 q (by omega) hq]
                refine LkS_mk (RR2_sheet N hr (fun g _ h20 => mc_g h20) (fun k hk => ⟨by rw [mc_g (by decide)], mc_i (by omega)⟩) (fun g _ _ h27 h39 => by rw [r4 g h27, q4 g h39]) (RSheet_upd (j := i) hr.2.2.2.1 (fun k _ hk => ⟨by rw [mc_g (by decide)], mc_i hk⟩) (fun k _ _ => ⟨by rw [r4 25 (by decide), q4 25 (by decide)], by rw [r4 26 (by decide), q4 26 (by decide)]⟩) (fun k q _ hk hq => cell _ (by omega)) ⟨y, y1, ?_, ?_, ?_, ?_, fun q hq => ?_⟩))
                · rw [mc_g (by decide), r4 25 (by decide), q4 25 (by decide)]; exact y2
                · rw [mc_g (by decide)]; exact y3
                · rw [mc_g (by decide)]; exact y4
                · rw [r4 26 (by decide), q4 26 (by decide)]; exact y5
                · rw [mc_on]
                  by_cases hin : b ≤ q ∧ q < b + c
                  · rw [if_pos hin]
                    have e1 := cin (q - b) (by omega)
                    rw [show 24 * i + b + (q - b) = 24 * i + q by omega] at e1
                    rw [e1, show 24 * j + a + (q - b) = 24 * j + (a + (q - b)) by omega]
                    exact z6 (a + (q - b)) (by omega)
                  · rw [if_neg hin, cell _ (by omega)]
                    exact y6 q hq
              · simp only [bI_t h1, bI_f h2, e10, e01, if_false, if_true]
                by_cases x2 : p2 < 0
                · simp only [if_pos x2]; exact LkS_mk W0
                · by_cases x4 : p4 < 0
                  · simp only [if_neg x2, if_pos x4]; exact LkS_mk W0
                  · by_cases x5 : p5 < 0
                    · simp only [if_neg x2, if_neg x4, if_pos x5]; exact LkS_mk W0
                    · simp only [if_neg x2, if_neg x4, if_neg x5]
                      by_cases g1 : 0 < lg_cmp (p2.toInt64 + p5.toInt64) (nI z).toInt64
                      · simp only [if_pos g1]; exact LkS_mk W0
                      · by_cases g2 : lg_cmp (p4.toInt64 + p5.toInt64) (nI y).toInt64 ≤ 0
                        · exfalso
                          have g2' : ¬ 0 < lg_cmp (p4.toInt64 + p5.toInt64) (nI y).toInt64 := pl_nlt.mpr g2
                          rw [lg_sum y1] at g2'
                          rw [pl_lt32, show (0 : Int32).toInt = 0 from rfl] at x4 x5
                          exact h2 ⟨by omega, by omega, by omega⟩
                        · simp only [if_neg g1, if_neg g2]; exact LkS_mk W0
            · simp only [bI_f h1, e01, if_true]
              by_cases x2 : p2 < 0
              · simp only [if_pos x2]; exact LkS_mk W0
              · by_cases x4 : p4 < 0
                · simp only [if_neg x2, if_pos x4]; exact LkS_mk W0
                · by_cases x5 : p5 < 0
                  · simp only [if_neg x2, if_neg x4, if_pos x5]; exact LkS_mk W0
                  · simp only [if_neg x2, if_neg x4, if_neg x5]
                    by_cases g1 : 0 < lg_cmp (p2.toInt64 + p5.toInt64) (nI z).toInt64
                    · simp only [if_pos g1]; exact LkS_mk W0
                    · exfalso
                      rw [lg_sum z1] at g1
                      rw [pl_lt32, show (0 : Int32).toInt = 0 from rfl] at x2 x5
                      exact h1 ⟨by omega, by omega, by omega⟩
          · simp only [if_neg hso]
            exact LkS_mk W0
    · simp only [c1, m1, c2, m2, bnd_s, e10, e01, if_false, if_true]
      exact LkS_mk W0
  · simp only [c1, m1, bnd_s, e10, e01, if_false, if_true]
    exact LkS_mk W0
