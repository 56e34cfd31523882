-- sheets
def SH1 (σ τ : Mem) (k : Nat) : Prop := ∃ z, z ≤ 24 ∧ σ 5 k 0 = τ 25 0 k ∧ (σ 5 k 0 = -1 ∨ σ 5 k 0 = 0 ∨ σ 5 k 0 = 1) ∧ σ 5 k 1 = nI z ∧ τ 26 0 k = nI z ∧ ∀ j, j < z → σ 20 k j = τ 27 0 (24 * k + j) ∧ okP (σ 20 k j)
theorem RSheet_upd {σ τ σ' τ' : Mem} {j : Nat} (h : RSheet σ τ) (hs : ∀ i, i < 4 → i ≠ j → σ' 5 i = σ 5 i ∧ σ' 20 i = σ 20 i) (ht : ∀ i, i < 4 → i ≠ j → τ' 25 0 i = τ 25 0 i ∧ τ' 26 0 i = τ 26 0 i) (h27 : ∀ i q, i < 4 → i ≠ j → q < 24 → τ' 27 0 (24 * i + q) = τ 27 0 (24 * i + q)) (hj : SH1 σ' τ' j) : RSheet σ' τ' := by
  intro i hi
  by_cases e : i = j
  · subst e; exact hj
  · obtain ⟨z, z1, z2, z3, z4, z5, z6⟩ := h i hi
    rw [(hs i hi e).1, (hs i hi e).2, (ht i hi e).1, (ht i hi e).2]
    exact ⟨z, z1, z2, z3, z4, z5, fun q hq => by rw [h27 i q hi e (by omega)]; exact z6 q hq⟩
theorem RR2_sheet {σ τ σ' τ' : Mem} {n nv nt : Nat} (N : RNow σ τ n nv nt) (hr : Rest σ τ nt) (hs : ∀ g, g ≠ 5 → g ≠ 20 → σ' g = σ g) (hs4 : ∀ i, 4 ≤ i → σ' 5 i = σ 5 i ∧ σ' 20 i = σ 20 i) (ht : ∀ g, g ≠ 25 → g ≠ 26 → g ≠ 27 → g ≠ 39 → τ' g = τ g) (hS : RSheet σ' τ') : RR2 σ' τ' := by
  obtain ⟨h1, h2, h3, h4, h5⟩ := hr
  have tt : ∀ g, g < 25 ∨ (28 ≤ g ∧ g < 39) ∨ g = 40 → τ' g = τ g := fun g hg => ht g (by omega) (by omega) (by omega) (by omega)
  refine ⟨n, nv, nt, RNow_eq N (fun g hg => hs g (by omega) (by omega)) (fun j _ => by rw [hs 3 (by decide) (by decide)]) (tt 22 (by decide)), ?_, ?_, ?_, hS, ?_⟩
  · exact RImg_eq h1 (by rw [hs 7 (by decide) (by decide)]) (by rw [tt 8 (by decide)]) (fun g hg => hs g (by omega) (by omega)) (fun j _ => by rw [hs 3 (by decide) (by decide)]) (tt 23 (by decide))
  · exact RTape_fr h2 (by rw [hs 7 (by decide) (by decide)]) (by rw [tt 8 (by decide)]) (hs 17 (by decide) (by decide)) (tt 36 (by decide))
  · exact RWait_fr h3 (by rw [hs 7 (by decide) (by decide)]) (by rw [tt 8 (by decide)]) (hs 18 (by decide) (by decide)) (tt 40 (by decide))
  · exact RSlot_fr h5 (hs 6 (by decide) (by decide)) (fun k _ => by rw [hs 3 (by decide) (by decide)]) (fun k _ => (hs4 (4 + k) (by omega)).1) (fun k _ => (hs4 (4 + k) (by omega)).2) (tt 28 (by decide)) (tt 29 (by decide)) (tt 30 (by decide)) (tt 31 (by decide)) (tt 32 (by decide))
theorem gd_sheet {v : Int32} : (∃ j, j < 4 ∧ v = nI j ∧ (∀ σ, f_X7_isWithin v 0 3 σ = some 1) ∧ (∀ τ, f_X8_isSheet v τ = some 1)) ∨ ((∀ j, j < 4 → v ≠ nI j) ∧ (∀ σ, f_X7_isWithin v 0 3 σ = some 0) ∧ (∀ τ, f_X8_isSheet v τ = some 0)) := by
  rcases gd_nat (v := v) 3 (hi := 3) (lo' := 0) (hi' := 3) (by decide) (by decide) (by decide) rfl with ⟨j, h, e, c, m⟩ | ⟨h, c, m⟩
  · exact Or.inl ⟨j, by omega, e, c, fun τ => by unfold f_X8_isSheet; rw [m, bnd_s]; rfl⟩
  · exact Or.inr ⟨fun j hj => h j (by omega), c, fun τ => by unfold f_X8_isSheet; rw [m, bnd_s]; rfl⟩
theorem gd_slot {v : Int32} : (∃ j, j < 5 ∧ v = nI j ∧ (∀ σ, f_X7_isWithin v 0 4 σ = some 1) ∧ (∀ τ, f_X8_isSlot v τ = some 1)) ∨ ((∀ σ, f_X7_isWithin v 0 4 σ = some 0) ∧ (∀ τ, f_X8_isSlot v τ = some 0)) := by
  rcases gd_nat (v := v) 4 (hi := 4) (lo' := 0) (hi' := 4) (by decide) (by decide) (by decide) rfl with ⟨j, h, e, c, m⟩ | ⟨-, c, m⟩
  · exact Or.inl ⟨j, by omega, e, c, fun τ => by unfold f_X8_isSlot; rw [m, bnd_s]; rfl⟩
  · exact Or.inr ⟨c, fun τ => by unfold f_X8_isSlot; rw [m, bnd_s]; rfl⟩
theorem gd_place {v : Int32} {i z : Nat} {σ : Mem} (h : σ 5 i 1 = nI z) (hz : z ≤ 24) : (∃ q, q < z ∧ v = nI q ∧ f_X5_hasPlace i v σ = some 1 ∧ (∀ τ, f_X8_isIn v.toInt64 0 (nI z - 1).toInt64 τ = some 1)) ∨ ((∀ q, q < z → v ≠ nI q) ∧ f_X5_hasPlace i v σ = some 0 ∧ (∀ τ, f_X8_isIn v.toInt64 0 (nI z - 1).toInt64 τ = some 0)) := by
  have A : f_X5_hasPlace i v σ = some (bI (0 ≤ v ∧ v ≤ nI z - 1)) := by
    unfold f_X5_hasPlace
    rw [q_within, bnd_s, if_pos isB_bI, h]
  have B : ∀ τ, f_X8_isIn v.toInt64 0 (nI z - 1).toInt64 τ = some (bI (0 ≤ v ∧ v ≤ nI z - 1)) := fun τ => q_isIn τ (lo := 0) (hi := (nI z - 1).toInt64) (a := 0) (b := nI z - 1) (by decide) rfl
  by_cases hh : 0 ≤ v ∧ v ≤ nI z - 1
  · obtain ⟨j, hj, e⟩ := (in_iff (by omega)).mp hh
    exact Or.inl ⟨j, hj, e, by rw [A, bI_t hh], fun τ => by rw [B, bI_t hh]⟩
  · exact Or.inr ⟨fun j hj e => hh ((in_iff (by omega)).mpr ⟨j, hj, e⟩), by rw [A, bI_f hh], fun τ => by rw [B, bI_f hh]⟩
theorem c_startL {j m : Nat} (hm : m ≤ 24) : ∀ (r i nC : Nat) (σ : Mem) (K : Mem → Option Mem), i + r = m → r < nC → ∃ σ', f_X5_startAnew_12 j (nI m) nC (nI i) σ K = K σ' ∧ (∀ q, i ≤ q → q < m → σ' 20 j q = 0) ∧ (∀ q, q < i → σ' 20 j q = σ 20 j q) ∧ (∀ g, g ≠ 20 → σ' g = σ g) ∧ (∀ a, a ≠ j → σ' 20 a = σ 20 a) := by
  intro r
  induction r with
  | zero =>
    intro i nC σ K hi h3
    obtain ⟨nC, rfl, -⟩ := succ_of h3
    refine ⟨σ, ?_, fun q h1 h2 => by omega, fun _ _ => rfl, fun _ _ => rfl, fun _ _ => rfl⟩
    rw [f_X5_startAnew_12.eq_2, if_pos (nI_le (by omega) (by omega))]
  | succ r ih =>
    intro i nC σ K hi h3
    obtain ⟨nC, rfl, h3⟩ := succ_of h3
    obtain ⟨σ', q1, q2, q3, q4, q5⟩ := ih (i + 1) nC (mput σ 20 j i 0) K (by omega) (by omega)
    refine ⟨σ', ?_, fun q h1 h2 => ?_, fun q hq => ?_, fun g hg => by rw [q4 g hg, mp_g hg], fun a ha => by rw [q5 a ha, mp_i ha]⟩
    · rw [f_X5_startAnew_12.eq_2, if_neg (nI_ge (by omega) (by omega)), ix_nI (by omega) (by decide), bnd_s, nI_s]
      exact q1
    · by_cases e : q = i
      · subst e; rw [q3 q (by omega), mput_same]
      · exact q2 q (by omega) h2
    · rw [q3 q (by omega), mp_k (by omega)]
theorem c_start {j m : Nat} {s : Int32} {σ : Mem} (hm : m ≤ 24) : ∃ σ', f_X5_startAnew j s (nI m) σ = some σ' ∧ σ' 5 j 0 = s ∧ σ' 5 j 1 = nI m ∧ (∀ q, q < m → σ' 20 j q = 0) ∧ (∀ g, g ≠ 5 → g ≠ 20 → σ' g = σ g) ∧ (∀ i, i ≠ j → σ' 5 i = σ 5 i ∧ σ' 20 i = σ 20 i) := by
  obtain ⟨σ', q1, q2, q3, q4, q5⟩ := c_startL (j := j) hm m 0 FU (mput (mput σ 5 j 0 s) 5 j 1 (nI m)) (fun σ_1 => some σ_1) (by omega) (fu_gt (by omega))
  refine ⟨σ', q1, ?_, ?_, fun q hq => q2 q (by omega) hq, fun g h5 h20 => ?_, fun i hi => ⟨?_, ?_⟩⟩
  · rw [q4 5 (by decide), mp_k (by decide), mput_same]
  · rw [q4 5 (by decide), mput_same]
  · rw [q4 g h20, mp_g h5, mp_g h5]
  · rw [q4 5 (by decide), mp_i hi, mp_i hi]
  · rw [q5 i hi, mp_g (by decide), mp_g (by decide)]
theorem sh_ix (j q : Nat) : ((24 : Int32) * nI j) + nI q = nI (24 * j + q) := by
  rw [show (24 : Int32) = nI 24 from rfl, pk_mul, nI_add]
theorem m_zero {j : Nat} (hj : j < 4) : ∀ (r i nM : Nat) (τ : Mem), i + r = 24 → r < nM → ∃ τ', (∀ K, f_X8_sheet_69 (nI j) nM (nI i) τ K = K τ') ∧ (∀ q, i ≤ q → q < 24 → τ' 27 0 (24 * j + q) = 0) ∧ (∀ k, (k < 24 * j + i ∨ 24 * j + 24 ≤ k) → τ' 27 0 k = τ 27 0 k) ∧ (∀ g, g ≠ 27 → τ' g = τ g) := by
  intro r
  induction r with
  | zero =>
    intro i nM τ hi h3
    obtain ⟨nM, rfl, -⟩ := succ_of h3
    refine ⟨τ, fun K => ?_, fun q h1 h2 => by omega, fun _ _ => rfl, fun _ _ => rfl⟩
    rw [f_X8_sheet_69.eq_2, if_pos (show (24 : Int32) ≤ nI i from nI_le (a := 24) (by omega) (by omega))]
  | succ r ih =>
    intro i nM τ hi h3
    obtain ⟨nM, rfl, h3⟩ := succ_of h3
    obtain ⟨τ', q1, q2, q3, q4⟩ := ih (i + 1) nM (mput τ 27 0 (24 * j + i) 0) (by omega) (by omega)
    refine ⟨τ', fun K => ?_, fun q h1 h2 => ?_, fun k hk => ?_, fun g hg => by rw [q4 g hg, mp_g hg]⟩
    · rw [f_X8_sheet_69.eq_2, if_neg (show ¬ (24 : Int32) ≤ nI i from nI_ge (b := 24) (by omega) (by omega)), sh_ix, ix_nI (by omega) (by decide), bnd_s, nI_s]
      exact q1 K
    · by_cases e : q = i
      · subst e; rw [q3 _ (by omega), mput_same]
      · exact q2 q (by omega) h2
    · rw [q3 k (by omega), mp_k (by omega)]
theorem RR2_anew {σ τ : Mem} {n nv nt j m : Nat} {s : Int32} (N : RNow σ τ n nv nt) (hr : Rest σ τ nt) (hj : j < 4) (hm : m ≤ 24) (hs : s = -1 ∨ s = 0 ∨ s = 1) : ∃ σ' τ', f_X5_startAnew j s (nI m) σ = some σ' ∧ (∀ K, f_X8_sheet_69 (nI j) FU 0 (mput (mput τ 25 0 j s) 26 0 j (nI m)) K = K τ') ∧ τ' 26 0 j = nI m ∧ RR2 σ' τ' := by
  obtain ⟨σ', q1, q2, q3, q4, q5, q6⟩ := c_start (j := j) (s := s) (σ := σ) hm
  obtain ⟨τ', r1, r2, r3, r4⟩ := m_zero hj 24 0 FU (mput (mput τ 25 0 j s) 26 0 j (nI m)) (by omega) (fu_gt (by omega))
  have t26 : τ' 26 0 j = nI m := by rw [r4 26 (by decide), mput_same]
  refine ⟨σ', τ', q1, r1, t26, RR2_sheet N hr q5 (fun i hi => q6 i (by omega)) (fun g h25 h26 h27 _ => by rw [r4 g h27, mp_g h26, mp_g h25]) (RSheet_upd (j := j) hr.2.2.2.1 (fun i _ hi => q6 i hi) (fun i _ hi => ⟨by rw [r4 25 (by decide), mp_g (by decide), mp_k hi], by rw [r4 26 (by decide), mp_k hi, mp_g (by decide)]⟩) (fun i q h1 h2 h3 => by rw [r3 _ (by omega), mp_g (by decide), mp_g (by decide)]) ⟨m, hm, ?_, ?_, q3, t26, fun q hq => ⟨?_, ?_⟩⟩)⟩
  · rw [q2, r4 25 (by decide), mp_g (by decide), mput_same]
  · rw [q2]; exact hs
  · rw [q4 q hq, r2 q (by omega) (by omega)]
  · rw [q4 q hq]; exact Or.inr ⟨by decide, by decide⟩
theorem op_sheet {σ τ : Mem} (W : RR2 σ τ) (a b c : Int32) : LkS (f_X7_sheet a b c σ) (f_X8_sheet a b c τ) RR2 := by
  have W0 := W
  obtain ⟨n, nv, nt, N, hr⟩ := W
  unfold f_X7_sheet f_X8_sheet
  rcases gd_sheet (v := a) with ⟨j, hj, rfl, c1, m1⟩ | ⟨-, c1, m1⟩
  · have i4 : ix 4 (nI j) = some j := ix_nI hj (by decide)
    simp only [c1, m1, i4, bnd_s, e10, e01, if_false, if_true]
    rcases gd_in (v := b) (-1) 1 (lo' := -1) (hi' := 1) (by decide) (by decide) with ⟨⟨x, y⟩, c2, m2⟩ | ⟨-, c2, m2⟩
    · simp only [c2, m2, bnd_s, e10, e01, if_false, if_true]
      have hb : b = -1 ∨ b = 0 ∨ b = 1 := by
        rw [pl_le32, show (-1 : Int32).toInt = -1 by decide] at x
        rw [pl_le32, show (1 : Int32).toInt = 1 by decide] at y
        rcases (show b.toInt = -1 ∨ b.toInt = 0 ∨ b.toInt = 1 by omega) with q | q | q
        · exact Or.inl (pl_eq32.mpr (by rw [q]; decide))
        · exact Or.inr (Or.inl (pl_eq32.mpr (by rw [q]; decide)))
        · exact Or.inr (Or.inr (pl_eq32.mpr (by rw [q]; decide)))
      rcases hb with rfl | rfl | rfl
      · obtain ⟨σ', τ', q1, q2, q3, q4⟩ := RR2_anew (m := 0) (s := -1) N hr hj (by decide) (Or.inl rfl)
        have q1' : f_X5_startAnew j (-1) 0 σ = some σ' := q1
        have q2' := q2 (fun σ_2 => some (σ_2 26 0 j, σ_2))
        rw [show nI 0 = (0 : Int32) from rfl] at q2' q3
        rw [if_pos rfl, q1', bnd_s, if_pos (show (-1 : Int32) < 0 by decide), if_pos (show (-1 : Int32) < 0 by decide), if_neg (show ¬ (0 : Int32) ≤ -1 by decide), q2', q3]
        exact LkS_mk q4
      all_goals
        simp only [show ((0 : Int32) = -1) = False from eq_false (by decide), show ((1 : Int32) = -1) = False from eq_false (by decide), show ((0 : Int32) < 0) = False from eq_false (by decide), show ((1 : Int32) < 0) = False from eq_false (by decide), show ((0 : Int32) ≤ 0) = True from eq_true (by decide), show ((0 : Int32) ≤ 1) = True from eq_true (by decide), if_false, if_true]
        by_cases h24 : c ≤ 24
        · rw [if_pos h24, if_pos h24]
          by_cases h0 : 0 ≤ c
          · obtain ⟨m, hm, rfl⟩ := nI_of2 (M := 24) (n := 24) rfl (pl_nlt.mpr h0) h24
            rw [if_pos h0, if_pos h0]
            first
            | obtain ⟨σ', τ', q1, q2, q3, q4⟩ := RR2_anew (m := m) (s := 0) N hr hj hm (Or.inr (Or.inl rfl))
              have q2' := q2 (fun σ_2 => some (σ_2 26 0 j, σ_2))
              rw [q1, bnd_s, q2', q3]
              exact LkS_mk q4
            | obtain ⟨σ', τ', q1, q2, q3, q4⟩ := RR2_anew (m := m) (s := 1) N hr hj hm (Or.inr (Or.inr rfl))
              have q2' := q2 (fun σ_2 => some (σ_2 26 0 j, σ_2))
              rw [q1, bnd_s, q2', q3]
              exact LkS_mk q4
          · rw [if_neg h0, if_neg h0]
            exact LkS_mk W0
        · rw [if_neg h24, if_neg h24]
          exact LkS_mk W0
    · simp only [c2, m2, bnd_s, e10, e01, if_false, if_true]
      exact LkS_mk W0
  · simp only [c1, m1, bnd_s, e10, e01, if_false, if_true]
    exact LkS_mk W0
theorem sh_short (x : Int32) : (x <<< ((16 : Int32) &&& (31 : Int32))) >>> ((16 : Int32) &&& (31 : Int32)) = x.toInt16.toInt32 := by
  rw [show (16 : Int32) &&& (31 : Int32) = 16 from by decide]
  apply Int32.toInt_inj.mp
  rw [pk_shr _ 16 16 (by decide), Int16.toInt_toInt32, Int32.toInt_toInt16]
  have e := pk_shl x 16 16 (by decide)
  have l := x.toBitVec.isLt
  have a1 : (x <<< (16 : Int32)).toInt = (x <<< (16 : Int32)).toBitVec.toInt := rfl
  have a2 : x.toInt = x.toBitVec.toInt := rfl
  rw [a1, a2, BitVec.toInt_eq_toNat_cond, BitVec.toInt_eq_toNat_cond, e, Int.shiftRight_eq_div_pow, Int.bmod_def]
  generalize x.toBitVec.toNat = N at l ⊢
  have hN : N * 2 ^ 16 % 2 ^ 32 = (N % 65536) * 65536 := by omega
  rw [hN]
  split <;> split <;> split <;> omega
theorem ok_short (x : Int32) : okP (x.toInt16.toInt32) := by
  refine Or.inr ?_
  rw [pl_le32, pl_le32, Int16.toInt_toInt32]
  have h1 := Int16.le_toInt x.toInt16
  have h2 := Int16.toInt_lt x.toInt16
  rw [show (-99999 : Int32).toInt = -99999 by decide, show (99999 : Int32).toInt = 99999 by decide]
  omega
theorem RR2_mark {σ τ : Mem} {n nv nt j q : Nat} {v : Int32} (N : RNow σ τ n nv nt) (hr : Rest σ τ nt) (hj : j < 4) (hq : q < 24) (hv : okP v) : RR2 (mput σ 20 j q v) (mput τ 27 0 (24 * j + q) v) := by
  refine RR2_sheet N hr (fun g _ h20 => mp_g h20) (fun i hi => ⟨by rw [mp_g (by decide)], mp_i (by omega)⟩) (fun g _ _ h27 _ => mp_g h27) (RSheet_upd (j := j) hr.2.2.2.1 (fun i _ hi => ⟨by rw [mp_g (by decide)], mp_i hi⟩) (fun i _ _ => ⟨by rw [mp_g (by decide)], by rw [mp_g (by decide)]⟩) (fun i p _ hi hp => mp_k (by omega)) ?_)
  obtain ⟨z, z1, z2, z3, z4, z5, z6⟩ := hr.2.2.2.1 j hj
  refine ⟨z, z1, by rw [mp_g (by decide), mp_g (by decide)]; exact z2, by rw [mp_g (by decide)]; exact z3, by rw [mp_g (by decide)]; exact z4, by rw [mp_g (by decide)]; exact z5, fun p hp => ?_⟩
  by_cases e : p = q
  · subst e
    rw [mput_same, mput_same]
    exact ⟨rfl, hv⟩
  · rw [mp_k e, mp_k (by omega)]
    exact z6 p hp
theorem c_missing {σ : Mem} {i : Nat} : f_X5_isMissing i σ = some (bI (σ 5 i 0 = -1)) := by
  unfold f_X5_isMissing bI
  split <;> rfl
theorem op_mark {σ τ : Mem} (W : RR2 σ τ) (a b c : Int32) : LkS (f_X7_mark a b c σ) (f_X8_mark a b c τ) RR2 := by
  have W0 := W
  obtain ⟨n, nv, nt, N, hr⟩ := W
  unfold f_X7_mark f_X8_mark
  rcases gd_sheet (v := a) with ⟨j, hj, rfl, c1, m1⟩ | ⟨-, c1, m1⟩
  · have i4 : ix 4 (nI j) = some j := ix_nI hj (by decide)
    obtain ⟨z, z1, z2, z3, z4, z5, z6⟩ := hr.2.2.2.1 j hj
    have z2' := z2.symm
    simp only [c1, m1, i4, c_missing, z2', z5, bnd_s, e10, e01, if_false, if_true]
    rcases z3 with z3 | z3 | z3
    · simp only [z3, bI_t (show (-1 : Int32) = -1 from rfl), e10, if_false, show ((0 : Int32) ≤ -1) = False from eq_false (by decide)]
      exact LkS_mk W0
    · simp only [z3, bI_f (show ¬ (0 : Int32) = -1 by decide), e01, if_true, show ((0 : Int32) ≤ 0) = True from eq_true (by decide)]
      rcases gd_place (v := b) z4 z1 with ⟨q, hq, rfl, c2, m2⟩ | ⟨-, c2, m2⟩
      · have i24 : ix 24 (nI q) = some q := ix_nI (by omega) (by decide)
        have i96 : ix 96 (nI (24 * j + q)) = some (24 * j + q) := ix_nI (by omega) (by decide)
        by_cases hc : c = -1000000005
        · simp only [c2, m2, hc, bnd_s, e10, e01, if_false, if_true]
          exact LkS_mk W0
        · simp only [c2, m2, if_neg hc, i24, sh_ix, i96, sh_short, show ((0 : Int32) = 1) = False from eq_false (by decide), bnd_s, e10, e01, if_false, if_true]
          exact LkS_mk (RR2_mark N hr hj (by omega) (ok_short c))
      · simp only [c2, m2, bnd_s, e10, e01, if_false, if_true]
        exact LkS_mk W0
    · simp only [z3, bI_f (show ¬ (1 : Int32) = -1 by decide), e01, if_true, show ((0 : Int32) ≤ 1) = True from eq_true (by decide)]
      rcases gd_place (v := b) z4 z1 with ⟨q, hq, rfl, c2, m2⟩ | ⟨-, c2, m2⟩
      · have i24 : ix 24 (nI q) = some q := ix_nI (by omega) (by decide)
        have i96 : ix 96 (nI (24 * j + q)) = some (24 * j + q) := ix_nI (by omega) (by decide)
        by_cases hc : c = -1000000005
        · subst hc
          simp only [c2, m2, i24, sh_ix, i96, bnd_s, e10, e01, if_false, if_true]
          exact LkS_mk (RR2_mark N hr hj (by omega) (Or.inl rfl))
        · rcases gd_in (v := c) (-99999) 99999 (lo' := -99999) (hi' := 99999) (by decide) (by decide) with ⟨h3, c3, m3⟩ | ⟨-, c3, m3⟩
          · simp only [c2, m2, c3, m3, if_neg hc, i24, sh_ix, i96, bnd_s, e10, e01, if_false, if_true]
            exact LkS_mk (RR2_mark N hr hj (by omega) (Or.inr h3))
          · simp only [c2, m2, c3, m3, if_neg hc, bnd_s, e10, e01, if_false, if_true]
            exact LkS_mk W0
      · simp only [c2, m2, bnd_s, e10, e01, if_false, if_true]
        exact LkS_mk W0
  · simp only [c1, m1, bnd_s, e10, e01, if_false, if_true]
    exact LkS_mk W0
