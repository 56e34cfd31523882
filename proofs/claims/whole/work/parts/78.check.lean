-- check
def FrK (τ τ' : Mem) : Prop := ∀ g, g ≠ 22 → g ≠ 37 → g ≠ 38 → g ≠ 41 → τ' g = τ g
theorem FrK.trans {a b c : Mem} (h1 : FrK a b) (h2 : FrK b c) : FrK a c := fun g x1 x2 x3 x4 => (h2 g x1 x2 x3 x4).trans (h1 g x1 x2 x3 x4)
theorem rem2 (i : Nat) (hi : i < 100000) : nI i - nI i / (2 : Int32) * (2 : Int32) = nI (i % 2) := by
  rw [show (2 : Int32) = nI 2 from rfl, pk_rem (by omega) (by decide) (by decide)]
def KcK (many N : Nat) : Mem → Option (Int32 × Mem) := fun σ_1 => (if nI many = nI (2 * N) then (some ((0 : Int32), σ_1)) else (some (((1 : Int32) + nI (2 * N)), σ_1)))
def KmK (many N : Nat) (a4 : Mem) : Int32 → Option (Int32 × Mem) := fun e2 => (if e2 = nI many then (if e2 = nI (2 * N) then (some ((0 : Int32), a4)) else (some (((1 : Int32) + e2), a4))) else (some (((1 : Int32) + e2), a4)))
theorem KmK_lt {many N k : Nat} {a4 : Mem} (hk : k < 2 * N) (hN : N ≤ 30) : KmK many N a4 (nI k) = some (1 + nI k, a4) := by
  unfold KmK
  rw [if_neg (show ¬ nI k = nI (2 * N) from fun e => by have := (nI_eq (by omega) (by omega)).mp e; omega), ite_self]
set_option maxHeartbeats 2000000 in
theorem ls_check {n nt d N many : Nat} {p2 : Int32} {W : Nat → Int32} (hd : d < 5000) (hN : N ≤ 30) (hm60 : many ≤ 60) : ∀ (m i h nv nC nM : Nat) (σ τ : Mem), RLd true 2 22 σ τ n nv nt → (∀ t, t < nt → TxR 22 σ τ t) → τ 22 0 2 = nI h → i + m = N → N ≤ d → h + m ≤ 9999 → (N = d ∨ h + m = 9999) → (∀ j, j < many → σ 18 0 j = W j) → 2 * m < nC → m < nM →
    ∃ τ', (∀ K, f_X8_check_64 (nI d) p2 nM (nI (2 * i)) (nI i) τ K = K (nI (2 * N)) τ') ∧ FrK τ τ' ∧ (∀ j, j < 2 * i → τ' 41 0 j = τ 41 0 j) ∧
      (∀ a4 nM2, 2 * m < nM2 → (∀ j, j < many → a4 40 0 j = W j) → a4 41 = τ' 41 → ∃ r σ', f_X7_check_65 (nI many) (nI (2 * N)) nC (nI (2 * i)) σ (KcK many N) = some (r, σ') ∧ f_X8_check_136 (nI many) (nI (2 * N)) a4 nM2 (nI (2 * i)) (KmK many N a4) = some (r, a4) ∧ Fm (RgD 2) σ σ') := by
  intro m
  induction m with
  | zero =>
    intro i h nv nC nM σ τ H T eh hi h1 h2 h3 hW h4 h5
    obtain ⟨nC, rfl, -⟩ := succ_of h4
    obtain ⟨nM, rfl, -⟩ := succ_of h5
    have hi : i = N := by omega
    subst hi
    refine ⟨τ, fun K => ?_, fun _ _ _ _ _ => rfl, fun _ _ => rfl, fun a4 nM2 h6 hw h41 => ?_⟩
    · rw [f_X8_check_64.eq_2]
      by_cases hid : i = d
      · rw [if_pos (nI_le (by omega) (by omega))]
      · rw [if_neg (nI_ge (by omega) (by omega)), sx2, bnd_s, eh, if_pos (show (9999 : Int32) ≤ nI h from nI_le (a := 9999) (by omega) (by omega))]
    · obtain ⟨nM2, rfl, -⟩ := succ_of h6
      have e1 : f_X8_check_136 (nI many) (nI (2 * i)) a4 (nM2 + 1) (nI (2 * i)) (KmK many i a4) = KmK many i a4 (nI (2 * i)) := by
        rw [f_X8_check_136.eq_2, if_pos (nI_le (Nat.le_refl (2 * i)) (by omega)), ite_self]
      rw [f_X7_check_65.eq_2, if_pos (nI_le (Nat.le_refl _) (by omega)), e1]
      unfold KcK KmK
      by_cases he : many = 2 * i
      · subst he
        rw [if_pos rfl, if_pos rfl, if_pos rfl]
        exact ⟨0, σ, rfl, rfl, Fm.rf⟩
      · rw [if_neg (fun e => he ((nI_eq (by omega) (by omega)).mp e)), if_neg (fun e => he ((nI_eq (by omega) (by omega)).mp e).symm)]
        exact ⟨_, σ, rfl, rfl, Fm.rf⟩
  | succ m ih =>
    intro i h nv nC nM σ τ H T eh hi h1 h2 h3 hW h4 h5
    obtain ⟨nM, rfl, h5⟩ := succ_of h5
    obtain ⟨nC, rfl⟩ : ∃ c, nC = c + 1 + 1 := ⟨nC - 2, by omega⟩
    have e3 := H.2.2.2.2.2.2.2.1
    obtain ⟨σ1, τ1, nv1, q1, q2, q3, q4, q5, q6, q7⟩ := ls_hour H T
    have eV : σ1 0 2 6 = nI nv1 := q3.2.1.1
    have eL : σ1 0 2 8 = τ1 22 0 5 := q3.2.2.2.2.1.2.1
    have eN : τ1 22 0 3 = nI nv1 := q3.2.1.2.1
    have H2 : RLd true 2 22 σ1 (mput (mput τ1 41 0 (2 * i) (nI nv1)) 41 0 (2 * i + 1) (τ1 22 0 5)) n nv1 nt := RLd_off q3 rfl rfl rfl rfl rfl rfl (fun k _ => by rw [mp_g (by decide), mp_g (by decide)])
    have T2 : ∀ t, t < nt → TxR 22 σ1 (mput (mput τ1 41 0 (2 * i) (nI nv1)) 41 0 (2 * i + 1) (τ1 22 0 5)) t := fun t ht => TxR_congr (T_fr T e3 q4 q5 t ht) (by omega) rfl rfl (fun k _ _ => by rw [mp_g (by decide), mp_g (by decide)])
    have s18 : σ1 18 0 = σ 18 0 := q4 18 0 (by unfold RgD; omega)
    obtain ⟨τ', u1, u2, u3, u4⟩ := ih (i + 1) (h + 1) nv1 nC nM σ1 _ H2 T2 (by rw [mp_g (by decide), mp_g (by decide), q6, eh, nI_s]) (by omega) h1 (by omega) (by omega) (by rw [s18]; exact hW) (by omega) (by omega)
    have r0 : τ' 41 0 (2 * i) = nI nv1 := by rw [u3 (2 * i) (by omega), mp_k (by omega), mput_same]
    have r1 : τ' 41 0 (2 * i + 1) = τ1 22 0 5 := by rw [u3 (2 * i + 1) (by omega), mput_same]
    refine ⟨τ', fun K => ?_, fun g x1 x2 x3 x4 => ?_, fun j hj => ?_, fun a4 nM2 h6 hw h41 => ?_⟩
    · rw [f_X8_check_64.eq_2, if_neg (nI_ge (by omega) (by omega)), sx2, bnd_s, eh, if_neg (show ¬ (9999 : Int32) ≤ nI h from nI_ge (b := 9999) (by omega) (by omega)), q2, bnd_s, sx3, bnd_s, ix_nI (by omega) (by decide), bnd_s, sx5, bnd_s, nI_s (2 * i), ix_nI (by omega) (by decide), bnd_s, eN, mp_g (show 22 ≠ 41 by decide), nI_s i, show (2 : Int32) = nI 2 from rfl, nI_add, show 2 * i + 2 = 2 * (i + 1) by omega]
      exact u1 K
    · rw [u2 g x1 x2 x3 x4, mp_g x4, mp_g x4, q5.1 g x1 x2 x3]
    · rw [u3 j (by omega), mp_k (by omega), mp_k (by omega), q5.1 41 (by decide) (by decide) (by decide)]
    · obtain ⟨nM2, rfl⟩ : ∃ c, nM2 = c + 1 + 1 := ⟨nM2 - 2, by omega⟩
      obtain ⟨r, σ', v1, v2, v3⟩ := u4 a4 nM2 (by omega) hw h41
      have hlt : ¬ nI (2 * N) ≤ nI (2 * i) := nI_ge (by omega) (by omega)
      have hlt1 : ¬ nI (2 * N) ≤ nI (2 * i + 1) := nI_ge (by omega) (by omega)
      have c0 : f_X7_check_65 (nI many) (nI (2 * N)) (nC + 1 + 1) (nI (2 * i)) σ (KcK many N) = (if nI many ≤ nI (2 * i) then (some (((1 : Int32) + nI (2 * i)), σ1)) else (bnd (ix 60 (nI (2 * i))) (fun j2 => (if (σ1 18 0 j2) = nI nv1 then (f_X7_check_65 (nI many) (nI (2 * N)) (nC + 1) (nI (2 * i + 1)) σ1 (KcK many N)) else (some (((1 : Int32) + nI (2 * i)), σ1)))))) := by
        rw [f_X7_check_65.eq_2, if_neg hlt, rem2 _ (by omega), show 2 * i % 2 = 0 by omega, if_pos nI_0, q1, bnd_s, eV, nI_s]
      have c1 : f_X7_check_65 (nI many) (nI (2 * N)) (nC + 1) (nI (2 * i + 1)) σ1 (KcK many N) = (if nI many ≤ nI (2 * i + 1) then (some (((1 : Int32) + nI (2 * i + 1)), σ1)) else (bnd (ix 60 (nI (2 * i + 1))) (fun j1 => (if (σ1 18 0 j1) = τ1 22 0 5 then (f_X7_check_65 (nI many) (nI (2 * N)) nC (nI (2 * (i + 1))) σ1 (KcK many N)) else (some (((1 : Int32) + nI (2 * i + 1)), σ1)))))) := by
        rw [f_X7_check_65.eq_2, if_neg hlt1, rem2 _ (by omega), show (2 * i + 1) % 2 = 1 by omega, if_neg (show ¬ nI 1 = 0 by decide), eL, nI_s, show 2 * i + 1 + 1 = 2 * (i + 1) by omega]
      have d0 : f_X8_check_136 (nI many) (nI (2 * N)) a4 (nM2 + 1 + 1) (nI (2 * i)) (KmK many N a4) = (if nI many ≤ nI (2 * i) then KmK many N a4 (nI (2 * i)) else (bnd (ix 60 (nI (2 * i))) (fun j1 => (bnd (ix 60 (nI (2 * i))) (fun j2 => (if (a4 40 0 j1) = (a4 41 0 j2) then (f_X8_check_136 (nI many) (nI (2 * N)) a4 (nM2 + 1) (nI (2 * i + 1)) (KmK many N a4)) else (KmK many N a4 (nI (2 * i))))))))) := by
        rw [f_X8_check_136.eq_2, if_neg hlt, nI_s]
      have d1 : f_X8_check_136 (nI many) (nI (2 * N)) a4 (nM2 + 1) (nI (2 * i + 1)) (KmK many N a4) = (if nI many ≤ nI (2 * i + 1) then KmK many N a4 (nI (2 * i + 1)) else (bnd (ix 60 (nI (2 * i + 1))) (fun j1 => (bnd (ix 60 (nI (2 * i + 1))) (fun j2 => (if (a4 40 0 j1) = (a4 41 0 j2) then (f_X8_check_136 (nI many) (nI (2 * N)) a4 nM2 (nI (2 * (i + 1))) (KmK many N a4)) else (KmK many N a4 (nI (2 * i + 1))))))))) := by
        rw [f_X8_check_136.eq_2, if_neg hlt1, nI_s, show 2 * i + 1 + 1 = 2 * (i + 1) by omega]
      rw [c0, d0, KmK_lt (by omega) hN]
      by_cases hm0 : many ≤ 2 * i
      · rw [if_pos (nI_le hm0 (by omega)), if_pos (nI_le hm0 (by omega))]
        exact ⟨_, σ1, rfl, rfl, q4⟩
      · have w0 : a4 40 0 (2 * i) = σ1 18 0 (2 * i) := by rw [hw _ (by omega), s18, hW _ (by omega)]
        rw [if_neg (nI_ge (by omega) (by omega)), if_neg (nI_ge (by omega) (by omega)), ix_nI (by omega) (by decide), bnd_s, bnd_s, bnd_s, w0, h41, r0]
        by_cases hq0 : σ1 18 0 (2 * i) = nI nv1
        · rw [if_pos hq0, if_pos hq0, c1, d1, KmK_lt (by omega) hN]
          by_cases hm1 : many ≤ 2 * i + 1
          · rw [if_pos (nI_le hm1 (by omega)), if_pos (nI_le hm1 (by omega))]
            exact ⟨_, σ1, rfl, rfl, q4⟩
          · have w1 : a4 40 0 (2 * i + 1) = σ1 18 0 (2 * i + 1) := by rw [hw _ (by omega), s18, hW _ (by omega)]
            rw [if_neg (nI_ge (by omega) (by omega)), if_neg (nI_ge (by omega) (by omega)), ix_nI (by omega) (by decide), bnd_s, bnd_s, bnd_s, w1, h41, r1]
            by_cases hq1 : σ1 18 0 (2 * i + 1) = τ1 22 0 5
            · rw [if_pos hq1, if_pos hq1]
              exact ⟨r, σ', v1, v2, Fm.trans q4 v3⟩
            · rw [if_neg hq1, if_neg hq1]
              exact ⟨_, σ1, rfl, rfl, q4⟩
        · rw [if_neg hq0, if_neg hq0]
          exact ⟨_, σ1, rfl, rfl, q4⟩
/-- all but the number of rows waiting -/
theorem RR2_wait {σ τ σ' τ' : Mem} {n nv nt : Nat} (N : RNow σ τ n nv nt) (hr : Rest σ τ nt) (hs : Fm (RgD 2) (mput σ 7 0 9 0) σ') (h22 : ∀ k, k < 2908 → τ' 22 0 k = τ 22 0 k) (h8 : ∀ k, k ≠ 31 → τ' 8 0 k = τ 8 0 k) (h31 : τ' 8 0 31 = 0) (hf : ∀ g, g ≠ 8 → g ≠ 22 → g ≠ 24 → g ≠ 37 → g ≠ 38 → g ≠ 41 → τ' g = τ g) : RR2 σ' τ' := by
  obtain ⟨H, hv16, T, hh, h1, h2⟩ := N
  have e3 := H.2.2.2.2.2.2.2.1
  obtain ⟨r1, r2, r3, r4, r5⟩ := hr
  have gs : ∀ g i, g ≠ 7 → ¬ RgD 2 g i → σ' g i = σ g i := fun g i h7 hn => by rw [hs g i hn, mp_g h7]
  have g7 : ∀ k, k ≠ 9 → σ' 7 0 k = σ 7 0 k := fun k hk => by rw [hs 7 0 (by unfold RgD; omega), mp_k hk]
  have ff : ∀ g i, (g = 1 ∨ g = 11 ∨ g = 5 ∨ g = 20 ∨ g = 6 ∨ g = 17 ∨ g = 18) → σ' g i = σ g i := fun g i hg => gs g i (by omega) (by unfold RgD; omega)
  have H1 : RLd true 0 22 (mput σ 7 0 9 0) τ _ nv nt := RLd_off H (by rw [mp_g (by decide)]) (mp_g (by decide)) (by rw [mp_g (by decide)]) (by rw [mp_g (by decide)]) (by rw [mp_g (by decide)]) (by rw [mp_g (by decide)]) (fun _ _ => rfl)
  refine ⟨_, nv, nt, ⟨RLd_off (RLd_02 (by decide) H1 hs) rfl rfl rfl rfl rfl rfl h22, hv16, fun t ht => TxR_congr (T t ht) (by omega) (ff 1 t (by decide)) (ff 11 t (by decide)) (fun k _ hk => h22 k hk), hh, h1, by rw [h22 2 (by decide)]; exact h2⟩, ?_, ?_, ⟨0, by decide, ?_, h31, fun j hj => by omega⟩, ?_, ?_⟩
  · exact RImg_fr r1 (g7 4 (by decide)) (h8 3 (by decide)) (Nat.le_refl _) (fun g hg => gs g 1 (by omega) (by unfold RgD; omega)) (fun j hj => gs 3 _ (by decide) (by unfold RgD; omega)) (fun t _ => ⟨ff 1 t (by decide), ff 11 t (by decide)⟩) (hf 23 (by decide) (by decide) (by decide) (by decide) (by decide) (by decide))
  · exact RTape_fr r2 (g7 6 (by decide)) (h8 16 (by decide)) (funext (fun i => ff 17 i (by decide))) (hf 36 (by decide) (by decide) (by decide) (by decide) (by decide) (by decide))
  · rw [hs 7 0 (by unfold RgD; omega), mput_same]; rfl
  · exact RSheet_fr r4 (fun k _ => ff 5 k (by decide)) (fun k _ => ff 20 k (by decide)) (hf 25 (by decide) (by decide) (by decide) (by decide) (by decide) (by decide)) (hf 26 (by decide) (by decide) (by decide) (by decide) (by decide) (by decide)) (hf 27 (by decide) (by decide) (by decide) (by decide) (by decide) (by decide))
  · exact RSlot_fr r5 (funext (fun i => ff 6 i (by decide))) (fun k hk => gs 3 _ (by decide) (by unfold RgD; omega)) (fun k _ => ff 5 _ (by decide)) (fun k _ => ff 20 _ (by decide)) (hf 28 (by decide) (by decide) (by decide) (by decide) (by decide) (by decide)) (hf 29 (by decide) (by decide) (by decide) (by decide) (by decide) (by decide)) (hf 30 (by decide) (by decide) (by decide) (by decide) (by decide) (by decide)) (hf 31 (by decide) (by decide) (by decide) (by decide) (by decide) (by decide)) (hf 32 (by decide) (by decide) (by decide) (by decide) (by decide) (by decide))
set_option maxHeartbeats 2000000 in
theorem op_check {σ τ : Mem} (W : RR2 σ τ) (a : Int32) : LkS (f_X7_check a σ) (f_X8_check a τ) RR2 := by
  obtain ⟨n, nv, nt, N, hr⟩ := W
  obtain ⟨w, hw, w1, w2, w3⟩ := hr.2.2.1
  have fin0 : RR2 (mput σ 7 0 9 0) (mput τ 8 0 31 0) := RR2_wait N hr Fm.rf (fun k _ => by rw [mp_g (by decide)]) (fun k hk => mp_k hk) mput_same (fun g h _ _ _ _ _ => mp_g h)
  unfold f_X7_check f_X8_check
  rcases in1 (v := a) 30 (hi := 30) (hi' := 30) (by decide) (by decide) rfl with ⟨d, d1, d2, rfl, c1, m1⟩ | ⟨c1, m1⟩
  · rw [c1, bnd_s, if_neg (show ¬ (1 : Int32) = 0 by decide), m1, bnd_s, if_neg (show ¬ (1 : Int32) = 0 by decide), mp_k (show 4 ≠ 9 by decide), mp_k (show 3 ≠ 31 by decide), w1, w2]
    rcases hr.1 with ⟨z1, z2⟩ | ⟨z1, z2, n', nv', nt', I, i16, int, iT, h, hh, h2⟩
    · rw [z1, z2, if_pos rfl, if_pos rfl]
      exact LkS_mk fin0
    · have e3 := I.2.2.2.2.2.2.2.1
      have I1 : RLd true 1 23 (mput σ 7 0 9 0) τ n' nv' nt' := RLd_off I (by rw [mp_g (by decide)]) (mp_g (by decide)) (by rw [mp_g (by decide)]) (by rw [mp_g (by decide)]) (by rw [mp_g (by decide)]) (by rw [mp_g (by decide)]) (fun _ _ => rfl)
      obtain ⟨σ1, q1, q2, q3, q4, q5⟩ := c_becomes (p0 := 2) (p1 := 1) (by decide) I1
      have ta : f_X8_setAside 22 0 24 0 (mput τ 8 0 31 0) = some (mcopy (mput τ 8 0 31 0) 22 0 0 24 0 0 2908) := m_aside (by decide) rfl rfl
      have tb : f_X8_setAside 23 0 22 0 (mcopy (mput τ 8 0 31 0) 22 0 0 24 0 0 2908) = some (mcopy (mcopy (mput τ 8 0 31 0) 22 0 0 24 0 0 2908) 23 0 0 22 0 0 2908) := m_aside (by decide) rfl rfl
      have b22 : ∀ k, k < 2908 → mcopy (mcopy (mput τ 8 0 31 0) 22 0 0 24 0 0 2908) 23 0 0 22 0 0 2908 22 0 k = τ 23 0 k := fun k hk => by rw [mc_at hk, mc_g (by decide), mp_g (by decide)]
      have b24 : ∀ k, k < 2908 → mcopy (mcopy (mput τ 8 0 31 0) 22 0 0 24 0 0 2908) 23 0 0 22 0 0 2908 24 0 k = τ 22 0 k := fun k hk => by rw [mc_g (by decide), mc_at hk, mp_g (by decide)]
      have bg : ∀ g, g ≠ 8 → g ≠ 22 → g ≠ 24 → mcopy (mcopy (mput τ 8 0 31 0) 22 0 0 24 0 0 2908) 23 0 0 22 0 0 2908 g = τ g := fun g x1 x2 x3 => by rw [mc_g x2, mc_g x3, mp_g x1]
      have b8 : mcopy (mcopy (mput τ 8 0 31 0) 22 0 0 24 0 0 2908) 23 0 0 22 0 0 2908 8 = mput τ 8 0 31 0 8 := by rw [mc_g (by decide), mc_g (by decide)]
      generalize mcopy (mcopy (mput τ 8 0 31 0) 22 0 0 24 0 0 2908) 23 0 0 22 0 0 2908 = τb at tb b22 b24 bg b8
      have H2 : RLd true 2 22 σ1 τb n' nv' nt' := by
        obtain ⟨x1, x2, x3, x4⟩ := q4.2.2.2.2.1
        exact RLd_move q4 rfl rfl rfl (fun _ _ _ _ => rfl) (fun _ _ => ⟨rfl, rfl, rfl⟩) (fun _ _ => rfl) (b22 0 (by decide)) (b22 1 (by decide)) (b22 3 (by decide)) (fun k _ hk => b22 k hk) ⟨by rw [b22 4 (by decide)]; exact x1, by rw [b22 5 (by decide)]; exact x2, by rw [b22 2 (by decide)]; exact x3, by rw [b22 6 (by decide)]; exact x4⟩
      have T2 : ∀ t, t < nt' → TxR 22 σ1 τb t := fun t ht => TxR_congr (iT t ht) (by omega) (by rw [q2 1 t (by unfold RgD; omega), mp_g (by decide)]) (by rw [q2 11 t (by unfold RgD; omega), mp_g (by decide)]) (fun k _ hk => b22 k hk)
      have s18 : σ1 18 0 = σ 18 0 := by rw [q2 18 0 (by unfold RgD; omega), mp_g (by decide)]
      have eh : σ1 0 1 9 = nI h := by rw [q5.2.2.2.2.1.2.2.1, h2]
      have ed : (2 : Int32) * (if ((9999 : Int32) - (σ1 0 1 9)) < nI d then ((9999 : Int32) - (σ1 0 1 9)) else nI d) = nI (2 * min (9999 - h) d) := by
        rw [eh, show (9999 : Int32) = nI 9999 from rfl, pk_sub (by omega), min_nI (by omega) (by omega), show (2 : Int32) = nI 2 from rfl, pk_mul]
      obtain ⟨τ', u1, u2, u3, u4⟩ := ls_check (p2 := nI w) (W := fun j => σ 18 0 j) (N := min (9999 - h) d) (d := d) (many := w) (by omega) (by omega) hw (min (9999 - h) d) 0 h nv' FU FU σ1 τb H2 T2 (by rw [b22 2 (by decide)]; exact h2) (by omega) (by omega) (by omega) (by omega) (fun j _ => by rw [s18]) (fu_gt (by omega)) (fu_gt (by omega))
      have tc : f_X8_setAside 24 0 22 0 τ' = some (mcopy τ' 24 0 0 22 0 0 2908) := m_aside (by decide) rfl rfl
      have c22 : ∀ k, k < 2908 → mcopy τ' 24 0 0 22 0 0 2908 22 0 k = τ 22 0 k := fun k hk => by rw [mc_at hk, u2 24 (by decide) (by decide) (by decide) (by decide), b24 k hk]
      have cg : ∀ g, g ≠ 22 → mcopy τ' 24 0 0 22 0 0 2908 g = τ' g := fun g hg => mc_g hg
      obtain ⟨r, σ2, v1, v2, v3⟩ := u4 (mcopy τ' 24 0 0 22 0 0 2908) FU (fu_gt (by omega)) (fun j hj => by rw [cg 40 (by decide), u2 40 (by decide) (by decide) (by decide) (by decide), bg 40 (by decide) (by decide) (by decide)]; exact (w3 j hj).symm) (cg 41 (by decide))
      have u1' := u1 (fun e1 σ_1 => (bnd (f_X8_setAside 24 0 22 0 σ_1) (fun a4 => (f_X8_check_136 (nI w) e1 a4 FU (0 : Int32) (fun e2 => (if e2 = nI w then (if e2 = e1 then (some ((0 : Int32), a4)) else (some (((1 : Int32) + e2), a4))) else (some (((1 : Int32) + e2), a4))))))))
      have z0 : nI (2 * 0) = (0 : Int32) := rfl
      rw [z0] at u1' v1 v2
      rw [z1, z2, if_neg (show ¬ (1 : Int32) = 0 by decide), if_neg (show ¬ (1 : Int32) = 0 by decide), q1, bnd_s, ta, bnd_s, tb, bnd_s, ed, u1', tc, bnd_s]
      refine ⟨r, σ2, mcopy τ' 24 0 0 22 0 0 2908, v1, v2, ?_⟩
      refine RR2_wait N hr (Fm.trans q2 v3) c22 (fun k hk => ?_) ?_ (fun g x1 x2 x3 x4 x5 x6 => ?_)
      · rw [cg 8 (by decide), u2 8 (by decide) (by decide) (by decide) (by decide), b8, mp_k hk]
      · rw [cg 8 (by decide), u2 8 (by decide) (by decide) (by decide) (by decide), b8, mput_same]
      · rw [cg g x2, u2 g x2 x4 x5 x6, bg g x1 x2 x3]
  · rw [c1, bnd_s, if_pos rfl, m1, bnd_s, if_pos rfl]
    exact LkS_mk fin0
