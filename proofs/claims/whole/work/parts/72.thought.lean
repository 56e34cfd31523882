-- images
theorem op_keep {σ τ : Mem} (W : RR2 σ τ) : LkS (f_X7_keep σ) (f_X8_keep τ) RR2 := by
  obtain ⟨n, nv, nt, N, hr⟩ := W
  obtain ⟨H, hv16, T, h, hh, h2⟩ := N
  have e3 := H.2.2.2.2.2.2.2.1
  obtain ⟨σ1, q1, q2, q3, q4, q5⟩ := c_becomes (p0 := 1) (p1 := 0) (by decide) H
  have t22 : mcopy (mput τ 8 0 3 1) 22 0 0 23 0 0 2908 22 = τ 22 := by rw [mc_g (by decide), mp_g (by decide)]
  have t23 : ∀ k, k < 2908 → mcopy (mput τ 8 0 3 1) 22 0 0 23 0 0 2908 23 0 k = τ 22 0 k := fun k hk => by rw [mc_at hk, mp_g (by decide)]
  unfold f_X7_keep f_X8_keep
  rw [q1, bnd_s, m_aside (by decide) rfl rfl, bnd_s, sx0, bnd_s, t22, mp_g (by decide), q4.1.1, q4.1.2.1]
  have gg : ∀ g, g ≠ 0 → g ≠ 3 → g ≠ 10 → g ≠ 13 → g ≠ 14 → g ≠ 15 → g ≠ 16 → g ≠ 7 → mput σ1 7 0 4 1 g = σ g := fun g x1 x2 x3 x4 x5 x6 x7 x8 => by
    rw [mp_g x8]
    exact funext (fun i => q2 g i (by unfold RgD; omega))
  have tt : ∀ g, g ≠ 8 → g ≠ 23 → mcopy (mput τ 8 0 3 1) 22 0 0 23 0 0 2908 g = τ g := fun g x1 x2 => by rw [mc_g x2, mp_g x1]
  have s7 : ∀ k, k ≠ 4 → mput σ1 7 0 4 1 7 0 k = σ 7 0 k := fun k hk => by rw [mp_k hk, q2 7 0 (by unfold RgD; omega)]
  have m8 : ∀ k, k ≠ 3 → mcopy (mput τ 8 0 3 1) 22 0 0 23 0 0 2908 8 0 k = τ 8 0 k := fun k hk => by rw [mc_g (by decide), mp_k hk]
  obtain ⟨h1, h3, h4, h5, h6⟩ := hr
  have g1 : ∀ t, mput σ1 7 0 4 1 1 t = σ 1 t := fun t => by rw [gg 1 (by decide) (by decide) (by decide) (by decide) (by decide) (by decide) (by decide) (by decide)]
  have g11 : ∀ t, mput σ1 7 0 4 1 11 t = σ 11 t := fun t => by rw [gg 11 (by decide) (by decide) (by decide) (by decide) (by decide) (by decide) (by decide) (by decide)]
  refine LkS_mk ⟨n, nv, nt, ⟨?_, hv16, fun t ht => TxR_congr (T t ht) (by omega) (g1 t) (g11 t) (fun k _ _ => by rw [t22]), h, hh, by rw [t22]; exact h2⟩, Or.inr ⟨mput_same, ?_, n, nv, nt, ?_, hv16, Nat.le_refl _, fun t ht => TxR_congr (T t ht) (by omega) (g1 t) (g11 t) (fun k _ hk => t23 k hk), h, hh, by rw [t23 2 (by decide)]; exact h2⟩, ?_, ?_, ?_, ?_⟩
  · exact RLd_off q5 (by rw [mp_g (by decide)]) (mp_g (by decide)) (by rw [mp_g (by decide)]) (by rw [mp_g (by decide)]) (by rw [mp_g (by decide)]) (by rw [mp_g (by decide)]) (fun k _ => by rw [t22])
  · rw [mc_g (by decide), mput_same]
  · obtain ⟨d1, d2, d3, d4⟩ := q4.2.2.2.2.1
    exact RLd_move q4 (by rw [mp_g (by decide)]) (by rw [mp_g (by decide)]) (by rw [mp_g (by decide)]) (fun j _ k _ => by rw [mp_g (by decide)]) (fun v _ => ⟨by rw [mp_g (by decide)], by rw [mp_g (by decide)], by rw [mp_g (by decide)]⟩) (fun k _ => by rw [mp_g (by decide)]) (t23 0 (by decide)) (t23 1 (by decide)) (t23 3 (by decide)) (fun k _ hk => t23 k hk) ⟨by rw [mp_g (by decide), t23 4 (by decide)]; exact d1, by rw [mp_g (by decide), t23 5 (by decide)]; exact d2, by rw [mp_g (by decide), t23 2 (by decide)]; exact d3, by rw [mp_g (by decide), t23 6 (by decide)]; exact d4⟩
  · exact RTape_fr h3 (s7 6 (by decide)) (m8 16 (by decide)) (gg 17 (by decide) (by decide) (by decide) (by decide) (by decide) (by decide) (by decide) (by decide)) (tt 36 (by decide) (by decide))
  · exact RWait_fr h4 (s7 9 (by decide)) (m8 31 (by decide)) (gg 18 (by decide) (by decide) (by decide) (by decide) (by decide) (by decide) (by decide) (by decide)) (tt 40 (by decide) (by decide))
  · exact RSheet_fr h5 (fun k _ => by rw [gg 5 (by decide) (by decide) (by decide) (by decide) (by decide) (by decide) (by decide) (by decide)]) (fun k _ => by rw [gg 20 (by decide) (by decide) (by decide) (by decide) (by decide) (by decide) (by decide) (by decide)]) (tt 25 (by decide) (by decide)) (tt 26 (by decide) (by decide)) (tt 27 (by decide) (by decide))
  · exact RSlot_fr h6 (gg 6 (by decide) (by decide) (by decide) (by decide) (by decide) (by decide) (by decide) (by decide)) (fun k hk => by rw [mp_g (by decide), q2 3 (30 + k) (by unfold RgD; omega)]) (fun k _ => by rw [gg 5 (by decide) (by decide) (by decide) (by decide) (by decide) (by decide) (by decide) (by decide)]) (fun k _ => by rw [gg 20 (by decide) (by decide) (by decide) (by decide) (by decide) (by decide) (by decide) (by decide)]) (tt 28 (by decide) (by decide)) (tt 29 (by decide) (by decide)) (tt 30 (by decide) (by decide)) (tt 31 (by decide) (by decide)) (tt 32 (by decide) (by decide))
theorem op_back {σ τ : Mem} (W : RR2 σ τ) : LkS (f_X7_back σ) (f_X8_back τ) RR2 := by
  have W0 := W
  obtain ⟨n, nv, nt, N, hr⟩ := W
  unfold f_X7_back f_X8_back
  rcases hr.1 with ⟨z1, z2⟩ | ⟨z1, z2, n', nv', nt', I, i16, int, iT, h, hh, h2⟩
  · rw [z1, z2, if_pos rfl, if_pos rfl]
    exact LkS_mk W0
  · have e3 := I.2.2.2.2.2.2.2.1
    obtain ⟨σ1, q1, q2, q3, q4, q5⟩ := c_becomes (p0 := 0) (p1 := 1) (by decide) I
    have t22 : ∀ k, k < 2908 → mcopy τ 23 0 0 22 0 0 2908 22 0 k = τ 23 0 k := fun k hk => mc_at hk
    have tt : ∀ g, g ≠ 22 → mcopy τ 23 0 0 22 0 0 2908 g = τ g := fun g hg => mc_g hg
    rw [z1, z2, if_neg (show ¬ (1 : Int32) = 0 by decide), if_neg (show ¬ (1 : Int32) = 0 by decide), q1, bnd_s, m_aside (by decide) rfl rfl, bnd_s, sx0, bnd_s, t22 0 (by decide), q4.1.1, q4.1.2.1]
    obtain ⟨-, h3, h4, h5, h6⟩ := Rest_fr (σ' := σ1) (τ' := mcopy τ 23 0 0 22 0 0 2908) hr (Nat.le_refl _) q2.n0 (fun g x _ _ _ _ _ _ _ _ => tt g x)
    have s7 : σ1 7 0 = σ 7 0 := q2 7 0 (by unfold RgD; omega)
    refine LkS_mk ⟨n', nv', nt', ⟨?_, i16, fun t ht => TxR_congr (iT t ht) (by omega) (q2 1 t (by unfold RgD; omega)) (q2 11 t (by unfold RgD; omega)) (fun k _ hk => t22 k hk), h, hh, by rw [t22 2 (by decide)]; exact h2⟩, Or.inr ⟨by rw [s7]; exact z1, by rw [tt 8 (by decide)]; exact z2, n', nv', nt', ?_, i16, Nat.le_refl _, fun t ht => TxR_congr (iT t ht) (by omega) (q2 1 t (by unfold RgD; omega)) (q2 11 t (by unfold RgD; omega)) (fun k _ _ => by rw [tt 23 (by decide)]), h, hh, by rw [tt 23 (by decide)]; exact h2⟩, h3, h4, h5, h6⟩
    · obtain ⟨d1, d2, d3, d4⟩ := q4.2.2.2.2.1
      exact RLd_move q4 rfl rfl rfl (fun _ _ _ _ => rfl) (fun _ _ => ⟨rfl, rfl, rfl⟩) (fun _ _ => rfl) (t22 0 (by decide)) (t22 1 (by decide)) (t22 3 (by decide)) (fun k _ hk => t22 k hk) ⟨by rw [t22 4 (by decide)]; exact d1, by rw [t22 5 (by decide)]; exact d2, by rw [t22 2 (by decide)]; exact d3, by rw [t22 6 (by decide)]; exact d4⟩
    · exact RLd_off q5 rfl rfl rfl rfl rfl rfl (fun k _ => by rw [tt 23 (by decide)])
-- what is only thought
/-- the reference's row lies by -/
def Sav (τ τ' : Mem) : Prop := (∀ k, k < 108 → τ' 35 0 k = τ 22 0 k) ∧ (∀ k, 108 ≤ k → τ' 22 0 k = τ 22 0 k) ∧ FrN τ τ'
def Sam (τ τ' : Mem) : Prop := ∀ k, τ' 22 0 k = τ 22 0 k
theorem Sav_by {τ : Mem} : Sav τ (mcopy τ 22 0 0 35 0 0 108) ∧ Sam τ (mcopy τ 22 0 0 35 0 0 108) :=
  ⟨⟨fun _ hk => mc_at hk, fun k _ => by rw [mc_g (by decide)], fun g _ _ _ _ h _ _ _ _ => mc_g h⟩, fun k => by rw [mc_g (by decide)]⟩
theorem Sav.go {τ τ' τ2 : Mem} (h : Sav τ τ') (h2 : FrM τ' τ2) : Sav τ τ2 :=
  ⟨fun k hk => by rw [h2.1 35 (by decide) (by decide) (by decide)]; exact h.1 k hk, fun k hk => (h2.2 k hk).trans (h.2.1 k hk), FrN.trans h.2.2 h2.n⟩
theorem Sav.back {τ τ' : Mem} (h : Sav τ τ') : Sav τ (mcopy τ' 35 0 0 22 0 0 108) ∧ Sam τ (mcopy τ' 35 0 0 22 0 0 108) := by
  refine ⟨⟨fun k hk => by rw [mc_g (by decide)]; exact h.1 k hk, fun k hk => by rw [mc_out hk]; exact h.2.1 k hk, FrN.trans h.2.2 (fun g h22 _ _ _ _ _ _ _ _ => mc_g h22)⟩, fun k => ?_⟩
  by_cases hk : k < 108
  · rw [mc_at hk]; exact h.1 k hk
  · rw [mc_out (by omega)]; exact h.2.1 k (by omega)
theorem RLd_sam {b : Bool} {l n nv nt : Nat} {σ τ τ' : Mem} (H : RLd b l 22 σ τ n nv nt) (h : Sam τ τ') : RLd b l 22 σ τ' n nv nt := RLd_off H rfl rfl rfl rfl rfl rfl (fun k _ => h k)
theorem T_sam {nt : Nat} {σ σ' τ τ' : Mem} (T : ∀ t, t < nt → TxR 22 σ τ t) (hn : nt ≤ 14) (hs : Fm (RgD 2) σ σ') (h : ∀ k, 108 ≤ k → τ' 22 0 k = τ 22 0 k) : ∀ t, t < nt → TxR 22 σ' τ' t :=
  fun t ht => TxR_congr (T t ht) (by omega) (hs 1 t (by unfold RgD; omega)) (hs 11 t (by unfold RgD; omega)) (fun k hk _ => h k hk)
theorem RLd_02 {b : Bool} {l n nv nt : Nat} {σ σ' τ : Mem} (hl : l < 2) (H : RLd b l 22 σ τ n nv nt) (hs : Fm (RgD 2) σ σ') : RLd b l 22 σ' τ n nv nt := by
  have n10 := H.1.2.2
  have g0 : ∀ g, (g = 0 ∨ g = 13 ∨ g = 14 ∨ g = 15 ∨ g = 16) → σ' g l = σ g l := fun g hg => hs g l (by unfold RgD; omega)
  obtain ⟨d1, d2, d3, d4⟩ := H.2.2.2.2.1
  exact RLd_move H (by rw [g0 0 (by decide)]) (by rw [g0 0 (by decide)]) (by rw [g0 0 (by decide)]) (fun j hj k _ => by rw [hs 3 (10 * l + j) (by unfold RgD; omega)]) (fun v _ => ⟨by rw [g0 13 (by decide)], by rw [g0 14 (by decide)], by rw [g0 15 (by decide)]⟩) (fun k _ => by rw [g0 16 (by decide)]) rfl rfl rfl (fun _ _ _ => rfl) ⟨by rw [g0 0 (by decide)]; exact d1, by rw [g0 0 (by decide)]; exact d2, by rw [g0 0 (by decide)]; exact d3, by rw [g0 0 (by decide)]; exact d4⟩
theorem RR2_thought {σ τ σ' τ' : Mem} {n nv nt : Nat} (N : RNow σ τ n nv nt) (hr : Rest σ τ nt) (hs : Fm (RgD 2) σ σ') (h : Sam τ τ') (hf : FrN τ τ') : RR2 σ' τ' := by
  obtain ⟨H, hv16, T, hh, h1, h2⟩ := N
  have e3 := H.2.2.2.2.2.2.2.1
  exact ⟨n, nv, nt, ⟨RLd_sam (RLd_02 (by decide) H hs) h, hv16, T_sam T e3 hs (fun k _ => h k), hh, h1, by rw [h 2]; exact h2⟩, Rest_fr hr (Nat.le_refl _) hs.n2 hf⟩
theorem RLd_weak {l n nv nt G : Nat} {σ τ : Mem} (H : RLd true l G σ τ n nv nt) : RLd false l G σ τ n nv nt := by
  obtain ⟨h1, h2, hp, hw, h5, h6⟩ := H
  refine ⟨h1, h2, fun j hj => ?_, fun v hv => ?_, h5, h6⟩
  · obtain ⟨q1, q2, q3, -, q5⟩ := hp j hj
    exact ⟨q1, q2, q3, fun e => Bool.noConfusion e, q5⟩
  · obtain ⟨q1, ⟨o, o', q2, q3, q4, q5, -⟩, q6⟩ := hw v hv
    exact ⟨q1, ⟨o, o', q2, q3, q4, q5, fun e => Bool.noConfusion e⟩, q6⟩
theorem op_behind {σ τ : Mem} (W : RR2 σ τ) (a b : Int32) : LkS (f_X7_behind a b σ) (f_X8_behind a b τ) RR2 := by
  have W0 := W
  obtain ⟨n, nv, nt, N, hr⟩ := W
  obtain ⟨H, hv16, T, h, hh, h2⟩ := id N
  have e3 := H.2.2.2.2.2.2.2.1
  have n10 := H.1.2.2
  unfold f_X7_behind f_X8_behind
  rcases gd_nat (v := a) 100 (hi := 100) (lo' := 0) (hi' := 100) (by decide) (by decide) (by decide) rfl with ⟨d, hd, rfl, c1, m1⟩ | ⟨-, c1, m1⟩
  · simp only [c1, m1, sx0, H.1.1, H.1.2.1, bnd_s, e10, e01, if_false, if_true]
    rcases gd_nat (v := b) (2 + n) (hi := (2 : Int32) + nI n) (lo' := 0) (hi' := ((2 : Int32) + nI n).toInt64) (by omega) (by decide) rfl (nI_add 2 n) with ⟨q, hq, rfl, c2, m2⟩ | ⟨-, c2, m2⟩
    · obtain ⟨σ1, q1, q2, q3, q4, q5⟩ := c_becomes (p0 := 2) (p1 := 0) (by decide) H
      obtain ⟨y1, y2⟩ := Sav_by (τ := τ)
      obtain ⟨σ2, τ2, nv2, r1, r2, r3, r4, r5, r6⟩ := ls_hours (N := d) (by omega) (RLd_sam q4 y2) (T_sam T e3 q2 (fun k _ => y2 k))
      obtain ⟨z1, z2⟩ := Sav.back (Sav.go y1 r5)
      have fin : RR2 σ2 (mcopy τ2 35 0 0 22 0 0 108) := RR2_thought N hr (Fm.trans q2 r4) z2 z1.2.2
      obtain ⟨d1, d2, d3, d4⟩ := r3.2.2.2.2.1
      simp only [c2, m2, q1, m_laysBy, r1, r2, sx3, sx4, sx5, m_laysBack, bnd_s, e10, e01, if_false, if_true, -Nat.reduceMul]
      rcases (show q = 0 ∨ q = 1 ∨ q = 2 ∨ 3 ≤ q by omega) with rfl | rfl | rfl | h3
      · rw [if_pos (show nI 0 = 0 from rfl), if_pos (show nI 0 = 0 from rfl), r3.2.1.1, r3.2.1.2.1]
        exact LkS_mk fin
      · rw [if_neg (show ¬ nI 1 = 0 by decide), if_neg (show ¬ nI 1 = 0 by decide), if_pos (show nI 1 = 1 from rfl), if_pos (show nI 1 = 1 from rfl), d1]
        exact LkS_mk fin
      · rw [if_neg (show ¬ nI 2 = 0 by decide), if_neg (show ¬ nI 2 = 0 by decide), if_neg (show ¬ nI 2 = 1 by decide), if_neg (show ¬ nI 2 = 1 by decide), if_pos (show nI 2 = 2 from rfl), if_pos (show nI 2 = 2 from rfl), d2]
        exact LkS_mk fin
      · have k0 : ¬ nI q = 0 := nI_ne0 (by omega) (by omega)
        have k1 : ¬ nI q = 1 := fun e => by have := (nI_eq (a := q) (b := 1) (by omega) (by decide)).mp e; omega
        have k2 : ¬ nI q = 2 := fun e => by have := (nI_eq (a := q) (b := 2) (by omega) (by decide)).mp e; omega
        have e : nI q - 3 = nI (q - 3) := by rw [show (3 : Int32) = nI 3 from rfl, pk_sub h3]
        obtain ⟨-, -, -, p7, -⟩ := r3.2.2.1 (q - 3) (by omega)
        simp only [if_neg k0, if_neg k1, if_neg k2, e]
        rw [ix_nI (by omega) (by decide), bnd_s, q_of (e := 3) (q - 3) 3 rfl (by omega), bnd_s, p7 rfl, show 7 + 5 * (q - 3) + 3 = 10 + 5 * (q - 3) by omega]
        exact LkS_mk fin
    · simp only [c2, m2, bnd_s, e10, e01, if_false, if_true]
      exact LkS_mk W0
  · simp only [c1, m1, bnd_s, e10, e01, if_false, if_true]
    exact LkS_mk W0
theorem ls_free {n nt : Nat} : ∀ (m k nv nC nM : Nat) (σ τ : Mem), RLd true 2 22 σ τ n nv nt → (∀ t, t < nt → TxR 22 σ τ t) → k + m = 301 → m < nC → m + 1 < nM →
    ∃ r e σ' τ', f_X7_free_13 nC (nI k) σ (fun σ_1 => some (-1000000005, σ_1)) = some (r, σ') ∧ (∀ K, f_X8_free_8 nM (-1) (nI k) τ K = K e τ') ∧ (∀ s, f_X8_orNone e s = some r) ∧ Fm (RgD 2) σ σ' ∧ FrM τ τ' := by
  intro m
  induction m with
  | zero =>
    intro k nv nC nM σ τ H T hk h3 h4
    obtain ⟨nC, rfl, -⟩ := succ_of h3
    obtain ⟨nM, rfl, -⟩ := succ_of h4
    have hk : k = 301 := by omega
    subst hk
    refine ⟨-1000000005, -1, σ, τ, ?_, fun K => ?_, fun s => rfl, Fm.rf, FrM.rf⟩
    · rw [f_X7_free_13.eq_2, if_pos (show (300 : Int32) < nI 301 by decide)]
    · rw [f_X8_free_8.eq_2, if_pos (show (300 : Int32) < nI 301 by decide)]
  | succ m ih =>
    intro k nv nC nM σ τ H T hk h3 h4
    obtain ⟨nC, rfl, h3⟩ := succ_of h3
    obtain ⟨nM, rfl, h4⟩ := succ_of h4
    have e3 := H.2.2.2.2.2.2.2.1
    have b3 := H.2.1.2.2
    have ng : ¬ (300 : Int32) < nI k := nI_nlt (a := 300) (b := k) (by omega) (by decide)
    obtain ⟨σ1, τ1, nv1, q1, q2, q3, q4, q5, q6, q7⟩ := ls_hour H T
    by_cases hz : nv = 0
    · subst hz
      refine ⟨nI k, nI k, σ, τ1, ?_, fun K => ?_, fun s => ?_, Fm.rf, q5⟩
      · rw [f_X7_free_13.eq_2, if_neg ng, H.2.1.1, if_pos nI_0]
      · rw [f_X8_free_8.eq_2, if_neg ng, if_neg (show ¬ (0 : Int32) ≤ -1 by decide), sx3, bnd_s, H.2.1.2.1, if_pos nI_0, q2, bnd_s]
        obtain ⟨nM, rfl, -⟩ := succ_of (show m < nM by omega)
        rw [f_X8_free_8.eq_2, if_pos (show (0 : Int32) ≤ nI k from nI_pos' (by omega)), ite_self]
      · unfold f_X8_orNone
        rw [if_pos (show (0 : Int32) ≤ nI k from nI_pos' (by omega))]
    · have nz : ¬ nI nv = 0 := nI_ne0 (by omega) (by omega)
      obtain ⟨r, e, σ', τ', r1, r2, r3, r4, r5⟩ := ih (k + 1) nv1 nC nM σ1 τ1 q3 (T_fr T e3 q4 q5) (by omega) (by omega) (by omega)
      refine ⟨r, e, σ', τ', ?_, fun K => ?_, r3, Fm.trans q4 r4, FrM.trans q5 r5⟩
      · rw [f_X7_free_13.eq_2, if_neg ng, H.2.1.1, if_neg nz, q1, bnd_s, nI_s]
        exact r1
      · rw [f_X8_free_8.eq_2, if_neg ng, if_neg (show ¬ (0 : Int32) ≤ -1 by decide), sx3, bnd_s, H.2.1.2.1, if_neg nz, q2, bnd_s, nI_s]
        exact r2 K
theorem op_free {σ τ : Mem} (W : RR2 σ τ) : LkS (f_X7_free σ) (f_X8_free τ) RR2 := by
  obtain ⟨n, nv, nt, N, hr⟩ := W
  obtain ⟨H, hv16, T, h, hh, h2⟩ := id N
  have e3 := H.2.2.2.2.2.2.2.1
  unfold f_X7_free f_X8_free
  obtain ⟨σ1, q1, q2, q3, q4, q5⟩ := c_becomes (p0 := 2) (p1 := 0) (by decide) H
  obtain ⟨y1, y2⟩ := Sav_by (τ := τ)
  obtain ⟨r, e, σ2, τ2, r1, r2, r3, r4, r5⟩ := ls_free 301 0 nv FU FU σ1 _ (RLd_sam q4 y2) (T_sam T e3 q2 (fun k _ => y2 k)) (by omega) (fu_gt (by omega)) (fu_gt (by omega))
  obtain ⟨z1, z2⟩ := Sav.back (Sav.go y1 r5)
  have r2' := r2 (fun e1 σ_1 => bnd (f_X8_laysBack σ_1) (fun a2 => bnd (f_X8_orNone e1 a2) (fun a3 => some (a3, a2))))
  rw [show nI 0 = (0 : Int32) from rfl] at r1 r2'
  rw [q1, bnd_s, r1, m_laysBy, bnd_s, r2', m_laysBack, bnd_s, r3, bnd_s]
  exact LkS_mk (RR2_thought N hr (Fm.trans q2 r4) z2 z1.2.2)
