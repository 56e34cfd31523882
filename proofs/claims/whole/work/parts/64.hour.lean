/-- what an hour may change of the reference -/
def FrM (τ τ' : Mem) : Prop := (∀ g, g ≠ 22 → g ≠ 37 → g ≠ 38 → τ' g = τ g) ∧ (∀ k, 108 ≤ k → τ' 22 0 k = τ 22 0 k)
theorem FrM.rf {τ : Mem} : FrM τ τ := ⟨fun _ _ _ _ => rfl, fun _ _ => rfl⟩
theorem FrM.trans {a b c : Mem} (h1 : FrM a b) (h2 : FrM b c) : FrM a c := ⟨fun g x y z => (h2.1 g x y z).trans (h1.1 g x y z), fun k hk => (h2.2 k hk).trans (h1.2 k hk)⟩
theorem FrM.put {a b : Mem} {k : Nat} {v : Int32} (h : FrM a b) (hk : k < 108) : FrM a (mput b 22 0 k v) := ⟨fun g x y z => by rw [mp_g x]; exact h.1 g x y z, fun j hj => by rw [mp_k (by omega)]; exact h.2 j hj⟩
theorem FrM.off {a b c : Mem} (h : FrM a b) (h2 : ∀ g, g ≠ 37 → g ≠ 38 → c g = b g) : FrM a c := ⟨fun g x y z => by rw [h2 g y z]; exact h.1 g x y z, fun j hj => by rw [h2 22 (by decide) (by decide)]; exact h.2 j hj⟩
theorem lapM_g {τ : Mem} {v nv g : Nat} (h : g ≠ 22) : lapM τ v nv g = τ g := by
  unfold lapM
  rw [mp_g h, mp_g h]
  funext i k
  unfold shf
  rw [if_neg (fun q => h q.1)]
theorem FrM.lap {a b : Mem} {v nv : Nat} (h : FrM a b) (hb : nv ≤ 17) : FrM a (lapM b v nv) := ⟨fun g x y z => by rw [lapM_g x]; exact h.1 g x y z, fun j hj => by rw [lapM_at (by omega) (by omega), if_neg (by omega)]; exact h.2 j hj⟩
theorem Fm.lap {l : Nat} {a b : Mem} {v nv : Nat} (h : Fm (RgD l) a b) : Fm (RgD l) a (lapC b l v nv) := by
  unfold lapC
  exact (Fm.put (Fm.put (Fm.cpy (Fm.cpy (Fm.cpy h (by unfold RgD; omega)) (by unfold RgD; omega)) (by unfold RgD; omega)) (by unfold RgD; omega)) (by unfold RgD; omega))
theorem Fm.off {l : Nat} {a b c : Mem} (h : Fm (RgD l) a b) (h2 : ∀ g, g ≠ 10 → c g = b g) : Fm (RgD l) a c := by
  intro g i hn
  rw [h2 g (fun q => hn (by unfold RgD; omega))]
  exact h g i hn
theorem T_fr {l nt : Nat} {σ τ σ' τ' : Mem} (T : ∀ t, t < nt → TxR 22 σ τ t) (hn : nt ≤ 14) (h1 : Fm (RgD l) σ σ') (h2 : FrM τ τ') : ∀ t, t < nt → TxR 22 σ' τ' t :=
  fun t ht => TxR_congr (T t ht) (by omega) (h1 1 t (by unfold RgD; omega)) (h1 11 t (by unfold RgD; omega)) (fun k hk _ => h2.2 k hk)
theorem co_move {τ τ' : Mem} {G G' k : Nat} : ∀ n, (∀ t, t < n → τ' G' 0 (108 + 200 * t) = τ G 0 (108 + 200 * t)) → co τ' G' k n = co τ G k n := by
  intro n
  induction n with
  | zero => intro _; rfl
  | succ n ih =>
    intro h
    rw [co, co, h n (by omega), ih (fun t ht => h t (by omega))]
theorem RLd_move {b : Bool} {l l' G G' : Nat} {σ τ σ' τ' : Mem} {n nv nt : Nat} (H : RLd b l G σ τ n nv nt) (e2 : σ' 0 l' 2 = σ 0 l 2) (e6 : σ' 0 l' 6 = σ 0 l 6) (e11 : σ' 0 l' 11 = σ 0 l 11)
    (h3 : ∀ j, j < n → ∀ k, k < 5 → σ' 3 (10 * l' + j) k = σ 3 (10 * l + j) k)
    (hv : ∀ v, v < nv → σ' 13 l' v = σ 13 l v ∧ σ' 14 l' v = σ 14 l v ∧ σ' 15 l' v = σ 15 l v)
    (h16 : ∀ k, k < 3 → σ' 16 l' k = σ 16 l k)
    (t0 : τ' G' 0 0 = τ G 0 0) (t1 : τ' G' 0 1 = τ G 0 1) (t3 : τ' G' 0 3 = τ G 0 3)
    (ht : ∀ k, 7 ≤ k → k < 2908 → τ' G' 0 k = τ G 0 k) (hc : RLc l' G' σ' τ') : RLd b l' G' σ' τ' n nv nt := by
  obtain ⟨⟨a1, a2, a3⟩, ⟨b1, b2, b3⟩, hp, hw, -, x1, x2, x3, x4⟩ := H
  refine ⟨⟨e2.trans a1, t0.trans a2, a3⟩, ⟨e6.trans b1, t3.trans b2, b3⟩, ?_, ?_, hc, e11.trans x1, t1.trans x2, x3, ?_⟩
  · intro j hj
    rw [h3 j hj 0 (by decide), h3 j hj 1 (by decide), h3 j hj 2 (by decide), h3 j hj 3 (by decide), h3 j hj 4 (by decide), ht _ (by omega) (by omega), ht _ (by omega) (by omega), ht _ (by omega) (by omega), ht _ (by omega) (by omega), ht _ (by omega) (by omega)]
    exact hp j hj
  · intro v hvv
    obtain ⟨q1, q2, q3⟩ := hv v hvv
    rw [q1, q2, q3, ht _ (by omega) (by omega), ht _ (by omega) (by omega), ht _ (by omega) (by omega)]
    exact hw v hvv
  · intro k hk
    rw [h16 k hk, co_move nt (fun t htt => ht _ (by omega) (by omega))]
    exact x4 k hk
theorem RLd_cell {b : Bool} {l G : Nat} {σ τ : Mem} {n nv nt k k' : Nat} {v : Int32} (H : RLd b l G σ τ n nv nt) (hk : (k, k') ∈ [(7, 4), (8, 5), (9, 2), (10, 6)]) : RLd b l G (mput σ 0 l k v) (mput τ G 0 k' v) n nv nt := by
  have hk2 : k ≠ 2 ∧ k ≠ 6 ∧ k ≠ 11 ∧ k' ≠ 0 ∧ k' ≠ 1 ∧ k' ≠ 3 ∧ k' < 7 := by
    simp only [List.mem_cons, List.not_mem_nil, or_false, Prod.mk.injEq] at hk
    omega
  obtain ⟨z1, z2, z3, z4, z5, z6, z7⟩ := hk2
  obtain ⟨d1, d2, d3, d4⟩ := H.2.2.2.2.1
  refine RLd_move H (mp_k (Ne.symm z1)) (mp_k (Ne.symm z2)) (mp_k (Ne.symm z3)) (fun j _ i _ => by rw [mp_g (by decide)]) (fun w _ => ⟨by rw [mp_g (by decide)], by rw [mp_g (by decide)], by rw [mp_g (by decide)]⟩) (fun i _ => by rw [mp_g (by decide)]) (mp_k (Ne.symm z4)) (mp_k (Ne.symm z5)) (mp_k (Ne.symm z6)) (fun i h1 _ => mp_k (by omega)) ?_
  simp only [List.mem_cons, List.not_mem_nil, or_false, Prod.mk.injEq] at hk
  rcases hk with ⟨rfl, rfl⟩ | ⟨rfl, rfl⟩ | ⟨rfl, rfl⟩ | ⟨rfl, rfl⟩
  · exact ⟨by rw [mput_same, mput_same], by rw [mp_k (by decide), mp_k (by decide)]; exact d2, by rw [mp_k (by decide), mp_k (by decide)]; exact d3, by rw [mp_k (by decide), mp_k (by decide)]; exact d4⟩
  · exact ⟨by rw [mp_k (by decide), mp_k (by decide)]; exact d1, by rw [mput_same, mput_same], by rw [mp_k (by decide), mp_k (by decide)]; exact d3, by rw [mp_k (by decide), mp_k (by decide)]; exact d4⟩
  · exact ⟨by rw [mp_k (by decide), mp_k (by decide)]; exact d1, by rw [mp_k (by decide), mp_k (by decide)]; exact d2, by rw [mput_same, mput_same], by rw [mp_k (by decide), mp_k (by decide)]; exact d4⟩
  · exact ⟨by rw [mp_k (by decide), mp_k (by decide)]; exact d1, by rw [mp_k (by decide), mp_k (by decide)]; exact d2, by rw [mp_k (by decide), mp_k (by decide)]; exact d3, by rw [mput_same, mput_same]⟩
theorem RLd_off {b : Bool} {l G : Nat} {σ τ σ' τ' : Mem} {n nv nt : Nat} (H : RLd b l G σ τ n nv nt) (h0 : σ' 0 l = σ 0 l) (h3 : σ' 3 = σ 3) (h13 : σ' 13 l = σ 13 l) (h14 : σ' 14 l = σ 14 l) (h15 : σ' 15 l = σ 15 l) (h16 : σ' 16 l = σ 16 l) (hG : ∀ k, k < 2908 → τ' G 0 k = τ G 0 k) : RLd b l G σ' τ' n nv nt := by
  refine RLd_move H (by rw [h0]) (by rw [h0]) (by rw [h0]) (fun j _ i _ => by rw [h3]) (fun w _ => ⟨by rw [h13], by rw [h14], by rw [h15]⟩) (fun i _ => by rw [h16]) (hG _ (by decide)) (hG _ (by decide)) (hG _ (by decide)) (fun i _ h => hG i h) ?_
  obtain ⟨d1, d2, d3, d4⟩ := H.2.2.2.2.1
  exact ⟨by rw [h0, hG _ (by decide)]; exact d1, by rw [h0, hG _ (by decide)]; exact d2, by rw [h0, hG _ (by decide)]; exact d3, by rw [h0, hG _ (by decide)]; exact d4⟩
theorem RLd_purse {b : Bool} {l G : Nat} {σ τ : Mem} {n nv nt o o' : Nat} {x y : Int32} (H : RLd b l G σ τ n nv nt) (ho : o < n) (ho' : o' < n) (hx : b = true → o = o' ∧ x = y) : RLd b l G (mput σ 3 (10 * l + o) 3 x) (mput τ G 0 (10 + 5 * o') y) n nv nt := by
  obtain ⟨⟨a1, a2, a3⟩, ⟨b1, b2, b3⟩, hp, hw, ⟨d1, d2, d3, d4⟩, x1, x2, x3, x4⟩ := H
  refine ⟨⟨?_, ?_, a3⟩, ⟨?_, ?_, b3⟩, ?_, ?_, ⟨?_, ?_, ?_, ?_⟩, ?_, ?_, x3, ?_⟩
  · rw [mp_g (by decide)]; exact a1
  · rw [mp_k (by omega)]; exact a2
  · rw [mp_g (by decide)]; exact b1
  · rw [mp_k (by omega)]; exact b2
  · intro j hj
    obtain ⟨q1, q2, q3, q4, q5⟩ := hp j hj
    rw [mp_k (show 0 ≠ 3 by decide), mp_k (show 1 ≠ 3 by decide), mp_k (show 2 ≠ 3 by decide), mp_k (show 4 ≠ 3 by decide), mp_k (show 7 + 5 * j ≠ 10 + 5 * o' by omega), mp_k (show 8 + 5 * j ≠ 10 + 5 * o' by omega), mp_k (show 9 + 5 * j ≠ 10 + 5 * o' by omega), mp_k (show 11 + 5 * j ≠ 10 + 5 * o' by omega)]
    refine ⟨q1, q2, q3, fun hb => ?_, q5⟩
    obtain ⟨rfl, rfl⟩ := hx hb
    by_cases e : j = o
    · subst e
      rw [mput_same, mput_same]
    · rw [mp_i (by omega), mp_k (by omega)]
      exact q4 hb
  · intro v hv
    rw [mp_g (show 13 ≠ 3 by decide), mp_g (show 14 ≠ 3 by decide), mp_g (show 15 ≠ 3 by decide), mp_k (show 57 + 3 * v ≠ 10 + 5 * o' by omega), mp_k (show 58 + 3 * v ≠ 10 + 5 * o' by omega), mp_k (show 59 + 3 * v ≠ 10 + 5 * o' by omega)]
    exact hw v hv
  · rw [mp_g (by decide), mp_k (by omega)]; exact d1
  · rw [mp_g (by decide), mp_k (by omega)]; exact d2
  · rw [mp_g (by decide), mp_k (by omega)]; exact d3
  · rw [mp_g (by decide), mp_k (by omega)]; exact d4
  · rw [mp_g (by decide)]; exact x1
  · rw [mp_k (by omega)]; exact x2
  · intro k hk
    rw [mp_g (by decide), co_congr nt (fun t _ => mp_k (by omega))]
    exact x4 k hk
-- draws
def nxtV (z : Int32) : Int32 := z * (1103515245 : Int32) + (12345 : Int32)
def drwV (z : Int32) : Int32 := ((nxtV z).toUInt32 >>> (((8 : Int32)).toUInt32 &&& Int32.toUInt32 31)).toInt32
theorem c_draw {σ : Mem} {l : Nat} : f_X0_draw l σ = some (drwV (σ 0 l 10), mput σ 0 l 10 (nxtV (σ 0 l 10))) := by
  unfold f_X0_draw
  rw [mput_same]
  rfl
theorem m_drawn {τ : Mem} : f_X8_drawn τ = some (drwV (τ 22 0 6), mput τ 22 0 6 (nxtV (τ 22 0 6))) := by
  unfold f_X8_drawn
  rw [sx6, bnd_s, bnd_s, bnd_s, mput_same]
  rfl
theorem c_receive {σ : Mem} {i : Nat} {a : Int32} : f_X3_receive i a σ = some (mput σ 3 i 3 (clampV (σ 3 i 3 + a) (-9999) 9999)) := by
  unfold f_X3_receive
  rw [c_held σ (by decide), bnd_s]
theorem m_earns {τ : Mem} {k : Nat} {a : Int32} (hk : k < 600) : f_X8_earns (nI k) a τ = some (mput τ 22 0 (10 + 5 * k) (clampV (τ 22 0 (10 + 5 * k) + a) (-9999) 9999)) := by
  unfold f_X8_earns
  rw [q_of (e := 3) k 3 rfl (by omega), bnd_s, m_within, bnd_s, q_sets (e := 3) k 3 rfl (by omega), bnd_s, show 7 + 5 * k + 3 = 10 + 5 * k by omega]
set_option maxHeartbeats 2000000 in
theorem ls_noon {b : Bool} {l n nt all : Nat} : ∀ (m v called nv nC nM : Nat) (σ τ : Mem), RLd b l 22 σ τ n nv nt → (∀ t, t < nt → TxR 22 σ τ t) → called + m = all → v + m = nv → all < 100 → m < nC → m < nM →
    ∃ σ' τ' nv', (∀ K, f_X0_callVowsAtNoon_9 l (nI all) nC (nI v) (nI called) σ K = K σ') ∧ (∀ K, f_X8_goesOn_12 nM (nI v) τ K = K τ') ∧ RLd b l 22 σ' τ' n nv' nt ∧ Fm (RgD l) σ σ' ∧ FrM τ τ' ∧ τ' 22 0 2 = τ 22 0 2 ∧ nv' ≤ nv := by
  intro m
  induction m with
  | zero =>
    intro v called nv nC nM σ τ H T h1 h2 h0 h3 h4
    obtain ⟨nC, rfl, -⟩ := succ_of h3
    obtain ⟨nM, rfl, -⟩ := succ_of h4
    refine ⟨σ, τ, nv, fun K => ?_, fun K => ?_, H, Fm.rf, FrM.rf, rfl, Nat.le_refl _⟩
    · rw [f_X0_callVowsAtNoon_9.eq_2, if_pos (nI_le (by omega) (by omega))]
    · rw [f_X8_goesOn_12.eq_2, sx3, bnd_s, H.2.1.2.1, if_pos (nI_le (by omega) (by have := H.2.1.2.2; omega))]
  | succ m ih =>
    intro v called nv nC nM σ τ H T h1 h2 h0 h3 h4
    obtain ⟨nC, rfl, h3⟩ := succ_of h3
    obtain ⟨nM, rfl, h4⟩ := succ_of h4
    have H0 := H
    obtain ⟨⟨a1, a2, a3⟩, ⟨b1, b2, b3⟩, hp, hw, ⟨d1, d2, d3, d4⟩, e1, e2, e3, e4⟩ := H
    obtain ⟨⟨o, ho, w1, w2⟩, -, w3⟩ := hw v (by omega)
    obtain ⟨⟨kd, hkd, p1, p2⟩, ⟨e, he, p3, p4⟩, -⟩ := hp o ho
    have noonC := c_noon p1 hkd
    have noonM := m_noon p2 hkd (by omega)
    rw [p3] at noonC
    rw [p4] at noonM
    have i17 : ix 17 (nI v) = some v := ix_nI (by omega) (by decide)
    have i10 : ix 10 (nI o) = some o := ix_nI (by omega) (by decide)
    have m0 : f_X8_vowIs (nI v) 0 τ = some (nI o) := by rw [q_vowIs (e := 0) v 0 rfl (by omega), Nat.add_zero, w2]
    by_cases hno : noonV kd (nI e) = (τ 22 0 2 - τ 22 0 2 / 24 * 24)
    · have dC := c_draw (σ := σ) (l := l)
      have dM := m_drawn (τ := τ)
      rw [d4] at dC
      have H1 := RLd_cell (k := 10) (k' := 6) (v := nxtV (τ 22 0 6)) H0 (by decide)
      have F1 : Fm (RgD l) σ (mput σ 0 l 10 (nxtV (τ 22 0 6))) := Fm.put Fm.rf (by unfold RgD; omega)
      have G1 : FrM τ (mput τ 22 0 6 (nxtV (τ 22 0 6))) := FrM.put FrM.rf (by decide)
      generalize hs1 : mput σ 0 l 10 (nxtV (τ 22 0 6)) = σ1 at dC H1 F1
      have k2 : mput τ 22 0 6 (nxtV (τ 22 0 6)) 22 0 2 = τ 22 0 2 := mp_k (by decide)
      generalize ht1 : mput τ 22 0 6 (nxtV (τ 22 0 6)) = τ1 at dM H1 G1 k2
      obtain ⟨r, σ2, τ2, x1, x2, x3, x4⟩ := ls_keeps H1 (T_fr T e3 F1 G1) (v := v) (by omega)
      have H2 : RLd b l 22 σ2 τ2 n nv nt := RLd_off H1 (by rw [x3 0 (by decide)]) (x3 3 (by decide)) (by rw [x3 13 (by decide)]) (by rw [x3 14 (by decide)]) (by rw [x3 15 (by decide)]) (by rw [x3 16 (by decide)]) (fun k _ => by rw [x4 22 (by decide) (by decide)])
      have F2 := Fm.off F1 x3
      have G2 := FrM.off G1 x4
      have k3 : τ2 22 0 2 = τ 22 0 2 := by rw [x4 22 (by decide) (by decide)]; exact k2
      by_cases hlt : drwV (τ 22 0 6) - drwV (τ 22 0 6) / 100 * 100 < r
      · have H3 := RLd_cell (k := 7) (k' := 4) (v := τ2 22 0 4 + 1) H2 (by decide)
        obtain ⟨σ', τ', nv', q1, q2, q3, q4, q5, q6, q7⟩ := ih (v + 1) (called + 1) nv nC nM _ _ H3 (T_fr T e3 (Fm.put F2 (by unfold RgD; omega)) (FrM.put G2 (by decide))) (by omega) (by omega) h0 (by omega) (by omega)
        refine ⟨σ', τ', nv', fun K => ?_, fun K => ?_, q3, Fm.trans (Fm.put F2 (by unfold RgD; omega)) q4, FrM.trans (FrM.put G2 (by decide)) q5, ?_, q7⟩
        · rw [f_X0_callVowsAtNoon_9.eq_2, if_neg (nI_ge (by omega) (by omega)), i17, bnd_s, w1, i10, bnd_s, noonC, bnd_s, d3, if_pos hno, dC, bnd_s]
          show bnd (f_X0_keeps l (nI v) σ1) _ = _
          rw [x1, bnd_s]
          show (if r ≤ drwV (τ 22 0 6) - drwV (τ 22 0 6) / 100 * 100 then _ else _) = _
          rw [if_neg (pl_nle.mpr hlt), nI_s, nI_s]
          show f_X0_callVowsAtNoon_9 l (nI all) nC _ _ (mput σ2 0 l 7 (σ2 0 l 7 + 1)) K = K σ'
          rw [H2.2.2.2.2.1.1]
          exact q1 K
        · rw [f_X8_goesOn_12.eq_2, sx3, bnd_s, b2, if_neg (nI_ge (by omega) (by omega)), m0, bnd_s, noonM, bnd_s, sx2, bnd_s, if_pos hno, dM, bnd_s]
          show bnd (f_X8_keeps (nI v) τ1) _ = _
          rw [x2, bnd_s]
          show (if drwV (τ 22 0 6) - drwV (τ 22 0 6) / 100 * 100 < r then _ else _) = _
          rw [if_pos hlt, sx4, bnd_s, bnd_s, nI_s]
          exact q2 K
        · rw [q6, mp_k (by decide)]; exact k3
      · have H3 := RLd_lapse H2 (v := v) (by omega)
        obtain ⟨σ', τ', nv', q1, q2, q3, q4, q5, q6, q7⟩ := ih v (called + 1) (nv - 1) nC nM _ _ H3 (T_fr T e3 (Fm.lap F2) (FrM.lap G2 b3)) (by omega) (by omega) h0 (by omega) (by omega)
        refine ⟨σ', τ', nv', fun K => ?_, fun K => ?_, q3, Fm.trans (Fm.lap F2) q4, FrM.trans (FrM.lap G2 b3) q5, ?_, by omega⟩
        · rw [f_X0_callVowsAtNoon_9.eq_2, if_neg (nI_ge (by omega) (by omega)), i17, bnd_s, w1, i10, bnd_s, noonC, bnd_s, d3, if_pos hno, dC, bnd_s]
          show bnd (f_X0_keeps l (nI v) σ1) _ = _
          rw [x1, bnd_s]
          show (if r ≤ drwV (τ 22 0 6) - drwV (τ 22 0 6) / 100 * 100 then _ else _) = _
          rw [if_pos (pl_nlt.mp hlt), c_lapse H2.2.1.1 b3 (by omega), bnd_s, nI_s]
          exact q1 K
        · rw [f_X8_goesOn_12.eq_2, sx3, bnd_s, b2, if_neg (nI_ge (by omega) (by omega)), m0, bnd_s, noonM, bnd_s, sx2, bnd_s, if_pos hno, dM, bnd_s]
          show bnd (f_X8_keeps (nI v) τ1) _ = _
          rw [x2, bnd_s]
          show (if drwV (τ 22 0 6) - drwV (τ 22 0 6) / 100 * 100 < r then _ else _) = _
          rw [if_neg hlt, m_goes H2.2.1.2.1 b3 (by omega), bnd_s]
          exact q2 K
        · rw [q6, lapM_at (by decide) (by decide), if_neg (by omega)]; exact k3
    · have H3 : RLd b l 22 σ (mput τ 22 0 4 (τ 22 0 4 + 0)) n nv nt := RLd_off H0 rfl rfl rfl rfl rfl rfl (fun k _ => by
        by_cases e : k = 4
        · subst e; rw [mput_same, Int32.add_zero]
        · rw [mp_k e])
      obtain ⟨σ', τ', nv', q1, q2, q3, q4, q5, q6, q7⟩ := ih (v + 1) (called + 1) nv nC nM _ _ H3 (T_fr T e3 (Fm.rf (P := RgD l)) (FrM.put FrM.rf (by decide))) (by omega) (by omega) h0 (by omega) (by omega)
      refine ⟨σ', τ', nv', fun K => ?_, fun K => ?_, q3, q4, FrM.trans (FrM.put FrM.rf (by decide)) q5, ?_, q7⟩
      · rw [f_X0_callVowsAtNoon_9.eq_2, if_neg (nI_ge (by omega) (by omega)), i17, bnd_s, w1, i10, bnd_s, noonC, bnd_s, d3, if_neg hno, nI_s, nI_s]
        exact q1 K
      · rw [f_X8_goesOn_12.eq_2, sx3, bnd_s, b2, if_neg (nI_ge (by omega) (by omega)), m0, bnd_s, noonM, bnd_s, sx2, bnd_s, if_neg hno, sx4, bnd_s, bnd_s, nI_s]
        exact q2 K
      · rw [q6, mp_k (by decide)]
set_option maxHeartbeats 2000000 in
theorem ls_pay {b : Bool} {l n nv nt : Nat} : ∀ (m v nC nM : Nat) (σ τ : Mem), RLd b l 22 σ τ n nv nt → v + m = nv → m < nC → m < nM →
    ∃ σ' τ', (∀ K, f_X0_payDebts_2 l nC (nI v) σ K = K σ') ∧ (∀ K, f_X8_goesOn_103 nM (nI v) τ K = K τ') ∧ RLd b l 22 σ' τ' n nv nt ∧ Fm (RgD l) σ σ' ∧ FrM τ τ' ∧ τ' 22 0 2 = τ 22 0 2 := by
  intro m
  induction m with
  | zero =>
    intro v nC nM σ τ H h2 h3 h4
    obtain ⟨nC, rfl, -⟩ := succ_of h3
    obtain ⟨nM, rfl, -⟩ := succ_of h4
    have b3 := H.2.1.2.2
    refine ⟨σ, τ, fun K => ?_, fun K => ?_, H, Fm.rf, FrM.rf, rfl⟩
    · rw [f_X0_payDebts_2.eq_2, H.2.1.1, if_pos (nI_le (by omega) (by omega))]
    · rw [f_X8_goesOn_103.eq_2, sx3, bnd_s, H.2.1.2.1, if_pos (nI_le (by omega) (by omega))]
  | succ m ih =>
    intro v nC nM σ τ H h2 h3 h4
    obtain ⟨nC, rfl, h3⟩ := succ_of h3
    obtain ⟨nM, rfl, h4⟩ := succ_of h4
    have H0 := H
    obtain ⟨⟨a1, a2, a3⟩, ⟨b1, b2, b3⟩, hp, hw, ⟨d1, d2, d3, d4⟩, e1, e2, e3, e4⟩ := H
    obtain ⟨⟨o, ho, w1, w2⟩, ⟨u, u', hu, hu', w4, w5, w6⟩, w3⟩ := hw v (by omega)
    obtain ⟨⟨kd, hkd, p1, p2⟩, -, -, p7, -⟩ := hp o ho
    have i17 : ix 17 (nI v) = some v := ix_nI (by omega) (by decide)
    have i10 : ix 10 (nI o) = some o := ix_nI (by omega) (by decide)
    have i10u : ix 10 (nI u) = some u := ix_nI (by omega) (by decide)
    have m0 : f_X8_vowIs (nI v) 0 τ = some (nI o) := by rw [q_vowIs (e := 0) v 0 rfl (by omega), Nat.add_zero, w2]
    have m2 : f_X8_vowIs (nI v) 2 τ = some (τ 22 0 (59 + 3 * v)) := by rw [q_vowIs (e := 2) v 2 rfl (by omega), show 57 + 3 * v + 2 = 59 + 3 * v by omega]
    have pyC := c_pays p1 hkd
    have pyM := m_pays p2 hkd (by omega)
    by_cases h2w : τ 22 0 (59 + 3 * v) = 2
    · have rc := c_receive (σ := σ) (i := 10 * l + o) (a := -paysV kd)
      have re := m_earns (τ := τ) (k := o) (a := -paysV kd) (by omega)
      have H1 := RLd_purse (o := o) (o' := o) (x := clampV (σ 3 (10 * l + o) 3 + -paysV kd) (-9999) 9999) (y := clampV (τ 22 0 (10 + 5 * o) + -paysV kd) (-9999) 9999) H0 ho ho (fun hb => ⟨rfl, by rw [p7 hb]⟩)
      have F1 : Fm (RgD l) σ (mput σ 3 (10 * l + o) 3 (clampV (σ 3 (10 * l + o) 3 + -paysV kd) (-9999) 9999)) := Fm.put Fm.rf (by unfold RgD; omega)
      have G1 : FrM τ (mput τ 22 0 (10 + 5 * o) (clampV (τ 22 0 (10 + 5 * o) + -paysV kd) (-9999) 9999)) := FrM.put FrM.rf (by omega)
      have k14 : mput σ 3 (10 * l + o) 3 (clampV (σ 3 (10 * l + o) 3 + -paysV kd) (-9999) 9999) 14 l v = nI u := by rw [mp_g (by decide), w4]
      have k2 : mput τ 22 0 (10 + 5 * o) (clampV (τ 22 0 (10 + 5 * o) + -paysV kd) (-9999) 9999) 22 0 2 = τ 22 0 2 := mp_k (by omega)
      have m1 : f_X8_vowIs (nI v) 1 (mput τ 22 0 (10 + 5 * o) (clampV (τ 22 0 (10 + 5 * o) + -paysV kd) (-9999) 9999)) = some (nI u') := by rw [q_vowIs (e := 1) v 1 rfl (by omega), mp_k (by omega), show 57 + 3 * v + 1 = 58 + 3 * v by omega, w5]
      generalize mput σ 3 (10 * l + o) 3 (clampV (σ 3 (10 * l + o) 3 + -paysV kd) (-9999) 9999) = σ1 at rc H1 F1 k14
      generalize mput τ 22 0 (10 + 5 * o) (clampV (τ 22 0 (10 + 5 * o) + -paysV kd) (-9999) 9999) = τ1 at re H1 G1 k2 m1
      have rc2 := c_receive (σ := σ1) (i := 10 * l + u) (a := paysV kd)
      have re2 := m_earns (τ := τ1) (k := u') (a := paysV kd) (by omega)
      have H2 := RLd_purse (o := u) (o' := u') (x := clampV (σ1 3 (10 * l + u) 3 + paysV kd) (-9999) 9999) (y := clampV (τ1 22 0 (10 + 5 * u') + paysV kd) (-9999) 9999) H1 hu hu' (fun hb => ⟨w6 hb, by
        have e := w6 hb
        subst e
        obtain ⟨-, -, -, z, -⟩ := H1.2.2.1 u hu
        rw [z hb]⟩)
      have F2 : Fm (RgD l) σ (mput σ1 3 (10 * l + u) 3 (clampV (σ1 3 (10 * l + u) 3 + paysV kd) (-9999) 9999)) := Fm.put F1 (by unfold RgD; omega)
      have G2 : FrM τ (mput τ1 22 0 (10 + 5 * u') (clampV (τ1 22 0 (10 + 5 * u') + paysV kd) (-9999) 9999)) := FrM.put G1 (by omega)
      have k3 : mput τ1 22 0 (10 + 5 * u') (clampV (τ1 22 0 (10 + 5 * u') + paysV kd) (-9999) 9999) 22 0 2 = τ 22 0 2 := (mp_k (by omega)).trans k2
      generalize mput σ1 3 (10 * l + u) 3 (clampV (σ1 3 (10 * l + u) 3 + paysV kd) (-9999) 9999) = σ2 at rc2 H2 F2
      generalize mput τ1 22 0 (10 + 5 * u') (clampV (τ1 22 0 (10 + 5 * u') + paysV kd) (-9999) 9999) = τ2 at re2 H2 G2 k3
      obtain ⟨σ', τ', q1, q2, q3, q4, q5, q6⟩ := ih (v + 1) nC nM σ2 τ2 H2 (by omega) (by omega) (by omega)
      refine ⟨σ', τ', fun K => ?_, fun K => ?_, q3, Fm.trans F2 q4, FrM.trans G2 q5, q6.trans k3⟩
      · rw [f_X0_payDebts_2.eq_2, b1, if_neg (nI_ge (by omega) (by omega)), i17, bnd_s, w3, if_pos h2w, bnd_s, w1, i10, bnd_s, pyC, bnd_s, bnd_s, w1, i10, bnd_s, rc, bnd_s, bnd_s, k14, i10u, bnd_s, rc2, bnd_s, nI_s]
        exact q1 K
      · rw [f_X8_goesOn_103.eq_2, sx3, bnd_s, b2, if_neg (nI_ge (by omega) (by omega)), m2, bnd_s, if_pos h2w, m0, bnd_s, pyM, bnd_s, bnd_s, re, bnd_s, m1, bnd_s, re2, bnd_s, nI_s]
        exact q2 K
    · obtain ⟨σ', τ', q1, q2, q3, q4, q5, q6⟩ := ih (v + 1) nC nM σ τ H0 (by omega) (by omega) (by omega)
      refine ⟨σ', τ', fun K => ?_, fun K => ?_, q3, q4, q5, q6⟩
      · rw [f_X0_payDebts_2.eq_2, b1, if_neg (nI_ge (by omega) (by omega)), i17, bnd_s, w3, if_neg h2w, nI_s]
        exact q1 K
      · rw [f_X8_goesOn_103.eq_2, sx3, bnd_s, b2, if_neg (nI_ge (by omega) (by omega)), m2, bnd_s, if_neg h2w, nI_s]
        exact q2 K
theorem ls_hour {b : Bool} {l n nv nt : Nat} {σ τ : Mem} (H : RLd b l 22 σ τ n nv nt) (T : ∀ t, t < nt → TxR 22 σ τ t) :
    ∃ σ' τ' nv', f_X0_passHour l σ = some σ' ∧ f_X8_goesOn τ = some τ' ∧ RLd b l 22 σ' τ' n nv' nt ∧ Fm (RgD l) σ σ' ∧ FrM τ τ' ∧ τ' 22 0 2 = τ 22 0 2 + 1 ∧ nv' ≤ nv := by
  have b3 := H.2.1.2.2
  have e3 := H.2.2.2.2.2.2.2.1
  have d3 := H.2.2.2.2.1.2.2.1
  have H1 := RLd_cell (k := 9) (k' := 2) (v := τ 22 0 2 + 1) H (by decide)
  have F1 : Fm (RgD l) σ (mput σ 0 l 9 (τ 22 0 2 + 1)) := Fm.put Fm.rf (by unfold RgD; omega)
  have G1 : FrM τ (mput τ 22 0 2 (τ 22 0 2 + 1)) := FrM.put FrM.rf (by decide)
  have b6 := H1.2.1.1
  obtain ⟨σ2, τ2, nv2, q1, q2, q3, q4, q5, q6, q7⟩ := ls_noon (all := nv) nv 0 0 nv FU FU _ _ H1 (T_fr T e3 F1 G1) (by omega) (by omega) (by omega) (fu_gt (by omega)) (fu_gt (by omega))
  obtain ⟨σ3, τ3, r1, r2, r3, r4, r5, r6⟩ := ls_pay nv2 0 FU FU σ2 τ2 q3 (by omega) (fu_gt (by omega)) (fu_gt (by omega))
  refine ⟨σ3, τ3, nv2, ?_, ?_, r3, Fm.trans (Fm.trans F1 q4) r4, FrM.trans (FrM.trans G1 q5) r5, by rw [r6, q6, mput_same], q7⟩
  · unfold f_X0_passHour f_X0_callVowsAtNoon f_X0_payDebts
    rw [d3, b6]
    show bnd (f_X0_callVowsAtNoon_9 l (nI nv) FU (nI 0) (nI 0) _ _) _ = _
    rw [q1, bnd_s]
    show bnd (f_X0_payDebts_2 l FU (nI 0) σ2 _) _ = _
    rw [r1, bnd_s]
  · unfold f_X8_goesOn
    rw [sx2, bnd_s, bnd_s]
    show f_X8_goesOn_12 FU (nI 0) _ _ = _
    rw [q2]
    show f_X8_goesOn_103 FU (nI 0) τ2 _ = _
    rw [r2]
theorem ls_hours_loop {b : Bool} {l n nt N : Nat} (hN : N < 5000) : ∀ (m i nv nC nM : Nat) (σ τ : Mem), RLd b l 22 σ τ n nv nt → (∀ t, t < nt → TxR 22 σ τ t) → i + m = N → m < nC → m < nM →
    ∃ σ' τ' nv', (∀ K, f_X0_passHours_2 l (nI N) nC (nI i) σ K = K σ') ∧ (∀ K, f_X8_goesOnMany_2 (nI N) nM (nI i) τ K = K τ') ∧ RLd b l 22 σ' τ' n nv' nt ∧ Fm (RgD l) σ σ' ∧ FrM τ τ' ∧ nv' ≤ nv := by
  intro m
  induction m with
  | zero =>
    intro i nv nC nM σ τ H T hi h3 h4
    obtain ⟨nC, rfl, -⟩ := succ_of h3
    obtain ⟨nM, rfl, -⟩ := succ_of h4
    refine ⟨σ, τ, nv, fun K => ?_, fun K => ?_, H, Fm.rf, FrM.rf, Nat.le_refl _⟩
    · rw [f_X0_passHours_2.eq_2, if_pos (nI_le (by omega) (by omega))]
    · rw [f_X8_goesOnMany_2.eq_2, if_pos (nI_le (by omega) (by omega))]
  | succ m ih =>
    intro i nv nC nM σ τ H T hi h3 h4
    obtain ⟨nC, rfl, h3⟩ := succ_of h3
    obtain ⟨nM, rfl, h4⟩ := succ_of h4
    have e3 := H.2.2.2.2.2.2.2.1
    obtain ⟨σ1, τ1, nv1, q1, q2, q3, q4, q5, -, q7⟩ := ls_hour H T
    obtain ⟨σ', τ', nv', r1, r2, r3, r4, r5, r6⟩ := ih (i + 1) nv1 nC nM σ1 τ1 q3 (T_fr T e3 q4 q5) (by omega) (by omega) (by omega)
    refine ⟨σ', τ', nv', fun K => ?_, fun K => ?_, r3, Fm.trans q4 r4, FrM.trans q5 r5, by omega⟩
    · rw [f_X0_passHours_2.eq_2, if_neg (nI_ge (by omega) (by omega)), q1, bnd_s, nI_s]
      exact r1 K
    · rw [f_X8_goesOnMany_2.eq_2, if_neg (nI_ge (by omega) (by omega)), q2, bnd_s, nI_s]
      exact r2 K
theorem ls_hours {b : Bool} {l n nv nt N : Nat} {σ τ : Mem} (hN : N < 5000) (H : RLd b l 22 σ τ n nv nt) (T : ∀ t, t < nt → TxR 22 σ τ t) :
    ∃ σ' τ' nv', f_X0_passHours l (nI N) σ = some σ' ∧ f_X8_goesOnMany (nI N) τ = some τ' ∧ RLd b l 22 σ' τ' n nv' nt ∧ Fm (RgD l) σ σ' ∧ FrM τ τ' ∧ nv' ≤ nv := by
  obtain ⟨σ', τ', nv', q1, q2, q⟩ := ls_hours_loop hN N 0 nv FU FU σ τ H T (by omega) (fu_gt hN) (fu_gt hN)
  exact ⟨σ', τ', nv', q1 _, q2 _, q⟩
