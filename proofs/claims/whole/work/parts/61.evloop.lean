theorem ms_exit {τ : Mem} {t len n : Nat} {K : Mem → Option (Int32 × Mem)} (ht : t < 14) (hl : τ 22 0 (110 + 200 * t) = nI len) (hL : len ≤ 96) (v2 : Int32) : f_X8_worked_4 (nI t) (n + 1) v2 (nI len) τ K = K τ := by
  have e1 : nI (108 + 200 * t) + (2 : Int32) = nI (110 + 200 * t) := by
    rw [show (2 : Int32) = nI 2 from rfl, nI_add, show 108 + 200 * t + 2 = 110 + 200 * t by omega]
  rw [f_X8_worked_4.eq_2, m_textAt, bnd_s, e1, ix_nI (by omega) (by decide), bnd_s, hl, if_pos (nI_le (Nat.le_refl _) (by omega))]
theorem cs_exit {σ : Mem} {t len n : Nat} {a1 a2 a3 v6 : Int32} {K : Mem → Option (Int32 × Mem)} (hl : σ 1 t 3 = nI len) (hL : len ≤ 96) : f_X2_gives_14 a1 a2 a3 t (n + 1) v6 (nI len) σ K = K σ := by
  rw [f_X2_gives_14.eq_2, hl, if_pos (nI_le (Nat.le_refl _) (by omega))]
theorem let_lt : ∀ key, key < 3 → ∀ p, p < [3, 2, 2].getD key 0 → letV key p < 128 ∧ p < 3 := by decide +kernel
set_option maxHeartbeats 4000000 in
theorem ev_loop {key t len : Nat} {a1 a2 a3 : Int32} {c w v nm : Nat → Int32} (ht : t < 14) (hL : len ≤ 96) (hkey : key < 3) (henc : ∀ k, k < len → encS key (c k) (w k) (v k)) (hwf : ∀ k, k < len → (c k = -33 → 1 ≤ dpt c k) ∧ (c k < -3 → ¬ c k = -33 → 2 ≤ dpt c k)) (hnm : ∀ p, p < [3, 2, 2].getD key 0 → nm (letV key p) = nmV p a1 a2 a3) :
    ∀ (m k nC nM : Nat) (σ τ : Mem), k + m = len → m < nC → m < nM → σ 1 t 3 = nI len → (∀ j, j < len → σ 11 t j = c j) → τ 22 0 (110 + 200 * t) = nI len → (∀ j, j < len → τ 22 0 (112 + 200 * t + 2 * j) = w j ∧ τ 22 0 (113 + 200 * t + 2 * j) = v j) → (∀ j, τ 37 0 j = nm j) → (∀ i, i < dpt c k → σ 10 0 i = τ 38 0 i) →
      ∃ σ' τ', (∀ K, f_X2_gives_14 a1 a2 a3 t nC (nI (dpt c k)) (nI k) σ K = K σ') ∧ (∀ K, f_X8_worked_4 (nI t) nM (nI (dpt c k)) (nI k) τ K = K τ') ∧ (∀ i, i < dpt c len → σ' 10 0 i = τ' 38 0 i) ∧ (∀ g, g ≠ 10 → σ' g = σ g) ∧ (∀ g, g ≠ 38 → τ' g = τ g) := by
  intro m
  induction m with
  | zero =>
    intro k nC nM σ τ hk h1 h2 s1 s2 t1 t2 t3 hst
    obtain ⟨nC, rfl, -⟩ := succ_of h1
    obtain ⟨nM, rfl, -⟩ := succ_of h2
    have hk : k = len := by omega
    subst hk
    exact ⟨σ, τ, fun K => cs_exit s1 hL, fun K => ms_exit ht t1 hL _, hst, fun _ _ => rfl, fun _ _ => rfl⟩
  | succ m ih =>
    intro k nC nM σ τ hk h1 h2 s1 s2 t1 t2 t3 hst
    obtain ⟨nC, rfl, h1⟩ := succ_of h1
    obtain ⟨nM, rfl, h2⟩ := succ_of h2
    have hkl : k < len := by omega
    have hd := dpt_le c k
    have go : ∀ (d p : Nat) (x : Int32), dpt c (k + 1) = d → (∀ i, i < d → i ≠ p → i < dpt c k) → ∃ σ' τ', (∀ K, f_X2_gives_14 a1 a2 a3 t nC (nI d) (nI (k + 1)) (mput σ 10 0 p x) K = K σ') ∧ (∀ K, f_X8_worked_4 (nI t) nM (nI d) (nI (k + 1)) (mput τ 38 0 p x) K = K τ') ∧ (∀ i, i < dpt c len → σ' 10 0 i = τ' 38 0 i) ∧ (∀ g, g ≠ 10 → σ' g = σ g) ∧ (∀ g, g ≠ 38 → τ' g = τ g) := by
      intro d p x hdd hi
      subst hdd
      obtain ⟨σ', τ', q1, q2, q3, q4, q5⟩ := ih (k + 1) nC nM (mput σ 10 0 p x) (mput τ 38 0 p x) (by omega) (by omega) (by omega) (by rw [mp_g (by decide)]; exact s1) (by rw [mp_g (by decide)]; exact s2) (by rw [mp_g (by decide)]; exact t1) (by rw [mp_g (by decide)]; exact t2) (by rw [mp_g (by decide)]; exact t3) (fun i hlt => by
        by_cases e : i = p
        · subst e; rw [mput_same, mput_same]
        · rw [mp_k e, mp_k e]; exact hst i (hi i hlt e))
      exact ⟨σ', τ', q1, q2, q3, fun g hg => by rw [q4 g hg, mp_g hg], fun g hg => by rw [q5 g hg, mp_g hg]⟩
    have e := s2 k hkl
    obtain ⟨ew, ev⟩ := t2 k hkl
    rcases henc k hkl with ⟨a, ha, ec, e2, e3⟩ | ⟨p, hp, ec, e2, e3⟩ | ⟨ch, hch, ec, e2, e3⟩
    · obtain ⟨σ', τ', q1, q2, q⟩ := go (dpt c k + 1) (dpt c k) (nI a) (by rw [dpt, ec, if_neg (num_pos ha).1]) (fun i h1 h2 => by omega)
      exact ⟨σ', τ', fun K => by rw [cs_num s1 hkl hL hd ha (e.trans ec)]; exact q1 K, fun K => by rw [ms_num ht t1 hkl hL hd (ew.trans e2) (ev.trans e3)]; exact q2 K, q⟩
    · obtain ⟨l1, l2⟩ := let_lt key hkey p hp
      obtain ⟨σ', τ', q1, q2, q⟩ := go (dpt c k + 1) (dpt c k) (nmV p a1 a2 a3) (by rw [dpt, ec, if_neg (nam_neg p l2).1]) (fun i h1 h2 => by omega)
      exact ⟨σ', τ', fun K => by rw [cs_nam s1 hkl hL hd l2 (e.trans ec)]; exact q1 K, fun K => by rw [ms_nam ht t1 hkl hL hd l1 (ew.trans e2) (ev.trans e3), t3, hnm p hp]; exact q2 K, q⟩
    · obtain ⟨z1, z2, -, -⟩ := sgn_neg ch hch
      by_cases h33 : ch = 33
      · subst h33
        have hb := (hwf k hkl).1 (by rw [ec]; exact z2.mpr rfl)
        obtain ⟨σ', τ', q1, q2, q⟩ := go (dpt c k) (dpt c k - 1) (if σ 10 0 (dpt c k - 1) = 0 then 1 else 0) (by rw [dpt, ec, if_pos z1, if_pos (z2.mpr rfl)]) (fun i h1 h2 => h1)
        exact ⟨σ', τ', fun K => by rw [cs_not s1 hkl hL hd hb (e.trans ec)]; exact q1 K, fun K => by rw [ms_not ht t1 hkl hL hd hb (ew.trans e2) (ev.trans e3), ← hst _ (by omega)]; exact q2 K, q⟩
      · have hn : ¬ c k = -33 := by rw [ec]; exact fun q => h33 (z2.mp q)
        have hb := (hwf k hkl).2 (by rw [ec]; exact z1) hn
        have hch2 : ch ∈ [38, 42, 43, 45, 47, 60, 61, 62, 124] := by
          rcases List.mem_cons.mp hch with q | q
          · exact absurd q h33
          · exact q
        obtain ⟨σ', τ', q1, q2, q⟩ := go (dpt c k - 1) (dpt c k - 2) (joinV ch (σ 10 0 (dpt c k - 2)) (σ 10 0 (dpt c k - 1))) (by rw [dpt, if_pos (by rw [ec]; exact z1), if_neg hn]) (fun i h1 h2 => by omega)
        exact ⟨σ', τ', fun K => by rw [cs_join s1 hkl hL hd hb hch2 (e.trans ec)]; exact q1 K, fun K => by rw [ms_join ht t1 hkl hL hd hb hch2 (ew.trans e2) (ev.trans e3), ← hst _ (by omega), ← hst _ (by omega)]; exact q2 K, q⟩
