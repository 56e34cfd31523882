-- the text that counts for a key
theorem m_counts_loop {k nt : Nat} {τ : Mem} (hn : τ 22 0 1 = nI nt) (hb : nt ≤ 14) : ∀ (m idx n : Nat) (K : Int32 → Option Int32), idx + m = nt → m < n → f_X8_counts_4 (nI k) τ n (co τ 22 k idx) (nI idx) K = K (co τ 22 k nt) := by
  intro m
  induction m with
  | zero =>
    intro idx n K hi hlt
    obtain ⟨n, rfl, -⟩ := succ_of hlt
    have hi : idx = nt := by omega
    subst hi
    rw [f_X8_counts_4.eq_2, sx1, bnd_s, hn, if_pos (nI_le (Nat.le_refl _) (by omega))]
  | succ m ih =>
    intro idx n K hi hlt
    obtain ⟨n, rfl, hlt⟩ := succ_of hlt
    rw [f_X8_counts_4.eq_2, sx1, bnd_s, hn, if_neg (nI_ge (by omega) (by omega)), m_textAt, bnd_s, ix_nI (by omega) (by decide), bnd_s, nI_s]
    have e : co τ 22 k (idx + 1) = if τ 22 0 (108 + 200 * idx) = nI k then nI idx else co τ 22 k idx := rfl
    have q := ih (idx + 1) n K (by omega) (by omega)
    by_cases h : τ 22 0 (108 + 200 * idx) = nI k
    · rw [if_pos h] at e ⊢
      rw [e] at q
      exact q
    · rw [if_neg h] at e ⊢
      rw [e] at q
      exact q
theorem q_counts {k nt : Nat} {τ : Mem} (hn : τ 22 0 1 = nI nt) (hb : nt ≤ 14) : f_X8_counts (nI k) τ = some (co τ 22 k nt) := by
  unfold f_X8_counts
  rw [show (0 : Int32) = nI 0 from rfl, show (-1 : Int32) = co τ 22 k 0 from rfl]
  exact m_counts_loop hn hb nt 0 FU _ (by omega) (fu_gt (by omega))
theorem co_cases {τ : Mem} {G k : Nat} : ∀ n, co τ G k n = -1 ∨ ∃ t, t < n ∧ co τ G k n = nI t ∧ τ G 0 (108 + 200 * t) = nI k := by
  intro n
  induction n with
  | zero => exact Or.inl rfl
  | succ n ih =>
    have e : co τ G k (n + 1) = if τ G 0 (108 + 200 * n) = nI k then nI n else co τ G k n := rfl
    by_cases h : τ G 0 (108 + 200 * n) = nI k
    · rw [if_pos h] at e
      exact Or.inr ⟨n, by omega, e, h⟩
    · rw [if_neg h] at e
      rcases ih with q | ⟨t, h1, h2, h3⟩
      · exact Or.inl (e.trans q)
      · exact Or.inr ⟨t, by omega, e.trans h2, h3⟩
theorem TxR_congr {G G' : Nat} {σ τ σ' τ' : Mem} {t : Nat} (h : TxR G σ τ t) (ht : t < 14) (h1 : σ' 1 t = σ 1 t) (h11 : σ' 11 t = σ 11 t) (hg : ∀ k, 108 ≤ k → k < 2908 → τ' G' 0 k = τ G 0 k) : TxR G' σ' τ' t := by
  obtain ⟨key, len, k1, k2, k3, k4, k5, k6, k7, k8, k9, k10⟩ := h
  refine ⟨key, len, k1, k2, k3, ?_, ?_, ?_, ?_, ?_, ?_, ?_⟩
  · rw [h1]; exact k4
  · rw [hg _ (by omega) (by omega)]; exact k5
  · rw [h1, hg _ (by omega) (by omega)]; exact k6
  · rw [h1]; exact k7
  · rw [hg _ (by omega) (by omega)]; exact k8
  · intro j hj
    rw [h11, hg _ (by omega) (by omega), hg _ (by omega) (by omega)]
    exact k9 j hj
  · rw [h11]; exact k10
-- keeps, from what it would be for a vower
def kpV (kd : Nat) (p : Int32) : Int32 := if kd = 1 then clampV (p + 10) 0 100 else if kd = 2 then clampV (p - 20) 0 100 else if kd = 3 then clampV (p + 10) 0 100 / 2 else if kd = 4 then clampV (clampV (p - 20) 0 100 + 30) 0 100 else if kd = 5 then 0 else p
theorem kp_late : ∀ q, q < 101 → (if nI q + (10 : Int32) < (100 : Int32) then nI q + (10 : Int32) else (100 : Int32)) = clampV (nI q + 10) 0 100 := by decide +kernel
theorem kp_slp : ∀ q, q < 101 → (if (0 : Int32) < nI q - (20 : Int32) then nI q - (20 : Int32) else (0 : Int32)) = clampV (nI q - 20) 0 100 := by decide +kernel
theorem kp_pri : ∀ q, q < 101 → (if clampV (nI q - 20) 0 100 + (30 : Int32) < (100 : Int32) then clampV (nI q - 20) 0 100 + (30 : Int32) else (100 : Int32)) = clampV (clampV (nI q - 20) 0 100 + 30) 0 100 := by decide +kernel
theorem c_keepsFrom {σ : Mem} {i kd q : Nat} (h : σ 3 i 0 = nI kd) (hk : kd < 6) (hq : q < 101) : f_X3_keepsFrom i (nI q) σ = some (kpV kd (nI q)) := by
  unfold f_X3_keepsFrom
  rw [h, kp_late q hq, kp_slp q hq, kp_pri q hq]
  rcases (show kd = 0 ∨ kd = 1 ∨ kd = 2 ∨ kd = 3 ∨ kd = 4 ∨ kd = 5 by omega) with rfl | rfl | rfl | rfl | rfl | rfl <;> rfl
theorem m_tail {τ : Mem} {k kd : Nat} {p : Int32} (h : τ 22 0 (7 + 5 * k) = nI kd) (hk : kd < 6) (hb : k < 600) : (bnd (f_X8_within (p + (10 : Int32)) (0 : Int32) (100 : Int32) τ) (fun a6 => (bnd (f_X8_within (p - (20 : Int32)) (0 : Int32) (100 : Int32) τ) (fun a7 => (bnd (f_X8_of (nI k) (0 : Int32) τ) (fun a8 => (if a8 = (1 : Int32) then (some (a6, τ)) else (if a8 = (2 : Int32) then (some (a7, τ)) else (if a8 = (3 : Int32) then (some ((a6 / (2 : Int32)), τ)) else (if a8 = (4 : Int32) then (bnd (f_X8_within (a7 + (30 : Int32)) (0 : Int32) (100 : Int32) τ) (fun a9 => (some (a9, τ)))) else (if a8 = (5 : Int32) then (some ((0 : Int32), τ)) else (some (p, τ)))))))))))) ) = some (kpV kd p, τ) := by
  have e0 := q_of (τ := τ) k 0 (e := 0) rfl (by omega)
  rw [Nat.add_zero, h] at e0
  simp only [m_within, bnd_s, e0]
  rcases (show kd = 0 ∨ kd = 1 ∨ kd = 2 ∨ kd = 3 ∨ kd = 4 ∨ kd = 5 by omega) with rfl | rfl | rfl | rfl | rfl | rfl <;> rfl
theorem clamp_nat (x : Int32) : ∃ q, q < 101 ∧ clampV x 0 100 = nI q := by
  unfold clampV
  by_cases h1 : (0 : Int32) ≤ x
  · rw [if_pos h1]
    by_cases h2 : x ≤ 100
    · rw [if_pos h2]
      obtain ⟨j, hj, e⟩ := nI_of2 (M := 100) (n := 100) rfl (pl_nlt.mpr h1) h2
      exact ⟨j, by omega, e⟩
    · rw [if_neg h2]
      exact ⟨100, by decide, rfl⟩
  · rw [if_neg h1]
    exact ⟨0, by decide, rfl⟩
theorem pv_c : ∀ f, f < 100 → ∀ c, c < 18 → (if (0 : Int32) < nI f - (5 : Int32) * nI c then nI f - (5 : Int32) * nI c else (0 : Int32)) = nI (f - 5 * c) := by decide +kernel
theorem pv_m1 : ∀ f, f < 100 → ∀ c, c < 18 → (5 : Int32) * nI c ≤ nI f → nI f - (5 : Int32) * nI c = nI (f - 5 * c) := by decide +kernel
theorem pv_m0 : ∀ f, f < 100 → ∀ c, c < 18 → ¬ (5 : Int32) * nI c ≤ nI f → nI (f - 5 * c) = 0 := by decide +kernel
set_option maxHeartbeats 2000000 in
theorem ls_keeps {b : Bool} {l : Nat} {σ τ : Mem} {n nv nt v : Nat} (H : RLd b l 22 σ τ n nv nt) (T : ∀ t, t < nt → TxR 22 σ τ t) (hv : v < nv) :
    ∃ r σ' τ', f_X0_keeps l (nI v) σ = some (r, σ') ∧ f_X8_keeps (nI v) τ = some (r, τ') ∧ (∀ g, g ≠ 10 → σ' g = σ g) ∧ (∀ g, g ≠ 37 → g ≠ 38 → τ' g = τ g) := by
  obtain ⟨⟨a1, a2, a3⟩, ⟨b1, b2, b3⟩, hp, hw, hc, e1, e2, e3, e4⟩ := H
  obtain ⟨⟨o, ho, w1, w2⟩, -, w3⟩ := hw v hv
  obtain ⟨⟨kd, hkd, p1, p2⟩, -, ⟨f, hf, p5, p6⟩, -⟩ := hp o ho
  have hcnt : accF (fun v => σ 13 l v) (nI o) 0 nv 0 = accF (fun v => τ 22 0 (57 + 3 * v + 0)) (nI o) 0 nv 0 := accF_congr nv 0 0 (fun u _ hu => by
    obtain ⟨⟨o', -, x1, x2⟩, -⟩ := hw u (by omega)
    show σ 13 l u = τ 22 0 (57 + 3 * u + 0)
    rw [x1, Nat.add_zero, x2])
  obtain ⟨c, hc1, hc2⟩ := accF_nat (f := fun v => σ 13 l v) (x := nI o) nv 0 0
  have hC : f_X0_vowsGivenBy l (nI o) σ = some (nI c) := by
    rw [q_givenBy b1 b3]; exact congrArg some hc2
  have hM : f_X8_manyBy (nI o) 0 τ = some (nI c) := by
    rw [q_many (w := 0) (e := 0) b2 b3 rfl (by decide), ← hcnt]; exact congrArg some hc2
  have mc : f_X8_counts 0 τ = some (co τ 22 0 nt) := q_counts (k := 0) e2 e3
  have e40 := e4 0 (by decide)
  have i17 : ix 17 (nI v) = some v := ix_nI (by omega) (by decide)
  have i10 : ix 10 (nI o) = some o := ix_nI (by omega) (by decide)
  have i3 : ix 3 (0 : Int32) = some 0 := by decide
  have m0 : f_X8_vowIs (nI v) 0 τ = some (nI o) := by rw [q_vowIs (e := 0) v 0 rfl (by omega), Nat.add_zero, w2]
  have m2 : f_X8_of (nI o) 2 τ = some (nI f) := by rw [q_of (e := 2) o 2 rfl (by omega), show 7 + 5 * o + 2 = 9 + 5 * o by omega, p6]
  have C : f_X0_keeps l (nI v) σ = (if 0 ≤ co τ 22 0 nt then (bnd (f_X2_gives (co τ 22 0 nt) (nI f) (nI c) (σ 15 l v) σ) (fun a2 => (bnd (f_X7_heldWithin a2.1 (0 : Int32) (100 : Int32) a2.2) (fun a3 => (bnd (f_X3_keepsFrom (10 * l + o) a3 a2.2) (fun a4 => (some (a4, a2.2)))))))) else (bnd (f_X3_keepsFrom (10 * l + o) (nI (f - 5 * c)) σ) (fun a5 => (some (a5, σ))))) := by
    unfold f_X0_keeps
    simp only [i17, bnd_s, w1, i10, hC, i3, e40, p5, pv_c f hf c (by omega)]
  rw [C]
  unfold f_X8_keeps
  simp only [m0, hM, m2, mc, bnd_s]
  rcases co_cases (τ := τ) (G := 22) (k := 0) nt with q | ⟨t, ht, q, hkey⟩
  · simp only [q]
    rw [if_neg (show ¬ (0 : Int32) ≤ -1 by decide), c_keepsFrom p1 hkd (show f - 5 * c < 101 by omega), bnd_s]
    refine ⟨_, _, τ, rfl, ?_, fun _ _ => rfl, fun _ _ _ => rfl⟩
    by_cases hle : (5 : Int32) * nI c ≤ nI f
    · rw [if_pos hle, if_pos (show (-1 : Int32) < 0 by decide), pv_m1 f hf c (by omega) hle, m_tail p2 hkd (by omega)]
    · rw [if_neg hle, if_pos (show (-1 : Int32) < 0 by decide), pv_m0 f hf c (by omega) hle, m_tail p2 hkd (by omega)]
  · simp only [q]
    have htn : t < 14 := by omega
    have hT : TxR 22 σ (mput (mput (mput τ 37 0 102 (nI f)) 37 0 110 (nI c)) 37 0 119 (σ 15 l v)) t := TxR_congr (T t ht) htn rfl rfl (fun k _ _ => by rw [mp_g (by decide), mp_g (by decide), mp_g (by decide)])
    have hk0 : σ 1 t 0 = nI 0 := by
      obtain ⟨ky, len, k1, k2, k3, k4, k5, -⟩ := T t ht
      have : ky = 0 := (nI_eq (by omega) (by omega)).mp (k5.symm.trans hkey)
      subst this
      exact k4
    obtain ⟨r, σ', τ', x1, x2, x3, x4⟩ := ev_text (a1 := nI f) (a2 := nI c) (a3 := σ 15 l v) htn hT hk0 (by decide) (fun p hp => by
      have hp : p < 3 := hp
      rcases (show p = 0 ∨ p = 1 ∨ p = 2 by omega) with rfl | rfl | rfl
      · show mput (mput (mput τ 37 0 102 (nI f)) 37 0 110 (nI c)) 37 0 119 (σ 15 l v) 37 0 102 = nI f
        rw [mp_k (by decide), mp_k (by decide), mput_same]
      · show mput (mput (mput τ 37 0 102 (nI f)) 37 0 110 (nI c)) 37 0 119 (σ 15 l v) 37 0 110 = nI c
        rw [mp_k (by decide), mput_same]
      · show mput (mput (mput τ 37 0 102 (nI f)) 37 0 110 (nI c)) 37 0 119 (σ 15 l v) 37 0 119 = σ 15 l v
        rw [mput_same])
    obtain ⟨z, hz, ez⟩ := clamp_nat r
    have s3 : σ' 3 = σ 3 := x3 3 (by decide)
    have y4 : ∀ g, g ≠ 37 → g ≠ 38 → τ' g = τ g := fun g h1 h2 => by rw [x4 g h2, mp_g h1, mp_g h1, mp_g h1]
    have t22 : τ' 22 = τ 22 := y4 22 (by decide) (by decide)
    refine ⟨kpV kd (nI z), σ', τ', ?_, ?_, x3, y4⟩
    · rw [if_pos (nI_pos' (by omega)), x1, bnd_s]
      show bnd (f_X7_heldWithin r 0 100 σ') _ = _
      rw [c_held σ' (by decide), bnd_s, ez, c_keepsFrom (σ := σ') (kd := kd) (by rw [s3]; exact p1) hkd hz, bnd_s]
    · have i1 : ix 128 (102 : Int32) = some 102 := by decide +kernel
      have i2 : ix 128 (110 : Int32) = some 110 := by decide +kernel
      have i3 : ix 128 (119 : Int32) = some 119 := by decide +kernel
      have mw : f_X8_vowIs (nI v) 2 (mput (mput τ 37 0 102 (nI f)) 37 0 110 (nI c)) = some (σ 15 l v) := by
        rw [q_vowIs (e := 2) v 2 rfl (by omega), mp_g (by decide), mp_g (by decide), show 57 + 3 * v + 2 = 59 + 3 * v by omega, w3]
      have tl := m_tail (τ := τ') (k := o) (kd := kd) (p := nI z) (by rw [t22]; exact p2) hkd (by omega)
      simp only [i1, i2, i3, mw, bnd_s, x2, m_within, ez] at tl ⊢
      have nn : (nI t < 0) = False := eq_false (nI_pos (by omega))
      simp only [nn, if_false, ite_self]
      exact tl
