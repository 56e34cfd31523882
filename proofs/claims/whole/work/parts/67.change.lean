-- one of the people changes, one comes, a vow comes, vows go
def RP1 (b : Bool) (l G : Nat) (σ τ : Mem) (j : Nat) : Prop :=
  (∃ kd, kd < 6 ∧ σ 3 (10 * l + j) 0 = nI kd ∧ τ G 0 (7 + 5 * j) = nI kd) ∧
  (∃ e, e < 24 ∧ σ 3 (10 * l + j) 1 = nI e ∧ τ G 0 (8 + 5 * j) = nI e) ∧
  (∃ f, f < 100 ∧ σ 3 (10 * l + j) 2 = nI f ∧ τ G 0 (9 + 5 * j) = nI f) ∧
  (b = true → σ 3 (10 * l + j) 3 = τ G 0 (10 + 5 * j)) ∧ σ 3 (10 * l + j) 4 = τ G 0 (11 + 5 * j)
theorem RLd_one {b : Bool} {l G : Nat} {σ τ σ' τ' : Mem} {n nv nt j : Nat} (H : RLd b l G σ τ n nv nt) (hj : j < n) (hs : ∀ g i, ¬ (g = 3 ∧ i = 10 * l + j) → σ' g i = σ g i) (ht : ∀ k, (k < 7 + 5 * j ∨ 12 + 5 * j ≤ k) → τ' G 0 k = τ G 0 k) (hp : RP1 b l G σ' τ' j) : RLd b l G σ' τ' n nv nt := by
  obtain ⟨⟨a1, a2, a3⟩, ⟨b1, b2, b3⟩, hpp, hw, ⟨d1, d2, d3, d4⟩, x1, x2, x3, x4⟩ := H
  have s0 : σ' 0 l = σ 0 l := hs 0 l (by omega)
  refine ⟨⟨?_, ?_, a3⟩, ⟨?_, ?_, b3⟩, ?_, ?_, ⟨?_, ?_, ?_, ?_⟩, ?_, ?_, x3, ?_⟩
  · rw [s0]; exact a1
  · rw [ht 0 (by omega)]; exact a2
  · rw [s0]; exact b1
  · rw [ht 3 (by omega)]; exact b2
  · intro i hi
    by_cases e : i = j
    · subst e; exact hp
    · have := hpp i hi
      rw [hs 3 (10 * l + i) (by omega), ht (7 + 5 * i) (by omega), ht (8 + 5 * i) (by omega), ht (9 + 5 * i) (by omega), ht (10 + 5 * i) (by omega), ht (11 + 5 * i) (by omega)]
      exact this
  · intro v hv
    rw [hs 13 l (by omega), hs 14 l (by omega), hs 15 l (by omega), ht _ (by omega), ht _ (by omega), ht _ (by omega)]
    exact hw v hv
  · rw [s0, ht 4 (by omega)]; exact d1
  · rw [s0, ht 5 (by omega)]; exact d2
  · rw [s0, ht 2 (by omega)]; exact d3
  · rw [s0, ht 6 (by omega)]; exact d4
  · rw [s0]; exact x1
  · rw [ht 1 (by omega)]; exact x2
  · intro k hk
    rw [hs 16 l (by omega), co_congr nt (fun t _ => ht _ (by omega))]
    exact x4 k hk
theorem RLd_grow {b : Bool} {l G : Nat} {σ τ σ' τ' : Mem} {n nv nt : Nat} (H : RLd b l G σ τ n nv nt) (hn : n < 10) (hs : ∀ g i, ¬ (g = 3 ∧ i = 10 * l + n) → ¬ (g = 0 ∧ i = l) → σ' g i = σ g i) (hs0 : ∀ k, k ≠ 2 → σ' 0 l k = σ 0 l k) (hs2 : σ' 0 l 2 = nI (n + 1)) (ht : ∀ k, 0 < k → (k < 7 + 5 * n ∨ 12 + 5 * n ≤ k) → τ' G 0 k = τ G 0 k) (ht0 : τ' G 0 0 = nI (n + 1)) (hp : RP1 b l G σ' τ' n) : RLd b l G σ' τ' (n + 1) nv nt := by
  obtain ⟨⟨a1, a2, a3⟩, ⟨b1, b2, b3⟩, hpp, hw, ⟨d1, d2, d3, d4⟩, x1, x2, x3, x4⟩ := H
  refine ⟨⟨hs2, ht0, by omega⟩, ⟨?_, ?_, b3⟩, ?_, ?_, ⟨?_, ?_, ?_, ?_⟩, ?_, ?_, x3, ?_⟩
  · rw [hs0 6 (by decide)]; exact b1
  · rw [ht 3 (by omega) (by omega)]; exact b2
  · intro i hi
    by_cases e : i = n
    · subst e; exact hp
    · have := hpp i (by omega)
      rw [hs 3 (10 * l + i) (by omega) (by omega), ht (7 + 5 * i) (by omega) (by omega), ht (8 + 5 * i) (by omega) (by omega), ht (9 + 5 * i) (by omega) (by omega), ht (10 + 5 * i) (by omega) (by omega), ht (11 + 5 * i) (by omega) (by omega)]
      exact this
  · intro v hv
    rw [hs 13 l (by omega) (by omega), hs 14 l (by omega) (by omega), hs 15 l (by omega) (by omega), ht _ (by omega) (by omega), ht _ (by omega) (by omega), ht _ (by omega) (by omega)]
    obtain ⟨⟨o, h1, h2⟩, ⟨u, u', h3, h4, h5⟩, h6⟩ := hw v hv
    exact ⟨⟨o, by omega, h2⟩, ⟨u, u', by omega, by omega, h5⟩, h6⟩
  · rw [hs0 7 (by decide), ht 4 (by omega) (by omega)]; exact d1
  · rw [hs0 8 (by decide), ht 5 (by omega) (by omega)]; exact d2
  · rw [hs0 9 (by decide), ht 2 (by omega) (by omega)]; exact d3
  · rw [hs0 10 (by decide), ht 6 (by omega) (by omega)]; exact d4
  · rw [hs0 11 (by decide)]; exact x1
  · rw [ht 1 (by omega) (by omega)]; exact x2
  · intro k hk
    rw [hs 16 l (by omega) (by omega), co_congr nt (fun t _ => ht _ (by omega) (by omega))]
    exact x4 k hk
theorem RLd_vow {b : Bool} {l G : Nat} {σ τ σ' τ' : Mem} {n nv nt o u u' : Nat} {w : Int32} (H : RLd b l G σ τ n nv nt) (hv : nv < 17) (ho : o < n) (hu : u < n) (hu' : u' < n) (hb : b = true → u = u') (hs : ∀ g i, g ≠ 0 → g ≠ 13 → g ≠ 14 → g ≠ 15 → σ' g i = σ g i) (hs0 : ∀ k, k ≠ 6 → σ' 0 l k = σ 0 l k) (hs6 : σ' 0 l 6 = nI (nv + 1)) (hr : ∀ g, (g = 13 ∨ g = 14 ∨ g = 15) → ∀ v, v ≠ nv → σ' g l v = σ g l v) (h13 : σ' 13 l nv = nI o) (h14 : σ' 14 l nv = nI u) (h15 : σ' 15 l nv = w)
    (ht : ∀ k, k ≠ 3 → (k < 57 + 3 * nv ∨ 60 + 3 * nv ≤ k) → τ' G 0 k = τ G 0 k) (ht3 : τ' G 0 3 = nI (nv + 1)) (t0 : τ' G 0 (57 + 3 * nv) = nI o) (t1 : τ' G 0 (58 + 3 * nv) = nI u') (t2 : τ' G 0 (59 + 3 * nv) = w) : RLd b l G σ' τ' n (nv + 1) nt := by
  obtain ⟨⟨a1, a2, a3⟩, ⟨b1, b2, b3⟩, hpp, hw, ⟨d1, d2, d3, d4⟩, x1, x2, x3, x4⟩ := H
  refine ⟨⟨?_, ?_, a3⟩, ⟨hs6, ht3, by omega⟩, ?_, ?_, ⟨?_, ?_, ?_, ?_⟩, ?_, ?_, x3, ?_⟩
  · rw [hs0 2 (by decide)]; exact a1
  · rw [ht 0 (by omega) (by omega)]; exact a2
  · intro i hi
    rw [hs 3 (10 * l + i) (by decide) (by decide) (by decide) (by decide), ht (7 + 5 * i) (by omega) (by omega), ht (8 + 5 * i) (by omega) (by omega), ht (9 + 5 * i) (by omega) (by omega), ht (10 + 5 * i) (by omega) (by omega), ht (11 + 5 * i) (by omega) (by omega)]
    exact hpp i hi
  · intro v hvv
    by_cases e : v = nv
    · subst e
      rw [h13, h14, h15, t0, t1, t2]
      exact ⟨⟨o, ho, rfl, rfl⟩, ⟨u, u', hu, hu', rfl, rfl, hb⟩, rfl⟩
    · rw [hr 13 (by decide) v e, hr 14 (by decide) v e, hr 15 (by decide) v e, ht _ (by omega) (by omega), ht _ (by omega) (by omega), ht _ (by omega) (by omega)]
      exact hw v (by omega)
  · rw [hs0 7 (by decide), ht 4 (by omega) (by omega)]; exact d1
  · rw [hs0 8 (by decide), ht 5 (by omega) (by omega)]; exact d2
  · rw [hs0 9 (by decide), ht 2 (by omega) (by omega)]; exact d3
  · rw [hs0 10 (by decide), ht 6 (by omega) (by omega)]; exact d4
  · rw [hs0 11 (by decide)]; exact x1
  · rw [ht 1 (by omega) (by omega)]; exact x2
  · intro k hk
    rw [hs 16 l (by decide) (by decide) (by decide) (by decide), co_congr nt (fun t _ => ht _ (by omega) (by omega))]
    exact x4 k hk
theorem RLd_less {b : Bool} {l G : Nat} {σ τ : Mem} {n nv nt nv' : Nat} (H : RLd b l G σ τ n nv nt) (h : nv' ≤ nv) : RLd b l G (mput σ 0 l 6 (nI nv')) (mput τ G 0 3 (nI nv')) n nv' nt := by
  obtain ⟨⟨a1, a2, a3⟩, ⟨b1, b2, b3⟩, hpp, hw, ⟨d1, d2, d3, d4⟩, x1, x2, x3, x4⟩ := H
  refine ⟨⟨?_, ?_, a3⟩, ⟨mput_same, mput_same, by omega⟩, ?_, ?_, ⟨?_, ?_, ?_, ?_⟩, ?_, ?_, x3, ?_⟩
  · rw [mp_k (by decide)]; exact a1
  · rw [mp_k (by decide)]; exact a2
  · intro i hi
    rw [mp_g (show 3 ≠ 0 by decide), mp_k (show 7 + 5 * i ≠ 3 by omega), mp_k (show 8 + 5 * i ≠ 3 by omega), mp_k (show 9 + 5 * i ≠ 3 by omega), mp_k (show 10 + 5 * i ≠ 3 by omega), mp_k (show 11 + 5 * i ≠ 3 by omega)]
    exact hpp i hi
  · intro v hv
    rw [mp_g (show 13 ≠ 0 by decide), mp_g (show 14 ≠ 0 by decide), mp_g (show 15 ≠ 0 by decide), mp_k (show 57 + 3 * v ≠ 3 by omega), mp_k (show 58 + 3 * v ≠ 3 by omega), mp_k (show 59 + 3 * v ≠ 3 by omega)]
    exact hw v (by omega)
  · rw [mp_k (by decide), mp_k (by decide)]; exact d1
  · rw [mp_k (by decide), mp_k (by decide)]; exact d2
  · rw [mp_k (by decide), mp_k (by decide)]; exact d3
  · rw [mp_k (by decide), mp_k (by decide)]; exact d4
  · rw [mp_k (by decide)]; exact x1
  · rw [mp_k (by decide)]; exact x2
  · intro k hk
    rw [mp_g (by decide), co_congr nt (fun t _ => mp_k (by omega))]
    exact x4 k hk
/-- one cell of one of the people -/
theorem RLd_pcell {b : Bool} {l G : Nat} {σ τ : Mem} {n nv nt j f : Nat} {v : Int32} (H : RLd b l G σ τ n nv nt) (hj : j < n) (hf : (f = 0 ∧ ∃ q, q < 6 ∧ v = nI q) ∨ (f = 1 ∧ ∃ q, q < 24 ∧ v = nI q) ∨ (f = 2 ∧ ∃ q, q < 100 ∧ v = nI q) ∨ f = 3 ∨ f = 4) : RLd b l G (mput σ 3 (10 * l + j) f v) (mput τ G 0 (7 + 5 * j + f) v) n nv nt := by
  have hq := H.2.2.1 j hj
  have hf5 : f < 5 := by omega
  refine RLd_one H hj (fun g i hn => mput_cell (fun e => hn (by cases e; exact ⟨rfl, rfl⟩))) (fun k hk => mp_k (by omega)) ?_
  obtain ⟨q1, q2, q3, q4, q5⟩ := hq
  rcases hf with ⟨rfl, q, hq, rfl⟩ | ⟨rfl, q, hq, rfl⟩ | ⟨rfl, q, hq, rfl⟩ | rfl | rfl
  · refine ⟨⟨q, hq, mput_same, mput_same⟩, ?_, ?_, ?_, ?_⟩
    · rw [mp_k (by decide), mp_k (by omega)]; exact q2
    · rw [mp_k (by decide), mp_k (by omega)]; exact q3
    · rw [mp_k (by decide), mp_k (by omega)]; exact q4
    · rw [mp_k (by decide), mp_k (by omega)]; exact q5
  · refine ⟨?_, ⟨q, hq, mput_same, by rw [show 8 + 5 * j = 7 + 5 * j + 1 by omega, mput_same]⟩, ?_, ?_, ?_⟩
    · rw [mp_k (by decide), mp_k (by omega)]; exact q1
    · rw [mp_k (by decide), mp_k (by omega)]; exact q3
    · rw [mp_k (by decide), mp_k (by omega)]; exact q4
    · rw [mp_k (by decide), mp_k (by omega)]; exact q5
  · refine ⟨?_, ?_, ⟨q, hq, mput_same, by rw [show 9 + 5 * j = 7 + 5 * j + 2 by omega, mput_same]⟩, ?_, ?_⟩
    · rw [mp_k (by decide), mp_k (by omega)]; exact q1
    · rw [mp_k (by decide), mp_k (by omega)]; exact q2
    · rw [mp_k (by decide), mp_k (by omega)]; exact q4
    · rw [mp_k (by decide), mp_k (by omega)]; exact q5
  · refine ⟨?_, ?_, ?_, fun _ => by rw [show 10 + 5 * j = 7 + 5 * j + 3 by omega, mput_same, mput_same], ?_⟩
    · rw [mp_k (by decide), mp_k (by omega)]; exact q1
    · rw [mp_k (by decide), mp_k (by omega)]; exact q2
    · rw [mp_k (by decide), mp_k (by omega)]; exact q3
    · rw [mp_k (by decide), mp_k (by omega)]; exact q5
  · refine ⟨?_, ?_, ?_, ?_, by rw [show 11 + 5 * j = 7 + 5 * j + 4 by omega, mput_same, mput_same]⟩
    · rw [mp_k (by decide), mp_k (by omega)]; exact q1
    · rw [mp_k (by decide), mp_k (by omega)]; exact q2
    · rw [mp_k (by decide), mp_k (by omega)]; exact q3
    · rw [mp_k (by decide), mp_k (by omega)]; exact q4
-- one comes
theorem c_comes {l n : Nat} {σ : Mem} {a e f : Int32} (h : σ 0 l 2 = nI n) (hn : n < 10) : ∃ σ', f_X0_addPerson l a e f σ = some σ' ∧ (∀ g i, ¬ (g = 3 ∧ i = 10 * l + n) → ¬ (g = 0 ∧ i = l) → σ' g i = σ g i) ∧ (∀ k, k ≠ 2 → σ' 0 l k = σ 0 l k) ∧ σ' 0 l 2 = nI (n + 1) ∧ σ' 3 (10 * l + n) 0 = a ∧ σ' 3 (10 * l + n) 1 = e ∧ σ' 3 (10 * l + n) 2 = f ∧ σ' 3 (10 * l + n) 3 = 0 ∧ σ' 3 (10 * l + n) 4 = -1 := by
  unfold f_X0_addPerson f_X3_comes
  rw [h, ix_nI hn (by decide), bnd_s, bnd_s, bnd_s]
  refine ⟨_, rfl, fun g i h1 h2 => ?_, fun k hk => ?_, ?_, ?_, ?_, ?_, ?_, ?_⟩
  · have z3 : (g, i) ≠ (3, 10 * l + n) := fun q => h1 (by cases q; exact ⟨rfl, rfl⟩)
    have z0 : (g, i) ≠ (0, l) := fun q => h2 (by cases q; exact ⟨rfl, rfl⟩)
    rw [mput_cell z0, mput_cell z3, mput_cell z3, mput_cell z3, mput_cell z3, mput_cell z3]
  · rw [mp_k hk, mp_g (by decide), mp_g (by decide), mp_g (by decide), mp_g (by decide), mp_g (by decide)]
  · rw [mput_same, mp_g (by decide), mp_g (by decide), mp_g (by decide), mp_g (by decide), mp_g (by decide), h, nI_s]
  · rw [mp_g (by decide), mp_k (by decide), mp_k (by decide), mp_k (by decide), mp_k (by decide), mput_same]
  · rw [mp_g (by decide), mp_k (by decide), mp_k (by decide), mp_k (by decide), mput_same]
  · rw [mp_g (by decide), mp_k (by decide), mp_k (by decide), mput_same]
  · rw [mp_g (by decide), mp_k (by decide), mput_same]
  · rw [mp_g (by decide), mput_same]
theorem m_comes {n : Nat} {τ : Mem} {a e f : Int32} (h : τ 22 0 0 = nI n) (hn : n < 10) : ∃ τ', f_X8_comes a e f τ = some τ' ∧ (∀ g, g ≠ 22 → τ' g = τ g) ∧ (∀ k, 0 < k → (k < 7 + 5 * n ∨ 12 + 5 * n ≤ k) → τ' 22 0 k = τ 22 0 k) ∧ τ' 22 0 0 = nI (n + 1) ∧ τ' 22 0 (7 + 5 * n) = a ∧ τ' 22 0 (8 + 5 * n) = e ∧ τ' 22 0 (9 + 5 * n) = f ∧ τ' 22 0 (10 + 5 * n) = 0 ∧ τ' 22 0 (11 + 5 * n) = -1 := by
  unfold f_X8_comes
  rw [sx0, bnd_s, bnd_s, bnd_s, h, nI_s, q_sets (e := 0) n 0 rfl (by omega), bnd_s, q_sets (e := 1) n 1 rfl (by omega), bnd_s, q_sets (e := 2) n 2 rfl (by omega), bnd_s, q_sets (e := 3) n 3 rfl (by omega), bnd_s, q_sets (e := 4) n 4 rfl (by omega), bnd_s]
  refine ⟨_, rfl, fun g hg => ?_, fun k h1 h2 => ?_, ?_, ?_, ?_, ?_, ?_, ?_⟩
  · rw [mp_g hg, mp_g hg, mp_g hg, mp_g hg, mp_g hg, mp_g hg]
  · rw [mp_k (by omega), mp_k (by omega), mp_k (by omega), mp_k (by omega), mp_k (by omega), mp_k (by omega)]
  · rw [mp_k (by omega), mp_k (by omega), mp_k (by omega), mp_k (by omega), mp_k (by omega), mput_same]
  · rw [mp_k (by omega), mp_k (by omega), mp_k (by omega), mp_k (by omega), show 7 + 5 * n + 0 = 7 + 5 * n by omega, mput_same]
  · rw [mp_k (by omega), mp_k (by omega), mp_k (by omega), show 7 + 5 * n + 1 = 8 + 5 * n by omega, mput_same]
  · rw [mp_k (by omega), mp_k (by omega), show 7 + 5 * n + 2 = 9 + 5 * n by omega, mput_same]
  · rw [mp_k (by omega), show 7 + 5 * n + 3 = 10 + 5 * n by omega, mput_same]
  · rw [show 7 + 5 * n + 4 = 11 + 5 * n by omega, mput_same]
theorem ls_comes {b : Bool} {l n nv nt a e f : Nat} {σ τ : Mem} (H : RLd b l 22 σ τ n nv nt) (hn : n < 10) (ha : a < 6) (he : e < 24) (hf : f < 100) : ∃ σ' τ', f_X0_addPerson l (nI a) (nI e) (nI f) σ = some σ' ∧ f_X8_comes (nI a) (nI e) (nI f) τ = some τ' ∧ RLd b l 22 σ' τ' (n + 1) nv nt ∧ Fm (RgD l) σ σ' ∧ FrM τ τ' ∧ τ' 22 0 2 = τ 22 0 2 := by
  obtain ⟨σ', q1, q2, q3, q4, q5, q6, q7, q8, q9⟩ := c_comes (a := nI a) (e := nI e) (f := nI f) H.1.1 hn
  obtain ⟨τ', r1, r2, r3, r4, r5, r6, r7, r8, r9⟩ := m_comes (a := nI a) (e := nI e) (f := nI f) H.1.2.1 hn
  refine ⟨σ', τ', q1, r1, RLd_grow H hn q2 q3 q4 r3 r4 ⟨⟨a, ha, q5, r5⟩, ⟨e, he, q6, r6⟩, ⟨f, hf, q7, r7⟩, fun _ => q8.trans r8.symm, q9.trans r9.symm⟩, fun g i hg => q2 g i (fun q => hg (by unfold RgD; omega)) (fun q => hg (by unfold RgD; omega)), ⟨fun g h _ _ => r2 g h, fun k hk => r3 k (by omega) (by omega)⟩, r3 2 (by decide) (by omega)⟩
-- a vow comes
theorem c_addVow {l nv : Nat} {σ : Mem} {x y w : Int32} (h : σ 0 l 6 = nI nv) (hn : nv < 17) : ∃ σ', f_X0_addVow l x y w σ = some σ' ∧ (∀ g, g ≠ 0 → g ≠ 13 → g ≠ 14 → g ≠ 15 → σ' g = σ g) ∧ (∀ g i, i ≠ l → σ' g i = σ g i) ∧ (∀ k, k ≠ 6 → σ' 0 l k = σ 0 l k) ∧ σ' 0 l 6 = nI (nv + 1) ∧ (∀ g, (g = 13 ∨ g = 14 ∨ g = 15) → ∀ v, v ≠ nv → σ' g l v = σ g l v) ∧ σ' 13 l nv = x ∧ σ' 14 l nv = y ∧ σ' 15 l nv = w := by
  unfold f_X0_addVow
  have i17 : ix 17 (nI nv) = some nv := ix_nI hn (by decide)
  rw [h, i17, bnd_s, mp_g (by decide), h, i17, bnd_s, mp_g (by decide), mp_g (by decide), h, i17, bnd_s, bnd_s, mp_g (by decide), mp_g (by decide), mp_g (by decide), h, nI_s]
  refine ⟨_, rfl, fun g h0 h1 h2 h3 => ?_, fun g i hi => ?_, fun k hk => ?_, mput_same, fun g hg v hv => ?_, ?_, ?_, ?_⟩
  · rw [mp_g h0, mp_g h3, mp_g h2, mp_g h1]
  · rw [mp_i hi, mp_i hi, mp_i hi, mp_i hi]
  · rw [mp_k hk, mp_g (by decide), mp_g (by decide), mp_g (by decide)]
  · rw [mp_g (by omega), mp_k hv, mp_k hv, mp_k hv]
  · rw [mp_g (by decide), mp_g (by decide), mp_g (by decide), mput_same]
  · rw [mp_g (by decide), mp_g (by decide), mput_same]
  · rw [mp_g (by decide), mput_same]
theorem m_gives {nv : Nat} {τ : Mem} {x y w : Int32} (h : τ 22 0 3 = nI nv) (hn : nv < 17) : ∃ τ', f_X8_gives x y w τ = some τ' ∧ (∀ g, g ≠ 22 → τ' g = τ g) ∧ (∀ k, k ≠ 3 → (k < 57 + 3 * nv ∨ 60 + 3 * nv ≤ k) → τ' 22 0 k = τ 22 0 k) ∧ τ' 22 0 3 = nI (nv + 1) ∧ τ' 22 0 (57 + 3 * nv) = x ∧ τ' 22 0 (58 + 3 * nv) = y ∧ τ' 22 0 (59 + 3 * nv) = w := by
  unfold f_X8_gives
  have v0 := vow_ix nv 0
  have v1 := vow_ix nv 1
  have v2 := vow_ix nv 2
  rw [show nI 0 = (0 : Int32) from rfl] at v0
  rw [show nI 1 = (1 : Int32) from rfl] at v1
  rw [show nI 2 = (2 : Int32) from rfl] at v2
  rw [sx3, bnd_s, h, v0, v1, v2, ix_nI (by omega) (by decide), bnd_s, ix_nI (by omega) (by decide), bnd_s, ix_nI (by omega) (by decide), bnd_s, bnd_s, bnd_s, bnd_s]
  refine ⟨_, rfl, fun g hg => ?_, fun k h1 h2 => ?_, ?_, ?_, ?_, ?_⟩
  · rw [mp_g hg, mp_g hg, mp_g hg, mp_g hg]
  · rw [mp_k (by omega), mp_k (by omega), mp_k (by omega), mp_k (by omega)]
  · rw [mput_same, mp_k (by omega), mp_k (by omega), mp_k (by omega), h, nI_s]
  · rw [mp_k (by omega), mp_k (by omega), mp_k (by omega), show 57 + 3 * nv + 0 = 57 + 3 * nv by omega, mput_same]
  · rw [mp_k (by omega), mp_k (by omega), show 57 + 3 * nv + 1 = 58 + 3 * nv by omega, mput_same]
  · rw [mp_k (by omega), show 57 + 3 * nv + 2 = 59 + 3 * nv by omega, mput_same]
theorem ls_vow {b : Bool} {l n nv nt o u u' : Nat} {w : Int32} {σ τ : Mem} (H : RLd b l 22 σ τ n nv nt) (hv : nv < 17) (ho : o < n) (hu : u < n) (hu' : u' < n) (hb : b = true → u = u') : ∃ σ' τ', f_X0_addVow l (nI o) (nI u) w σ = some σ' ∧ f_X8_gives (nI o) (nI u') w τ = some τ' ∧ RLd b l 22 σ' τ' n (nv + 1) nt ∧ Fm (RgD l) σ σ' ∧ FrM τ τ' ∧ τ' 22 0 2 = τ 22 0 2 := by
  obtain ⟨σ', q1, q2, q3, q4, q5, q6, q7, q8, q9⟩ := c_addVow (x := nI o) (y := nI u) (w := w) H.2.1.1 hv
  obtain ⟨τ', r1, r2, r3, r4, r5, r6, r7⟩ := m_gives (x := nI o) (y := nI u') (w := w) H.2.1.2.1 hv
  refine ⟨σ', τ', q1, r1, RLd_vow H hv ho hu hu' hb (fun g i h0 h1 h2 h3 => by rw [q2 g h0 h1 h2 h3]) q4 q5 q6 q7 q8 q9 r3 r4 r5 r6 r7, fun g i hg => ?_, ⟨fun g h _ _ => r2 g h, fun k hk => r3 k (by omega) (by omega)⟩, r3 2 (by decide) (by omega)⟩
  by_cases hi : i = l
  · rw [q2 g (fun q => hg (by unfold RgD; omega)) (fun q => hg (by unfold RgD; omega)) (fun q => hg (by unfold RgD; omega)) (fun q => hg (by unfold RgD; omega))]
  · exact q3 g i hi
