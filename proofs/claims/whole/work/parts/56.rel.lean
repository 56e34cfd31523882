-- a land of the class beside a row of the reference (group G: 22 its row, 23 its image); b: others and purses too
def RLn (l G : Nat) (σ τ : Mem) (n : Nat) : Prop := σ 0 l 2 = nI n ∧ τ G 0 0 = nI n ∧ n ≤ 10
def RLv (l G : Nat) (σ τ : Mem) (nv : Nat) : Prop := σ 0 l 6 = nI nv ∧ τ G 0 3 = nI nv ∧ nv ≤ 17
def RLp (b : Bool) (l G : Nat) (σ τ : Mem) (n : Nat) : Prop := ∀ j, j < n →
  (∃ kd, kd < 6 ∧ σ 3 (10 * l + j) 0 = nI kd ∧ τ G 0 (7 + 5 * j) = nI kd) ∧
  (∃ e, e < 24 ∧ σ 3 (10 * l + j) 1 = nI e ∧ τ G 0 (8 + 5 * j) = nI e) ∧
  (∃ f, f < 100 ∧ σ 3 (10 * l + j) 2 = nI f ∧ τ G 0 (9 + 5 * j) = nI f) ∧
  (b = true → σ 3 (10 * l + j) 3 = τ G 0 (10 + 5 * j)) ∧ σ 3 (10 * l + j) 4 = τ G 0 (11 + 5 * j)
def RLw (b : Bool) (l G : Nat) (σ τ : Mem) (n nv : Nat) : Prop := ∀ v, v < nv →
  (∃ o, o < n ∧ σ 13 l v = nI o ∧ τ G 0 (57 + 3 * v) = nI o) ∧
  (∃ o o', o < n ∧ o' < n ∧ σ 14 l v = nI o ∧ τ G 0 (58 + 3 * v) = nI o' ∧ (b = true → o = o')) ∧
  σ 15 l v = τ G 0 (59 + 3 * v)
def RLc (l G : Nat) (σ τ : Mem) : Prop := σ 0 l 7 = τ G 0 4 ∧ σ 0 l 8 = τ G 0 5 ∧ σ 0 l 9 = τ G 0 2 ∧ σ 0 l 10 = τ G 0 6
/-- the last of the first n texts that is for key k -/
def co (τ : Mem) (G k : Nat) : Nat → Int32
  | 0 => -1
  | t + 1 => if τ G 0 (108 + 200 * t) = nI k then nI t else co τ G k t
def RLk (l G : Nat) (σ τ : Mem) (nt : Nat) : Prop := σ 0 l 11 = nI nt ∧ τ G 0 1 = nI nt ∧ nt ≤ 14 ∧ ∀ k, k < 3 → σ 16 l k = co τ G k nt
def RLd (b : Bool) (l G : Nat) (σ τ : Mem) (n nv nt : Nat) : Prop := RLn l G σ τ n ∧ RLv l G σ τ nv ∧ RLp b l G σ τ n ∧ RLw b l G σ τ n nv ∧ RLc l G σ τ ∧ RLk l G σ τ nt
-- a vow goes on both sides
theorem shf_at {τ : Mem} {a e k : Nat} : shf τ a e 22 0 k = if a ≤ k ∧ k < e then τ 22 0 (k + 3) else τ 22 0 k := by
  unfold shf
  by_cases h : a ≤ k ∧ k < e
  · rw [if_pos ⟨rfl, rfl, h.1, h.2⟩, if_pos h]
  · rw [if_neg (fun q => h q.2.2), if_neg h]
theorem lapM_at {τ : Mem} {v nv k : Nat} (h3 : k ≠ 3) (h5 : k ≠ 5) : lapM τ v nv 22 0 k = if 57 + 3 * v ≤ k ∧ k < 57 + 3 * (nv - 1) then τ 22 0 (k + 3) else τ 22 0 k := by
  unfold lapM
  rw [mp_k h5, mp_k h3, shf_at]
theorem lapC_0 {σ : Mem} {l v nv l' k : Nat} (h6 : k ≠ 6) (h8 : k ≠ 8) : lapC σ l v nv 0 l' k = σ 0 l' k := by
  unfold lapC
  rw [mp_k h8, mp_k h6, mc_g (by decide), mc_g (by decide), mc_g (by decide)]
theorem lapC_g {σ : Mem} {l v nv g : Nat} (h : g ≠ 0 ∧ g ≠ 13 ∧ g ≠ 14 ∧ g ≠ 15) : lapC σ l v nv g = σ g := by
  unfold lapC
  rw [mp_g h.1, mp_g h.1, mc_g h.2.2.2, mc_g h.2.2.1, mc_g h.2.1]
theorem lapC_13 {σ : Mem} {l v nv w : Nat} : lapC σ l v nv 13 l w = if v ≤ w ∧ w < v + (nv - v - 1) then σ 13 l (w + 1) else σ 13 l w := by
  unfold lapC
  rw [mp_g (by decide), mp_g (by decide), mc_g (by decide), mc_g (by decide), mc_on]
  by_cases h : v ≤ w ∧ w < v + (nv - v - 1)
  · rw [if_pos h, if_pos h, show v + 1 + (w - v) = w + 1 by omega]
  · rw [if_neg h, if_neg h]
theorem lapC_14 {σ : Mem} {l v nv w : Nat} : lapC σ l v nv 14 l w = if v ≤ w ∧ w < v + (nv - v - 1) then σ 14 l (w + 1) else σ 14 l w := by
  unfold lapC
  rw [mp_g (by decide), mp_g (by decide), mc_g (by decide), mc_on]
  by_cases h : v ≤ w ∧ w < v + (nv - v - 1)
  · rw [if_pos h, if_pos h, show v + 1 + (w - v) = w + 1 by omega, mc_g (by decide)]
  · rw [if_neg h, if_neg h, mc_g (by decide)]
theorem lapC_15 {σ : Mem} {l v nv w : Nat} : lapC σ l v nv 15 l w = if v ≤ w ∧ w < v + (nv - v - 1) then σ 15 l (w + 1) else σ 15 l w := by
  unfold lapC
  rw [mp_g (by decide), mp_g (by decide), mc_on]
  by_cases h : v ≤ w ∧ w < v + (nv - v - 1)
  · rw [if_pos h, if_pos h, show v + 1 + (w - v) = w + 1 by omega, mc_g (by decide), mc_g (by decide)]
  · rw [if_neg h, if_neg h, mc_g (by decide), mc_g (by decide)]
theorem co_congr {τ τ' : Mem} {G k : Nat} : ∀ n, (∀ t, t < n → τ' G 0 (108 + 200 * t) = τ G 0 (108 + 200 * t)) → co τ' G k n = co τ G k n := by
  intro n
  induction n with
  | zero => intro _; rfl
  | succ n ih =>
    intro h
    rw [co, co, h n (by omega), ih (fun t ht => h t (by omega))]
theorem RLd_lapse {b : Bool} {l : Nat} {σ τ : Mem} {n nv nt v : Nat} (h : RLd b l 22 σ τ n nv nt) (hv : v < nv) : RLd b l 22 (lapC σ l v nv) (lapM τ v nv) n (nv - 1) nt := by
  obtain ⟨⟨a1, a2, a3⟩, ⟨b1, b2, b3⟩, hp, hw, ⟨d1, d2, d3, d4⟩, e1, e2, e3, e4⟩ := h
  have lo : ∀ k, k < 57 → k ≠ 3 → k ≠ 5 → lapM τ v nv 22 0 k = τ 22 0 k := fun k hk h3 h5 => by rw [lapM_at h3 h5, if_neg (by omega)]
  have hi : ∀ k, 108 ≤ k → lapM τ v nv 22 0 k = τ 22 0 k := fun k hk => by rw [lapM_at (by omega) (by omega), if_neg (by omega)]
  have c3 : lapC σ l v nv 3 = σ 3 := lapC_g (by decide)
  refine ⟨⟨?_, ?_, a3⟩, ⟨?_, ?_, by omega⟩, ?_, ?_, ⟨?_, ?_, ?_, ?_⟩, ?_, ?_, e3, ?_⟩
  · rw [lapC_0 (by decide) (by decide)]; exact a1
  · rw [lo 0 (by decide) (by decide) (by decide)]; exact a2
  · unfold lapC; rw [mp_k (by decide), mput_same]
  · unfold lapM; rw [mp_k (by decide), mput_same]
  · intro j hj
    rw [c3, lo _ (by omega) (by omega) (by omega), lo _ (by omega) (by omega) (by omega), lo _ (by omega) (by omega) (by omega), lo _ (by omega) (by omega) (by omega), lo _ (by omega) (by omega) (by omega)]
    exact hp j hj
  · intro w hwv
    rw [lapC_13, lapC_14, lapC_15, lapM_at (by omega) (by omega), lapM_at (by omega) (by omega), lapM_at (by omega) (by omega)]
    by_cases hc : v ≤ w
    · rw [if_pos (by omega), if_pos (by omega), if_pos (by omega), if_pos (by omega), if_pos (by omega), if_pos (by omega)]
      have := hw (w + 1) (by omega)
      rw [show 57 + 3 * w + 3 = 57 + 3 * (w + 1) by omega, show 58 + 3 * w + 3 = 58 + 3 * (w + 1) by omega, show 59 + 3 * w + 3 = 59 + 3 * (w + 1) by omega]
      exact this
    · rw [if_neg (by omega), if_neg (by omega), if_neg (by omega), if_neg (by omega), if_neg (by omega), if_neg (by omega)]
      exact hw w (by omega)
  · rw [lapC_0 (by decide) (by decide), lo 4 (by decide) (by decide) (by decide)]; exact d1
  · unfold lapC lapM; rw [mput_same, mput_same, d2]
  · rw [lapC_0 (by decide) (by decide), lo 2 (by decide) (by decide) (by decide)]; exact d3
  · rw [lapC_0 (by decide) (by decide), lo 6 (by decide) (by decide) (by decide)]; exact d4
  · rw [lapC_0 (by decide) (by decide)]; exact e1
  · rw [lo 1 (by decide) (by decide) (by decide)]; exact e2
  · intro k hk
    rw [lapC_g (by decide), co_congr nt (fun t _ => hi _ (by omega))]
    exact e4 k hk
