-- chains
def Ed (nv : Nat) (o u : Nat → Nat) (x y : Nat) : Prop := ∃ v, v < nv ∧ o v = x ∧ u v = y
def St (nv : Nat) (o u : Nat → Nat) (a c : Nat × Nat) : Prop := Ed nv o u a.1 c.1 ∧ a.2.testBit c.1 = false ∧ c.2 = a.2 ||| 2 ^ c.1
def Go (nv : Nat) (o u : Nat → Nat) : Nat → Nat × Nat → Nat × Nat → Prop
  | 0, a, b => a = b
  | j + 1, a, b => ∃ c, St nv o u a c ∧ Go nv o u j c b
def PN (n nv : Nat) (o u : Nat → Nat) : Nat → Nat → Nat → Prop
  | 0, s, x => x < n ∧ s = 2 ^ x
  | m + 1, s, y => ∃ s' x, PN n nv o u m s' x ∧ Ed nv o u x y ∧ s'.testBit y = false ∧ s = s' ||| 2 ^ y
def cb (s : Nat) : Nat := cdF (fun k => s.testBit k) 10
theorem Go_snoc {nv : Nat} {o u : Nat → Nat} : ∀ (j : Nat) (a b c : Nat × Nat), Go nv o u j a b → St nv o u b c → Go nv o u (j + 1) a c := by
  intro j
  induction j with
  | zero =>
    intro a b c h hs
    have h : a = b := h
    subst h
    exact ⟨c, hs, rfl⟩
  | succ j ih =>
    intro a b c h hs
    obtain ⟨d, h1, h2⟩ := h
    exact ⟨d, h1, ih d b c h2 hs⟩
theorem PN_go {n nv : Nat} {o u : Nat → Nat} : ∀ (m s x : Nat), PN n nv o u m s x → ∃ k, k < n ∧ Go nv o u m (k, 2 ^ k) (x, s) := by
  intro m
  induction m with
  | zero =>
    intro s x h
    obtain ⟨h1, h2⟩ := h
    exact ⟨x, h1, by subst h2; rfl⟩
  | succ m ih =>
    intro s y h
    obtain ⟨s', x, h1, h2, h3, h4⟩ := h
    obtain ⟨k, hk, hg⟩ := ih s' x h1
    exact ⟨k, hk, Go_snoc m _ _ _ hg ⟨h2, h3, h4⟩⟩
theorem go_PN {n nv : Nat} {o u : Nat → Nat} : ∀ (j m : Nat) (a b : Nat × Nat), PN n nv o u m a.2 a.1 → Go nv o u j a b → PN n nv o u (m + j) b.2 b.1 := by
  intro j
  induction j with
  | zero =>
    intro m a b h hg
    have hg : a = b := hg
    subst hg
    exact h
  | succ j ih =>
    intro m a b h hg
    obtain ⟨c, h1, h2⟩ := hg
    have := ih (m + 1) c b ⟨a.2, a.1, h, h1.1, h1.2.1, h1.2.2⟩ h2
    rw [show m + 1 + j = m + (j + 1) by omega] at this
    exact this
theorem cd_add {f g : Nat → Bool} {y : Nat} (hy : f y = false) (hg : ∀ k, g k = true ↔ (f k = true ∨ k = y)) : ∀ m, y < m → cdF g m = cdF f m + 1 := by
  have low : ∀ m, m ≤ y → cdF g m = cdF f m := by
    intro m
    induction m with
    | zero => intro _; rfl
    | succ m ih =>
      intro h
      rw [cdF, cdF, ih (by omega)]
      by_cases hf : f m = true
      · rw [if_pos hf, if_pos ((hg m).mpr (Or.inl hf))]
      · rw [if_neg hf, if_neg (fun q => by rcases (hg m).mp q with r | r; exact hf r; omega)]
  intro m
  induction m with
  | zero => intro h; omega
  | succ m ih =>
    intro h
    rw [cdF, cdF]
    by_cases e : m = y
    · subst e
      rw [low m (Nat.le_refl _), if_pos ((hg m).mpr (Or.inr rfl)), hy]
      rfl
    · rw [ih (by omega)]
      by_cases hf : f m = true
      · rw [if_pos hf, if_pos ((hg m).mpr (Or.inl hf))]
      · rw [if_neg hf, if_neg (fun q => by rcases (hg m).mp q with r | r; exact hf r; exact e r)]
theorem cb_add {s y : Nat} (hy : y < 10) (h : s.testBit y = false) : cb (s ||| 2 ^ y) = cb s + 1 := by
  unfold cb
  refine cd_add (f := fun k => s.testBit k) (y := y) h (fun k => ?_) 10 hy
  show (s ||| 2 ^ y).testBit k = true ↔ _
  rw [Nat.testBit_or, Bool.or_eq_true, Nat.testBit_two_pow, decide_eq_true_eq]
  exact ⟨fun q => q.imp id Eq.symm, fun q => q.imp id Eq.symm⟩
theorem cb_one : ∀ x, x < 10 → cb (2 ^ x) = 1 := by decide
theorem cb_le (s : Nat) : cb s ≤ 10 := cd_le _ 10
theorem lt_or {s y : Nat} (h : s.testBit y = false) : s < s ||| 2 ^ y := by
  refine Nat.lt_of_le_of_ne Nat.left_le_or (fun q => ?_)
  have := congrArg (fun z => z.testBit y) q
  simp only [Nat.testBit_or, Nat.testBit_two_pow_self, Bool.or_true, h] at this
  exact absurd this (by decide)
theorem PN_f {n nv : Nat} {o u : Nat → Nat} (hn : n ≤ 10) (hu : ∀ v, v < nv → u v < n) : ∀ (m s x : Nat), PN n nv o u m s x → x < n ∧ s < 2 ^ n ∧ cb s = m + 1 ∧ s.testBit x = true := by
  intro m
  induction m with
  | zero =>
    intro s x h
    obtain ⟨h1, rfl⟩ := h
    exact ⟨h1, Nat.pow_lt_pow_right (by decide) h1, cb_one x (by omega), Nat.testBit_two_pow_self⟩
  | succ m ih =>
    intro s y h
    obtain ⟨s', x, h1, ⟨v, v1, v2, v3⟩, h3, rfl⟩ := h
    obtain ⟨q1, q2, q3, q4⟩ := ih s' x h1
    have hy : y < n := by rw [← v3]; exact hu v v1
    exact ⟨hy, Nat.or_lt_two_pow q2 (Nat.pow_lt_pow_right (by decide) hy), by rw [cb_add (by omega) h3, q3], by rw [Nat.testBit_or, Nat.testBit_two_pow_self, Bool.or_true]⟩
theorem go_cb {n nv : Nat} {o u : Nat → Nat} (hn : n ≤ 10) (hu : ∀ v, v < nv → u v < n) : ∀ (j : Nat) (a b : Nat × Nat), Go nv o u j a b → j + cb a.2 ≤ 10 := by
  intro j
  induction j with
  | zero => intro a b _; have := cb_le a.2; omega
  | succ j ih =>
    intro a b h
    obtain ⟨c, ⟨⟨v, v1, v2, v3⟩, h2, h3⟩, h4⟩ := h
    have := ih c b h4
    have hy : c.1 < n := by rw [← v3]; exact hu v v1
    rw [h3, cb_add (by omega) h2] at this
    omega
/-- the class's search -/
def SpC (n nv : Nat) (o u : Nat → Nat) (σ : Mem) (rec : Nat → Int32 → Int32 → Mem → Option Int32) (d : Nat) : Prop := ∀ x seen, x < n → seen < 1024 → d ≤ cb seen → ∃ r, rec 0 (nI x) (nI seen) σ = some (nI r) ∧ (∃ b, Go nv o u r (x, seen) b) ∧ ∀ j b, Go nv o u j (x, seen) b → j ≤ r
theorem c_from {n nv x seen : Nat} {o u : Nat → Nat} {σ τ : Mem} {rec : Nat → Int32 → Int32 → Mem → Option Int32} (E : Edg n nv o u σ τ) (hx : x < n) (hs : seen < 1024) (hr : SpC n nv o u σ rec (cb seen + 1)) : ∀ (m v acc N : Nat), v + m = nv → m < N → (∃ b, Go nv o u acc (x, seen) b) → (∀ w, w < v → o w = x → seen.testBit (u w) = false → ∀ j b, Go nv o u j (u w, seen ||| 2 ^ u w) b → j + 1 ≤ acc) →
    ∃ r, (∀ K, f_X0_longestChainFrom_5 rec 0 (nI x) (nI seen) σ N (nI acc) (nI v) K = K (nI r)) ∧ (∃ b, Go nv o u r (x, seen) b) ∧ (∀ w, w < nv → o w = x → seen.testBit (u w) = false → ∀ j b, Go nv o u j (u w, seen ||| 2 ^ u w) b → j + 1 ≤ r) := by
  obtain ⟨n10, nv17, -, s6, -, -, hE⟩ := E
  have hu : ∀ v, v < nv → u v < n := fun v hv => (hE v hv).2.1
  intro m
  induction m with
  | zero =>
    intro v acc N hv hN h1 h2
    obtain ⟨N, rfl, -⟩ := succ_of hN
    refine ⟨acc, fun K => ?_, h1, fun w hw => h2 w (by omega)⟩
    rw [f_X0_longestChainFrom_5.eq_2, s6, if_pos (nI_le (by omega) (by omega))]
  | succ m ih =>
    intro v acc N hv hN h1 h2
    obtain ⟨N, rfl, hN⟩ := succ_of hN
    obtain ⟨e1, e2, e3, e4, -, -⟩ := hE v (by omega)
    have i17 : ix 17 (nI v) = some v := ix_nI (by omega) (by decide)
    have hacc : acc ≤ 10 := by obtain ⟨b, hb⟩ := h1; have := go_cb n10 hu acc _ _ hb; omega
    by_cases hx1 : o v = x
    · by_cases hb : seen.testBit (u v) = false
      · obtain ⟨r', p1, p2, p3⟩ := hr (u v) (seen ||| 2 ^ u v) e2 (or_lt hs (p_lt _ (by omega))) (by rw [cb_add (by omega) hb]; exact Nat.le_refl _)
        have hr' : r' ≤ 10 := by obtain ⟨b, hb'⟩ := p2; have := go_cb n10 hu r' _ _ hb'; omega
        have st : St nv o u (x, seen) (u v, seen ||| 2 ^ u v) := ⟨⟨v, by omega, hx1, rfl⟩, hb, rfl⟩
        have em : (if nI acc < ((1 : Int32) + nI r') then ((1 : Int32) + nI r') else nI acc) = nI (if acc < 1 + r' then 1 + r' else acc) := by
          rw [show (1 : Int32) = nI 1 from rfl, nI_add]
          by_cases q : acc < 1 + r'
          · rw [if_pos (nI_lt q (by omega)), if_pos q]
          · rw [if_neg (nI_nlt (by omega) (by omega)), if_neg q]
        obtain ⟨r, r1, r2, r3⟩ := ih (v + 1) (if acc < 1 + r' then 1 + r' else acc) N (by omega) (by omega) (by
          by_cases q : acc < 1 + r'
          · rw [if_pos q, Nat.add_comm]
            obtain ⟨b, hb'⟩ := p2
            exact ⟨b, _, st, hb'⟩
          · rw [if_neg q]; exact h1) (fun w hw w1 w2 j b hg => by
          by_cases e : w = v
          · subst e
            have := p3 j b hg
            split <;> omega
          · have := h2 w (by omega) w1 w2 j b hg
            split <;> omega)
        refine ⟨r, fun K => ?_, r2, r3⟩
        rw [f_X0_longestChainFrom_5.eq_2, s6, if_neg (nI_ge (by omega) (by omega)), i17, bnd_s, bnd_s, e3, hx1, if_pos rfl, e4, if_pos ((tb_and hs (by omega)).mpr hb), b_bit _ (by omega), b_or hs (p_lt _ (by omega)), p1, bnd_s, em, nI_s]
        exact r1 K
      · obtain ⟨r, r1, r2, r3⟩ := ih (v + 1) acc N (by omega) (by omega) h1 (fun w hw w1 w2 j b hg => by
          by_cases e : w = v
          · subst e; exact absurd w2 hb
          · exact h2 w (by omega) w1 w2 j b hg)
        refine ⟨r, fun K => ?_, r2, r3⟩
        rw [f_X0_longestChainFrom_5.eq_2, s6, if_neg (nI_ge (by omega) (by omega)), i17, bnd_s, bnd_s, e3, hx1, if_pos rfl, e4, if_neg (fun q => hb ((tb_and hs (by omega)).mp q)), nI_s]
        exact r1 K
    · obtain ⟨r, r1, r2, r3⟩ := ih (v + 1) acc N (by omega) (by omega) h1 (fun w hw w1 w2 j b hg => by
        by_cases e : w = v
        · subst e; exact absurd w1 hx1
        · exact h2 w (by omega) w1 w2 j b hg)
      refine ⟨r, fun K => ?_, r2, r3⟩
      rw [f_X0_longestChainFrom_5.eq_2, s6, if_neg (nI_ge (by omega) (by omega)), i17, bnd_s, bnd_s, e3, if_neg (fun q => hx1 ((nI_eq (by omega) (by omega)).mp q)), nI_s]
      exact r1 K
theorem c_Sc {n nv : Nat} {o u : Nat → Nat} {σ τ : Mem} (E : Edg n nv o u σ τ) : ∀ f, SpC n nv o u σ (S_c f) (11 - f) := by
  intro f
  induction f with
  | zero => intro x seen _ _ h; have := cb_le seen; omega
  | succ f ih =>
    intro x seen hx hs hd
    have nv17 := E.2.1
    obtain ⟨r, r1, r2, r3⟩ := c_from (rec := S_c f) E hx hs (fun y s' hy hs' hd' => ih y s' hy hs' (by omega)) nv 0 0 FU (by omega) (fu_gt (by omega)) ⟨(x, seen), rfl⟩ (fun w hw => by omega)
    refine ⟨r, ?_, r2, fun j b hg => ?_⟩
    · show f_X0_longestChainFrom (S_c f) 0 (nI x) (nI seen) σ = _
      unfold f_X0_longestChainFrom
      exact r1 _
    · cases j with
      | zero => omega
      | succ j =>
        obtain ⟨c, ⟨⟨v, v1, v2, v3⟩, c2, c3⟩, hg'⟩ := hg
        have v3 : u v = c.1 := v3
        have c3 : c.2 = seen ||| 2 ^ c.1 := c3
        refine r3 v v1 v2 (by rw [v3]; exact c2) j b ?_
        have : c = (u v, seen ||| 2 ^ u v) := by rw [v3, ← c3]
        rw [← this]
        exact hg'
/-- the longest chain: bound and witness -/
def LgC (n nv : Nat) (o u : Nat → Nat) (r : Nat) : Prop := r ≤ 10 ∧ (r = 0 ∨ ∃ s x, PN n nv o u r s x) ∧ ∀ m s x, PN n nv o u m s x → m ≤ r
theorem LgC_eq {n nv : Nat} {o u : Nat → Nat} {r r' : Nat} (h : LgC n nv o u r) (h' : LgC n nv o u r') : r = r' := by
  obtain ⟨-, a, b⟩ := h
  obtain ⟨-, a', b'⟩ := h'
  apply Nat.le_antisymm
  · rcases a with rfl | ⟨s, x, q⟩
    · exact Nat.zero_le _
    · exact b' r s x q
  · rcases a' with rfl | ⟨s, x, q⟩
    · exact Nat.zero_le _
    · exact b r' s x q
theorem c_longest {n nv : Nat} {o u : Nat → Nat} {σ τ : Mem} (E : Edg n nv o u σ τ) : ∃ r, f_X0_longestChain 0 σ = some (nI r) ∧ LgC n nv o u r := by
  have n10 := E.1
  have hu : ∀ v, v < nv → u v < n := fun v hv => (E.2.2.2.2.2.2 v hv).2.1
  have s2 := E.2.2.1
  have key : ∀ (m i acc N : Nat), i + m = n → m < N → acc ≤ 10 → (acc = 0 ∨ ∃ s x, PN n nv o u acc s x) → (∀ k, k < i → ∀ j b, Go nv o u j (k, 2 ^ k) b → j ≤ acc) → ∃ r, (∀ K, f_X0_longestChain_4 0 σ N (nI acc) (nI i) K = K (nI r)) ∧ r ≤ 10 ∧ (r = 0 ∨ ∃ s x, PN n nv o u r s x) ∧ (∀ k, k < n → ∀ j b, Go nv o u j (k, 2 ^ k) b → j ≤ r) := by
    intro m
    induction m with
    | zero =>
      intro i acc N hi hN h10 h1 h2
      obtain ⟨N, rfl, -⟩ := succ_of hN
      refine ⟨acc, fun K => ?_, h10, h1, fun k hk => h2 k (by omega)⟩
      rw [f_X0_longestChain_4.eq_2, s2, if_pos (nI_le (by omega) (by omega))]
    | succ m ih =>
      intro i acc N hi hN h10 h1 h2
      obtain ⟨N, rfl, hN⟩ := succ_of hN
      obtain ⟨r', p1, p2, p3⟩ := c_Sc E 12 i (2 ^ i) (by omega) (p_lt i (by omega)) (by omega)
      have hr' : r' ≤ 10 := by obtain ⟨b, hb'⟩ := p2; have := go_cb n10 hu r' _ _ hb'; omega
      have em : (if nI acc < nI r' then nI r' else nI acc) = nI (if acc < r' then r' else acc) := by
        by_cases q : acc < r'
        · rw [if_pos (nI_lt q (by omega)), if_pos q]
        · rw [if_neg (nI_nlt (by omega) (by omega)), if_neg q]
      obtain ⟨r, r1, r2, r3, r4⟩ := ih (i + 1) (if acc < r' then r' else acc) N (by omega) (by omega) (by split <;> omega) (by
        by_cases q : acc < r'
        · rw [if_pos q]
          obtain ⟨b, hb'⟩ := p2
          have := go_PN (n := n) r' 0 (i, 2 ^ i) b ⟨by omega, rfl⟩ hb'
          rw [Nat.zero_add] at this
          exact Or.inr ⟨_, _, this⟩
        · rw [if_neg q]; exact h1) (fun k hk j b hg => by
        by_cases e : k = i
        · subst e
          have := p3 j b hg
          split <;> omega
        · have := h2 k (by omega) j b hg
          split <;> omega)
      refine ⟨r, fun K => ?_, r2, r3, r4⟩
      rw [f_X0_longestChain_4.eq_2, s2, if_neg (nI_ge (by omega) (by omega)), b_bit i (by omega), p1, bnd_s, em, nI_s]
      exact r1 K
  obtain ⟨r, r1, r2, r3, r4⟩ := key n 0 0 FU (by omega) (fu_gt (by omega)) (by decide) (Or.inl rfl) (fun k hk => by omega)
  refine ⟨r, ?_, r2, r3, fun m s x h => ?_⟩
  · unfold f_X0_longestChain
    exact r1 _
  · obtain ⟨k, hk, hg⟩ := PN_go m s x h
    exact r4 k hk m _ hg
