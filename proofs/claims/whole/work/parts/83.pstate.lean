-- the state of reading on both sides
def atT (T : Nat) : Nat := if T < 14 then 112 + 200 * T else 2908
theorem atT_le {T : Nat} (h : T < 15) : 112 ≤ atT T ∧ atT T ≤ 2908 := by unfold atT; split <;> omega
def PS (x : Nat → Nat) (L T key : Nat) (σ τ : Mem) (len D br no s b e : Nat) : Prop :=
  CT x L σ ∧ MT x L τ ∧ TK x L s b e σ τ ∧ (T < 15 ∧ σ 4 0 2 = nI (T + 1) ∧ key < 3 ∧ σ 1 T 0 = nI key) ∧ (σ 1 T 3 = nI len ∧ τ 8 0 24 = nI len ∧ τ 8 0 25 = nI (atT T) ∧ σ 1 T 1 = τ 8 0 26) ∧
  (∀ j, j < len → encS key (σ 11 T j) (τ 22 0 (atT T + 2 * j)) (τ 22 0 (atT T + 2 * j + 1))) ∧
  (∀ k, k < len → (σ 11 T k = -33 → 1 ≤ dpt (fun j => σ 11 T j) k) ∧ (σ 11 T k < -3 → ¬ σ 11 T k = -33 → 2 ≤ dpt (fun j => σ 11 T j) k)) ∧ dpt (fun j => σ 11 T j) len = D ∧ (τ 8 0 22 = nI br ∧ τ 8 0 23 = nI no ∧ br ≤ 8 ∧ no ≤ 8)
/-- nothing else has changed -/
def FP (T : Nat) (σ τ σ' τ' : Mem) : Prop := (∀ g i, g ≠ 4 → ¬ ((g = 1 ∨ g = 11) ∧ i = T) → σ' g i = σ g i) ∧ (∀ g, g ≠ 8 → g ≠ 22 → τ' g = τ g) ∧ (∀ k, k < 17 ∨ 27 ≤ k → τ' 8 0 k = τ 8 0 k) ∧ (∀ k, k < atT T ∨ atT T + 192 ≤ k → τ' 22 0 k = τ 22 0 k)
theorem FP.rf {T : Nat} {σ τ : Mem} : FP T σ τ σ τ := ⟨fun _ _ _ _ => rfl, fun _ _ _ => rfl, fun _ _ => rfl, fun _ _ => rfl⟩
theorem FP.trans {T : Nat} {a b a' b' a'' b'' : Mem} (h1 : FP T a b a' b') (h2 : FP T a' b' a'' b'') : FP T a b a'' b'' :=
  ⟨fun g i x y => (h2.1 g i x y).trans (h1.1 g i x y), fun g x y => (h2.2.1 g x y).trans (h1.2.1 g x y), fun k x => (h2.2.2.1 k x).trans (h1.2.2.1 k x), fun k x => (h2.2.2.2 k x).trans (h1.2.2.2 k x)⟩
def PF (T : Nat) (σ τ : Mem) : Prop := σ 4 0 4 = τ 8 0 17 ∧ σ 4 0 2 = nI (T + 1) ∧ ∃ len, len ≤ 96 ∧ σ 1 T 3 = nI len
def PRes (x : Nat → Nat) (L T key : Nat) (σ τ : Mem) (len D br no b : Nat) (A B : Option (Int32 × Mem)) : Prop :=
  (∃ σ' τ', A = some (0, σ') ∧ B = some (0, τ') ∧ PF T σ' τ' ∧ FP T σ τ σ' τ') ∨
  (∃ σ' τ' len' s' b' e', A = some (1, σ') ∧ B = some (1, τ') ∧ PS x L T key σ' τ' len' (D + 1) br no s' b' e' ∧ len' + b ≤ len + b' ∧ b < b' ∧ FP T σ τ σ' τ')
theorem PS.pf {x : Nat → Nat} {L T key : Nat} {σ τ : Mem} {len D br no s b e : Nat} (h : PS x L T key σ τ len D br no s b e) (hl : len ≤ b) : PF T σ τ := by
  obtain ⟨h1, h2, h3, h4, h5, -⟩ := h
  have := h1.1
  obtain ⟨-, -, t3, t4, -, -, t7, t8, -⟩ := h3
  exact ⟨t3.trans t4.symm, h4.2.1, len, by omega, h5.1⟩
theorem PS.fail {x : Nat → Nat} {L T key : Nat} {σ τ : Mem} {len D D' br no s b e : Nat} (h : PS x L T key σ τ len D br no s b e) (hl : len ≤ b) : PRes x L T key σ τ len D' br no b (some (0, σ)) (some (0, τ)) := Or.inl ⟨σ, τ, rfl, rfl, h.pf hl, FP.rf⟩
theorem dpt_congr {c c' : Nat → Int32} : ∀ n, (∀ j, j < n → c' j = c j) → dpt c' n = dpt c n := by
  intro n
  induction n with
  | zero => intro _; rfl
  | succ n ih =>
    intro h
    rw [dpt, dpt, h n (by omega), ih (fun j hj => h j (by omega))]
theorem PS_goOn {x : Nat → Nat} {L T key : Nat} {σ τ : Mem} {len D br no s b e : Nat} (h : PS x L T key σ τ len D br no s b e) : ∃ σ' τ' s' b' e', f_X4_goOn σ = some σ' ∧ f_X8_nextToken τ = some τ' ∧ PS x L T key σ' τ' len D br no s' b' e' ∧ e ≤ b' ∧ FP T σ τ σ' τ' := by
  obtain ⟨h1, h2, h3, ⟨k1, k2, k3, k4⟩, ⟨l1, l2, l3, l4⟩, h6, h7, h8, ⟨m1, m2, m3, m4⟩⟩ := h
  obtain ⟨t1, t2, t3, t4, t5, t6, t7, t8, t9, t10, -⟩ := id h3
  obtain ⟨σ', τ', s', b', e', q1, q2, q3, q4, q5, q6, q7, q8, q9, q10⟩ := ls_goOn h1 h2 t5 t6 t8 t1 t2 t9 t9 Iff.rfl (fun q => by have := t10 (by omega); omega)
  refine ⟨σ', τ', s', b', e', q1, q2, ⟨q5, q6, q3, ⟨k1, by rw [q8 2 (by decide) (by decide) (by decide)]; exact k2, k3, by rw [q7 1 (by decide)]; exact k4⟩, ⟨by rw [q7 1 (by decide)]; exact l1, by rw [q10 24 (by decide)]; exact l2, by rw [q10 25 (by decide)]; exact l3, by rw [q7 1 (by decide), q10 26 (by decide)]; exact l4⟩, by rw [q7 11 (by decide), q9 22 (by decide)]; exact h6, by rw [q7 11 (by decide)]; exact h7, by rw [q7 11 (by decide)]; exact h8, by rw [q10 22 (by decide)]; exact m1, by rw [q10 23 (by decide)]; exact m2, m3, m4⟩, q4, fun g i hg _ => by rw [q7 g hg], fun g hg _ => q9 g hg, fun k hk => q10 k (by omega), fun k _ => by rw [q9 22 (by decide)]⟩
theorem TK_put {x : Nat → Nat} {L s b e k : Nat} {σ τ : Mem} {v : Int32} (h : TK x L s b e σ τ) (hk : k < 17 ∨ 22 ≤ k) : TK x L s b e σ (mput τ 8 0 k v) := by
  obtain ⟨t1, t2, t3, t4, t5, t6, t7, t8, t9, t10, t11, t12, t13⟩ := h
  refine ⟨t1, by rw [mp_k (by omega)]; exact t2, t3, by rw [mp_k (by omega)]; exact t4, t5, by rw [mp_k (by omega)]; exact t6, t7, t8, t9, t10, ?_, ?_, ?_⟩
  · rw [mp_k (show 21 ≠ k by omega)]; exact t11
  · rw [mp_k (show 21 ≠ k by omega)]; exact t12
  · rw [mp_k (show 20 ≠ k by omega)]; exact t13
theorem PS_deep {x : Nat → Nat} {L T key : Nat} {σ τ : Mem} {len D br no s b e br' : Nat} (h : PS x L T key σ τ len D br no s b e) (hb : br' ≤ 8) : PS x L T key σ (mput τ 8 0 22 (nI br')) len D br' no s b e ∧ FP T σ τ σ (mput τ 8 0 22 (nI br')) := by
  obtain ⟨h1, h2, h3, h4, ⟨l1, l2, l3, l4⟩, h6, h7, h8, ⟨m1, m2, m3, m4⟩⟩ := h
  exact ⟨⟨h1, h2.put (by decide), TK_put h3 (by decide), h4, ⟨l1, by rw [mp_k (by decide)]; exact l2, by rw [mp_k (by decide)]; exact l3, by rw [mp_k (by decide)]; exact l4⟩, by rw [mp_g (by decide)]; exact h6, h7, h8, mput_same, by rw [mp_k (by decide)]; exact m2, hb, m4⟩, fun _ _ _ _ => rfl, fun g hg _ => mp_g hg, fun k hk => mp_k (by omega), fun k _ => by rw [mp_g (by decide)]⟩
theorem PS_turn {x : Nat → Nat} {L T key : Nat} {σ τ : Mem} {len D br no s b e no' : Nat} (h : PS x L T key σ τ len D br no s b e) (hb : no' ≤ 8) : PS x L T key σ (mput τ 8 0 23 (nI no')) len D br no' s b e ∧ FP T σ τ σ (mput τ 8 0 23 (nI no')) := by
  obtain ⟨h1, h2, h3, h4, ⟨l1, l2, l3, l4⟩, h6, h7, h8, ⟨m1, m2, m3, m4⟩⟩ := h
  exact ⟨⟨h1, h2.put (by decide), TK_put h3 (by decide), h4, ⟨l1, by rw [mp_k (by decide)]; exact l2, by rw [mp_k (by decide)]; exact l3, by rw [mp_k (by decide)]; exact l4⟩, by rw [mp_g (by decide)]; exact h6, h7, h8, by rw [mp_k (by decide)]; exact m1, mput_same, m3, hb⟩, fun _ _ _ _ => rfl, fun g hg _ => mp_g hg, fun k hk => mp_k (by omega), fun k _ => by rw [mp_g (by decide)]⟩
theorem sh_id {v : Int32} (h1 : -32768 ≤ v.toInt) (h2 : v.toInt < 32768) : (v.toInt16.toInt32).toInt16.toInt32 = v := by
  have e : v.toInt16.toInt32 = v := by
    apply Int32.toInt_inj.mp
    rw [Int16.toInt_toInt32, Int32.toInt_toInt16, Int.bmod_eq_of_le (by omega) (by omega)]
  rw [e, e]
theorem c_put {σ : Mem} {T len : Nat} {v : Int32} (h : σ 1 T 3 = nI len) (hl : len < 96) (h1 : -32768 ≤ v.toInt) (h2 : v.toInt < 32768) : f_X1_put T v σ = some (mput (mput σ 11 T len v) 1 T 3 (nI (len + 1))) := by
  unfold f_X1_put
  rw [h, if_neg (show ¬ (96 : Int32) ≤ nI len from nI_ge (b := 96) hl (by decide)), ix_nI hl (by decide), bnd_s, bnd_s, sh_id h1 h2, mp_g (by decide), h, nI_s]
theorem m_step {τ : Mem} {A len : Nat} {w v : Int32} (h24 : τ 8 0 24 = nI len) (h25 : τ 8 0 25 = nI A) (hA : A + 2 * len + 1 < 3108) : f_X8_step w v τ = some (mput (mput (mput τ 22 0 (A + 2 * len) w) 22 0 (A + 2 * len + 1) v) 8 0 24 (nI (len + 1))) := by
  unfold f_X8_step
  have e : nI A + ((2 : Int32) * nI len) = nI (A + 2 * len) := by rw [show (2 : Int32) = nI 2 from rfl, pk_mul, nI_add]
  rw [h24, h25, e, ix_nI (by omega) (by decide), bnd_s, mp_g (by decide), h24, h25, e, nI_s, ix_nI (by omega) (by decide), bnd_s, bnd_s, mp_g (by decide), mp_g (by decide), h24, nI_s]
theorem PS_push {x : Nat → Nat} {L T key : Nat} {σ τ : Mem} {len D D' br no s b e : Nat} {cv w v : Int32} (h : PS x L T key σ τ len D br no s b e) (hl : len < 96) (he : encS key cv w v) (hD : D' = if cv < -3 then (if cv = -33 then D else D - 1) else D + 1) (hok : (cv = -33 → 1 ≤ D) ∧ (cv < -3 → ¬ cv = -33 → 2 ≤ D)) :
    PS x L T key (mput (mput σ 11 T len cv) 1 T 3 (nI (len + 1))) (mput (mput (mput τ 22 0 (atT T + 2 * len) w) 22 0 (atT T + 2 * len + 1) v) 8 0 24 (nI (len + 1))) (len + 1) D' br no s b e ∧ FP T σ τ (mput (mput σ 11 T len cv) 1 T 3 (nI (len + 1))) (mput (mput (mput τ 22 0 (atT T + 2 * len) w) 22 0 (atT T + 2 * len + 1) v) 8 0 24 (nI (len + 1))) := by
  obtain ⟨h1, h2, h3, ⟨k1, k2, k3, k4⟩, ⟨l1, l2, l3, l4⟩, h6, h7, h8, ⟨m1, m2, m3, m4⟩⟩ := h
  have cc : ∀ j, j ≠ len → mput (mput σ 11 T len cv) 1 T 3 (nI (len + 1)) 11 T j = σ 11 T j := fun j hj => by rw [mp_g (by decide), mp_k hj]
  have cn : mput (mput σ 11 T len cv) 1 T 3 (nI (len + 1)) 11 T len = cv := by rw [mp_g (by decide), mput_same]
  have dd : ∀ k, k ≤ len → dpt (fun j => mput (mput σ 11 T len cv) 1 T 3 (nI (len + 1)) 11 T j) k = dpt (fun j => σ 11 T j) k := fun k hk => dpt_congr k (fun j hj => cc j (by omega))
  have tg : ∀ g, g ≠ 8 → g ≠ 22 → mput (mput (mput τ 22 0 (atT T + 2 * len) w) 22 0 (atT T + 2 * len + 1) v) 8 0 24 (nI (len + 1)) g = τ g := fun g x1 x2 => by rw [mp_g x1, mp_g x2, mp_g x2]
  have tk : ∀ k, k ≠ 24 → mput (mput (mput τ 22 0 (atT T + 2 * len) w) 22 0 (atT T + 2 * len + 1) v) 8 0 24 (nI (len + 1)) 8 0 k = τ 8 0 k := fun k hk => by rw [mp_k hk, mp_g (by decide), mp_g (by decide)]
  have tc : ∀ k, k ≠ atT T + 2 * len → k ≠ atT T + 2 * len + 1 → mput (mput (mput τ 22 0 (atT T + 2 * len) w) 22 0 (atT T + 2 * len + 1) v) 8 0 24 (nI (len + 1)) 22 0 k = τ 22 0 k := fun k x1 x2 => by rw [mp_g (by decide), mp_k x2, mp_k x1]
  have ta : mput (mput (mput τ 22 0 (atT T + 2 * len) w) 22 0 (atT T + 2 * len + 1) v) 8 0 24 (nI (len + 1)) 22 0 (atT T + 2 * len) = w := by rw [mp_g (by decide), mp_k (by omega), mput_same]
  have tb : mput (mput (mput τ 22 0 (atT T + 2 * len) w) 22 0 (atT T + 2 * len + 1) v) 8 0 24 (nI (len + 1)) 22 0 (atT T + 2 * len + 1) = v := by rw [mp_g (by decide), mput_same]
  refine ⟨⟨⟨h1.1, by rw [mp_g (by decide), mp_g (by decide)]; exact h1.2.1, by rw [mp_g (by decide), mp_g (by decide)]; exact h1.2.2⟩, ⟨h2.1, by rw [tk 16 (by decide)]; exact h2.2.1, by rw [tg 36 (by decide) (by decide)]; exact h2.2.2⟩, ?_, ⟨k1, by rw [mp_g (by decide), mp_g (by decide)]; exact k2, k3, by rw [mp_k (by decide), mp_g (by decide)]; exact k4⟩, ⟨mput_same, mput_same, by rw [tk 25 (by decide)]; exact l3, by rw [mp_k (by decide), mp_g (by decide), tk 26 (by decide)]; exact l4⟩, ?_, ?_, ?_, by rw [tk 22 (by decide)]; exact m1, by rw [tk 23 (by decide)]; exact m2, m3, m4⟩, fun g i hg hn => ?_, tg, fun k hk => tk k (by omega), fun k hk => tc k (by omega) (by omega)⟩
  · obtain ⟨t1, t2, t3, t4, t5, t6, t7, t8, t9, t10, t11, t12, t13⟩ := h3
    refine ⟨?_, ?_, ?_, ?_, ?_, ?_, t7, t8, t9, t10, ?_, ?_, ?_⟩
    · rw [mp_g (by decide), mp_g (by decide)]; exact t1
    · rw [tk 19 (by decide)]; exact t2
    · rw [mp_g (by decide), mp_g (by decide)]; exact t3
    · rw [tk 17 (by decide)]; exact t4
    · rw [mp_g (by decide), mp_g (by decide)]; exact t5
    · rw [tk 18 (by decide)]; exact t6
    · rw [tk 21 (by decide)]; exact t11
    · rw [tk 21 (by decide)]; exact t12
    · rw [tk 20 (by decide)]; exact t13
  · intro j hj
    by_cases ej : j = len
    · subst ej
      rw [cn, ta, tb]
      exact he
    · rw [cc j ej, tc _ (by omega) (by omega), tc _ (by omega) (by omega)]
      exact h6 j (by omega)
  · intro k hk
    rw [dd k (by omega)]
    by_cases ek : k = len
    · subst ek
      rw [cn, h8]
      exact hok
    · rw [cc k ek]
      exact h7 k (by omega)
  · rw [dpt, dd len (Nat.le_refl _), cn, h8, hD]
  · rw [mput_cell (fun q => hn (by cases q; exact ⟨Or.inl rfl, rfl⟩)), mput_cell (fun q => hn (by cases q; exact ⟨Or.inr rfl, rfl⟩))]
theorem PS_leaf {x : Nat → Nat} {L T key : Nat} {σ τ : Mem} {len D br no s b e : Nat} (h : PS x L T key σ τ len D br no s b e) : PS x L T key (mput σ 1 T 1 (σ 1 T 1 + 1)) (mput τ 8 0 26 (τ 8 0 26 + 1)) len D br no s b e ∧ FP T σ τ (mput σ 1 T 1 (σ 1 T 1 + 1)) (mput τ 8 0 26 (τ 8 0 26 + 1)) := by
  obtain ⟨h1, h2, h3, ⟨k1, k2, k3, k4⟩, ⟨l1, l2, l3, l4⟩, h6, h7, h8, ⟨m1, m2, m3, m4⟩⟩ := h
  have h3' := TK_put (k := 26) (v := τ 8 0 26 + 1) h3 (by decide)
  refine ⟨⟨⟨h1.1, by rw [mp_g (by decide)]; exact h1.2.1, by rw [mp_g (by decide)]; exact h1.2.2⟩, h2.put (by decide), ?_, ⟨k1, by rw [mp_g (by decide)]; exact k2, k3, by rw [mp_k (by decide)]; exact k4⟩, ⟨by rw [mp_k (by decide)]; exact l1, by rw [mp_k (by decide)]; exact l2, by rw [mp_k (by decide)]; exact l3, by rw [mput_same, mput_same, l4]⟩, ?_, ?_, ?_, by rw [mp_k (by decide)]; exact m1, by rw [mp_k (by decide)]; exact m2, m3, m4⟩, fun g i hg hn => mput_cell (fun q => hn (by cases q; exact ⟨Or.inl rfl, rfl⟩)), fun g hg _ => mp_g hg, fun k hk => mp_k (by omega), fun k _ => by rw [mp_g (by decide)]⟩
  · obtain ⟨t1, t2, t3, t4, t5, t6, tr⟩ := h3'
    exact ⟨by rw [mp_g (by decide)]; exact t1, t2, by rw [mp_g (by decide)]; exact t3, t4, by rw [mp_g (by decide)]; exact t5, t6, tr⟩
  · rw [mp_g (show 11 ≠ 1 by decide), mp_g (show 22 ≠ 8 by decide)]; exact h6
  · rw [mp_g (show 11 ≠ 1 by decide)]; exact h7
  · rw [mp_g (show 11 ≠ 1 by decide)]; exact h8
theorem dyn_T {T : Nat} (h : T < 15) : dynL (nI (T + 1)) = some T := by
  unfold dynL
  rw [nI_clamp (by omega), if_pos (by omega)]
  rfl
-- the number, the sign that stand here
theorem nvN_lt {x : Nat → Nat} : ∀ (m p acc : Nat), (∀ q, p ≤ q → q < p + m → isDg (x q) = true) → nvN x p m acc < (acc + 1) * 10 ^ m := by
  intro m
  induction m with
  | zero => intro p acc _; show acc < (acc + 1) * 1; omega
  | succ m ih =>
    intro p acc h
    have hd := h p (Nat.le_refl _) (by omega)
    unfold isDg at hd
    rw [Bool.and_eq_true, decide_eq_true_eq, decide_eq_true_eq] at hd
    have q := ih (p + 1) (10 * acc + x p - 48) (fun q h1 h2 => h q (by omega) (by omega))
    rw [nvN]
    refine Nat.lt_of_lt_of_le q ?_
    rw [Nat.pow_succ, Nat.mul_comm (10 ^ m) 10, ← Nat.mul_assoc]
    exact Nat.mul_le_mul_right _ (by omega)
theorem nvN_4 {x : Nat → Nat} {b e : Nat} (h4 : e ≤ b + 4) (hd : ∀ q, b ≤ q → q < e → isDg (x q) = true) : nvN x b (e - b) 0 < 10000 := by
  have q := nvN_lt (x := x) (e - b) b 0 (fun q h1 h2 => hd q h1 (by omega))
  refine Nat.lt_of_lt_of_le q ?_
  rw [Nat.zero_add, Nat.one_mul]
  rcases (show e - b = 0 ∨ e - b = 1 ∨ e - b = 2 ∨ e - b = 3 ∨ e - b = 4 by omega) with h | h | h | h | h <;> rw [h] <;> decide
theorem dg_byte : ∀ v, v < 256 → isDg v = true → byteV v = nI v ∧ 48 ≤ v := by decide +kernel
theorem c_number_L {x : Nat → Nat} {L e : Nat} {σ : Mem} (hc : CT x L σ) (h5 : σ 4 0 5 = nI e) (he : e ≤ L) : ∀ (m p acc N : Nat) (K : Int32 → Option Int32), p + m = e → (∀ q, p ≤ q → q < e → isDg (x q) = true) → m < N → f_X4_numberHere_7 σ N (nI acc) (nI p) K = K (nI (nvN x p m acc)) := by
  have h96 := hc.1
  intro m
  induction m with
  | zero =>
    intro p acc N K hp _ hN
    obtain ⟨N, rfl, -⟩ := succ_of hN
    rw [f_X4_numberHere_7.eq_2, h5, if_pos (nI_le (by omega) (by omega))]
    rfl
  | succ m ih =>
    intro p acc N K hp hd hN
    obtain ⟨N, rfl, hN⟩ := succ_of hN
    obtain ⟨hv, ev⟩ := hc.2.2 p (by omega)
    obtain ⟨d1, d2⟩ := dg_byte _ hv (hd p (Nat.le_refl _) (by omega))
    rw [f_X4_numberHere_7.eq_2, h5, if_neg (nI_ge (by omega) (by omega)), ix_nI (by omega) (by decide), bnd_s, ev, d1, show (10 : Int32) = nI 10 from rfl, show (48 : Int32) = nI 48 from rfl, pk_mul, nI_add, pk_sub (by omega), nI_s]
    exact ih (p + 1) (10 * acc + x p - 48) N K (by omega) (fun q h1 h2 => hd q (by omega) h2) (by omega)
theorem c_numberH {x : Nat → Nat} {L b e : Nat} {σ : Mem} (hc : CT x L σ) (h4 : σ 4 0 4 = nI b) (h5 : σ 4 0 5 = nI e) (he : e ≤ L) (hb : b ≤ e) (hd : ∀ q, b ≤ q → q < e → isDg (x q) = true) : f_X4_numberHere σ = some (nI (nvN x b (e - b) 0)) := by
  have h96 := hc.1
  unfold f_X4_numberHere
  rw [h4]
  exact c_number_L hc h5 he (e - b) b 0 FU _ (by omega) hd (fu_gt (by omega))
theorem sg_b : ∀ v, v < 256 → (((byteV v &&& (255 : Int32))).toUInt32 % 65536).toInt32 = nI v := by decide +kernel
theorem c_signH {x : Nat → Nat} {L b : Nat} {σ : Mem} (hc : CT x L σ) (h4 : σ 4 0 4 = nI b) (hb : b < L) : f_X4_signHere σ = some (nI (x b)) := by
  have h96 := hc.1
  obtain ⟨hv, ev⟩ := hc.2.2 b hb
  unfold f_X4_signHere
  rw [hc.2.1, h4, if_neg (nI_ge hb (by omega)), ix_nI (by omega) (by decide), bnd_s, ev, sg_b _ hv]
theorem m_isSign {τ : Mem} {c : Int32} {s : Nat} (h : τ 8 0 19 = nI s) (hs : s ≤ 4) (h3 : s ≠ 3) : f_X8_isSign c τ = some 0 := by
  unfold f_X8_isSign
  rw [h, if_neg (show ¬ nI s = 3 from fun q => h3 ((nI_eq (a := s) (b := 3) (by omega) (by decide)).mp q))]
theorem m_isSign3 {τ : Mem} {v c : Nat} (h : τ 8 0 19 = nI 3) (h21 : τ 8 0 21 = nI v) (hv : v < 256) (hc : c < 256) : f_X8_isSign (nI c) τ = some (bI (v = c)) := by
  unfold f_X8_isSign
  rw [h, if_pos (show nI 3 = 3 from rfl), h21]
  by_cases e : v = c
  · subst e; rw [if_pos rfl, bI_t rfl]
  · rw [if_neg (fun q => e ((nI_eq (by omega) (by omega)).mp q)), bI_f e]
