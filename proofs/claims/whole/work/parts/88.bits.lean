-- bits
theorem b_or {a b : Nat} (ha : a < 1024) (hb : b < 1024) : nI a ||| nI b = nI (a ||| b) := by
  apply bv_nI
  rw [Int32.toBitVec_or, BitVec.toNat_or, pk_tn (by omega), pk_tn (by omega)]
theorem b_and {a b : Nat} (ha : a < 1024) (hb : b < 1024) : nI a &&& nI b = nI (a &&& b) := by
  apply bv_nI
  rw [Int32.toBitVec_and, BitVec.toNat_and, pk_tn (by omega), pk_tn (by omega)]
theorem b_bit : ∀ j, j < 10 → (1 : Int32) <<< (nI j &&& (31 : Int32)) = nI (2 ^ j) := by decide
theorem p_lt : ∀ j, j < 10 → 2 ^ j < 1024 := by decide
theorem or_lt {a b : Nat} (ha : a < 1024) (hb : b < 1024) : a ||| b < 1024 := Nat.or_lt_two_pow (n := 10) ha hb
theorem tb_and {a j : Nat} (ha : a < 1024) (hj : j < 10) : (nI a &&& ((1 : Int32) <<< (nI j &&& (31 : Int32))) = 0) ↔ a.testBit j = false := by
  rw [b_bit j hj, b_and ha (p_lt j hj)]
  have hl : a &&& 2 ^ j < 2 ^ 10 := Nat.and_lt_two_pow a (p_lt j hj)
  have e : (nI (a &&& 2 ^ j) = 0) ↔ a &&& 2 ^ j = 0 := nI_eq (b := 0) (by omega) (by decide)
  rw [e]
  constructor
  · intro h
    have := congrArg (fun y => y.testBit j) h
    simp only [Nat.testBit_and, Nat.testBit_two_pow_self, Bool.and_true, Nat.zero_testBit] at this
    exact this
  · intro h
    apply Nat.eq_of_testBit_eq
    intro i
    rw [Nat.testBit_and, Nat.testBit_two_pow, Nat.zero_testBit]
    by_cases e : j = i
    · subst e; rw [h]; rfl
    · rw [decide_eq_false e, Bool.and_false]
theorem sm_k : ∀ k, k < 10 → nI k &&& (31 : Int32) = nI k ∧ ((nI k).toBitVec.smod 32).toNat = k := by decide
theorem tb_shr {a k : Nat} (ha : a < 1024) (hk : k < 10) : ((nI a >>> (nI k &&& (31 : Int32))) &&& (1 : Int32) = (1 : Int32)) ↔ a.testBit k = true := by
  obtain ⟨s1, s2⟩ := sm_k k hk
  have hd : a / 2 ^ k ≤ a := Nat.div_le_self _ _
  rw [s1, pk_shrN (by omega) (nI k) k s2, pk_andN (by omega) (m := 1) 1 (by decide), Nat.testBit_eq_decide_div_mod_eq, decide_eq_true_eq]
  have : a / 2 ^ k % 2 ^ 1 < 2 := Nat.mod_lt _ (by decide)
  exact nI_eq (a := a / 2 ^ k % 2 ^ 1) (b := 1) (by omega) (by decide)
-- those who have given, those who were given
def orF (f : Nat → Int32) : Nat → Nat → Int32 → Int32
  | _, 0, acc => acc
  | i, m + 1, acc => orF f (i + 1) m (acc ||| ((1 : Int32) <<< (f i &&& (31 : Int32))))
theorem orF_congr {f g : Nat → Int32} : ∀ (m i : Nat) (acc : Int32), (∀ v, i ≤ v → v < i + m → f v = g v) → orF f i m acc = orF g i m acc := by
  intro m
  induction m with
  | zero => intro i acc _; rfl
  | succ m ih =>
    intro i acc h
    rw [orF, orF, h i (Nat.le_refl _) (by omega)]
    exact ih (i + 1) _ (fun v h1 h2 => h v (by omega) (by omega))
theorem c_bits {l g i nv : Nat} {σ : Mem} (hv : σ 0 l 6 = nI nv) (hb : nv ≤ alen g) (hg : alen g < 2 ^ 31) : ∀ (m idx n : Nat) (acc : Int32) (k : Int32 → Option Int32), idx + m = nv → m < n → f_X0_bitsOf_4 l g i σ n acc (nI idx) k = k (orF (fun v => σ g i v) idx m acc) := by
  intro m
  induction m with
  | zero =>
    intro idx n acc k he hn
    obtain ⟨n, rfl, -⟩ := succ_of hn
    rw [f_X0_bitsOf_4.eq_2, hv, if_pos (by rw [← he]; exact nI_le (by omega) (by omega))]
    rfl
  | succ m ih =>
    intro idx n acc k he hn
    obtain ⟨n, rfl, hn⟩ := succ_of hn
    rw [f_X0_bitsOf_4.eq_2, hv, if_neg (nI_ge (by omega) (by omega)), ix_nI (by omega) hg, bnd_s, nI_s]
    exact ih (idx + 1) n _ k (by omega) (by omega)
theorem m_bits {w nv : Nat} {e : Int32} {τ : Mem} (hv : τ 22 0 3 = nI nv) (hb : nv ≤ 17) (he : e = nI w) (hw : w < 3) : ∀ (m idx n : Nat) (acc : Int32) (k : Int32 → Option Int32), idx + m = nv → m < n → f_X8_setBy_4 e τ n acc (nI idx) k = k (orF (fun v => τ 22 0 (57 + 3 * v + w)) idx m acc) := by
  intro m
  induction m with
  | zero =>
    intro idx n acc k hi hn
    obtain ⟨n, rfl, -⟩ := succ_of hn
    rw [f_X8_setBy_4.eq_2, sx3, bnd_s, hv, if_pos (by rw [← hi]; exact nI_le (by omega) (by omega))]
    rfl
  | succ m ih =>
    intro idx n acc k hi hn
    obtain ⟨n, rfl, hn⟩ := succ_of hn
    rw [f_X8_setBy_4.eq_2, sx3, bnd_s, hv, if_neg (nI_ge (by omega) (by omega)), q_vowIs idx w he (by omega), bnd_s, nI_s]
    exact ih (idx + 1) n _ k (by omega) (by omega)
theorem ls_givers {n nv nt : Nat} {σ τ : Mem} (H : RLd true 0 22 σ τ n nv nt) : LkR (f_X0_givers 0 σ) (f_X8_setBy 0 τ) := by
  obtain ⟨⟨a1, a2, a3⟩, ⟨b1, b2, b3⟩, hp, hw, -⟩ := H
  have x1 : f_X0_bitsOf 0 13 0 σ = some (orF (fun v => σ 13 0 v) 0 nv 0) := c_bits b1 (show nv ≤ alen 13 from b3) (by decide) nv 0 FU 0 _ (by omega) (fu_gt (by omega))
  have x2 : f_X8_setBy 0 τ = some (orF (fun v => τ 22 0 (57 + 3 * v + 0)) 0 nv 0) := m_bits (w := 0) b2 b3 rfl (by decide) nv 0 FU 0 _ (by omega) (fu_gt (by omega))
  unfold f_X0_givers
  rw [x1, bnd_s, x2]
  exact LkR_mk2 (orF_congr nv 0 0 (fun v _ hv => by
    obtain ⟨⟨o, -, y1, y2⟩, -⟩ := hw v (by omega)
    show σ 13 0 v = τ 22 0 (57 + 3 * v + 0)
    rw [y1, Nat.add_zero, y2]))
theorem ls_takers {n nv nt : Nat} {σ τ : Mem} (H : RLd true 0 22 σ τ n nv nt) : LkR (f_X0_takers 0 σ) (f_X8_setBy 1 τ) := by
  obtain ⟨⟨a1, a2, a3⟩, ⟨b1, b2, b3⟩, hp, hw, -⟩ := H
  have x1 : f_X0_bitsOf 0 14 0 σ = some (orF (fun v => σ 14 0 v) 0 nv 0) := c_bits b1 (show nv ≤ alen 14 from b3) (by decide) nv 0 FU 0 _ (by omega) (fu_gt (by omega))
  have x2 : f_X8_setBy 1 τ = some (orF (fun v => τ 22 0 (57 + 3 * v + 1)) 0 nv 0) := m_bits (w := 1) b2 b3 rfl (by decide) nv 0 FU 0 _ (by omega) (fu_gt (by omega))
  unfold f_X0_takers
  rw [x1, bnd_s, x2]
  exact LkR_mk2 (orF_congr nv 0 0 (fun v _ hv => by
    obtain ⟨-, ⟨o, o', -, -, y1, y2, y3⟩, -⟩ := hw v (by omega)
    show σ 14 0 v = τ 22 0 (57 + 3 * v + 1)
    rw [y1, show 57 + 3 * v + 1 = 58 + 3 * v by omega, y2, y3 rfl]))
-- vows as edges
def Edg (n nv : Nat) (o u : Nat → Nat) (σ τ : Mem) : Prop := n ≤ 10 ∧ nv ≤ 17 ∧ σ 0 0 2 = nI n ∧ σ 0 0 6 = nI nv ∧ τ 22 0 0 = nI n ∧ τ 22 0 3 = nI nv ∧ ∀ v, v < nv → o v < n ∧ u v < n ∧ σ 13 0 v = nI (o v) ∧ σ 14 0 v = nI (u v) ∧ τ 22 0 (57 + 3 * v) = nI (o v) ∧ τ 22 0 (58 + 3 * v) = nI (u v)
theorem Edg_of {n nv nt : Nat} {σ τ : Mem} (H : RLd true 0 22 σ τ n nv nt) : ∃ o u, Edg n nv o u σ τ := by
  obtain ⟨⟨a1, a2, a3⟩, ⟨b1, b2, b3⟩, hp, hw, -⟩ := H
  have ho : ∀ v, ∃ o, v < nv → o < n ∧ σ 13 0 v = nI o ∧ τ 22 0 (57 + 3 * v) = nI o := fun v => by
    by_cases hv : v < nv
    · obtain ⟨⟨o, y⟩, -⟩ := hw v hv
      exact ⟨o, fun _ => y⟩
    · exact ⟨0, fun q => absurd q hv⟩
  have hu : ∀ v, ∃ o, v < nv → o < n ∧ σ 14 0 v = nI o ∧ τ 22 0 (58 + 3 * v) = nI o := fun v => by
    by_cases hv : v < nv
    · obtain ⟨-, ⟨o, o', y1, y2, y3, y4, y5⟩, -⟩ := hw v hv
      have := y5 rfl
      subst this
      exact ⟨o, fun _ => ⟨y1, y3, y4⟩⟩
    · exact ⟨0, fun q => absurd q hv⟩
  refine ⟨fun v => Classical.choose (ho v), fun v => Classical.choose (hu v), a3, b3, a1, b1, a2, b2, fun v hv => ?_⟩
  obtain ⟨p1, p2, p3⟩ := Classical.choose_spec (ho v) hv
  obtain ⟨q1, q2, q3⟩ := Classical.choose_spec (hu v) hv
  exact ⟨p1, q1, p2, q2, p3, q3⟩
/-- further, class side -/
theorem c_further {n nv a : Nat} {o u : Nat → Nat} {σ τ : Mem} {p2 p4 : Int32} (E : Edg n nv o u σ τ) (ha : a < 1024) : ∀ (m v acc N : Nat), v + m = nv → acc < 1024 → m < N → ∃ r, r < 1024 ∧ (∀ K, f_X0_fewestVowsBetween_31 0 p2 (nI a) p4 σ N (nI acc) (nI v) K = K (nI r)) ∧ ∀ j, r.testBit j = true ↔ (acc.testBit j = true ∨ ∃ w, v ≤ w ∧ w < nv ∧ a.testBit (o w) = true ∧ u w = j) := by
  obtain ⟨n10, nv17, -, s6, -, -, hE⟩ := E
  intro m
  induction m with
  | zero =>
    intro v acc N hv hacc hN
    obtain ⟨N, rfl, -⟩ := succ_of hN
    refine ⟨acc, hacc, fun K => ?_, fun j => ⟨Or.inl, fun q => ?_⟩⟩
    · rw [f_X0_fewestVowsBetween_31.eq_2, s6, if_pos (nI_le (by omega) (by omega))]
    · rcases q with q | ⟨w, h1, h2, -⟩
      · exact q
      · omega
  | succ m ih =>
    intro v acc N hv hacc hN
    obtain ⟨N, rfl, hN⟩ := succ_of hN
    obtain ⟨e1, e2, e3, e4, -, -⟩ := hE v (by omega)
    have i17 : ix 17 (nI v) = some v := ix_nI (by omega) (by decide)
    by_cases hb : a.testBit (o v) = true
    · obtain ⟨r, r1, r2, r3⟩ := ih (v + 1) (acc ||| 2 ^ u v) N (by omega) (or_lt hacc (p_lt _ (by omega))) (by omega)
      refine ⟨r, r1, fun K => ?_, fun j => ?_⟩
      · rw [f_X0_fewestVowsBetween_31.eq_2, s6, if_neg (nI_ge (by omega) (by omega)), i17, bnd_s, e3, if_neg (fun q => by rw [(tb_and ha (by omega)).mp q] at hb; exact absurd hb (by decide)), bnd_s, e4, b_bit _ (by omega), b_or hacc (p_lt _ (by omega)), nI_s]
        exact r2 K
      · rw [r3 j, Nat.testBit_or, Bool.or_eq_true, Nat.testBit_two_pow, decide_eq_true_eq]
        constructor
        · rintro ((q | q) | ⟨w, h1, h2, h3⟩)
          · exact Or.inl q
          · exact Or.inr ⟨v, Nat.le_refl _, by omega, hb, q⟩
          · exact Or.inr ⟨w, by omega, h2, h3⟩
        · rintro (q | ⟨w, h1, h2, h3, h4⟩)
          · exact Or.inl (Or.inl q)
          · by_cases e : w = v
            · subst e; exact Or.inl (Or.inr h4)
            · exact Or.inr ⟨w, by omega, h2, h3, h4⟩
    · obtain ⟨r, r1, r2, r3⟩ := ih (v + 1) acc N (by omega) hacc (by omega)
      refine ⟨r, r1, fun K => ?_, fun j => ?_⟩
      · rw [f_X0_fewestVowsBetween_31.eq_2, s6, if_neg (nI_ge (by omega) (by omega)), i17, bnd_s, e3, if_pos ((tb_and ha (by omega)).mpr (by cases hq : a.testBit (o v); rfl; exact absurd hq hb)), nI_s]
        exact r2 K
      · rw [r3 j]
        constructor
        · rintro (q | ⟨w, h1, h2, h3⟩)
          · exact Or.inl q
          · exact Or.inr ⟨w, by omega, h2, h3⟩
        · rintro (q | ⟨w, h1, h2, h3, h4⟩)
          · exact Or.inl q
          · by_cases e : w = v
            · subst e; exact absurd h3 hb
            · exact Or.inr ⟨w, by omega, h2, h3, h4⟩
-- whom each has sworn to, reference
def Swn (n nv : Nat) (o u : Nat → Nat) (S : Nat → Nat) (τ : Mem) : Prop := ∀ k, k < n → τ 33 0 k = nI (S k) ∧ S k < 1024 ∧ ∀ j, (S k).testBit j = true ↔ ∃ w, w < nv ∧ o w = k ∧ u w = j
theorem m_sw0 {n : Nat} (hn : n ≤ 10) : ∀ (m i N : Nat) (τ : Mem), τ 22 0 0 = nI n → i + m = n → m < N → ∃ τ', (∀ K, f_X8_findSworn_2 N (nI i) τ K = K τ') ∧ (∀ k, i ≤ k → k < n → τ' 33 0 k = 0) ∧ (∀ k, k < i → τ' 33 0 k = τ 33 0 k) ∧ (∀ g, g ≠ 33 → τ' g = τ g) := by
  intro m
  induction m with
  | zero =>
    intro i N τ h0 hi hN
    obtain ⟨N, rfl, -⟩ := succ_of hN
    refine ⟨τ, fun K => ?_, fun k h1 h2 => by omega, fun _ _ => rfl, fun _ _ => rfl⟩
    rw [f_X8_findSworn_2.eq_2, sx0, bnd_s, h0, if_pos (nI_le (by omega) (by omega))]
  | succ m ih =>
    intro i N τ h0 hi hN
    obtain ⟨N, rfl, hN⟩ := succ_of hN
    obtain ⟨τ', q1, q2, q3, q4⟩ := ih (i + 1) N (mput τ 33 0 i 0) (by rw [mp_g (by decide)]; exact h0) (by omega) (by omega)
    refine ⟨τ', fun K => ?_, fun k h1 h2 => ?_, fun k hk => by rw [q3 k (by omega), mp_k (by omega)], fun g hg => by rw [q4 g hg, mp_g hg]⟩
    · rw [f_X8_findSworn_2.eq_2, sx0, bnd_s, h0, if_neg (nI_ge (by omega) (by omega)), ix_nI (by omega) (by decide), bnd_s, nI_s]
      exact q1 K
    · by_cases e : k = i
      · subst e; rw [q3 k (by omega), mput_same]
      · exact q2 k (by omega) h2
theorem m_sw1 {n nv : Nat} {o u : Nat → Nat} {σ τ0 : Mem} (E : Edg n nv o u σ τ0) : ∀ (m v N : Nat) (S : Nat → Nat) (τ : Mem), τ 22 = τ0 22 → (∀ k, k < n → τ 33 0 k = nI (S k) ∧ S k < 1024) → v + m = nv → m < N → ∃ (τ' : Mem) (S' : Nat → Nat), (∀ K, f_X8_findSworn_27 N (nI v) τ K = K τ') ∧ (∀ k, k < n → τ' 33 0 k = nI (S' k) ∧ S' k < 1024 ∧ ∀ j, (S' k).testBit j = true ↔ ((S k).testBit j = true ∨ ∃ w, v ≤ w ∧ w < nv ∧ o w = k ∧ u w = j)) ∧ (∀ g, g ≠ 33 → τ' g = τ g) := by
  obtain ⟨n10, nv17, -, -, t0, t3, hE⟩ := E
  intro m
  induction m with
  | zero =>
    intro v N S τ h22 hS hv hN
    obtain ⟨N, rfl, -⟩ := succ_of hN
    refine ⟨τ, S, fun K => ?_, fun k hk => ⟨(hS k hk).1, (hS k hk).2, fun j => ⟨Or.inl, fun q => ?_⟩⟩, fun _ _ => rfl⟩
    · rw [f_X8_findSworn_27.eq_2, sx3, bnd_s, h22, t3, if_pos (nI_le (by omega) (by omega))]
    · rcases q with q | ⟨w, h1, h2, -⟩
      · exact q
      · omega
  | succ m ih =>
    intro v N S τ h22 hS hv hN
    obtain ⟨N, rfl, hN⟩ := succ_of hN
    obtain ⟨e1, e2, -, -, e5, e6⟩ := hE v (by omega)
    obtain ⟨s1, s2⟩ := hS (o v) e1
    have hlt := or_lt s2 (p_lt (u v) (by omega))
    obtain ⟨τ', S', q1, q2, q3⟩ := ih (v + 1) N (fun k => if k = o v then S (o v) ||| 2 ^ u v else S k) (mput τ 33 0 (o v) (nI (S (o v) ||| 2 ^ u v))) (by rw [mp_g (by decide)]; exact h22) (fun k hk => by
      show mput τ 33 0 (o v) (nI (S (o v) ||| 2 ^ u v)) 33 0 k = nI (if k = o v then S (o v) ||| 2 ^ u v else S k) ∧ (if k = o v then S (o v) ||| 2 ^ u v else S k) < 1024
      by_cases ek : k = o v
      · subst ek
        rw [if_pos rfl, mput_same]
        exact ⟨rfl, hlt⟩
      · rw [if_neg ek, mp_k ek]
        exact hS k hk) (by omega) (by omega)
    refine ⟨τ', S', fun K => ?_, fun k hk => ?_, fun g hg => by rw [q3 g hg, mp_g hg]⟩
    · have v0 : f_X8_vowIs (nI v) 0 τ = some (nI (o v)) := by rw [q_vowIs (e := 0) v 0 rfl (by omega), Nat.add_zero, h22, e5]
      have v1 : f_X8_vowIs (nI v) 1 τ = some (nI (u v)) := by rw [q_vowIs (e := 1) v 1 rfl (by omega), show 57 + 3 * v + 1 = 58 + 3 * v by omega, h22, e6]
      rw [f_X8_findSworn_27.eq_2, sx3, bnd_s, h22, t3, if_neg (nI_ge (by omega) (by omega)), v0, bnd_s, ix_nI (by omega) (by decide), bnd_s, v1, bnd_s, bnd_s, s1, b_bit _ (by omega), b_or s2 (p_lt _ (by omega)), nI_s]
      exact q1 K
    · obtain ⟨w1, w2, w3⟩ := q2 k hk
      refine ⟨w1, w2, fun j => ?_⟩
      rw [w3 j]
      show ((if k = o v then S (o v) ||| 2 ^ u v else S k).testBit j = true ∨ _) ↔ _
      by_cases ek : k = o v
      · subst ek
        rw [if_pos rfl, Nat.testBit_or, Bool.or_eq_true, Nat.testBit_two_pow, decide_eq_true_eq]
        constructor
        · rintro ((q | q) | ⟨w, h1, h2, h3⟩)
          · exact Or.inl q
          · exact Or.inr ⟨v, Nat.le_refl _, by omega, rfl, q⟩
          · exact Or.inr ⟨w, by omega, h2, h3⟩
        · rintro (q | ⟨w, h1, h2, h3, h4⟩)
          · exact Or.inl (Or.inl q)
          · by_cases e : w = v
            · subst e; exact Or.inl (Or.inr h4)
            · exact Or.inr ⟨w, by omega, h2, h3, h4⟩
      · rw [if_neg ek]
        constructor
        · rintro (q | ⟨w, h1, h2, h3⟩)
          · exact Or.inl q
          · exact Or.inr ⟨w, by omega, h2, h3⟩
        · rintro (q | ⟨w, h1, h2, h3, h4⟩)
          · exact Or.inl q
          · by_cases e : w = v
            · subst e; exact absurd h3.symm ek
            · exact Or.inr ⟨w, by omega, h2, h3, h4⟩
theorem m_sworn {n nv : Nat} {o u : Nat → Nat} {σ τ : Mem} (E : Edg n nv o u σ τ) : ∃ τ' S, f_X8_findSworn τ = some τ' ∧ Swn n nv o u S τ' ∧ (∀ g, g ≠ 33 → τ' g = τ g) := by
  have n10 := E.1
  have nv17 := E.2.1
  obtain ⟨τ1, q1, q2, -, q4⟩ := m_sw0 n10 n 0 FU τ E.2.2.2.2.1 (by omega) (fu_gt (by omega))
  obtain ⟨τ2, S, r1, r2, r3⟩ := m_sw1 E nv 0 FU (fun _ => 0) τ1 (q4 22 (by decide)) (fun k hk => ⟨q2 k (by omega) hk, by show (0 : Nat) < 1024; decide⟩) (by omega) (fu_gt (by omega))
  refine ⟨τ2, S, ?_, fun k hk => ?_, fun g hg => by rw [r3 g hg, q4 g hg]⟩
  · unfold f_X8_findSworn
    show f_X8_findSworn_2 FU (nI 0) τ _ = _
    rw [q1]
    show f_X8_findSworn_27 FU (nI 0) τ1 _ = _
    rw [r1]
  · obtain ⟨w1, w2, w3⟩ := r2 k hk
    refine ⟨w1, w2, fun j => ?_⟩
    rw [w3 j]
    constructor
    · rintro (q | ⟨w, -, h2, h3⟩)
      · rw [Nat.zero_testBit] at q
        exact absurd q (by decide)
      · exact ⟨w, h2, h3⟩
    · rintro ⟨w, h2, h3⟩
      exact Or.inr ⟨w, Nat.zero_le _, h2, h3⟩
/-- how many of the first m places are set -/
def cdF (f : Nat → Bool) : Nat → Nat
  | 0 => 0
  | k + 1 => cdF f k + (if f k = true then 1 else 0)
theorem cd_le (f : Nat → Bool) : ∀ m, cdF f m ≤ m := by
  intro m
  induction m with
  | zero => exact Nat.le_refl _
  | succ m ih => rw [cdF]; split <;> omega
theorem cd_full (f : Nat → Bool) : ∀ m, m ≤ cdF f m → ∀ k, k < m → f k = true := by
  intro m
  induction m with
  | zero => intro _ k hk; omega
  | succ m ih =>
    intro h k hk
    have l := cd_le f m
    rw [cdF] at h
    by_cases hf : f m = true
    · rw [if_pos hf] at h
      by_cases e : k = m
      · subst e; exact hf
      · exact ih (by omega) k (by omega)
    · rw [if_neg hf] at h
      omega
theorem cd_mono {f g : Nat → Bool} : ∀ m, (∀ k, k < m → f k = true → g k = true) → cdF f m ≤ cdF g m := by
  intro m
  induction m with
  | zero => intro _; exact Nat.le_refl _
  | succ m ih =>
    intro h
    have q := ih (fun k hk => h k (by omega))
    rw [cdF, cdF]
    by_cases hf : f m = true
    · rw [if_pos hf, if_pos (h m (by omega) hf)]; omega
    · rw [if_neg hf]; omega
theorem cd_lt {f g : Nat → Bool} : ∀ m, (∀ k, k < m → f k = true → g k = true) → (∃ k, k < m ∧ ¬ f k = true ∧ g k = true) → cdF f m < cdF g m := by
  intro m
  induction m with
  | zero => rintro _ ⟨k, hk, -⟩; omega
  | succ m ih =>
    rintro h ⟨k, hk, h1, h2⟩
    rw [cdF, cdF]
    by_cases e : k = m
    · subst e
      have q := cd_mono (f := f) (g := g) k (fun i hi => h i (by omega))
      rw [if_neg h1, if_pos h2]
      omega
    · have q := ih (fun i hi => h i (by omega)) ⟨k, by omega, h1, h2⟩
      by_cases hf : f m = true
      · rw [if_pos hf, if_pos (h m (by omega) hf)]; omega
      · rw [if_neg hf]; omega
