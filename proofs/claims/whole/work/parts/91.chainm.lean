-- chains, set by set
theorem all_bit : ∀ n, n < 11 → (1 : Int32) <<< (nI n &&& (31 : Int32)) = nI (2 ^ n) ∧ 2 ^ n ≤ 1024 ∧ 1 ≤ 2 ^ n := by decide
/-- the rows of ends, as sets -/
def En (n : Nat) (e : Nat → Nat) (τ : Mem) : Prop := ∀ t, t < 2 ^ n → τ 34 0 t = nI (e t) ∧ e t < 1024
theorem m_z0 {n : Nat} (hn : n ≤ 10) {p1 : Int32} (hp : p1 = nI (2 ^ n)) : ∀ (m i N : Nat) (τ : Mem), i + m = 2 ^ n → m < N → ∃ τ', (∀ K, f_X8_chain_15 p1 N (nI i) τ K = K τ') ∧ (∀ t, i ≤ t → t < 2 ^ n → τ' 34 0 t = 0) ∧ (∀ t, t < i → τ' 34 0 t = τ 34 0 t) ∧ (∀ g, g ≠ 34 → τ' g = τ g) := by
  have h1024 := (all_bit n (by omega)).2.1
  intro m
  induction m with
  | zero =>
    intro i N τ hi hN
    obtain ⟨N, rfl, -⟩ := succ_of hN
    refine ⟨τ, fun K => ?_, fun t h1 h2 => by omega, fun _ _ => rfl, fun _ _ => rfl⟩
    rw [f_X8_chain_15.eq_2, hp, if_pos (nI_le (by omega) (by omega))]
  | succ m ih =>
    intro i N τ hi hN
    obtain ⟨N, rfl, hN⟩ := succ_of hN
    obtain ⟨τ', q1, q2, q3, q4⟩ := ih (i + 1) N (mput τ 34 0 i 0) (by omega) (by omega)
    refine ⟨τ', fun K => ?_, fun t h1 h2 => ?_, fun t ht => by rw [q3 t (by omega), mp_k (by omega)], fun g hg => by rw [q4 g hg, mp_g hg]⟩
    · rw [f_X8_chain_15.eq_2, hp, if_neg (nI_ge (by omega) (by omega)), ix_nI (by omega) (by decide), bnd_s, nI_s, ← hp]
      exact q1 K
    · by_cases e : t = i
      · subst e; rw [q3 t (by omega), mput_same]
      · exact q2 t (by omega) h2
theorem pw_inj {i x : Nat} (h : 2 ^ i = 2 ^ x) : i = x := by
  have := congrArg (fun z => z.testBit x) h
  simp only [Nat.testBit_two_pow_self, Nat.testBit_two_pow] at this
  exact of_decide_eq_true this
theorem m_z1 {n : Nat} (hn : n ≤ 10) {p1 : Int32} : ∀ (m i N : Nat) (e : Nat → Nat) (τ : Mem), τ 22 0 0 = nI n → En n e τ → (∀ t, t < 2 ^ n → ∀ x, (e t).testBit x = true ↔ (x < i ∧ t = 2 ^ x)) → i + m = n → m < N → ∃ (τ' : Mem) (e' : Nat → Nat), (∀ K, f_X8_chain_35 p1 N (nI i) τ K = K τ') ∧ En n e' τ' ∧ (∀ t, t < 2 ^ n → ∀ x, (e' t).testBit x = true ↔ (x < n ∧ t = 2 ^ x)) ∧ (∀ g, g ≠ 34 → τ' g = τ g) := by
  intro m
  induction m with
  | zero =>
    intro i N e τ h0 hE hb hi hN
    obtain ⟨N, rfl, -⟩ := succ_of hN
    have hi : i = n := by omega
    subst hi
    refine ⟨τ, e, fun K => ?_, hE, hb, fun _ _ => rfl⟩
    rw [f_X8_chain_35.eq_2, sx0, bnd_s, h0, if_pos (nI_le (by omega) (by omega))]
  | succ m ih =>
    intro i N e τ h0 hE hb hi hN
    obtain ⟨N, rfl, hN⟩ := succ_of hN
    have hpl := p_lt i (by omega)
    obtain ⟨τ', e', q1, q2, q3, q4⟩ := ih (i + 1) N (fun t => if t = 2 ^ i then 2 ^ i else e t) (mput τ 34 0 (2 ^ i) (nI (2 ^ i))) (by rw [mp_g (by decide)]; exact h0) (fun t ht => by
      show mput τ 34 0 (2 ^ i) (nI (2 ^ i)) 34 0 t = nI (if t = 2 ^ i then 2 ^ i else e t) ∧ (if t = 2 ^ i then 2 ^ i else e t) < 1024
      by_cases et : t = 2 ^ i
      · subst et; rw [if_pos rfl, mput_same]; exact ⟨rfl, hpl⟩
      · rw [if_neg et, mp_k et]; exact hE t ht) (fun t ht x => by
      show (if t = 2 ^ i then 2 ^ i else e t).testBit x = true ↔ _
      by_cases et : t = 2 ^ i
      · subst et
        rw [if_pos rfl, Nat.testBit_two_pow, decide_eq_true_eq]
        exact ⟨fun q => by subst q; exact ⟨by omega, rfl⟩, fun q => pw_inj q.2⟩
      · rw [if_neg et, hb t ht x]
        exact ⟨fun q => ⟨by omega, q.2⟩, fun q => ⟨by
          by_cases ex : x = i
          · subst ex; exact absurd q.2 et
          · omega, q.2⟩⟩) (by omega) (by omega)
    refine ⟨τ', e', fun K => ?_, q2, q3, fun g hg => by rw [q4 g hg, mp_g hg]⟩
    rw [f_X8_chain_35.eq_2, sx0, bnd_s, h0, if_neg (nI_ge (by omega) (by omega)), b_bit i (by omega), ix_nI hpl (by decide), bnd_s, nI_s]
    exact q1 K
theorem m_nx {n nv es s : Nat} {o u S : Nat → Nat} {τ : Mem} {p1 p2 : Int32} (hn : n ≤ 10) (h0 : τ 22 0 0 = nI n) (hS : Swn n nv o u S τ) (hs : s < 1024) (he : τ 34 0 s = nI es) (hes : es < 1024) : ∀ (m k acc N : Nat), k + m = n → acc < 1024 → m < N → ∃ r, r < 1024 ∧ (∀ K, f_X8_chain_77 p1 p2 (nI s) τ N (nI acc) (nI k) K = K (nI r)) ∧ ∀ j, r.testBit j = true ↔ (acc.testBit j = true ∨ ∃ y, k ≤ y ∧ y < n ∧ es.testBit y = true ∧ Ed nv o u y j) := by
  intro m
  induction m with
  | zero =>
    intro k acc N hk hacc hN
    obtain ⟨N, rfl, -⟩ := succ_of hN
    refine ⟨acc, hacc, fun K => ?_, fun j => ⟨Or.inl, fun q => ?_⟩⟩
    · rw [f_X8_chain_77.eq_2, sx0, bnd_s, h0, if_pos (nI_le (by omega) (by omega))]
    · rcases q with q | ⟨y, h1, h2, -⟩
      · exact q
      · omega
  | succ m ih =>
    intro k acc N hk hacc hN
    obtain ⟨N, rfl, hN⟩ := succ_of hN
    obtain ⟨s1, s2, s3⟩ := hS k (by omega)
    by_cases hb : es.testBit k = true
    · obtain ⟨r, r1, r2, r3⟩ := ih (k + 1) (acc ||| S k) N (by omega) (or_lt hacc s2) (by omega)
      refine ⟨r, r1, fun K => ?_, fun j => ?_⟩
      · rw [f_X8_chain_77.eq_2, sx0, bnd_s, h0, if_neg (nI_ge (by omega) (by omega)), ix_nI hs (by decide), bnd_s, he, if_pos ((tb_shr hes (by omega)).mpr hb), ix_nI (by omega) (by decide), bnd_s, s1, b_or hacc s2, nI_s]
        exact r2 K
      · rw [r3 j, Nat.testBit_or, Bool.or_eq_true, s3 j]
        constructor
        · rintro ((q | q) | ⟨y, h1, h2, h3⟩)
          · exact Or.inl q
          · exact Or.inr ⟨k, Nat.le_refl _, by omega, hb, q⟩
          · exact Or.inr ⟨y, by omega, h2, h3⟩
        · rintro (q | ⟨y, h1, h2, h3, h4⟩)
          · exact Or.inl (Or.inl q)
          · by_cases e : y = k
            · subst e; exact Or.inl (Or.inr h4)
            · exact Or.inr ⟨y, by omega, h2, h3, h4⟩
    · obtain ⟨r, r1, r2, r3⟩ := ih (k + 1) acc N (by omega) hacc (by omega)
      refine ⟨r, r1, fun K => ?_, fun j => ?_⟩
      · rw [f_X8_chain_77.eq_2, sx0, bnd_s, h0, if_neg (nI_ge (by omega) (by omega)), ix_nI hs (by decide), bnd_s, he, if_neg (fun q => hb ((tb_shr hes (by omega)).mp q)), show nI acc ||| (0 : Int32) = nI acc from by rw [show (0 : Int32) = nI 0 from rfl, b_or hacc (by decide), Nat.or_zero], nI_s]
        exact r2 K
      · rw [r3 j]
        constructor
        · rintro (q | ⟨y, h1, h2, h3⟩)
          · exact Or.inl q
          · exact Or.inr ⟨y, by omega, h2, h3⟩
        · rintro (q | ⟨y, h1, h2, h3, h4⟩)
          · exact Or.inl q
          · by_cases e : y = k
            · subst e; exact absurd h3 hb
            · exact Or.inr ⟨y, by omega, h2, h3, h4⟩
theorem b_andn {r s : Nat} (hr : r < 1024) (hs : s < 1024) : ∃ w, w < 1024 ∧ nI r &&& (nI s ^^^ (-1 : Int32)) = nI w ∧ ∀ j, w.testBit j = true ↔ (r.testBit j = true ∧ s.testBit j = false) := by
  have hb : ∀ j, (nI r &&& (nI s ^^^ (-1 : Int32))).toBitVec.toNat.testBit j = true ↔ (r.testBit j = true ∧ s.testBit j = false) := by
    intro j
    rw [Int32.toBitVec_and, Int32.toBitVec_xor, BitVec.toNat_and, BitVec.toNat_xor, pk_tn (by omega), pk_tn (by omega), Nat.testBit_and, Nat.testBit_xor, show ((-1 : Int32)).toBitVec.toNat = 2 ^ 32 - 1 from by decide, Nat.testBit_two_pow_sub_one, Bool.and_eq_true]
    constructor
    · rintro ⟨q1, q2⟩
      have hj : j < 10 := by
        by_cases hj : j < 10
        · exact hj
        · rw [Nat.testBit_lt_two_pow (Nat.lt_of_lt_of_le hr (Nat.pow_le_pow_right (n := 2) (i := 10) (by decide) (by omega)))] at q1
          exact absurd q1 (by decide)
      rw [decide_eq_true (show j < 32 by omega)] at q2
      refine ⟨q1, ?_⟩
      cases h : s.testBit j
      · rfl
      · rw [h] at q2; exact absurd q2 (by decide)
    · rintro ⟨q1, q2⟩
      have hj : j < 10 := by
        by_cases hj : j < 10
        · exact hj
        · rw [Nat.testBit_lt_two_pow (Nat.lt_of_lt_of_le hr (Nat.pow_le_pow_right (n := 2) (i := 10) (by decide) (by omega)))] at q1
          exact absurd q1 (by decide)
      rw [decide_eq_true (show j < 32 by omega), q2]
      exact ⟨q1, rfl⟩
  refine ⟨_, ?_, bv_nI rfl, hb⟩
  have : (nI r &&& (nI s ^^^ (-1 : Int32))).toBitVec.toNat < 2 ^ 10 := by
    apply Nat.lt_pow_two_of_testBit
    intro i hi
    cases h : (nI r &&& (nI s ^^^ (-1 : Int32))).toBitVec.toNat.testBit i
    · rfl
    · have q := ((hb i).mp h).1
      rw [Nat.testBit_lt_two_pow (Nat.lt_of_lt_of_le hr (Nat.pow_le_pow_right (n := 2) (i := 10) (by decide) hi))] at q
      exact absurd q (by decide)
  exact this
theorem m_up {n s w : Nat} (hn : n ≤ 10) {p1 p2 : Int32} (hs : s < 2 ^ n) (hw : w < 1024) (hws : ∀ j, w.testBit j = true → s.testBit j = false) : ∀ (m k N : Nat) (e : Nat → Nat) (τ : Mem), τ 22 0 0 = nI n → En n e τ → k + m = n → m < N → ∃ (τ' : Mem) (e' : Nat → Nat), (∀ K, f_X8_chain_136 p1 p2 (nI s) (nI w) N (nI k) τ K = K τ') ∧ En n e' τ' ∧ (∀ t, t < 2 ^ n → ∀ x, (e' t).testBit x = true ↔ ((e t).testBit x = true ∨ (k ≤ x ∧ x < n ∧ w.testBit x = true ∧ t = s ||| 2 ^ x))) ∧ (∀ g, g ≠ 34 → τ' g = τ g) := by
  have h1024 := (all_bit n (by omega)).2.1
  intro m
  induction m with
  | zero =>
    intro k N e τ h0 hE hk hN
    obtain ⟨N, rfl, -⟩ := succ_of hN
    refine ⟨τ, e, fun K => ?_, hE, fun t ht x => ⟨Or.inl, fun q => ?_⟩, fun _ _ => rfl⟩
    · rw [f_X8_chain_136.eq_2, sx0, bnd_s, h0, if_pos (nI_le (by omega) (by omega))]
    · rcases q with q | ⟨h1, h2, -⟩
      · exact q
      · omega
  | succ m ih =>
    intro k N e τ h0 hE hk hN
    obtain ⟨N, rfl, hN⟩ := succ_of hN
    have hpl := p_lt k (by omega)
    by_cases hb : w.testBit k = true
    · have hlt : s ||| 2 ^ k < 2 ^ n := Nat.or_lt_two_pow hs (Nat.pow_lt_pow_right (by decide) (by omega))
      obtain ⟨v1, v2⟩ := hE (s ||| 2 ^ k) hlt
      obtain ⟨τ', e', q1, q2, q3, q4⟩ := ih (k + 1) N (fun t => if t = s ||| 2 ^ k then e (s ||| 2 ^ k) ||| 2 ^ k else e t) (mput τ 34 0 (s ||| 2 ^ k) (nI (e (s ||| 2 ^ k) ||| 2 ^ k))) (by rw [mp_g (by decide)]; exact h0) (fun t ht => by
        show mput τ 34 0 (s ||| 2 ^ k) (nI (e (s ||| 2 ^ k) ||| 2 ^ k)) 34 0 t = nI (if t = s ||| 2 ^ k then e (s ||| 2 ^ k) ||| 2 ^ k else e t) ∧ (if t = s ||| 2 ^ k then e (s ||| 2 ^ k) ||| 2 ^ k else e t) < 1024
        by_cases et : t = s ||| 2 ^ k
        · subst et; rw [if_pos rfl, mput_same]; exact ⟨rfl, or_lt v2 hpl⟩
        · rw [if_neg et, mp_k et]; exact hE t ht) (by omega) (by omega)
      refine ⟨τ', e', fun K => ?_, q2, fun t ht x => ?_, fun g hg => by rw [q4 g hg, mp_g hg]⟩
      · rw [f_X8_chain_136.eq_2, sx0, bnd_s, h0, if_neg (nI_ge (by omega) (by omega)), if_pos ((tb_shr hw (by omega)).mpr hb), b_bit k (by omega), b_or (by omega) hpl, ix_nI (by omega) (by decide), bnd_s, bnd_s, v1, b_or v2 hpl, nI_s]
        exact q1 K
      · rw [q3 t ht x]
        show ((if t = s ||| 2 ^ k then e (s ||| 2 ^ k) ||| 2 ^ k else e t).testBit x = true ∨ _) ↔ _
        by_cases et : t = s ||| 2 ^ k
        · subst et
          rw [if_pos rfl, Nat.testBit_or, Bool.or_eq_true, Nat.testBit_two_pow, decide_eq_true_eq]
          constructor
          · rintro ((q | q) | ⟨h1, h2, h3⟩)
            · exact Or.inl q
            · subst q; exact Or.inr ⟨Nat.le_refl _, by omega, hb, rfl⟩
            · exact Or.inr ⟨by omega, h2, h3⟩
          · rintro (q | ⟨h1, h2, h3, h4⟩)
            · exact Or.inl (Or.inl q)
            · by_cases ex : x = k
              · exact Or.inl (Or.inr ex.symm)
              · exact Or.inr ⟨by omega, h2, h3, h4⟩
        · rw [if_neg et]
          constructor
          · rintro (q | ⟨h1, h2, h3⟩)
            · exact Or.inl q
            · exact Or.inr ⟨by omega, h2, h3⟩
          · rintro (q | ⟨h1, h2, h3, h4⟩)
            · exact Or.inl q
            · by_cases ex : x = k
              · subst ex; exact absurd h4 et
              · exact Or.inr ⟨by omega, h2, h3, h4⟩
    · obtain ⟨τ', e', q1, q2, q3, q4⟩ := ih (k + 1) N e τ h0 hE (by omega) (by omega)
      refine ⟨τ', e', fun K => ?_, q2, fun t ht x => ?_, q4⟩
      · rw [f_X8_chain_136.eq_2, sx0, bnd_s, h0, if_neg (nI_ge (by omega) (by omega)), if_neg (fun q => hb ((tb_shr hw (by omega)).mp q)), nI_s]
        exact q1 K
      · rw [q3 t ht x]
        constructor
        · rintro (q | ⟨h1, h2, h3⟩)
          · exact Or.inl q
          · exact Or.inr ⟨by omega, h2, h3⟩
        · rintro (q | ⟨h1, h2, h3, h4⟩)
          · exact Or.inl q
          · by_cases ex : x = k
            · subst ex; exact absurd h3 hb
            · exact Or.inr ⟨by omega, h2, h3, h4⟩
theorem cb_dn : ∀ s, s < 1024 → s ≠ 0 → cb (s &&& (s - 1)) + 1 = cb s := by decide +kernel
theorem cb_0 : ∀ s, s < 1024 → cb s = 0 → s = 0 := by decide +kernel
theorem m_many_in {τ : Mem} : ∀ (m s acc N : Nat), s < 1024 → cb s = m → m < N → ∀ K, f_X8_manyIn_4 τ N (nI acc) (nI s) K = K (nI (acc + m)) := by
  intro m
  induction m with
  | zero =>
    intro s acc N hs hc hN K
    obtain ⟨N, rfl, -⟩ := succ_of hN
    have := cb_0 s hs hc
    subst this
    rw [f_X8_manyIn_4.eq_2, if_pos nI_0]
    rfl
  | succ m ih =>
    intro s acc N hs hc hN K
    obtain ⟨N, rfl, hN⟩ := succ_of hN
    have c00 : cb 0 = 0 := by decide
    have hz : s ≠ 0 := fun q => by rw [q, c00] at hc; omega
    have hd := cb_dn s hs hz
    have hlt : s &&& (s - 1) < 1024 := Nat.and_lt_two_pow (n := 10) s (y := s - 1) (by omega)
    rw [f_X8_manyIn_4.eq_2, if_neg (nI_ne0 (by omega) (by omega)), show nI s - (1 : Int32) = nI (s - 1) from by rw [show (1 : Int32) = nI 1 from rfl, pk_sub (by omega)], b_and hs (by omega), nI_s, ih (s &&& (s - 1)) (acc + 1) N hlt (by omega) (by omega) K, show acc + 1 + m = acc + (m + 1) by omega]
theorem m_manyIn {s : Nat} {τ : Mem} (hs : s < 1024) : f_X8_manyIn (nI s) τ = some (nI (cb s)) := by
  have h10 := cb_le s
  have := m_many_in (τ := τ) (cb s) s 0 FU hs rfl (fu_gt (by omega)) (fun e1 => some e1)
  rw [Nat.zero_add] at this
  exact this
def Pth (n nv : Nat) (o u : Nat → Nat) (s x : Nat) : Prop := ∃ m, PN n nv o u m s x
def Inv (n nv : Nat) (o u : Nat → Nat) (s : Nat) (e : Nat → Nat) : Prop := ∀ t, t < 2 ^ n → ∀ x, (e t).testBit x = true ↔ ((x < n ∧ t = 2 ^ x) ∨ ∃ s', s' < s ∧ ∃ y, Pth n nv o u s' y ∧ Ed nv o u y x ∧ s'.testBit x = false ∧ t = s' ||| 2 ^ x)
theorem Inv_P {n nv : Nat} {o u : Nat → Nat} {s : Nat} {e : Nat → Nat} (h : Inv n nv o u s e) (hs : s < 2 ^ n) (x : Nat) : (e s).testBit x = true ↔ Pth n nv o u s x := by
  rw [h s hs x]
  constructor
  · rintro (⟨h1, h2⟩ | ⟨s', h1, y, ⟨m, h2⟩, h3, h4, h5⟩)
    · exact ⟨0, h1, h2⟩
    · exact ⟨m + 1, s', y, h2, h3, h4, h5⟩
  · rintro ⟨m, hm⟩
    cases m with
    | zero => exact Or.inl hm
    | succ m =>
      obtain ⟨s', y, h2, h3, h4, h5⟩ := hm
      exact Or.inr ⟨s', by rw [h5]; exact lt_or h4, y, ⟨m, h2⟩, h3, h4, h5⟩
set_option maxHeartbeats 1000000 in
theorem m_chainL {n nv : Nat} {o u S : Nat → Nat} {σ τ0 : Mem} {p1 : Int32} (E : Edg n nv o u σ τ0) (hp : p1 = nI (2 ^ n)) : ∀ (m s N most : Nat) (e : Nat → Nat) (τ : Mem), τ 22 = τ0 22 → Swn n nv o u S τ → En n e τ → Inv n nv o u s e → s + m = 2 ^ n → m < N → most ≤ 10 → (most = 0 ∨ ∃ s' x, PN n nv o u most s' x) → (∀ m' s' x, s' < s → PN n nv o u m' s' x → m' ≤ most) →
    ∃ r τ', (∀ K, f_X8_chain_66 p1 N (nI most) (nI s) τ K = K (nI r) τ') ∧ LgC n nv o u r ∧ (∀ g, g ≠ 34 → τ' g = τ g) := by
  have n10 := E.1
  have hu : ∀ v, v < nv → u v < n := fun v hv => (E.2.2.2.2.2.2 v hv).2.1
  have h1024 := (all_bit n (by omega)).2.1
  have t0 := E.2.2.2.2.1
  intro m
  induction m with
  | zero =>
    intro s N most e τ h22 hS hE hI hs hN h10 h1 h2
    obtain ⟨N, rfl, -⟩ := succ_of hN
    refine ⟨most, τ, fun K => ?_, ⟨h10, h1, fun m' s' x hm => h2 m' s' x (by have := (PN_f n10 hu m' s' x hm).2.1; omega) hm⟩, fun _ _ => rfl⟩
    rw [f_X8_chain_66.eq_2, hp, if_pos (nI_le (by omega) (by omega))]
  | succ m ih =>
    intro s N most e τ h22 hS hE hI hs hN h10 h1 h2
    obtain ⟨N, rfl, hN⟩ := succ_of hN
    have hlt : s < 2 ^ n := by omega
    obtain ⟨es1, es2⟩ := hE s hlt
    have hz : τ 22 0 0 = nI n := by rw [h22]; exact t0
    obtain ⟨r, r1, r2, r3⟩ := m_nx (p1 := p1) (p2 := nI most) n10 hz hS (by omega) es1 es2 n 0 0 FU (by omega) (by decide) (fu_gt (by omega))
    obtain ⟨w, w1, w2, w3⟩ := b_andn r1 (show s < 1024 by omega)
    obtain ⟨τ1, e1, q1, q2, q3, q4⟩ := m_up n10 (p1 := p1) (p2 := nI most) hlt w1 (fun j hj => ((w3 j).mp hj).2) n 0 FU e τ hz hE (by omega) (fu_gt (by omega))
    have I1 : Inv n nv o u (s + 1) e1 := by
      intro t ht x
      rw [q3 t ht x, hI t ht x]
      constructor
      · rintro ((q | ⟨s', h1, h2⟩) | ⟨-, hx, hwx, ht'⟩)
        · exact Or.inl q
        · exact Or.inr ⟨s', by omega, h2⟩
        · obtain ⟨a1, a2⟩ := (w3 x).mp hwx
          rcases (r3 x).mp a1 with q | ⟨y, -, hy, b1, b2⟩
          · rw [Nat.zero_testBit] at q; exact absurd q (by decide)
          · exact Or.inr ⟨s, by omega, y, (Inv_P hI hlt y).mp b1, b2, a2, ht'⟩
      · rintro (q | ⟨s', h1, y, b1, b2, b3, b4⟩)
        · exact Or.inl (Or.inl q)
        · by_cases es : s' = s
          · subst es
            have hx : x < n := by obtain ⟨v, v1, -, v3⟩ := b2; rw [← v3]; exact hu v v1
            have hy : y < n := by obtain ⟨m', hm'⟩ := b1; exact (PN_f n10 hu m' s' y hm').1
            exact Or.inr ⟨Nat.zero_le _, hx, (w3 x).mpr ⟨(r3 x).mpr (Or.inr ⟨y, Nat.zero_le _, hy, (Inv_P hI hlt y).mpr b1, b2⟩), b3⟩, b4⟩
          · exact Or.inl (Or.inr ⟨s', by omega, y, b1, b2, b3, b4⟩)
    obtain ⟨f1, f2⟩ := q2 s hlt
    have fs : ∀ x, (e1 s).testBit x = true ↔ Pth n nv o u s x := fun x => by
      rw [q3 s hlt x, Inv_P hI hlt x]
      constructor
      · rintro (q | ⟨-, -, hwx, ht'⟩)
        · exact q
        · have := lt_or ((w3 x).mp hwx).2
          omega
      · exact Or.inl
    have S1 : Swn n nv o u S τ1 := by
      intro k hk
      rw [q4 33 (by decide)]
      exact hS k hk
    have step : ∀ K, f_X8_chain_66 p1 (N + 1) (nI most) (nI s) τ K = (if nI (e1 s) = 0 then (f_X8_chain_66 p1 N (nI most) (nI (s + 1)) τ1 K) else (bnd (f_X8_manyIn (nI s) τ1) (fun a1 => (if (a1 - (1 : Int32)) ≤ nI most then (f_X8_chain_66 p1 N (nI most) (nI (s + 1)) τ1 K) else (bnd (f_X8_manyIn (nI s) τ1) (fun a2 => (f_X8_chain_66 p1 N (a2 - (1 : Int32)) (nI (s + 1)) τ1 K))))))) := by
      intro K
      have r2' := r2 (fun e1 => (f_X8_chain_136 p1 (nI most) (nI s) (e1 &&& (nI s ^^^ (-1 : Int32))) FU (0 : Int32) τ (fun σ_1 => (bnd (ix 1024 (nI s)) (fun j1 => (if (σ_1 34 0 j1) = 0 then (f_X8_chain_66 p1 N (nI most) (nI s + (1 : Int32)) σ_1 K) else (bnd (f_X8_manyIn (nI s) σ_1) (fun a1 => (if (a1 - (1 : Int32)) ≤ nI most then (f_X8_chain_66 p1 N (nI most) (nI s + (1 : Int32)) σ_1 K) else (bnd (f_X8_manyIn (nI s) σ_1) (fun a2 => (f_X8_chain_66 p1 N (a2 - (1 : Int32)) (nI s + (1 : Int32)) σ_1 K))))))))))))
      have q1' := q1 (fun σ_1 => (bnd (ix 1024 (nI s)) (fun j1 => (if (σ_1 34 0 j1) = 0 then (f_X8_chain_66 p1 N (nI most) (nI s + (1 : Int32)) σ_1 K) else (bnd (f_X8_manyIn (nI s) σ_1) (fun a1 => (if (a1 - (1 : Int32)) ≤ nI most then (f_X8_chain_66 p1 N (nI most) (nI s + (1 : Int32)) σ_1 K) else (bnd (f_X8_manyIn (nI s) σ_1) (fun a2 => (f_X8_chain_66 p1 N (a2 - (1 : Int32)) (nI s + (1 : Int32)) σ_1 K))))))))))
      rw [show nI 0 = (0 : Int32) from rfl] at r2' q1'
      rw [f_X8_chain_66.eq_2, hp, if_neg (nI_ge hlt (by omega)), ← hp, r2', w2, q1', ix_nI (by omega) (by decide), bnd_s, f1, nI_s]
    have fin : ∀ most', most' ≤ 10 → (most' = 0 ∨ ∃ s' x, PN n nv o u most' s' x) → (∀ m' s' x, s' < s + 1 → PN n nv o u m' s' x → m' ≤ most') → (∀ K, f_X8_chain_66 p1 (N + 1) (nI most) (nI s) τ K = f_X8_chain_66 p1 N (nI most') (nI (s + 1)) τ1 K) → ∃ r τ', (∀ K, f_X8_chain_66 p1 (N + 1) (nI most) (nI s) τ K = K (nI r) τ') ∧ LgC n nv o u r ∧ (∀ g, g ≠ 34 → τ' g = τ g) := by
      intro most' a1 a2 a3 a4
      obtain ⟨r, τ', b1, b2, b3⟩ := ih (s + 1) N most' e1 τ1 (by rw [q4 22 (by decide)]; exact h22) S1 q2 I1 (by omega) (by omega) a1 a2 a3
      exact ⟨r, τ', fun K => by rw [a4 K]; exact b1 K, b2, fun g hg => by rw [b3 g hg, q4 g hg]⟩
    by_cases hz0 : e1 s = 0
    · refine fin most h10 h1 (fun m' s' x hs' hm' => ?_) (fun K => ?_)
      · by_cases es : s' = s
        · subst es
          have := (fs x).mpr ⟨m', hm'⟩
          rw [hz0, Nat.zero_testBit] at this
          exact absurd this (by decide)
        · exact h2 m' s' x (by omega) hm'
      · rw [step K, hz0, if_pos nI_0]
    · have hne : ¬ nI (e1 s) = 0 := nI_ne0 (by omega) (by omega)
      have hex : ∃ x, (e1 s).testBit x = true := Classical.byContradiction (fun hn => hz0 (Nat.eq_of_testBit_eq (fun i => by
        rw [Nat.zero_testBit]
        cases h : (e1 s).testBit i
        · rfl
        · exact absurd ⟨i, h⟩ hn)))
      obtain ⟨x, hx⟩ := hex
      obtain ⟨m', hm'⟩ := (fs x).mp hx
      have hc := (PN_f n10 hu m' s x hm').2.2.1
      have hc10 := cb_le s
      have all : ∀ m'' x', PN n nv o u m'' s x' → m'' = m' := fun m'' x' h'' => by have := (PN_f n10 hu m'' s x' h'').2.2.1; omega
      have ec : nI (cb s) - (1 : Int32) = nI m' := by rw [hc]; exact nI_pred m'
      by_cases hle : m' ≤ most
      · refine fin most h10 h1 (fun m'' s' x' hs' h'' => ?_) (fun K => ?_)
        · by_cases es : s' = s
          · subst es; have := all m'' x' h''; omega
          · exact h2 m'' s' x' (by omega) h''
        · rw [step K, if_neg hne, m_manyIn (by omega), bnd_s, ec, if_pos (nI_le hle (by omega))]
      · refine fin m' (by omega) (Or.inr ⟨s, x, hm'⟩) (fun m'' s' x' hs' h'' => ?_) (fun K => ?_)
        · by_cases es : s' = s
          · subst es; have := all m'' x' h''; omega
          · have := h2 m'' s' x' (by omega) h''; omega
        · rw [step K, if_neg hne, m_manyIn (by omega), bnd_s, ec, if_neg (nI_ge (by omega) (by omega)), bnd_s, ec]
theorem m_chain {n nv : Nat} {o u : Nat → Nat} {σ τ : Mem} (E : Edg n nv o u σ τ) : ∃ r τ', f_X8_chain τ = some (nI r, τ') ∧ LgC n nv o u r ∧ (∀ g, g ≠ 33 → g ≠ 34 → τ' g = τ g) := by
  have n10 := E.1
  obtain ⟨ab, h1024, hpos⟩ := all_bit n (by omega)
  obtain ⟨τ1, S, s1, s2, s3⟩ := m_sworn E
  have k0 : τ1 22 0 0 = nI n := by rw [s3 22 (by decide)]; exact E.2.2.2.2.1
  obtain ⟨τ2, q1, q2, -, q4⟩ := m_z0 n10 (p1 := nI (2 ^ n)) rfl (2 ^ n) 0 FU τ1 (by omega) (fu_gt (by omega))
  obtain ⟨τ3, e, r1, r2, r3, r4⟩ := m_z1 n10 (p1 := nI (2 ^ n)) n 0 FU (fun _ => 0) τ2 (by rw [q4 22 (by decide)]; exact k0) (fun t ht => ⟨q2 t (by omega) ht, by show (0 : Nat) < 1024; decide⟩) (fun t ht x => by
    show Nat.testBit 0 x = true ↔ _
    rw [Nat.zero_testBit]
    exact ⟨fun q => absurd q (by decide), fun q => by omega⟩) (by omega) (fu_gt (by omega))
  obtain ⟨r, τ4, v1, v2, v3⟩ := m_chainL (S := S) E (p1 := nI (2 ^ n)) rfl (2 ^ n - 1) 1 FU 0 e τ3 (by rw [r4 22 (by decide), q4 22 (by decide), s3 22 (by decide)]) (fun k hk => by rw [r4 33 (by decide), q4 33 (by decide)]; exact s2 k hk) r2 (fun t ht x => by
    rw [r3 t ht x]
    constructor
    · exact Or.inl
    · rintro (q | ⟨s', h1, y, ⟨m, hm⟩, -⟩)
      · exact q
      · exfalso
        have hs0 : s' = 0 := by omega
        subst hs0
        have := (PN_f n10 (fun v hv => (E.2.2.2.2.2.2 v hv).2.1) m 0 y hm).2.2.2
        rw [Nat.zero_testBit] at this
        exact absurd this (by decide)) (by omega) (fu_gt (by omega)) (by decide) (Or.inl rfl) (fun m' s' x hs' hm => by
    exfalso
    have hs0 : s' = 0 := by omega
    subst hs0
    have := (PN_f n10 (fun v hv => (E.2.2.2.2.2.2 v hv).2.1) m' 0 x hm).2.2.2
    rw [Nat.zero_testBit] at this
    exact absurd this (by decide))
  refine ⟨r, τ4, ?_, v2, fun g h33 h34 => by rw [v3 g h34, r4 g h34, q4 g h34, s3 g h33]⟩
  have v1' := v1 (fun e1 σ_3 => some (e1, σ_3))
  have r1' := r1 (fun σ_2 => f_X8_chain_66 (nI (2 ^ n)) FU (0 : Int32) (1 : Int32) σ_2 (fun e1 σ_3 => some (e1, σ_3)))
  have q1' := q1 (fun σ_1 => f_X8_chain_35 (nI (2 ^ n)) FU (0 : Int32) σ_1 (fun σ_2 => f_X8_chain_66 (nI (2 ^ n)) FU (0 : Int32) (1 : Int32) σ_2 (fun e1 σ_3 => some (e1, σ_3))))
  rw [show nI 0 = (0 : Int32) from rfl] at v1' r1' q1'
  rw [show nI 1 = (1 : Int32) from rfl] at v1'
  unfold f_X8_chain
  rw [s1, bnd_s, sx0, bnd_s, k0, ab, q1', r1', v1']
theorem op_land {σ τ : Mem} (W : RR2 σ τ) (a : Int32) : LkM (f_X7_land a σ) (f_X8_land a τ) σ := by
  have W0 := W
  obtain ⟨n, nv, nt, N, hr⟩ := W
  have H := N.1
  obtain ⟨d1, d2, d3, d4⟩ := H.2.2.2.2.1
  unfold f_X7_land f_X8_land
  rcases or9 a with rfl | rfl | rfl | rfl | rfl | rfl | rfl | rfl | rfl | ⟨k0, k1, k2, k3, k4, k5, k6, k7, k8⟩
  · simp only [if_true, if_false, eq_self, reduceCtorEq]
    rw [sx3, bnd_s, H.2.1.1, H.2.1.2.1]
    exact ⟨_, τ, rfl, rfl, W0⟩
  · simp only [if_true, if_false, eq_self, reduceCtorEq]
    rw [sx4, bnd_s, d1]
    exact ⟨_, τ, rfl, rfl, W0⟩
  · simp only [if_true, if_false, eq_self, reduceCtorEq]
    rw [sx5, bnd_s, d2]
    exact ⟨_, τ, rfl, rfl, W0⟩
  · simp only [if_true, if_false, eq_self, reduceCtorEq]
    obtain ⟨r, x1, x2⟩ := ls_givers H
    rw [x1, bnd_s, x2, bnd_s]
    exact ⟨_, τ, rfl, rfl, W0⟩
  · simp only [if_true, if_false, eq_self, reduceCtorEq]
    obtain ⟨r, x1, x2⟩ := ls_takers H
    rw [x1, bnd_s, x2, bnd_s]
    exact ⟨_, τ, rfl, rfl, W0⟩
  · simp only [if_true, if_false, eq_self, reduceCtorEq]
    obtain ⟨o, u, E⟩ := Edg_of H
    obtain ⟨r, x1, x2⟩ := c_longest E
    obtain ⟨r', τ', y1, y2, y3⟩ := m_chain E
    have er := LgC_eq x2 y2
    subst er
    rw [x1, bnd_s, y1, bnd_s]
    exact ⟨_, τ', rfl, rfl, RR2_sw W0 y3⟩
  · exact ⟨_, τ, rfl, rfl, W0⟩
  · exact ⟨_, τ, rfl, rfl, W0⟩
  · exact ⟨_, τ, rfl, rfl, W0⟩
  · simp only [if_neg k0, if_neg k1, if_neg k2, if_neg k3, if_neg k4, if_neg k5]
    exact ⟨_, τ, rfl, rfl, W0⟩
