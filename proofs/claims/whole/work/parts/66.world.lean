-- the whole relation
def byteV (x : Nat) : Int32 := (nI x).toInt8.toInt32
def okP (x : Int32) : Prop := x = -1000000005 ∨ (-99999 ≤ x ∧ x ≤ 99999)
def RNow (σ τ : Mem) (n nv nt : Nat) : Prop := RLd true 0 22 σ τ n nv nt ∧ nv ≤ 16 ∧ (∀ t, t < nt → TxR 22 σ τ t) ∧ ∃ h, h ≤ 9999 ∧ τ 22 0 2 = nI h
def RImg (σ τ : Mem) (nt : Nat) : Prop := (σ 7 0 4 = 0 ∧ τ 8 0 3 = 0) ∨ (σ 7 0 4 = 1 ∧ τ 8 0 3 = 1 ∧ ∃ n' nv' nt', RLd true 1 23 σ τ n' nv' nt' ∧ nv' ≤ 16 ∧ nt' ≤ nt ∧ (∀ t, t < nt' → TxR 23 σ τ t) ∧ ∃ h, h ≤ 9999 ∧ τ 23 0 2 = nI h)
def RTape (σ τ : Mem) : Prop := ∃ k, k ≤ 96 ∧ σ 7 0 6 = nI k ∧ τ 8 0 16 = nI k ∧ ∀ j, j < k → ∃ x, x < 256 ∧ σ 17 0 j = byteV x ∧ τ 36 0 j = nI x
def RWait (σ τ : Mem) : Prop := ∃ w, w ≤ 60 ∧ σ 7 0 9 = nI w ∧ τ 8 0 31 = nI w ∧ ∀ j, j < w → σ 18 0 j = τ 40 0 j
def RSheet (σ τ : Mem) : Prop := ∀ k, k < 4 → ∃ z, z ≤ 24 ∧ σ 5 k 0 = τ 25 0 k ∧ (σ 5 k 0 = -1 ∨ σ 5 k 0 = 0 ∨ σ 5 k 0 = 1) ∧ σ 5 k 1 = nI z ∧ τ 26 0 k = nI z ∧ ∀ j, j < z → σ 20 k j = τ 27 0 (24 * k + j) ∧ okP (σ 20 k j)
def RSlot (σ τ : Mem) : Prop := ∀ k, k < 5 → σ 6 k 0 = τ 28 0 k ∧
  (σ 6 k 0 = 0 ∨ (σ 6 k 0 = 1 ∧ ∃ kd f, kd < 6 ∧ f < 100 ∧ σ 3 (30 + k) 0 = nI kd ∧ τ 29 0 k = nI kd ∧ σ 3 (30 + k) 2 = nI f ∧ τ 30 0 k = worthV kd (nI f)) ∨
   (σ 6 k 0 = 2 ∧ ∃ z, z ≤ 24 ∧ σ 5 (4 + k) 1 = nI z ∧ τ 31 0 k = nI z ∧ ∀ j, j < z → σ 20 (4 + k) j = τ 32 0 (24 * k + j)) ∨ (σ 6 k 0 = 3 ∧ σ 6 k 3 = τ 29 0 k))
def Rest (σ τ : Mem) (nt : Nat) : Prop := RImg σ τ nt ∧ RTape σ τ ∧ RWait σ τ ∧ RSheet σ τ ∧ RSlot σ τ
def RR2 (σ τ : Mem) : Prop := ∃ n nv nt, RNow σ τ n nv nt ∧ Rest σ τ nt
/-- what a call that works on lands alone may change -/
def RgN (g i : Nat) : Prop := RgD 0 g i ∨ RgD 2 g i
def FrN (τ τ' : Mem) : Prop := ∀ g, g ≠ 22 → g ≠ 24 → g ≠ 33 → g ≠ 34 → g ≠ 35 → g ≠ 37 → g ≠ 38 → g ≠ 39 → g ≠ 41 → τ' g = τ g
theorem Fm.n0 {a b : Mem} (h : Fm (RgD 0) a b) : Fm RgN a b := Fm.wide h (fun _ _ q => Or.inl q)
theorem Fm.n2 {a b : Mem} (h : Fm (RgD 2) a b) : Fm RgN a b := Fm.wide h (fun _ _ q => Or.inr q)
theorem FrM.n {a b : Mem} (h : FrM a b) : FrN a b := fun g h22 _ _ _ _ h37 h38 _ _ => h.1 g h22 h37 h38
theorem FrN.rf {a : Mem} : FrN a a := fun _ _ _ _ _ _ _ _ _ _ => rfl
theorem FrN.trans {a b c : Mem} (h1 : FrN a b) (h2 : FrN b c) : FrN a c := fun g x1 x2 x3 x4 x5 x6 x7 x8 x9 => (h2 g x1 x2 x3 x4 x5 x6 x7 x8 x9).trans (h1 g x1 x2 x3 x4 x5 x6 x7 x8 x9)
theorem RImg_fr {σ τ σ' τ' : Mem} {nt nt' : Nat} (h : RImg σ τ nt) (h7 : σ' 7 0 4 = σ 7 0 4) (h8 : τ' 8 0 3 = τ 8 0 3) (hn : nt ≤ nt') (hl : ∀ g, (g = 0 ∨ g = 13 ∨ g = 14 ∨ g = 15 ∨ g = 16) → σ' g 1 = σ g 1) (h3 : ∀ j, j < 10 → σ' 3 (10 + j) = σ 3 (10 + j)) (ht : ∀ t, t < nt → σ' 1 t = σ 1 t ∧ σ' 11 t = σ 11 t) (hG : τ' 23 = τ 23) : RImg σ' τ' nt' := by
  rcases h with ⟨q1, q2⟩ | ⟨q1, q2, n', nv', mt, H, q3, q4, q5, q6⟩
  · exact Or.inl ⟨h7.trans q1, h8.trans q2⟩
  · have mt14 := H.2.2.2.2.2.2.2.1
    have n10 := H.1.2.2
    refine Or.inr ⟨h7.trans q1, h8.trans q2, n', nv', mt, ?_, q3, by omega, fun t hlt => TxR_congr (q5 t hlt) (by omega) (ht t (by omega)).1 (ht t (by omega)).2 (fun k _ _ => by rw [hG]), by rw [hG]; exact q6⟩
    obtain ⟨d1, d2, d3, d4⟩ := H.2.2.2.2.1
    refine RLd_move H (by rw [hl 0 (by decide)]) (by rw [hl 0 (by decide)]) (by rw [hl 0 (by decide)]) (fun j hj k _ => by rw [show 10 * 1 + j = 10 + j by omega, h3 j (by omega)]) (fun v _ => ⟨by rw [hl 13 (by decide)], by rw [hl 14 (by decide)], by rw [hl 15 (by decide)]⟩) (fun k _ => by rw [hl 16 (by decide)]) (by rw [hG]) (by rw [hG]) (by rw [hG]) (fun k _ _ => by rw [hG]) ⟨?_, ?_, ?_, ?_⟩
    · rw [hl 0 (by decide), hG]; exact d1
    · rw [hl 0 (by decide), hG]; exact d2
    · rw [hl 0 (by decide), hG]; exact d3
    · rw [hl 0 (by decide), hG]; exact d4
theorem RTape_fr {σ τ σ' τ' : Mem} (h : RTape σ τ) (h7 : σ' 7 0 6 = σ 7 0 6) (h8 : τ' 8 0 16 = τ 8 0 16) (h17 : σ' 17 = σ 17) (h36 : τ' 36 = τ 36) : RTape σ' τ' := by
  obtain ⟨k, q1, q2, q3, q4⟩ := h
  exact ⟨k, q1, h7.trans q2, h8.trans q3, by rw [h17, h36]; exact q4⟩
theorem RWait_fr {σ τ σ' τ' : Mem} (h : RWait σ τ) (h7 : σ' 7 0 9 = σ 7 0 9) (h8 : τ' 8 0 31 = τ 8 0 31) (h18 : σ' 18 = σ 18) (h40 : τ' 40 = τ 40) : RWait σ' τ' := by
  obtain ⟨k, q1, q2, q3, q4⟩ := h
  exact ⟨k, q1, h7.trans q2, h8.trans q3, by rw [h18, h40]; exact q4⟩
theorem RSheet_fr {σ τ σ' τ' : Mem} (h : RSheet σ τ) (h5 : ∀ k, k < 4 → σ' 5 k = σ 5 k) (h20 : ∀ k, k < 4 → σ' 20 k = σ 20 k) (h25 : τ' 25 = τ 25) (h26 : τ' 26 = τ 26) (h27 : τ' 27 = τ 27) : RSheet σ' τ' := by
  intro k hk
  rw [h5 k hk, h20 k hk, h25, h26, h27]
  exact h k hk
theorem RSlot_fr {σ τ σ' τ' : Mem} (h : RSlot σ τ) (h6 : σ' 6 = σ 6) (h3 : ∀ k, k < 5 → σ' 3 (30 + k) = σ 3 (30 + k)) (h5 : ∀ k, k < 5 → σ' 5 (4 + k) = σ 5 (4 + k)) (h20 : ∀ k, k < 5 → σ' 20 (4 + k) = σ 20 (4 + k)) (h28 : τ' 28 = τ 28) (h29 : τ' 29 = τ 29) (h30 : τ' 30 = τ 30) (h31 : τ' 31 = τ 31) (h32 : τ' 32 = τ 32) : RSlot σ' τ' := by
  intro k hk
  rw [h6, h3 k hk, h5 k hk, h20 k hk, h28, h29, h30, h31, h32]
  exact h k hk
theorem Rest_fr {σ τ σ' τ' : Mem} {nt nt' : Nat} (h : Rest σ τ nt) (hn : nt ≤ nt') (hs : Fm RgN σ σ') (ht : FrN τ τ') : Rest σ' τ' nt' := by
  obtain ⟨h1, h2, h3, h4, h5⟩ := h
  have g7 : ∀ g i, g ≠ 0 → g ≠ 3 → g ≠ 10 → g ≠ 13 → g ≠ 14 → g ≠ 15 → g ≠ 16 → σ' g i = σ g i := fun g i x1 x2 x3 x4 x5 x6 x7 => hs g i (by unfold RgN RgD; omega)
  have gg : ∀ g, g ≠ 0 → g ≠ 3 → g ≠ 10 → g ≠ 13 → g ≠ 14 → g ≠ 15 → g ≠ 16 → σ' g = σ g := fun g x1 x2 x3 x4 x5 x6 x7 => funext (fun i => g7 g i x1 x2 x3 x4 x5 x6 x7)
  have m8 : τ' 8 = τ 8 := ht 8 (by decide) (by decide) (by decide) (by decide) (by decide) (by decide) (by decide) (by decide) (by decide)
  have s7 : σ' 7 = σ 7 := gg 7 (by decide) (by decide) (by decide) (by decide) (by decide) (by decide) (by decide)
  refine ⟨?_, ?_, ?_, ?_, ?_⟩
  · exact RImg_fr h1 (by rw [s7]) (by rw [m8]) hn (fun g hg => hs g 1 (by unfold RgN RgD; omega)) (fun j hj => hs 3 _ (by unfold RgN RgD; omega)) (fun t _ => ⟨g7 1 t (by decide) (by decide) (by decide) (by decide) (by decide) (by decide) (by decide), g7 11 t (by decide) (by decide) (by decide) (by decide) (by decide) (by decide) (by decide)⟩) (ht 23 (by decide) (by decide) (by decide) (by decide) (by decide) (by decide) (by decide) (by decide) (by decide))
  · exact RTape_fr h2 (by rw [s7]) (by rw [m8]) (gg 17 (by decide) (by decide) (by decide) (by decide) (by decide) (by decide) (by decide)) (ht 36 (by decide) (by decide) (by decide) (by decide) (by decide) (by decide) (by decide) (by decide) (by decide))
  · exact RWait_fr h3 (by rw [s7]) (by rw [m8]) (gg 18 (by decide) (by decide) (by decide) (by decide) (by decide) (by decide) (by decide)) (ht 40 (by decide) (by decide) (by decide) (by decide) (by decide) (by decide) (by decide) (by decide) (by decide))
  · exact RSheet_fr h4 (fun k _ => g7 5 k (by decide) (by decide) (by decide) (by decide) (by decide) (by decide) (by decide)) (fun k _ => g7 20 k (by decide) (by decide) (by decide) (by decide) (by decide) (by decide) (by decide)) (ht 25 (by decide) (by decide) (by decide) (by decide) (by decide) (by decide) (by decide) (by decide) (by decide)) (ht 26 (by decide) (by decide) (by decide) (by decide) (by decide) (by decide) (by decide) (by decide) (by decide)) (ht 27 (by decide) (by decide) (by decide) (by decide) (by decide) (by decide) (by decide) (by decide) (by decide))
  · exact RSlot_fr h5 (gg 6 (by decide) (by decide) (by decide) (by decide) (by decide) (by decide) (by decide)) (fun k hk => hs 3 _ (by unfold RgN RgD; omega)) (fun k _ => g7 5 _ (by decide) (by decide) (by decide) (by decide) (by decide) (by decide) (by decide)) (fun k _ => g7 20 _ (by decide) (by decide) (by decide) (by decide) (by decide) (by decide) (by decide)) (ht 28 (by decide) (by decide) (by decide) (by decide) (by decide) (by decide) (by decide) (by decide) (by decide)) (ht 29 (by decide) (by decide) (by decide) (by decide) (by decide) (by decide) (by decide) (by decide) (by decide)) (ht 30 (by decide) (by decide) (by decide) (by decide) (by decide) (by decide) (by decide) (by decide) (by decide)) (ht 31 (by decide) (by decide) (by decide) (by decide) (by decide) (by decide) (by decide) (by decide) (by decide)) (ht 32 (by decide) (by decide) (by decide) (by decide) (by decide) (by decide) (by decide) (by decide) (by decide))
/-- both sides give, and the same -/
def LkS (A B : Option (Int32 × Mem)) (Q : Mem → Mem → Prop) : Prop := ∃ r σ' τ', A = some (r, σ') ∧ B = some (r, τ') ∧ Q σ' τ'
theorem LkS_mk {r : Int32} {σ τ : Mem} {Q : Mem → Mem → Prop} (h : Q σ τ) : LkS (some (r, σ)) (some (r, τ)) Q := ⟨r, σ, τ, rfl, rfl, h⟩
theorem LkS_mk2 {r r' : Int32} {σ τ : Mem} {Q : Mem → Mem → Prop} (e : r = r') (h : Q σ τ) : LkS (some (r, σ)) (some (r', τ)) Q := by subst e; exact LkS_mk h
def LkR (A B : Option Int32) : Prop := ∃ r, A = some r ∧ B = some r
theorem LkR_mk {r : Int32} : LkR (some r) (some r) := ⟨r, rfl, rfl⟩
theorem LkR_mk2 {r r' : Int32} (e : r = r') : LkR (some r) (some r') := by subst e; exact LkR_mk
/-- the new state of a call that works on lands alone -/
theorem RR2_land {σ τ σ' τ' : Mem} {n nv nt : Nat} {n' nv' nt' h : Nat} (hr : Rest σ τ nt) (T : ∀ t, t < nt → TxR 22 σ τ t) (hn : nt' = nt) (H : RLd true 0 22 σ' τ' n' nv' nt') (hv : nv' ≤ 16) (hh : h ≤ 9999) (h2 : τ' 22 0 2 = nI h) (hs : Fm RgN σ σ') (ht : FrN τ τ') (h22 : ∀ k, 108 ≤ k → k < 2908 → τ' 22 0 k = τ 22 0 k) : RR2 σ' τ' := by
  subst hn
  have e3 := H.2.2.2.2.2.2.2.1
  exact ⟨n', nv', nt', ⟨H, hv, fun t hlt => TxR_congr (T t hlt) (by omega) (hs 1 t (by unfold RgN RgD; omega)) (hs 11 t (by unfold RgN RgD; omega)) h22, h, hh, h2⟩, Rest_fr hr (Nat.le_refl _) hs ht⟩
-- what is asked first
theorem e10 : ((1 : Int32) = 0) = False := eq_false (by decide)
theorem gd_in {v : Int32} (lo hi : Int32) {lo' hi' : Int64} (h1 : lo' = lo.toInt64) (h2 : hi' = hi.toInt64) : ((lo ≤ v ∧ v ≤ hi) ∧ (∀ σ, f_X7_isWithin v lo hi σ = some 1) ∧ (∀ τ, f_X8_isIn v.toInt64 lo' hi' τ = some 1)) ∨ (¬ (lo ≤ v ∧ v ≤ hi) ∧ (∀ σ, f_X7_isWithin v lo hi σ = some 0) ∧ (∀ τ, f_X8_isIn v.toInt64 lo' hi' τ = some 0)) := by
  by_cases h : lo ≤ v ∧ v ≤ hi
  · exact Or.inl ⟨h, fun σ => by rw [q_within, bI_t h], fun τ => by rw [q_isIn τ h1 h2, bI_t h]⟩
  · exact Or.inr ⟨h, fun σ => by rw [q_within, bI_f h], fun τ => by rw [q_isIn τ h1 h2, bI_f h]⟩
theorem gd_nat {v : Int32} (m : Nat) {hi : Int32} {lo' hi' : Int64} (hm : m < 2 ^ 31) (h1 : lo' = (0 : Int32).toInt64) (h2 : hi' = hi.toInt64) (h3 : hi = nI m) : (∃ j, j ≤ m ∧ v = nI j ∧ (∀ σ, f_X7_isWithin v 0 hi σ = some 1) ∧ (∀ τ, f_X8_isIn v.toInt64 lo' hi' τ = some 1)) ∨ ((∀ j, j ≤ m → v ≠ nI j) ∧ (∀ σ, f_X7_isWithin v 0 hi σ = some 0) ∧ (∀ τ, f_X8_isIn v.toInt64 lo' hi' τ = some 0)) := by
  rcases gd_in (v := v) 0 hi h1 h2 with ⟨⟨a, b⟩, c, d⟩ | ⟨a, c, d⟩
  · obtain ⟨j, hj, e⟩ := nI_of2 (M := hi) (n := m) (by rw [h3]; exact nI_toInt hm) (pl_nlt.mpr a) b
    exact Or.inl ⟨j, hj, e, c, d⟩
  · refine Or.inr ⟨fun j hj e => a ?_, c, d⟩
    subst e
    rw [h3]
    exact ⟨nI_pos' (by omega), nI_le hj hm⟩
theorem gd_one {l n : Nat} {v : Int32} {σ τ : Mem} (H : RLn l 22 σ τ n) : (∃ j, j < n ∧ v = nI j ∧ f_X0_hasPerson l v σ = some 1 ∧ f_X8_isOne v τ = some 1) ∨ ((∀ j, j < n → v ≠ nI j) ∧ f_X0_hasPerson l v σ = some 0 ∧ f_X8_isOne v τ = some 0) := by
  obtain ⟨h1, h2, h3⟩ := H
  have A : f_X0_hasPerson l v σ = some (bI (0 ≤ v ∧ v ≤ nI n - 1)) := by
    unfold f_X0_hasPerson
    rw [q_within, bnd_s, if_pos isB_bI, h1]
  have B : f_X8_isOne v τ = some (bI (0 ≤ v ∧ v ≤ nI n - 1)) := by
    unfold f_X8_isOne
    rw [sx0, bnd_s, h2, q_isIn τ (lo := 0) (hi := (nI n - 1).toInt64) (a := 0) (b := nI n - 1) (by decide) rfl, bnd_s, if_pos isB_bI]
  by_cases h : 0 ≤ v ∧ v ≤ nI n - 1
  · obtain ⟨j, hj, e⟩ := (in_iff (by omega)).mp h
    exact Or.inl ⟨j, hj, e, by rw [A, bI_t h], by rw [B, bI_t h]⟩
  · exact Or.inr ⟨fun j hj e => h ((in_iff (by omega)).mpr ⟨j, hj, e⟩), by rw [A, bI_f h], by rw [B, bI_f h]⟩
theorem gd_vow {l nv : Nat} {v : Int32} {σ τ : Mem} (H : RLv l 22 σ τ nv) : (∃ j, j < nv ∧ v = nI j ∧ f_X0_hasVow l v σ = some 1 ∧ f_X8_isVow v τ = some 1) ∨ (f_X0_hasVow l v σ = some 0 ∧ f_X8_isVow v τ = some 0) := by
  obtain ⟨h1, h2, h3⟩ := H
  have A : f_X0_hasVow l v σ = some (bI (0 ≤ v ∧ v ≤ nI nv - 1)) := by
    unfold f_X0_hasVow
    rw [q_within, bnd_s, if_pos isB_bI, h1]
  have B : f_X8_isVow v τ = some (bI (0 ≤ v ∧ v ≤ nI nv - 1)) := by
    unfold f_X8_isVow
    rw [sx3, bnd_s, h2, q_isIn τ (lo := 0) (hi := (nI nv - 1).toInt64) (a := 0) (b := nI nv - 1) (by decide) rfl, bnd_s, if_pos isB_bI]
  by_cases h : 0 ≤ v ∧ v ≤ nI nv - 1
  · obtain ⟨j, hj, e⟩ := (in_iff (by omega)).mp h
    exact Or.inl ⟨j, hj, e, by rw [A, bI_t h], by rw [B, bI_t h]⟩
  · exact Or.inr ⟨by rw [A, bI_f h], by rw [B, bI_f h]⟩
