theorem mp_g {σ : Mem} {g i k g' : Nat} {v : Int32} (h : g' ≠ g) : mput σ g i k v g' = σ g' := by
  funext i' k'
  unfold mput
  rw [if_neg (fun q => h q.1)]
theorem mp_i {σ : Mem} {g i k g' i' : Nat} {v : Int32} (h : i' ≠ i) : mput σ g i k v g' i' = σ g' i' := by
  funext k'
  unfold mput
  rw [if_neg (fun q => h q.2.1)]
theorem mp_k {σ : Mem} {g i k g' i' k' : Nat} {v : Int32} (h : k' ≠ k) : mput σ g i k v g' i' k' = σ g' i' k' := by
  unfold mput
  rw [if_neg (fun q => h q.2.2)]
theorem mc_g {σ : Mem} {g0 i0 sp g1 i1 dp n g : Nat} (h : g ≠ g1) : mcopy σ g0 i0 sp g1 i1 dp n g = σ g := by
  funext i k
  unfold mcopy
  rw [if_neg (fun q => h q.1)]
theorem mc_on {σ : Mem} {g0 i0 sp g1 i1 dp n k : Nat} : mcopy σ g0 i0 sp g1 i1 dp n g1 i1 k = if dp ≤ k ∧ k < dp + n then σ g0 i0 (sp + (k - dp)) else σ g1 i1 k := by
  unfold mcopy
  rw [if_pos ⟨rfl, rfl⟩]
/-- places a .. e - 1 of the reference's row become those three further -/
def shf (τ : Mem) (a e : Nat) : Mem := fun g i k => if g = 22 ∧ i = 0 ∧ a ≤ k ∧ k < e then τ 22 0 (k + 3) else τ g i k
theorem shf_step {τ : Mem} {a e : Nat} (h : a < e) : shf (mput τ 22 0 a (τ 22 0 (a + 3))) (a + 1) e = shf τ a e := by
  funext g i k
  unfold shf
  by_cases hg : g = 22 ∧ i = 0
  · obtain ⟨rfl, rfl⟩ := hg
    by_cases h1 : a + 1 ≤ k ∧ k < e
    · rw [if_pos ⟨rfl, rfl, h1.1, h1.2⟩, if_pos ⟨rfl, rfl, by omega, h1.2⟩, mp_k (by omega)]
    · rw [if_neg (fun q => h1 q.2.2)]
      by_cases h2 : k = a
      · subst h2
        rw [mput_same, if_pos ⟨rfl, rfl, Nat.le_refl _, h⟩]
      · rw [mp_k h2, if_neg (fun q => by omega)]
  · rw [if_neg (fun q => hg ⟨q.1, q.2.1⟩), if_neg (fun q => hg ⟨q.1, q.2.1⟩)]
    unfold mput
    rw [if_neg (fun q => hg ⟨q.1, q.2.1⟩)]
theorem shf_rf {τ : Mem} {a : Nat} : shf τ a a = τ := by
  funext g i k
  unfold shf
  rw [if_neg (fun q => by omega)]
theorem m_goes_loop {e : Nat} (he : e + 3 < 3108) : ∀ (m a n : Nat) (τ : Mem) (k : Mem → Option Mem), a + m = e → m < n → f_X8_goes_21 (nI e) n (nI a) τ k = k (shf τ a e) := by
  intro m
  induction m with
  | zero =>
    intro a n τ k ha hn
    obtain ⟨n, rfl, -⟩ := succ_of hn
    have ha : a = e := by omega
    subst ha
    rw [f_X8_goes_21.eq_2, if_pos (nI_le (Nat.le_refl _) (by omega)), shf_rf]
  | succ m ih =>
    intro a n τ k ha hn
    obtain ⟨n, rfl, hn⟩ := succ_of hn
    rw [f_X8_goes_21.eq_2, if_neg (nI_ge (by omega) (by omega)), show nI a + (3 : Int32) = nI (a + 3) from nI_add a 3, ix_nI (by omega) (by decide), bnd_s, ix_nI (by omega) (by decide), bnd_s, nI_s, ih (a + 1) n _ k (by omega) (by omega), shf_step (by omega)]
/-- a vow goes, in the reference's row -/
def lapM (τ : Mem) (v nv : Nat) : Mem := mput (mput (shf τ (57 + 3 * v) (57 + 3 * (nv - 1))) 22 0 3 (nI (nv - 1))) 22 0 5 (τ 22 0 5 + 1)
theorem m_goes {τ : Mem} {v nv : Nat} (hv : τ 22 0 3 = nI nv) (hb : nv ≤ 17) (h : v < nv) : f_X8_goes (nI v) τ = some (lapM τ v nv) := by
  unfold f_X8_goes
  have e1 : (57 : Int32) + (3 : Int32) * (nI nv - 1) = nI (57 + 3 * (nv - 1)) := by
    rw [show (1 : Int32) = nI 1 from rfl, pk_sub (by omega), show (3 : Int32) = nI 3 from rfl, show (57 : Int32) = nI 57 from rfl, pk_mul, nI_add]
  have e2 : (57 : Int32) + (3 : Int32) * nI v = nI (57 + 3 * v) := by
    rw [show (3 : Int32) = nI 3 from rfl, show (57 : Int32) = nI 57 from rfl, pk_mul, nI_add]
  rw [sx3, bnd_s, hv, e1, e2, m_goes_loop (by omega) (3 * (nv - 1 - v)) _ _ _ _ (by omega) (fu_gt (by omega))]
  have h3 : shf τ (57 + 3 * v) (57 + 3 * (nv - 1)) 22 0 3 = nI nv := by
    unfold shf
    rw [if_neg (fun q => by omega), hv]
  have h5 : shf τ (57 + 3 * v) (57 + 3 * (nv - 1)) 22 0 5 = τ 22 0 5 := by
    unfold shf
    rw [if_neg (fun q => by omega)]
  rw [sx5, bnd_s, bnd_s, bnd_s, bnd_s, h3, mp_k (by decide), h5, show (1 : Int32) = nI 1 from rfl, pk_sub (by omega)]
  rfl
/-- a vow goes, in a land of the class -/
def lapC (σ : Mem) (l v nv : Nat) : Mem := mput (mput (mcopy (mcopy (mcopy σ 13 l (v + 1) 13 l v (nv - v - 1)) 14 l (v + 1) 14 l v (nv - v - 1)) 15 l (v + 1) 15 l v (nv - v - 1)) 0 l 6 (nI (nv - 1))) 0 l 8 (σ 0 l 8 + 1)
theorem c_lapse {σ : Mem} {l v nv : Nat} (hv : σ 0 l 6 = nI nv) (hb : nv ≤ 17) (h : v < nv) : f_X0_lapse l (nI v) σ = some (lapC σ l v nv) := by
  have e1 : (nI nv - nI v) - (1 : Int32) = nI (nv - v - 1) := by
    rw [pk_sub (by omega), show (1 : Int32) = nI 1 from rfl, pk_sub (by omega)]
  have hok : cpOK (nI (v + 1)) (nI v) (nI (nv - v - 1)) 17 17 = true := by
    unfold cpOK
    rw [decide_eq_true_eq, nI_clamp (by omega), nI_clamp (by omega), nI_clamp (by omega)]
    exact ⟨nI_pos (by omega), nI_pos (by omega), nI_pos (by omega), by omega, by omega⟩
  unfold f_X0_lapse
  rw [hv, e1, nI_s, nI_clamp (n := v + 1) (by omega), nI_clamp (n := v) (by omega), nI_clamp (n := nv - v - 1) (by omega), if_pos hok, bnd_s, if_pos hok, bnd_s, if_pos hok, bnd_s, bnd_s]
  rw [mc_g (g := 0) (by decide), mc_g (g := 0) (by decide), mc_g (g := 0) (by decide), hv, mp_k (by decide), mc_g (g := 0) (by decide), mc_g (g := 0) (by decide), mc_g (g := 0) (by decide), show (1 : Int32) = nI 1 from rfl, pk_sub (by omega)]
  rfl
