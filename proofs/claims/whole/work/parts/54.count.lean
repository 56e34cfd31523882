theorem nI_s (i : Nat) : nI i + (1 : Int32) = nI (i + 1) := nI_1 i
theorem fu_gt {m : Nat} (h : m < 5000) : m < FU := by rw [FU_eq]; exact h
theorem succ_of {m n : Nat} (h : m < n) : ∃ n', n = n' + 1 ∧ m ≤ n' := ⟨n - 1, by omega, by omega⟩
/-- how many places from i on, m of them, hold x -/
def accF (f : Nat → Int32) (x : Int32) : Nat → Nat → Int32 → Int32
  | _, 0, acc => acc
  | i, m + 1, acc => accF f x (i + 1) m (if f i = x then acc + 1 else acc)
theorem accF_congr {f g : Nat → Int32} {x : Int32} : ∀ (m i : Nat) (acc : Int32), (∀ v, i ≤ v → v < i + m → f v = g v) → accF f x i m acc = accF g x i m acc := by
  intro m
  induction m with
  | zero => intro i acc _; rfl
  | succ m ih =>
    intro i acc h
    rw [accF, accF, h i (Nat.le_refl _) (by omega)]
    exact ih (i + 1) _ (fun v h1 h2 => h v (by omega) (by omega))
theorem accF_nat {f : Nat → Int32} {x : Int32} : ∀ (m i a : Nat), ∃ c, c ≤ a + m ∧ accF f x i m (nI a) = nI c := by
  intro m
  induction m with
  | zero => intro i a; exact ⟨a, by omega, rfl⟩
  | succ m ih =>
    intro i a
    rw [accF]
    by_cases h : f i = x
    · rw [if_pos h, nI_s]
      obtain ⟨c, h1, h2⟩ := ih (i + 1) (a + 1)
      exact ⟨c, by omega, h2⟩
    · rw [if_neg h]
      obtain ⟨c, h1, h2⟩ := ih (i + 1) a
      exact ⟨c, by omega, h2⟩
theorem c_times {l g i nv : Nat} {x : Int32} {σ : Mem} (hv : σ 0 l 6 = nI nv) (hb : nv ≤ alen g) (hg : alen g < 2 ^ 31) : ∀ (m idx n : Nat) (acc : Int32) (k : Int32 → Option Int32), idx + m = nv → m < n → f_X0_timesIn_5 l g i x σ n acc (nI idx) k = k (accF (fun v => σ g i v) x idx m acc) := by
  intro m
  induction m with
  | zero =>
    intro idx n acc k he hn
    obtain ⟨n, rfl, -⟩ := succ_of hn
    rw [f_X0_timesIn_5.eq_2, hv, if_pos (by rw [← he]; exact nI_le (by omega) (by omega))]
    rfl
  | succ m ih =>
    intro idx n acc k he hn
    obtain ⟨n, rfl, hn⟩ := succ_of hn
    rw [f_X0_timesIn_5.eq_2, hv, if_neg (nI_ge (by omega) (by omega)), ix_nI (by omega) hg, bnd_s, nI_s]
    rw [accF]
    by_cases h : σ g i idx = x
    · rw [if_pos h, if_pos h]
      exact ih (idx + 1) n _ k (by omega) (by omega)
    · rw [if_neg h, if_neg h]
      exact ih (idx + 1) n _ k (by omega) (by omega)
theorem q_times {l g i nv : Nat} {x : Int32} {σ : Mem} (hv : σ 0 l 6 = nI nv) (hb : nv ≤ alen g) (hg : alen g < 5000) : f_X0_timesIn l g i x σ = some (accF (fun v => σ g i v) x 0 nv 0) := by
  unfold f_X0_timesIn
  rw [show (0 : Int32) = nI 0 from rfl]
  exact c_times hv hb (by omega) nv 0 FU (nI 0) _ (by omega) (fu_gt (by omega))
theorem q_givenBy {l nv : Nat} {x : Int32} {σ : Mem} (hv : σ 0 l 6 = nI nv) (hb : nv ≤ 17) : f_X0_vowsGivenBy l x σ = some (accF (fun v => σ 13 l v) x 0 nv 0) := by
  unfold f_X0_vowsGivenBy
  rw [q_times hv (show nv ≤ alen 13 from hb) (by decide), bnd_s]
theorem q_givenTo {l nv : Nat} {x : Int32} {σ : Mem} (hv : σ 0 l 6 = nI nv) (hb : nv ≤ 17) : f_X0_vowsGivenTo l x σ = some (accF (fun v => σ 14 l v) x 0 nv 0) := by
  unfold f_X0_vowsGivenTo
  rw [q_times hv (show nv ≤ alen 14 from hb) (by decide), bnd_s]
theorem m_many {w nv : Nat} {x e : Int32} {τ : Mem} (hv : τ 22 0 3 = nI nv) (hb : nv ≤ 17) (he : e = nI w) (hw : w < 3) : ∀ (m idx n : Nat) (acc : Int32) (k : Int32 → Option Int32), idx + m = nv → m < n → f_X8_manyBy_5 x e τ n acc (nI idx) k = k (accF (fun v => τ 22 0 (57 + 3 * v + w)) x idx m acc) := by
  intro m
  induction m with
  | zero =>
    intro idx n acc k hi hn
    obtain ⟨n, rfl, -⟩ := succ_of hn
    rw [f_X8_manyBy_5.eq_2, sx3, bnd_s, hv, if_pos (by rw [← hi]; exact nI_le (by omega) (by omega))]
    rfl
  | succ m ih =>
    intro idx n acc k hi hn
    obtain ⟨n, rfl, hn⟩ := succ_of hn
    rw [f_X8_manyBy_5.eq_2, sx3, bnd_s, hv, if_neg (nI_ge (by omega) (by omega)), q_vowIs idx w he (by omega), bnd_s, nI_s]
    rw [accF]
    by_cases h : τ 22 0 (57 + 3 * idx + w) = x
    · rw [if_pos h, if_pos h]
      exact ih (idx + 1) n _ k (by omega) (by omega)
    · rw [if_neg h, if_neg h, Int32.add_zero]
      exact ih (idx + 1) n _ k (by omega) (by omega)
theorem q_many {w nv : Nat} {x e : Int32} {τ : Mem} (hv : τ 22 0 3 = nI nv) (hb : nv ≤ 17) (he : e = nI w) (hw : w < 3) : f_X8_manyBy x e τ = some (accF (fun v => τ 22 0 (57 + 3 * v + w)) x 0 nv 0) := by
  unfold f_X8_manyBy
  rw [show (0 : Int32) = nI 0 from rfl]
  exact m_many hv hb he hw nv 0 FU (nI 0) _ (by omega) (fu_gt (by omega))
