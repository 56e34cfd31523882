theorem sx0 : ix 3108 (0 : Int32) = some 0 := by decide +kernel
theorem sx1 : ix 3108 (1 : Int32) = some 1 := by decide +kernel
theorem sx2 : ix 3108 (2 : Int32) = some 2 := by decide +kernel
theorem sx3 : ix 3108 (3 : Int32) = some 3 := by decide +kernel
theorem sx4 : ix 3108 (4 : Int32) = some 4 := by decide +kernel
theorem sx5 : ix 3108 (5 : Int32) = some 5 := by decide +kernel
theorem sx6 : ix 3108 (6 : Int32) = some 6 := by decide +kernel
-- the reference's row s: reads and writes by number
theorem s_ix {e : Int32} {n : Nat} (he : e = nI n) (hn : n < 3108) : ix 3108 e = some n := ix_eq he hn (by decide)
theorem of_ix (k f : Nat) : ((7 : Int32) + (5 : Int32) * nI k) + nI f = nI (7 + 5 * k + f) := by
  rw [show (5 : Int32) = nI 5 from rfl, show (7 : Int32) = nI 7 from rfl, pk_mul, nI_add, nI_add]
theorem vow_ix (k f : Nat) : ((57 : Int32) + (3 : Int32) * nI k) + nI f = nI (57 + 3 * k + f) := by
  rw [show (3 : Int32) = nI 3 from rfl, show (57 : Int32) = nI 57 from rfl, pk_mul, nI_add, nI_add]
theorem q_of {τ : Mem} {e : Int32} (k f : Nat) (he : e = nI f) (h : 7 + 5 * k + f < 3108) : f_X8_of (nI k) e τ = some (τ 22 0 (7 + 5 * k + f)) := by
  subst he
  unfold f_X8_of
  rw [of_ix, ix_nI h (by decide), bnd_s]
theorem q_sets {τ : Mem} {e v : Int32} (k f : Nat) (he : e = nI f) (h : 7 + 5 * k + f < 3108) : f_X8_sets (nI k) e v τ = some (mput τ 22 0 (7 + 5 * k + f) v) := by
  subst he
  unfold f_X8_sets
  rw [of_ix, ix_nI h (by decide), bnd_s]
theorem q_vowIs {τ : Mem} {e : Int32} (k f : Nat) (he : e = nI f) (h : 57 + 3 * k + f < 3108) : f_X8_vowIs (nI k) e τ = some (τ 22 0 (57 + 3 * k + f)) := by
  subst he
  unfold f_X8_vowIs
  rw [vow_ix, ix_nI h (by decide), bnd_s]
-- noon, what one pays, what one is worth: by the kind's number
def noonV (kd : Nat) (e : Int32) : Int32 := (((12 : Int32) + e) + ((stR 1).getD kd 0)) - (((12 : Int32) + e) + ((stR 1).getD kd 0)) / (24 : Int32) * (24 : Int32)
def paysV (kd : Nat) : Int32 := (stR 2).getD kd 0
def worthV (kd : Nat) (f : Int32) : Int32 := if kd = 1 then f + 6 else if kd = 2 then 99 - f else if kd = 3 then 2 * (f + 6) else if kd = 4 then 94 - f else if kd = 5 then 1 else f
theorem c_noon {σ : Mem} {i kd : Nat} (h : σ 3 i 0 = nI kd) (hk : kd < 6) : f_X3_noon i σ = some (noonV kd (σ 3 i 1)) := by
  unfold f_X3_noon
  rw [h, ix_nI hk (by decide), bnd_s]
  rfl
theorem c_pays {σ : Mem} {i kd : Nat} (h : σ 3 i 0 = nI kd) (hk : kd < 6) : f_X3_pays i σ = some (paysV kd) := by
  unfold f_X3_pays
  rw [h, ix_nI hk (by decide), bnd_s]
  rfl
theorem six {P : Nat → Prop} (h0 : P 0) (h1 : P 1) (h2 : P 2) (h3 : P 3) (h4 : P 4) (h5 : P 5) {k : Nat} (hk : k < 6) : P k := by
  match k, hk with
  | 0, _ => exact h0
  | 1, _ => exact h1
  | 2, _ => exact h2
  | 3, _ => exact h3
  | 4, _ => exact h4
  | 5, _ => exact h5
theorem f_sub5 : ∀ f, f < 100 → ((99 : Int32) - nI f) - 5 = 94 - nI f := by decide +kernel
theorem c_worth {σ : Mem} {i kd f : Nat} (h : σ 3 i 0 = nI kd) (hk : kd < 6) (hf : σ 3 i 2 = nI f) (hf2 : f < 100) : f_X3_worth i σ = some (worthV kd (σ 3 i 2)) := by
  unfold f_X3_worth worthV
  rw [h, hf]
  rcases (show kd = 0 ∨ kd = 1 ∨ kd = 2 ∨ kd = 3 ∨ kd = 4 ∨ kd = 5 by omega) with rfl | rfl | rfl | rfl | rfl | rfl
  · rfl
  · rfl
  · rfl
  · rfl
  · exact congrArg some (f_sub5 f hf2)
  · rfl
theorem m_noon {τ : Mem} {k kd : Nat} (h : τ 22 0 (7 + 5 * k) = nI kd) (hk : kd < 6) (hb : k < 600) : f_X8_noon (nI k) τ = some (noonV kd (τ 22 0 (8 + 5 * k))) := by
  have e0 := q_of (τ := τ) k 0 (e := 0) rfl (by omega)
  have e1 := q_of (τ := τ) k 1 (e := 1) rfl (by omega)
  rw [Nat.add_zero, h] at e0
  rw [show 7 + 5 * k + 1 = 8 + 5 * k by omega] at e1
  unfold f_X8_noon
  rw [e0, bnd_s, e1]
  rcases (show kd = 0 ∨ kd = 1 ∨ kd = 2 ∨ kd = 3 ∨ kd = 4 ∨ kd = 5 by omega) with rfl | rfl | rfl | rfl | rfl | rfl <;> rfl
theorem m_pays {τ : Mem} {k kd : Nat} (h : τ 22 0 (7 + 5 * k) = nI kd) (hk : kd < 6) (hb : k < 600) : f_X8_pays (nI k) τ = some (paysV kd) := by
  have e0 := q_of (τ := τ) k 0 (e := 0) rfl (by omega)
  rw [Nat.add_zero, h] at e0
  unfold f_X8_pays
  rw [e0, bnd_s]
  rcases (show kd = 0 ∨ kd = 1 ∨ kd = 2 ∨ kd = 3 ∨ kd = 4 ∨ kd = 5 by omega) with rfl | rfl | rfl | rfl | rfl | rfl <;> rfl
theorem m_worth {τ : Mem} {k kd : Nat} (h : τ 22 0 (7 + 5 * k) = nI kd) (hk : kd < 6) (hb : k < 600) : f_X8_worth (nI k) τ = some (worthV kd (τ 22 0 (9 + 5 * k))) := by
  have e0 := q_of (τ := τ) k 0 (e := 0) rfl (by omega)
  have e2 := q_of (τ := τ) k 2 (e := 2) rfl (by omega)
  rw [Nat.add_zero, h] at e0
  rw [show 7 + 5 * k + 2 = 9 + 5 * k by omega] at e2
  unfold f_X8_worth
  rw [e2, bnd_s, e0, bnd_s]
  rcases (show kd = 0 ∨ kd = 1 ∨ kd = 2 ∨ kd = 3 ∨ kd = 4 ∨ kd = 5 by omega) with rfl | rfl | rfl | rfl | rfl | rfl <;> rfl
-- held within
def clampV (v lo hi : Int32) : Int32 := if lo ≤ v then (if v ≤ hi then v else hi) else lo
theorem m_within (v lo hi : Int32) (τ : Mem) : f_X8_within v lo hi τ = some (clampV v lo hi) := by
  unfold f_X8_within clampV
  split
  · split <;> rfl
  · rfl
theorem c_held {v lo hi : Int32} (σ : Mem) (h : lo ≤ hi) : f_X7_heldWithin v lo hi σ = some (clampV v lo hi) := by
  unfold f_X7_heldWithin clampV
  rw [pl_le32] at h
  congr 1
  by_cases h1 : v < hi
  · simp only [if_pos h1]
    by_cases h2 : lo < v
    · rw [if_pos h2, if_pos (by rw [pl_le32]; rw [pl_lt32] at h2; omega), if_pos (by rw [pl_le32]; rw [pl_lt32] at h1; omega)]
    · rw [if_neg h2]
      by_cases h3 : lo ≤ v
      · rw [if_pos h3, if_pos (by rw [pl_le32]; rw [pl_lt32] at h1; omega)]
        rw [pl_eq32]
        rw [pl_lt32] at h2
        rw [pl_le32] at h3
        omega
      · rw [if_neg h3]
  · simp only [if_neg h1]
    rw [pl_lt32] at h1
    have h3 : lo ≤ v := by rw [pl_le32]; omega
    rw [if_pos h3]
    by_cases h2 : lo < hi
    · rw [if_pos h2]
      by_cases h4 : v ≤ hi
      · rw [if_pos h4, pl_eq32]
        rw [pl_le32] at h4
        omega
      · rw [if_neg h4]
    · rw [if_neg h2]
      rw [pl_lt32] at h2
      by_cases h4 : v ≤ hi
      · rw [if_pos h4, pl_eq32]
        rw [pl_le32] at h4 h3
        omega
      · rw [if_neg h4, pl_eq32]
        omega
