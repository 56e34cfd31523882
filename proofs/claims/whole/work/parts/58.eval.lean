theorem m_textAt (t : Nat) (τ : Mem) : f_X8_textAt (nI t) τ = some (nI (108 + 200 * t)) := by
  unfold f_X8_textAt
  rw [show (200 : Int32) = nI 200 from rfl, show (108 : Int32) = nI 108 from rfl, pk_mul, nI_add]
def letV (key p : Nat) : Nat := ([[102, 110, 119], [107, 108], [112, 101]].getD key []).getD p 0
/-- one step of a text in both spellings: a number, a name, a sign -/
def encS (key : Nat) (c w v : Int32) : Prop :=
  (∃ a, a < 10000 ∧ c = nI a ∧ w = 0 ∧ v = nI a) ∨
  (∃ p, p < [3, 2, 2].getD key 0 ∧ c = -1 - nI p ∧ w = 1 ∧ v = nI (letV key p)) ∨
  (∃ ch, ch ∈ [33, 38, 42, 43, 45, 47, 60, 61, 62, 124] ∧ c = -nI ch ∧ w = 2 ∧ v = nI ch)
/-- how many numbers lie on the pile ahead of step k -/
def dpt (c : Nat → Int32) : Nat → Nat
  | 0 => 0
  | k + 1 => if c k < -3 then (if c k = -33 then dpt c k else dpt c k - 1) else dpt c k + 1
def WFc (c : Nat → Int32) (len : Nat) : Prop := (∀ k, k < len → (c k = -33 → 1 ≤ dpt c k) ∧ (c k < -3 → ¬ c k = -33 → 2 ≤ dpt c k)) ∧ 1 ≤ dpt c len
theorem dpt_le (c : Nat → Int32) : ∀ k, dpt c k ≤ k := by
  intro k
  induction k with
  | zero => exact Nat.le_refl _
  | succ k ih =>
    rw [dpt]
    split
    · split <;> omega
    · omega
theorem sgn_neg : ∀ ch ∈ [33, 38, 42, 43, 45, 47, 60, 61, 62, 124], (-nI ch < -3) ∧ ((-nI ch = -33) ↔ ch = 33) ∧ (((-(-nI ch)).toUInt32 % 65536).toInt32 = nI ch) ∧ (nI ch = 33 ↔ ch = 33) := by decide +kernel
theorem nam_neg : ∀ p, p < 3 → ¬ ((-1 : Int32) - nI p < -3) ∧ ((-1 : Int32) - nI p < 0) ∧ (((-1 : Int32) - nI p = -1) ↔ p = 0) ∧ (((-1 : Int32) - nI p = -2) ↔ p = 1) := by decide +kernel
theorem num_pos {a : Nat} (h : a < 10000) : ¬ (nI a < -3) ∧ ¬ (nI a < 0) := by
  refine ⟨?_, nI_pos (by omega)⟩
  rw [pl_lt32, nI_toInt (by omega), show (-3 : Int32).toInt = -3 by decide]
  omega
