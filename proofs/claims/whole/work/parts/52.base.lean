theorem bnd_s {α β : Type} {a : α} {k : α → Option β} : bnd (some a) k = k a := rfl
theorem ix_nI {n j : Nat} (h : j < n) (hn : n < 2 ^ 31) : ix n (nI j) = some j := by
  unfold ix
  rw [nI_clamp (by omega), if_neg]
  rintro (q | q)
  · exact nI_pos (by omega) q
  · omega
theorem ix_eq {n j : Nat} {v : Int32} (hv : v = nI j) (h : j < n) (hn : n < 2 ^ 31) : ix n v = some j := by rw [hv]; exact ix_nI h hn
theorem lit_nI (n : Nat) : (OfNat.ofNat n : Int32) = nI n := rfl
theorem pl_lt32 {a b : Int32} : a < b ↔ a.toInt < b.toInt := Int32.lt_iff_toInt_lt
theorem pl_le32 {a b : Int32} : a ≤ b ↔ a.toInt ≤ b.toInt := Int32.le_iff_toInt_le
theorem pl_eq32 {a b : Int32} : a = b ↔ a.toInt = b.toInt := Int32.toInt_inj.symm
theorem pl_nlt {a b : Int32} : ¬ a < b ↔ b ≤ a := by rw [pl_lt32, pl_le32]; omega
theorem pl_nle {a b : Int32} : ¬ a ≤ b ↔ b < a := by rw [pl_lt32, pl_le32]; omega
theorem pl_add {a b : Int32} (h1 : -2147483648 ≤ a.toInt + b.toInt) (h2 : a.toInt + b.toInt < 2147483648) : (a + b).toInt = a.toInt + b.toInt := by
  rw [Int32.toInt_add, Int.bmod_eq_of_le (by omega) (by omega)]
theorem pl_sub {a b : Int32} (h1 : -2147483648 ≤ a.toInt - b.toInt) (h2 : a.toInt - b.toInt < 2147483648) : (a - b).toInt = a.toInt - b.toInt := by
  rw [Int32.toInt_sub, Int.bmod_eq_of_le (by omega) (by omega)]
theorem pl_mul {a b : Int32} (h1 : -2147483648 ≤ a.toInt * b.toInt) (h2 : a.toInt * b.toInt < 2147483648) : (a * b).toInt = a.toInt * b.toInt := by
  rw [Int32.toInt_mul, Int.bmod_eq_of_le (by omega) (by omega)]
theorem lg_lt {x y : Int64} : lg_cmp x y < 0 ↔ x < y := by
  unfold lg_cmp
  by_cases h1 : x > y
  · rw [if_pos h1]
    refine ⟨fun h => absurd h (by decide), fun h => ?_⟩
    have h1 : y < x := h1
    rw [Int64.lt_iff_toInt_lt] at h h1
    omega
  · rw [if_neg h1]
    by_cases h2 : x = y
    · rw [if_pos h2]
      refine ⟨fun h => absurd h (by decide), fun h => ?_⟩
      rw [h2, Int64.lt_iff_toInt_lt] at h
      omega
    · rw [if_neg h2]
      refine ⟨fun _ => ?_, fun _ => by decide⟩
      have h1 : ¬ y < x := h1
      rw [Int64.lt_iff_toInt_lt] at h1 ⊢
      have h3 : x.toInt ≠ y.toInt := fun e => h2 (Int64.toInt_inj.mp e)
      omega
theorem lg_gt {x y : Int64} : 0 < lg_cmp x y ↔ y < x := by
  unfold lg_cmp
  by_cases h1 : x > y
  · rw [if_pos h1]
    exact ⟨fun _ => h1, fun _ => by decide⟩
  · rw [if_neg h1]
    have h1 : ¬ y < x := h1
    by_cases h2 : x = y
    · rw [if_pos h2]
      exact ⟨fun h => absurd h (by decide), fun h => absurd h h1⟩
    · rw [if_neg h2]
      exact ⟨fun h => absurd h (by decide), fun h => absurd h h1⟩
theorem wide_lt {a b : Int32} : a.toInt64 < b.toInt64 ↔ a < b := by rw [Int64.lt_iff_toInt_lt, Int32.lt_iff_toInt_lt, Int32.toInt_toInt64, Int32.toInt_toInt64]
/-- 1 or 0 -/
def bI (p : Prop) [Decidable p] : Int32 := if p then 1 else 0
theorem bI_t {p : Prop} [Decidable p] (h : p) : bI p = 1 := if_pos h
theorem bI_f {p : Prop} [Decidable p] (h : ¬ p) : bI p = 0 := if_neg h
theorem isB_bI {p : Prop} [Decidable p] : isB (bI p) = true := by
  unfold bI
  split <;> decide
theorem q_within (v a b : Int32) (σ : Mem) : f_X7_isWithin v a b σ = some (bI (a ≤ v ∧ v ≤ b)) := by
  unfold f_X7_isWithin bI
  by_cases h1 : v < a
  · rw [if_pos h1, if_neg (fun q => (pl_nlt.mpr q.1) h1)]
  · rw [if_neg h1]
    by_cases h2 : b < v
    · rw [if_pos h2, if_neg (fun q => (pl_nlt.mpr q.2) h2)]
    · rw [if_neg h2, if_pos ⟨pl_nlt.mp h1, pl_nlt.mp h2⟩]
theorem q_isIn {v a b : Int32} {lo hi : Int64} (σ : Mem) (h1 : lo = a.toInt64) (h2 : hi = b.toInt64) : f_X8_isIn v.toInt64 lo hi σ = some (bI (a ≤ v ∧ v ≤ b)) := by
  subst h1
  subst h2
  unfold f_X8_isIn bI
  by_cases h1 : v < a
  · rw [if_pos (lg_lt.mpr (wide_lt.mpr h1)), if_neg (fun q => (pl_nlt.mpr q.1) h1)]
  · rw [if_neg (fun q => h1 (wide_lt.mp (lg_lt.mp q)))]
    by_cases h2 : b < v
    · rw [if_pos (lg_gt.mpr (wide_lt.mpr h2)), if_neg (fun q => (pl_nlt.mpr q.2) h2)]
    · rw [if_neg (fun q => h2 (wide_lt.mp (lg_gt.mp q))), if_pos ⟨pl_nlt.mp h1, pl_nlt.mp h2⟩]
theorem in_iff {v : Int32} {n : Nat} (hn : n < 2 ^ 31) : (0 ≤ v ∧ v ≤ nI n - 1) ↔ ∃ j, j < n ∧ v = nI j := by
  have e0 : (0 : Int32).toInt = 0 := rfl
  have e1 : (1 : Int32).toInt = 1 := rfl
  have e2 : (nI n - 1).toInt = (n : Int) - 1 := by rw [pl_sub (by rw [nI_toInt hn, e1]; omega) (by rw [nI_toInt hn, e1]; omega), nI_toInt hn, e1]
  constructor
  · rintro ⟨h1, h2⟩
    obtain ⟨j, hj, rfl⟩ := nI_of (pl_nlt.mpr h1)
    rw [pl_le32, e2, nI_toInt hj] at h2
    exact ⟨j, by omega, rfl⟩
  · rintro ⟨j, hj, rfl⟩
    rw [pl_le32, pl_le32, e2, e0, nI_toInt (by omega)]
    omega
