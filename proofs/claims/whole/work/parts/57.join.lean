theorem div_m1 (a : Int32) : a / (-1) = -a := by
  have e : (-1 : Int32).toInt = -1 := by decide
  rw [← Int32.toInt_inj, Int32.toInt_div, e, Int.tdiv_neg, Int.tdiv_one, Int32.toInt_neg]
/-- what two numbers give, by the sign between them -/
def joinV (ch : Nat) (a b : Int32) : Int32 :=
  if ch = 38 then (if a = 0 then 0 else if b = 0 then 0 else 1)
  else if ch = 42 then a * b else if ch = 43 then a + b else if ch = 45 then a - b
  else if ch = 60 then (if b ≤ a then 0 else 1) else if ch = 61 then (if a = b then 1 else 0) else if ch = 62 then (if a ≤ b then 0 else 1)
  else if ch = 124 then (if a = 0 then (if b = 0 then 0 else 1) else 1) else (if b = 0 then 0 else a / b)
theorem c_join {ch : Nat} (h : ch ∈ [38, 42, 43, 45, 47, 60, 61, 62, 124]) (a b : Int32) (σ : Mem) : f_X2_join (nI ch) a b σ = some (joinV ch a b) := by
  simp only [List.mem_cons, List.not_mem_nil, or_false] at h
  rcases h with rfl | rfl | rfl | rfl | rfl | rfl | rfl | rfl | rfl
  · show (if a = 0 then some 0 else if b = 0 then some 0 else some 1) = some (if a = 0 then 0 else if b = 0 then 0 else 1)
    split
    · rfl
    · split <;> rfl
  · rfl
  · rfl
  · rfl
  · show (if b = 0 then some 0 else if b = 0 then none else some (a / b)) = some (if b = 0 then 0 else a / b)
    split
    · rfl
    · rfl
  · show (if b ≤ a then some 0 else some 1) = some (if b ≤ a then 0 else 1)
    split <;> rfl
  · show (if a = b then some 1 else some 0) = some (if a = b then 1 else 0)
    split <;> rfl
  · show (if a ≤ b then some 0 else some 1) = some (if a ≤ b then 0 else 1)
    split <;> rfl
  · show (if a = 0 then (if b = 0 then some 0 else some 1) else some 1) = some (if a = 0 then (if b = 0 then 0 else 1) else 1)
    split
    · split <;> rfl
    · rfl
theorem m_join {ch : Nat} (h : ch ∈ [38, 42, 43, 45, 47, 60, 61, 62, 124]) (a b : Int32) (τ : Mem) : f_X8_joined (nI ch) a b τ = some (joinV ch a b) := by
  simp only [List.mem_cons, List.not_mem_nil, or_false] at h
  rcases h with rfl | rfl | rfl | rfl | rfl | rfl | rfl | rfl | rfl
  · show (if a = 0 then some 0 else if b = 0 then some 0 else some 1) = some (if a = 0 then 0 else if b = 0 then 0 else 1)
    split
    · rfl
    · split <;> rfl
  · rfl
  · rfl
  · rfl
  · show (if b = 0 then some 0 else if b = -1 then some (-a) else if b = 0 then none else some (a / b)) = some (if b = 0 then 0 else a / b)
    by_cases h0 : b = 0
    · rw [if_pos h0, if_pos h0]
    · simp only [if_neg h0]
      by_cases h1 : b = -1
      · rw [if_pos h1, h1, div_m1]
      · rw [if_neg h1]
  · show (if b ≤ a then some 0 else some 1) = some (if b ≤ a then 0 else 1)
    split <;> rfl
  · show (if a = b then some 1 else some 0) = some (if a = b then 1 else 0)
    split <;> rfl
  · show (if a ≤ b then some 0 else some 1) = some (if a ≤ b then 0 else 1)
    split <;> rfl
  · show (if a = 0 then (if b = 0 then some 0 else some 1) else some 1) = some (if a = 0 then (if b = 0 then 0 else 1) else 1)
    split
    · split <;> rfl
    · rfl
