abbrev Mem : Type := Nat → Nat → Nat → Int32
abbrev Rho : Type := Nat → Nat → Nat → Option (Nat × Nat)
def mput (σ : Mem) (g i k : Nat) (v : Int32) : Mem := fun g' i' k' => if g' = g ∧ i' = i ∧ k' = k then v else σ g' i' k'
/-- groups of cells: 0 .. 8 the objects of vwCl's classes, 9 .. 21 the class's arrays, 22 .. 41 the reference's -/
def cnt (g : Nat) : Nat := [3, 15, 1, 35, 1, 9, 5, 1, 1, 1, 1, 15, 3, 3, 3, 3, 3, 1, 1, 1, 9, 1, 1, 1, 1, 1, 1, 1, 1, 1, 1, 1, 1, 1, 1, 1, 1, 1, 1, 1, 1, 1].getD g 0
/-- kinds of arrays: 1 int, 2 byte, 3 short, 4 .. 7 of Law, Person, Sheet, Slot; 0 an object -/
def ak (g : Nat) : Nat := [0, 0, 0, 0, 0, 0, 0, 0, 0, 4, 1, 3, 5, 1, 1, 1, 1, 2, 1, 6, 1, 7, 1, 1, 1, 1, 1, 1, 1, 1, 1, 1, 1, 1, 1, 1, 1, 1, 1, 1, 1, 1].getD g 0
def alen (g : Nat) : Nat := [0, 0, 0, 0, 0, 0, 0, 0, 0, 15, 96, 96, 10, 17, 17, 17, 3, 96, 60, 4, 24, 5, 3108, 3108, 3108, 4, 4, 96, 5, 5, 5, 5, 120, 10, 1024, 108, 96, 128, 100, 24, 60, 60].getD g 0
def nF (g : Nat) : Nat := [13, 4, 2, 5, 6, 3, 4, 12, 33].getD g 0
def pix (g i : Nat) : Nat := match g with
  | 0 => 34 + 16 * i
  | 1 => 4 + 2 * i
  | 2 => 1
  | 3 => if i < 30 then 40 + 16 * (i / 10) + i % 10 else 96 + 4 * (i - 30)
  | 4 => 83
  | 5 => if i < 4 then 86 + 2 * i else 97 + 4 * (i - 4)
  | 6 => 95 + 4 * i
  | 7 => 0
  | 8 => 115
  | 9 => 2
  | 10 => 3
  | 11 => 5 + 2 * i
  | 12 => 35 + 16 * i
  | 13 => 36 + 16 * i
  | 14 => 37 + 16 * i
  | 15 => 38 + 16 * i
  | 16 => 39 + 16 * i
  | 17 => 82
  | 18 => 84
  | 19 => 85
  | 20 => if i < 4 then 87 + 2 * i else 98 + 4 * (i - 4)
  | 21 => 94
  | g => 94 + g
def PL : List (Nat × Nat) := [(7, 0), (2, 0), (9, 0), (10, 0), (1, 0), (11, 0), (1, 1), (11, 1), (1, 2), (11, 2), (1, 3), (11, 3), (1, 4), (11, 4), (1, 5), (11, 5), (1, 6), (11, 6), (1, 7), (11, 7), (1, 8), (11, 8), (1, 9), (11, 9), (1, 10), (11, 10), (1, 11), (11, 11), (1, 12), (11, 12), (1, 13), (11, 13), (1, 14), (11, 14), (0, 0), (12, 0), (13, 0), (14, 0), (15, 0), (16, 0), (3, 0), (3, 1), (3, 2), (3, 3), (3, 4), (3, 5), (3, 6), (3, 7), (3, 8), (3, 9), (0, 1), (12, 1), (13, 1), (14, 1), (15, 1), (16, 1), (3, 10), (3, 11), (3, 12), (3, 13), (3, 14), (3, 15), (3, 16), (3, 17), (3, 18), (3, 19), (0, 2), (12, 2), (13, 2), (14, 2), (15, 2), (16, 2), (3, 20), (3, 21), (3, 22), (3, 23), (3, 24), (3, 25), (3, 26), (3, 27), (3, 28), (3, 29), (17, 0), (4, 0), (18, 0), (19, 0), (5, 0), (20, 0), (5, 1), (20, 1), (5, 2), (20, 2), (5, 3), (20, 3), (21, 0), (6, 0), (3, 30), (5, 4), (20, 4), (6, 1), (3, 31), (5, 5), (20, 5), (6, 2), (3, 32), (5, 6), (20, 6), (6, 3), (3, 33), (5, 7), (20, 7), (6, 4), (3, 34), (5, 8), (20, 8), (8, 0), (22, 0), (23, 0), (24, 0), (25, 0), (26, 0), (27, 0), (28, 0), (29, 0), (30, 0), (31, 0), (32, 0), (33, 0), (34, 0), (35, 0), (36, 0), (37, 0), (38, 0), (39, 0), (40, 0), (41, 0)]
abbrev ALL : Nat := 136
def RR (g i k : Nat) : Option (Nat × Nat) := match g with
  | 0 => match k with
    | 0 => some (2, 0)
    | 1 => some (12, i)
    | 3 => some (13, i)
    | 4 => some (14, i)
    | 5 => some (15, i)
    | 12 => some (16, i)
    | _ => none
  | 1 => match k with
    | 2 => some (11, i)
    | _ => none
  | 2 => match k with
    | 0 => some (9, 0)
    | 1 => some (10, 0)
    | _ => none
  | 4 => match k with
    | 0 => some (17, 0)
    | _ => none
  | 5 => match k with
    | 2 => some (20, i)
    | _ => none
  | 6 => match k with
    | 1 => some (3, 30 + i)
    | 2 => some (5, 4 + i)
    | _ => none
  | 7 => match k with
    | 0 => some (2, 0)
    | 1 => some (0, 0)
    | 2 => some (0, 1)
    | 3 => some (0, 2)
    | 5 => some (17, 0)
    | 7 => some (4, 0)
    | 8 => some (18, 0)
    | 10 => some (19, 0)
    | 11 => some (21, 0)
    | _ => none
  | 8 => match k with
    | 0 => some (22, 0)
    | 1 => some (23, 0)
    | 2 => some (24, 0)
    | 4 => some (25, 0)
    | 5 => some (26, 0)
    | 6 => some (27, 0)
    | 7 => some (28, 0)
    | 8 => some (29, 0)
    | 9 => some (30, 0)
    | 10 => some (31, 0)
    | 11 => some (32, 0)
    | 12 => some (33, 0)
    | 13 => some (34, 0)
    | 14 => some (35, 0)
    | 15 => some (36, 0)
    | 27 => some (37, 0)
    | 28 => some (38, 0)
    | 29 => some (39, 0)
    | 30 => some (40, 0)
    | 32 => some (41, 0)
    | _ => none
  | 9 => some (1, k)
  | 12 => some (3, 10 * i + k)
  | 19 => some (5, k)
  | 21 => some (6, k)
  | _ => none
/-- which fields of objects are references for good (set once, in constructors) -/
def isR (g k : Nat) : Bool := (RR g 0 k).isSome
def refV (B : Nat) (q : Option (Nat × Nat)) : Value := match q with
  | none => .null
  | some q => .ref (B + pix q.1 q.2)
/-- the one reference that changes (Reader.law): 0 is null, n + 1 the Law n -/
def dynV (B : Nat) (v : Int32) : Value := match v.toNatClampNeg with
  | 0 => .null
  | n + 1 => .ref (B + pix 1 n)
def fvE (B : Nat) (ρ : Rho) (σ : Mem) (g i k : Nat) : Value := if g = 4 ∧ k = 2 then dynV B (σ g i k) else if isR g k then refV B (ρ g i k) else .int (σ g i k)
def objE (B : Nat) (ρ : Rho) (σ : Mem) (g i : Nat) : List Value := (List.range (nF g)).map (fvE B ρ σ g i)
/-- base, classes and slots, array classes, static arrays, String constants and their rows, the script: cell, length, contents -/
abbrev Cx : Type := Nat × va_G × (Nat → ClassId) × (Nat → Nat) × (Nat → Nat) × (Nat → Nat) × Nat × Nat × (Nat → Int32)
abbrev xC (X : Cx) : Nat → ClassId := X.2.2.1
abbrev xT (X : Cx) : Nat → Nat := X.2.2.2.1
abbrev xK (X : Cx) : Nat → Nat := X.2.2.2.2.1
abbrev xV (X : Cx) : Nat → Nat := X.2.2.2.2.2.1
abbrev xb (X : Cx) : Nat := X.2.2.2.2.2.2.1
abbrev xL (X : Cx) : Nat := X.2.2.2.2.2.2.2.1
abbrev xs (X : Cx) : Nat → Int32 := X.2.2.2.2.2.2.2.2
def rf (X : Cx) (g i : Nat) : Value := .ref (X.1 + pix g i)
def cellE (X : Cx) (ρ : Rho) (σ : Mem) (g i : Nat) : va_E :=
  if g < 9 then .inr (g, objE X.1 ρ σ g i)
  else if ak g < 4 then .inl (xC X (ak g), alen g, .inl (fun j => σ g i j))
  else .inl (xC X (ak g), alen g, .inr (.inr (.inr (.inr (fun j => (ρ g i j).map (fun q => X.1 + pix q.1 q.2))))))
def wl (X : Cx) (ρ : Rho) (σ : Mem) (a : Nat) : va_W := (PL.take a).map (fun q => (X.1 + pix q.1 q.2, cellE X ρ σ q.1 q.2))
def tysX (X : Cx) : List (ClassId × FieldType) := [(xC X 1, .int), (xC X 2, .byte), (xC X 3, .short), (xC X 4, .object RX1), (xC X 5, .object RX3), (xC X 6, .object RX5), (xC X 7, .object RX6)]
theorem pl_at : ∀ g, g < 42 → ∀ i, i < cnt g → PL[pix g i]? = some (g, i) := by decide +kernel
theorem pl_pix : ∀ n, n < 136 → pix (PL.getD n (0, 0)).1 (PL.getD n (0, 0)).2 = n := by decide +kernel
theorem pl_len : PL.length = 136 := by decide +kernel
theorem pl_lt {g i : Nat} (hg : g < 42) (hi : i < cnt g) : pix g i < 136 := by
  have h := (List.getElem?_eq_some_iff.mp (pl_at g hg i hi)).1
  rw [pl_len] at h
  exact h
theorem wl_at {X : Cx} {ρ : Rho} {σ : Mem} {a g i : Nat} (hg : g < 42) (hi : i < cnt g) (ha : pix g i < a) : (wl X ρ σ a)[pix g i]? = some (X.1 + pix g i, cellE X ρ σ g i) := by
  unfold wl
  rw [List.getElem?_map, List.getElem?_take_of_lt ha, pl_at g hg i hi]
  rfl
theorem wl_inv {X : Cx} {ρ : Rho} {σ : Mem} {a n : Nat} {q : Nat × va_E} (h : (wl X ρ σ a)[n]? = some q) : ∃ g i, n < a ∧ PL[n]? = some (g, i) ∧ pix g i = n ∧ q = (X.1 + n, cellE X ρ σ g i) := by
  unfold wl at h
  rw [List.getElem?_map] at h
  by_cases hn : n < a
  · rw [List.getElem?_take_of_lt hn] at h
    cases hp : PL[n]? with
    | none => rw [hp] at h; cases h
    | some x =>
      rw [hp] at h
      obtain ⟨g, i⟩ := x
      have hlt := (List.getElem?_eq_some_iff.mp hp).1
      rw [pl_len] at hlt
      have h1 := pl_pix n hlt
      rw [List.getD_eq_getElem?_getD, hp] at h1
      have h1 : pix g i = n := h1
      refine ⟨g, i, hn, rfl, h1, ?_⟩
      cases h
      simp only [h1]
  · rw [List.getElem?_take_eq_none (by omega)] at h
    cases h
theorem wl_set {X : Cx} {ρ ρ' : Rho} {σ σ' : Mem} {a g i : Nat} (hg : g < 42) (hi : i < cnt g) (ha : pix g i < a) (ho : ∀ g' i', (g', i') ≠ (g, i) → cellE X ρ' σ' g' i' = cellE X ρ σ g' i') : (wl X ρ σ a).set (pix g i) (X.1 + pix g i, cellE X ρ' σ' g i) = wl X ρ' σ' a := by
  have hlen : (wl X ρ σ a).length = (wl X ρ' σ' a).length := by simp [wl]
  have hl := (List.getElem?_eq_some_iff.mp (wl_at (X := X) (ρ := ρ) (σ := σ) hg hi ha)).1
  apply List.ext_getElem?
  intro n
  by_cases hn : n = pix g i
  · subst hn
    rw [List.getElem?_set_self hl, wl_at hg hi ha]
  · rw [List.getElem?_set_ne (Ne.symm hn)]
    cases h1 : (wl X ρ σ a)[n]? with
    | none =>
      rw [List.getElem?_eq_none_iff] at h1
      symm
      rw [List.getElem?_eq_none_iff]
      omega
    | some q =>
      obtain ⟨g', i', h2, h3, h4, h5⟩ := wl_inv h1
      have hne : (g', i') ≠ (g, i) := by
        intro e
        cases e
        exact hn h4.symm
      symm
      unfold wl
      rw [List.getElem?_map, List.getElem?_take_of_lt h2, h3, h5]
      simp only [Option.map_some, h4, ho g' i' hne]
def Ax (X : Cx) : Nat → Prop := fun q => X.1 ≤ q
theorem wl_D (X : Cx) (ρ : Rho) (σ : Mem) (a : Nat) : va_D (Ax X) (wl X ρ σ a) := by
  refine ⟨fun i j p q hi hj hpq => ?_, fun k q hk => ?_⟩
  · obtain ⟨g, i', -, -, -, e1⟩ := wl_inv hi
    obtain ⟨g2, i2, -, -, -, e2⟩ := wl_inv hj
    subst e1; subst e2
    have hpq : X.1 + i = X.1 + j := hpq
    omega
  · obtain ⟨g, i', -, -, -, e1⟩ := wl_inv hk
    subst e1
    exact Nat.le_add_right _ _
theorem mput_same {σ : Mem} {g i k : Nat} {v : Int32} : mput σ g i k v g i k = v := by simp [mput]
theorem mput_cell {σ : Mem} {g i k g' i' : Nat} {v : Int32} (h : (g', i') ≠ (g, i)) : mput σ g i k v g' i' = σ g' i' := by
  funext k'
  unfold mput
  rw [if_neg]
  rintro ⟨rfl, rfl, -⟩
  exact h rfl
theorem cellE_congr {X : Cx} {ρ ρ' : Rho} {σ σ' : Mem} {g i : Nat} (h1 : σ g i = σ' g i) (h2 : ρ g i = ρ' g i) : cellE X ρ σ g i = cellE X ρ' σ' g i := by
  have hf : fvE X.1 ρ σ g i = fvE X.1 ρ' σ' g i := by
    funext k
    simp only [fvE, h1, h2]
  simp only [cellE, objE, hf, h1, h2]
theorem wl_put {X : Cx} {ρ : Rho} {σ : Mem} {a g i k : Nat} {v : Int32} (hg : g < 42) (hi : i < cnt g) (ha : pix g i < a) : (wl X ρ σ a).set (pix g i) (X.1 + pix g i, cellE X ρ (mput σ g i k v) g i) = wl X ρ (mput σ g i k v) a :=
  wl_set hg hi ha (fun g' i' hne => cellE_congr (mput_cell hne) rfl)
