-- the key
theorem by_lo : ∀ v, v < 128 → byteV v = nI v := by decide +kernel
theorem by_hi : ∀ v, v < 256 → 128 ≤ v → byteV v < 0 := by decide +kernel
theorem by_eq {v c : Nat} (hv : v < 256) (hc : c < 128) : byteV v = nI c ↔ v = c := by
  by_cases h : v < 128
  · rw [by_lo v h]
    exact nI_eq (by omega) (by omega)
  · have := by_hi v hv (by omega)
    refine ⟨fun q => absurd (q ▸ this) (nI_pos (by omega)), fun q => by omega⟩
theorem c_wstep {x : Nat → Nat} {L w j n c b N : Nat} {σ : Mem} {K : Option Int32} (hc : CT x L σ) (h4 : σ 4 0 4 = nI b) (hn : txL.getD w 0 = n) (hn4 : n ≤ 4) (hj : j < n) (hbn : b + n ≤ L) (hs : strAt w j = nI c) (h128 : c < 128) : f_X4_isWordHere_28 w σ (N + 1) (nI j) K = if x (b + j) = c then f_X4_isWordHere_28 w σ N (nI (j + 1)) K else some 0 := by
  have h96 := hc.1
  obtain ⟨hv, ev⟩ := hc.2.2 (b + j) (by omega)
  have el : strLen w = nI n := by unfold strLen; rw [hn]; rfl
  rw [f_X4_isWordHere_28.eq_2, el, if_neg (nI_ge hj (by omega)), h4, nI_add, ix_nI (by omega) (by decide), bnd_s, hn, ix_nI hj (by omega), bnd_s, ev, hs, nI_s]
  by_cases e : x (b + j) = c
  · rw [if_pos ((by_eq hv h128).mpr e), if_pos e]
  · rw [if_neg (fun q => e ((by_eq hv h128).mp q)), if_neg e]
theorem c_wend {w n N : Nat} {σ : Mem} {K : Option Int32} (hn : txL.getD w 0 = n) (hn4 : n ≤ 4) : f_X4_isWordHere_28 w σ (N + 1) (nI n) K = K := by
  have el : strLen w = nI n := by unfold strLen; rw [hn]; rfl
  rw [f_X4_isWordHere_28.eq_2, el, if_pos (nI_le (Nat.le_refl _) (by omega))]
def W4 (x : Nat → Nat) (s b e c0 c1 c2 c3 : Nat) : Prop := s = 1 ∧ e = b + 4 ∧ x b = c0 ∧ x (b + 1) = c1 ∧ x (b + 2) = c2 ∧ x (b + 3) = c3
def W3 (x : Nat → Nat) (s b e c0 c1 c2 : Nat) : Prop := s = 1 ∧ e = b + 3 ∧ x b = c0 ∧ x (b + 1) = c1 ∧ x (b + 2) = c2
theorem c_word4 {x : Nat → Nat} {L s b e w c0 c1 c2 c3 : Nat} {σ : Mem} (hc : CT x L σ) (h3 : σ 4 0 3 = nI s) (hs : s ≤ 4) (h4 : σ 4 0 4 = nI b) (h5 : σ 4 0 5 = nI e) (hbe : b ≤ e) (he : e ≤ L) (hn : txL.getD w 0 = 4) (s0 : strAt w 0 = nI c0) (s1 : strAt w 1 = nI c1) (s2 : strAt w 2 = nI c2) (s3 : strAt w 3 = nI c3) (hl : c0 < 128 ∧ c1 < 128 ∧ c2 < 128 ∧ c3 < 128) : (W4 x s b e c0 c1 c2 c3 ∧ f_X4_isWordHere w σ = some 1) ∨ (¬ W4 x s b e c0 c1 c2 c3 ∧ f_X4_isWordHere w σ = some 0) := by
  have h96 := hc.1
  obtain ⟨F, hF⟩ : ∃ F, FU = F + 1 + 1 + 1 + 1 + 1 := ⟨FU - 5, by rw [FU_eq]⟩
  have el : strLen w = nI 4 := by unfold strLen; rw [hn]; rfl
  unfold f_X4_isWordHere W4
  rw [h3]
  by_cases e1 : s = 1
  · subst e1
    rw [if_pos (show nI 1 = 1 from rfl), h4, h5, pk_sub hbe, el]
    by_cases e2 : e = b + 4
    · subst e2
      have w0 := c_wstep (j := 0) (N := F + 1 + 1 + 1 + 1) (K := some 1) hc h4 hn (by decide) (by decide) he s0 hl.1
      have w1 := c_wstep (j := 1) (N := F + 1 + 1 + 1) (K := some 1) hc h4 hn (by decide) (by decide) he s1 hl.2.1
      have w2 := c_wstep (j := 2) (N := F + 1 + 1) (K := some 1) hc h4 hn (by decide) (by decide) he s2 hl.2.2.1
      have w3 := c_wstep (j := 3) (N := F + 1) (K := some 1) hc h4 hn (by decide) (by decide) he s3 hl.2.2.2
      have w4 := c_wend (w := w) (σ := σ) (N := F) (K := some 1) hn (by decide)
      rw [if_pos (show nI (b + 4 - b) = nI 4 by rw [show b + 4 - b = 4 by omega]), hF]
      show _ ∨ (_ ∧ f_X4_isWordHere_28 w σ (F + 1 + 1 + 1 + 1 + 1) (nI 0) (some 1) = some 0)
      have E : f_X4_isWordHere_28 w σ (F + 1 + 1 + 1 + 1 + 1) (nI 0) (some 1) = (if x b = c0 then (if x (b + 1) = c1 then (if x (b + 2) = c2 then (if x (b + 3) = c3 then some 1 else some 0) else some 0) else some 0) else some 0) := by rw [w0, w1, w2, w3, w4]; rfl
      rw [E]
      by_cases a0 : x b = c0
      · by_cases a1 : x (b + 1) = c1
        · by_cases a2 : x (b + 2) = c2
          · by_cases a3 : x (b + 3) = c3
            · exact Or.inl ⟨⟨rfl, rfl, a0, a1, a2, a3⟩, by show f_X4_isWordHere_28 w σ (F + 1 + 1 + 1 + 1 + 1) (nI 0) (some 1) = some 1; rw [E, if_pos a0, if_pos a1, if_pos a2, if_pos a3]⟩
            · exact Or.inr ⟨fun q => a3 q.2.2.2.2.2, by rw [if_pos a0, if_pos a1, if_pos a2, if_neg a3]⟩
          · exact Or.inr ⟨fun q => a2 q.2.2.2.2.1, by rw [if_pos a0, if_pos a1, if_neg a2]⟩
        · exact Or.inr ⟨fun q => a1 q.2.2.2.1, by rw [if_pos a0, if_neg a1]⟩
      · exact Or.inr ⟨fun q => a0 q.2.2.1, by rw [if_neg a0]⟩
    · rw [if_neg (fun q => e2 (by have := (nI_eq (by omega) (by decide)).mp q; omega))]
      exact Or.inr ⟨fun q => e2 q.2.1, rfl⟩
  · rw [if_neg (show ¬ nI s = 1 from fun q => e1 ((nI_eq (a := s) (b := 1) (by omega) (by decide)).mp q))]
    exact Or.inr ⟨fun q => e1 q.1, rfl⟩
theorem c_word3 {x : Nat → Nat} {L s b e w c0 c1 c2 : Nat} {σ : Mem} (hc : CT x L σ) (h3 : σ 4 0 3 = nI s) (hs : s ≤ 4) (h4 : σ 4 0 4 = nI b) (h5 : σ 4 0 5 = nI e) (hbe : b ≤ e) (he : e ≤ L) (hn : txL.getD w 0 = 3) (s0 : strAt w 0 = nI c0) (s1 : strAt w 1 = nI c1) (s2 : strAt w 2 = nI c2) (hl : c0 < 128 ∧ c1 < 128 ∧ c2 < 128) : (W3 x s b e c0 c1 c2 ∧ f_X4_isWordHere w σ = some 1) ∨ (¬ W3 x s b e c0 c1 c2 ∧ f_X4_isWordHere w σ = some 0) := by
  have h96 := hc.1
  obtain ⟨F, hF⟩ : ∃ F, FU = F + 1 + 1 + 1 + 1 := ⟨FU - 4, by rw [FU_eq]⟩
  have el : strLen w = nI 3 := by unfold strLen; rw [hn]; rfl
  unfold f_X4_isWordHere W3
  rw [h3]
  by_cases e1 : s = 1
  · subst e1
    rw [if_pos (show nI 1 = 1 from rfl), h4, h5, pk_sub hbe, el]
    by_cases e2 : e = b + 3
    · subst e2
      have w0 := c_wstep (j := 0) (N := F + 1 + 1 + 1) (K := some 1) hc h4 hn (by decide) (by decide) he s0 hl.1
      have w1 := c_wstep (j := 1) (N := F + 1 + 1) (K := some 1) hc h4 hn (by decide) (by decide) he s1 hl.2.1
      have w2 := c_wstep (j := 2) (N := F + 1) (K := some 1) hc h4 hn (by decide) (by decide) he s2 hl.2.2
      have w4 := c_wend (w := w) (σ := σ) (N := F) (K := some 1) hn (by decide)
      rw [if_pos (show nI (b + 3 - b) = nI 3 by rw [show b + 3 - b = 3 by omega]), hF]
      show _ ∨ (_ ∧ f_X4_isWordHere_28 w σ (F + 1 + 1 + 1 + 1) (nI 0) (some 1) = some 0)
      have E : f_X4_isWordHere_28 w σ (F + 1 + 1 + 1 + 1) (nI 0) (some 1) = (if x b = c0 then (if x (b + 1) = c1 then (if x (b + 2) = c2 then some 1 else some 0) else some 0) else some 0) := by rw [w0, w1, w2, w4]; rfl
      rw [E]
      by_cases a0 : x b = c0
      · by_cases a1 : x (b + 1) = c1
        · by_cases a2 : x (b + 2) = c2
          · exact Or.inl ⟨⟨rfl, rfl, a0, a1, a2⟩, by show f_X4_isWordHere_28 w σ (F + 1 + 1 + 1 + 1) (nI 0) (some 1) = some 1; rw [E, if_pos a0, if_pos a1, if_pos a2]⟩
          · exact Or.inr ⟨fun q => a2 q.2.2.2.2, by rw [if_pos a0, if_pos a1, if_neg a2]⟩
        · exact Or.inr ⟨fun q => a1 q.2.2.2.1, by rw [if_pos a0, if_neg a1]⟩
      · exact Or.inr ⟨fun q => a0 q.2.2.1, by rw [if_neg a0]⟩
    · rw [if_neg (fun q => e2 (by have := (nI_eq (by omega) (by decide)).mp q; omega))]
      exact Or.inr ⟨fun q => e2 q.2.1, rfl⟩
  · rw [if_neg (show ¬ nI s = 1 from fun q => e1 ((nI_eq (a := s) (b := 1) (by omega) (by decide)).mp q))]
    exact Or.inr ⟨fun q => e1 q.1, rfl⟩
theorem m_word4 {x : Nat → Nat} {L s b e c0 c1 c2 c3 : Nat} {τ : Mem} (hm : MT x L τ) (h19 : τ 8 0 19 = nI s) (hs : s ≤ 4) (h17 : τ 8 0 17 = nI b) (h18 : τ 8 0 18 = nI e) (hbe : b ≤ e) (he : e ≤ L) (hl : c0 < 128 ∧ c1 < 128 ∧ c2 < 128 ∧ c3 < 128) (hz : 0 < c3) : (W4 x s b e c0 c1 c2 c3 → f_X8_isWordAt (nI c0) (nI c1) (nI c2) (nI c3) τ = some 1) ∧ (¬ W4 x s b e c0 c1 c2 c3 → f_X8_isWordAt (nI c0) (nI c1) (nI c2) (nI c3) τ = some 0) := by
  have h96 := hm.1
  have nz : ¬ nI c3 = 0 := nI_ne0 hz (by omega)
  have ne : ∀ {a b : Nat}, a < 256 → b < 256 → ¬ a = b → ¬ nI a = nI b := fun ha hb h q => h ((nI_eq (by omega) (by omega)).mp q)
  unfold f_X8_isWordAt
  rw [if_neg nz, h19, h17, h18, pk_sub hbe]
  constructor
  · rintro ⟨rfl, rfl, a0, a1, a2, a3⟩
    obtain ⟨-, f0⟩ := hm.2.2 b (by omega)
    obtain ⟨-, f1⟩ := hm.2.2 (b + 1) (by omega)
    obtain ⟨-, f2⟩ := hm.2.2 (b + 2) (by omega)
    obtain ⟨-, f3⟩ := hm.2.2 (b + 3) (by omega)
    rw [if_pos (show nI 1 = 1 from rfl), show b + 4 - b = 4 by omega, if_pos (show nI 4 = 4 from rfl), ix_nI (by omega) (by decide), bnd_s, f0, a0, if_pos rfl, nI_s, ix_nI (by omega) (by decide), bnd_s, f1, a1, if_pos rfl, show (2 : Int32) = nI 2 from rfl, nI_add, ix_nI (by omega) (by decide), bnd_s, f2, a2, if_pos rfl, if_neg nz, show (3 : Int32) = nI 3 from rfl, nI_add, ix_nI (by omega) (by decide), bnd_s, f3, a3, if_pos rfl]
  · intro hn
    by_cases e1 : s = 1
    · subst e1
      rw [if_pos (show nI 1 = 1 from rfl)]
      by_cases e2 : e = b + 4
      · subst e2
        obtain ⟨v0, f0⟩ := hm.2.2 b (by omega)
        obtain ⟨v1, f1⟩ := hm.2.2 (b + 1) (by omega)
        obtain ⟨v2, f2⟩ := hm.2.2 (b + 2) (by omega)
        obtain ⟨v3, f3⟩ := hm.2.2 (b + 3) (by omega)
        rw [show b + 4 - b = 4 by omega, if_pos (show nI 4 = 4 from rfl), ix_nI (by omega) (by decide), bnd_s, f0]
        by_cases a0 : x b = c0
        · rw [a0, if_pos rfl, nI_s, ix_nI (by omega) (by decide), bnd_s, f1]
          by_cases a1 : x (b + 1) = c1
          · rw [a1, if_pos rfl, show (2 : Int32) = nI 2 from rfl, nI_add, ix_nI (by omega) (by decide), bnd_s, f2]
            by_cases a2 : x (b + 2) = c2
            · rw [a2, if_pos rfl, if_neg nz, show (3 : Int32) = nI 3 from rfl, nI_add, ix_nI (by omega) (by decide), bnd_s, f3]
              by_cases a3 : x (b + 3) = c3
              · exact absurd ⟨rfl, rfl, a0, a1, a2, a3⟩ hn
              · rw [if_neg (ne v3 (by omega) a3)]
            · rw [if_neg (ne v2 (by omega) a2)]
          · rw [if_neg (ne v1 (by omega) a1)]
        · rw [if_neg (ne v0 (by omega) a0)]
      · rw [if_neg (show ¬ nI (e - b) = 4 from fun q => e2 (by have := (nI_eq (a := e - b) (b := 4) (by omega) (by decide)).mp q; omega))]
    · rw [if_neg (show ¬ nI s = 1 from fun q => e1 ((nI_eq (a := s) (b := 1) (by omega) (by decide)).mp q))]
theorem m_word3 {x : Nat → Nat} {L s b e c0 c1 c2 : Nat} {τ : Mem} (hm : MT x L τ) (h19 : τ 8 0 19 = nI s) (hs : s ≤ 4) (h17 : τ 8 0 17 = nI b) (h18 : τ 8 0 18 = nI e) (hbe : b ≤ e) (he : e ≤ L) (hl : c0 < 128 ∧ c1 < 128 ∧ c2 < 128) : (W3 x s b e c0 c1 c2 → f_X8_isWordAt (nI c0) (nI c1) (nI c2) 0 τ = some 1) ∧ (¬ W3 x s b e c0 c1 c2 → f_X8_isWordAt (nI c0) (nI c1) (nI c2) 0 τ = some 0) := by
  have h96 := hm.1
  have ne : ∀ {a b : Nat}, a < 256 → b < 256 → ¬ a = b → ¬ nI a = nI b := fun ha hb h q => h ((nI_eq (by omega) (by omega)).mp q)
  unfold f_X8_isWordAt
  rw [if_pos rfl, h19, h17, h18, pk_sub hbe]
  constructor
  · rintro ⟨rfl, rfl, a0, a1, a2⟩
    obtain ⟨-, f0⟩ := hm.2.2 b (by omega)
    obtain ⟨-, f1⟩ := hm.2.2 (b + 1) (by omega)
    obtain ⟨-, f2⟩ := hm.2.2 (b + 2) (by omega)
    rw [if_pos (show nI 1 = 1 from rfl), show b + 3 - b = 3 by omega, if_pos (show nI 3 = 3 from rfl), ix_nI (by omega) (by decide), bnd_s, f0, a0, if_pos rfl, nI_s, ix_nI (by omega) (by decide), bnd_s, f1, a1, if_pos rfl, show (2 : Int32) = nI 2 from rfl, nI_add, ix_nI (by omega) (by decide), bnd_s, f2, a2, if_pos rfl, if_pos rfl]
  · intro hn
    by_cases e1 : s = 1
    · subst e1
      rw [if_pos (show nI 1 = 1 from rfl)]
      by_cases e2 : e = b + 3
      · subst e2
        obtain ⟨v0, f0⟩ := hm.2.2 b (by omega)
        obtain ⟨v1, f1⟩ := hm.2.2 (b + 1) (by omega)
        obtain ⟨v2, f2⟩ := hm.2.2 (b + 2) (by omega)
        rw [show b + 3 - b = 3 by omega, if_pos (show nI 3 = 3 from rfl), ix_nI (by omega) (by decide), bnd_s, f0]
        by_cases a0 : x b = c0
        · rw [a0, if_pos rfl, nI_s, ix_nI (by omega) (by decide), bnd_s, f1]
          by_cases a1 : x (b + 1) = c1
          · rw [a1, if_pos rfl, show (2 : Int32) = nI 2 from rfl, nI_add, ix_nI (by omega) (by decide), bnd_s, f2]
            by_cases a2 : x (b + 2) = c2
            · exact absurd ⟨rfl, rfl, a0, a1, a2⟩ hn
            · rw [if_neg (ne v2 (by omega) a2)]
          · rw [if_neg (ne v1 (by omega) a1)]
        · rw [if_neg (ne v0 (by omega) a0)]
      · rw [if_neg (show ¬ nI (e - b) = 3 from fun q => e2 (by have := (nI_eq (a := e - b) (b := 3) (by omega) (by decide)).mp q; omega))]
    · rw [if_neg (show ¬ nI s = 1 from fun q => e1 ((nI_eq (a := s) (b := 1) (by omega) (by decide)).mp q))]
theorem ls_key {x : Nat → Nat} {L s b e : Nat} {σ τ : Mem} (hc : CT x L σ) (hm : MT x L τ) (h : TK x L s b e σ τ) : (f_X4_keyHere σ = some (-1) ∧ f_X8_key τ = some (-1)) ∨ ∃ key, key < 3 ∧ f_X4_keyHere σ = some (nI key) ∧ f_X8_key τ = some (nI key) := by
  obtain ⟨t1, t2, t3, t4, t5, t6, t7, t8, t9, -⟩ := h
  have n1 : ¬ (1 : Int32) = 0 := by decide
  have A := c_word4 (w := 0) (c0 := 107) (c1 := 101) (c2 := 101) (c3 := 112) hc t1 t9 t3 t5 t7 t8 rfl (by decide) (by decide) (by decide) (by decide) (by decide)
  have B := c_word3 (w := 1) (c0 := 102) (c1 := 101) (c2 := 101) hc t1 t9 t3 t5 t7 t8 rfl (by decide) (by decide) (by decide) (by decide)
  have C := c_word4 (w := 2) (c0 := 102) (c1 := 105) (c2 := 110) (c3 := 101) hc t1 t9 t3 t5 t7 t8 rfl (by decide) (by decide) (by decide) (by decide) (by decide)
  have A' := m_word4 (c0 := 107) (c1 := 101) (c2 := 101) (c3 := 112) hm t2 t9 t4 t6 t7 t8 (by decide) (by decide)
  have B' := m_word3 (c0 := 102) (c1 := 101) (c2 := 101) hm t2 t9 t4 t6 t7 t8 (by decide)
  have C' := m_word4 (c0 := 102) (c1 := 105) (c2 := 110) (c3 := 101) hm t2 t9 t4 t6 t7 t8 (by decide) (by decide)
  unfold f_X4_keyHere f_X8_key
  rcases A with ⟨a, a1⟩ | ⟨a, a1⟩
  · have a2 : f_X8_isWordAt 107 101 101 112 τ = some 1 := A'.1 a
    exact Or.inr ⟨0, by decide, by rw [a1, bnd_s, if_neg n1]; rfl, by rw [a2, bnd_s, if_neg n1]; rfl⟩
  · have a2 : f_X8_isWordAt 107 101 101 112 τ = some 0 := A'.2 a
    rw [a1, bnd_s, if_pos rfl, a2, bnd_s, if_pos rfl]
    rcases B with ⟨b, b1⟩ | ⟨b, b1⟩
    · have b2 : f_X8_isWordAt 102 101 101 0 τ = some 1 := B'.1 b
      exact Or.inr ⟨1, by decide, by rw [b1, bnd_s, if_neg n1]; rfl, by rw [b2, bnd_s, if_neg n1]; rfl⟩
    · have b2 : f_X8_isWordAt 102 101 101 0 τ = some 0 := B'.2 b
      rw [b1, bnd_s, if_pos rfl, b2, bnd_s, if_pos rfl]
      rcases C with ⟨c, c1⟩ | ⟨c, c1⟩
      · have c2 : f_X8_isWordAt 102 105 110 101 τ = some 1 := C'.1 c
        exact Or.inr ⟨2, by decide, by rw [c1, bnd_s, if_neg n1]; rfl, by rw [c2, bnd_s, if_neg n1]; rfl⟩
      · have c2 : f_X8_isWordAt 102 105 110 101 τ = some 0 := C'.2 c
        exact Or.inl ⟨by rw [c1, bnd_s, if_pos rfl], by rw [c2, bnd_s, if_pos rfl]⟩
