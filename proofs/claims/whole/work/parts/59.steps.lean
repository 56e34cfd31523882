def nmV (p : Nat) (a b c : Int32) : Int32 := if p = 0 then a else if p = 1 then b else c
section CS
variable {σ : Mem} {t len k d n : Nat} {a1 a2 a3 : Int32} {K : Mem → Option (Int32 × Mem)}
theorem cs_num (hl : σ 1 t 3 = nI len) (hk : k < len) (hL : len ≤ 96) (hd : d ≤ k) {a : Nat} (ha : a < 10000) (hc : σ 11 t k = nI a) : f_X2_gives_14 a1 a2 a3 t (n + 1) (nI d) (nI k) σ K = f_X2_gives_14 a1 a2 a3 t n (nI (d + 1)) (nI (k + 1)) (mput σ 10 0 d (nI a)) K := by
  rw [f_X2_gives_14.eq_2, hl, if_neg (nI_ge hk (by omega)), ix_nI (by omega) (by decide), bnd_s, hc, if_neg (num_pos ha).1, if_neg (num_pos ha).2, ix_nI (by omega) (by decide), bnd_s, nI_s, nI_s]
theorem cs_nam (hl : σ 1 t 3 = nI len) (hk : k < len) (hL : len ≤ 96) (hd : d ≤ k) {p : Nat} (hp : p < 3) (hc : σ 11 t k = -1 - nI p) : f_X2_gives_14 a1 a2 a3 t (n + 1) (nI d) (nI k) σ K = f_X2_gives_14 a1 a2 a3 t n (nI (d + 1)) (nI (k + 1)) (mput σ 10 0 d (nmV p a1 a2 a3)) K := by
  obtain ⟨q1, q2, q3, q4⟩ := nam_neg p hp
  rw [f_X2_gives_14.eq_2, hl, if_neg (nI_ge hk (by omega)), ix_nI (by omega) (by decide), bnd_s, hc, if_neg q1, if_pos q2, ix_nI (by omega) (by decide), bnd_s, bnd_s, bnd_s, nI_s, nI_s]
  unfold nmV
  by_cases h0 : p = 0
  · rw [if_pos (q3.mpr h0), if_pos h0]
  · rw [if_neg (fun q => h0 (q3.mp q)), if_neg h0]
    by_cases h1 : p = 1
    · rw [if_pos (q4.mpr h1), if_pos h1]
    · rw [if_neg (fun q => h1 (q4.mp q)), if_neg h1]
theorem nI_p1 {d : Nat} (h : 1 ≤ d) : nI d - (1 : Int32) = nI (d - 1) := by rw [show (1 : Int32) = nI 1 from rfl, pk_sub h]
theorem nI_m1 {d : Nat} (h : 1 ≤ d) : nI d + (-1 : Int32) = nI (d - 1) := by
  obtain ⟨e, rfl⟩ : ∃ e, d = e + 1 := ⟨d - 1, by omega⟩
  exact pk_m1 e
theorem nI_nle0 {d : Nat} (h : 1 ≤ d) (hd : d < 2 ^ 31) : ¬ nI d ≤ 0 := nI_nle h hd
theorem nI_nle1 {d : Nat} (h : 2 ≤ d) (hd : d < 2 ^ 31) : ¬ nI d ≤ (1 : Int32) := nI_ge (a := 1) (by omega) hd
theorem cs_not (hl : σ 1 t 3 = nI len) (hk : k < len) (hL : len ≤ 96) (hd : d ≤ k) (h1 : 1 ≤ d) (hc : σ 11 t k = -nI 33) : f_X2_gives_14 a1 a2 a3 t (n + 1) (nI d) (nI k) σ K = f_X2_gives_14 a1 a2 a3 t n (nI d) (nI (k + 1)) (mput σ 10 0 (d - 1) (if σ 10 0 (d - 1) = 0 then 1 else 0)) K := by
  obtain ⟨q1, q2, -, -⟩ := sgn_neg 33 (by decide)
  rw [f_X2_gives_14.eq_2, hl, if_neg (nI_ge hk (by omega)), ix_nI (by omega) (by decide), bnd_s, hc, if_pos q1, if_pos (q2.mpr rfl), if_neg (nI_nle0 h1 (by omega)), nI_p1 h1, ix_nI (by omega) (by decide), bnd_s, bnd_s, bnd_s, nI_s]
  by_cases h0 : σ 10 0 (d - 1) = 0
  · rw [if_pos h0, if_pos h0]
  · rw [if_neg h0, if_neg h0]
theorem cs_join (hl : σ 1 t 3 = nI len) (hk : k < len) (hL : len ≤ 96) (hd : d ≤ k) (h2 : 2 ≤ d) {ch : Nat} (hch : ch ∈ [38, 42, 43, 45, 47, 60, 61, 62, 124]) (hc : σ 11 t k = -nI ch) : f_X2_gives_14 a1 a2 a3 t (n + 1) (nI d) (nI k) σ K = f_X2_gives_14 a1 a2 a3 t n (nI (d - 1)) (nI (k + 1)) (mput σ 10 0 (d - 2) (joinV ch (σ 10 0 (d - 2)) (σ 10 0 (d - 1)))) K := by
  obtain ⟨q1, q2, q3, -⟩ := sgn_neg ch (List.mem_cons_of_mem _ hch)
  have hne : ¬ ch = 33 := by rintro rfl; revert hch; decide
  rw [f_X2_gives_14.eq_2, hl, if_neg (nI_ge hk (by omega)), ix_nI (by omega) (by decide), bnd_s, hc, if_pos q1, if_neg (fun q => hne (q2.mp q)), if_neg (nI_nle1 h2 (by omega)), nI_m1 (by omega), nI_p1 (by omega), ix_nI (by omega) (by decide), bnd_s, ix_nI (by omega) (by decide), bnd_s, q3, c_join hch, bnd_s, bnd_s, nI_s]
  rfl
end CS
