section MS
variable {τ : Mem} {t len k d n : Nat} {K : Mem → Option (Int32 × Mem)}
theorem ms_head (ht : t < 14) (hl : τ 22 0 (110 + 200 * t) = nI len) (hk : k < len) (hL : len ≤ 96) (v2 : Int32) : f_X8_worked_4 (nI t) (n + 1) v2 (nI k) τ K = (if τ 22 0 (112 + 200 * t + 2 * k) = (2 : Int32) then (if τ 22 0 (113 + 200 * t + 2 * k) = (33 : Int32) then (bnd (ix 100 (v2 - (1 : Int32))) (fun j7 => (if (τ 38 0 j7) = 0 then (bnd (ix 100 (v2 - (1 : Int32))) (fun j9 => (f_X8_worked_4 (nI t) n v2 (nI (k + 1)) (mput τ 38 0 j9 (1 : Int32)) K))) else (bnd (ix 100 (v2 - (1 : Int32))) (fun j8 => (f_X8_worked_4 (nI t) n v2 (nI (k + 1)) (mput τ 38 0 j8 (0 : Int32)) K)))))) else (bnd (ix 100 ((v2 + (-1 : Int32)) - (1 : Int32))) (fun j4 => (bnd (ix 100 (v2 + (-1 : Int32))) (fun j5 => (bnd (f_X8_joined (τ 22 0 (113 + 200 * t + 2 * k)) (τ 38 0 j4) (τ 38 0 j5) τ) (fun a4 => (bnd (ix 100 ((v2 + (-1 : Int32)) - (1 : Int32))) (fun j6 => (f_X8_worked_4 (nI t) n (v2 + (-1 : Int32)) (nI (k + 1)) (mput τ 38 0 j6 a4) K)))))))))) else (if τ 22 0 (112 + 200 * t + 2 * k) = 0 then (bnd (ix 100 v2) (fun j12 => (f_X8_worked_4 (nI t) n (v2 + (1 : Int32)) (nI (k + 1)) (mput τ 38 0 j12 (τ 22 0 (113 + 200 * t + 2 * k))) K))) else (bnd (ix 128 (τ 22 0 (113 + 200 * t + 2 * k))) (fun j10 => (bnd (ix 100 v2) (fun j11 => (f_X8_worked_4 (nI t) n (v2 + (1 : Int32)) (nI (k + 1)) (mput τ 38 0 j11 (τ 37 0 j10)) K))))))) := by
  have e1 : nI (108 + 200 * t) + (2 : Int32) = nI (110 + 200 * t) := by
    rw [show (2 : Int32) = nI 2 from rfl, nI_add, show 108 + 200 * t + 2 = 110 + 200 * t by omega]
  have e2 : (nI (108 + 200 * t) + (4 : Int32)) + ((2 : Int32) * nI k) = nI (112 + 200 * t + 2 * k) := by
    rw [show (2 : Int32) = nI 2 from rfl, show (4 : Int32) = nI 4 from rfl, pk_mul, nI_add, nI_add, show 108 + 200 * t + 4 + 2 * k = 112 + 200 * t + 2 * k by omega]
  rw [f_X8_worked_4.eq_2, m_textAt, bnd_s, e1, ix_nI (by omega) (by decide), bnd_s, hl, if_neg (nI_ge hk (by omega)), bnd_s, e2, ix_nI (by omega) (by decide), bnd_s, bnd_s, e2, nI_s (112 + 200 * t + 2 * k), ix_nI (by omega) (by decide), bnd_s, nI_s k, show 112 + 200 * t + 2 * k + 1 = 113 + 200 * t + 2 * k by omega]
theorem ms_num (ht : t < 14) (hl : τ 22 0 (110 + 200 * t) = nI len) (hk : k < len) (hL : len ≤ 96) (hd : d ≤ k) {a : Nat} (hw : τ 22 0 (112 + 200 * t + 2 * k) = 0) (hv : τ 22 0 (113 + 200 * t + 2 * k) = nI a) : f_X8_worked_4 (nI t) (n + 1) (nI d) (nI k) τ K = f_X8_worked_4 (nI t) n (nI (d + 1)) (nI (k + 1)) (mput τ 38 0 d (nI a)) K := by
  rw [ms_head ht hl hk hL, hw, hv, if_neg (by decide), if_pos rfl, ix_nI (by omega) (by decide), bnd_s, nI_s]
theorem ms_nam (ht : t < 14) (hl : τ 22 0 (110 + 200 * t) = nI len) (hk : k < len) (hL : len ≤ 96) (hd : d ≤ k) {c : Nat} (hc : c < 128) (hw : τ 22 0 (112 + 200 * t + 2 * k) = 1) (hv : τ 22 0 (113 + 200 * t + 2 * k) = nI c) : f_X8_worked_4 (nI t) (n + 1) (nI d) (nI k) τ K = f_X8_worked_4 (nI t) n (nI (d + 1)) (nI (k + 1)) (mput τ 38 0 d (τ 37 0 c)) K := by
  rw [ms_head ht hl hk hL, hw, hv, if_neg (by decide), if_neg (by decide), ix_nI hc (by decide), bnd_s, ix_nI (by omega) (by decide), bnd_s, nI_s]
theorem ms_not (ht : t < 14) (hl : τ 22 0 (110 + 200 * t) = nI len) (hk : k < len) (hL : len ≤ 96) (hd : d ≤ k) (h1 : 1 ≤ d) (hw : τ 22 0 (112 + 200 * t + 2 * k) = 2) (hv : τ 22 0 (113 + 200 * t + 2 * k) = nI 33) : f_X8_worked_4 (nI t) (n + 1) (nI d) (nI k) τ K = f_X8_worked_4 (nI t) n (nI d) (nI (k + 1)) (mput τ 38 0 (d - 1) (if τ 38 0 (d - 1) = 0 then 1 else 0)) K := by
  rw [ms_head ht hl hk hL, hw, hv, if_pos rfl, if_pos (show nI 33 = (33 : Int32) from rfl), nI_p1 h1, ix_nI (by omega) (by decide), bnd_s, bnd_s, bnd_s]
  by_cases h0 : τ 38 0 (d - 1) = 0
  · rw [if_pos h0, if_pos h0]
  · rw [if_neg h0, if_neg h0]
theorem ms_join (ht : t < 14) (hl : τ 22 0 (110 + 200 * t) = nI len) (hk : k < len) (hL : len ≤ 96) (hd : d ≤ k) (h2 : 2 ≤ d) {ch : Nat} (hch : ch ∈ [38, 42, 43, 45, 47, 60, 61, 62, 124]) (hw : τ 22 0 (112 + 200 * t + 2 * k) = 2) (hv : τ 22 0 (113 + 200 * t + 2 * k) = nI ch) : f_X8_worked_4 (nI t) (n + 1) (nI d) (nI k) τ K = f_X8_worked_4 (nI t) n (nI (d - 1)) (nI (k + 1)) (mput τ 38 0 (d - 2) (joinV ch (τ 38 0 (d - 2)) (τ 38 0 (d - 1)))) K := by
  obtain ⟨-, -, -, q4⟩ := sgn_neg ch (List.mem_cons_of_mem _ hch)
  have hne : ¬ ch = 33 := by rintro rfl; revert hch; decide
  rw [ms_head ht hl hk hL, hw, hv, if_pos rfl, if_neg (fun q => hne (q4.mp q)), nI_m1 (by omega), nI_p1 (by omega), ix_nI (by omega) (by decide), bnd_s, ix_nI (by omega) (by decide), bnd_s, m_join hch, bnd_s, bnd_s]
  rfl
end MS
