-- calls on people and vows
theorem e01 : ((0 : Int32) = 0) = True := eq_self 0
theorem in05 {v : Int32} : (∃ j, j < 6 ∧ v = nI j ∧ (∀ σ, f_X7_isWithin v 0 5 σ = some 1) ∧ (∀ τ, f_X8_isIn v.toInt64 0 5 τ = some 1)) ∨ ((∀ σ, f_X7_isWithin v 0 5 σ = some 0) ∧ (∀ τ, f_X8_isIn v.toInt64 0 5 τ = some 0)) := by
  rcases gd_nat (v := v) 5 (hi := 5) (lo' := 0) (hi' := 5) (by decide) (by decide) (by decide) rfl with ⟨j, h, e, c, m⟩ | ⟨-, c, m⟩
  · exact Or.inl ⟨j, by omega, e, c, m⟩
  · exact Or.inr ⟨c, m⟩
theorem in023 {v : Int32} : (∃ j, j < 24 ∧ v = nI j ∧ (∀ σ, f_X7_isWithin v 0 23 σ = some 1) ∧ (∀ τ, f_X8_isIn v.toInt64 0 23 τ = some 1)) ∨ ((∀ σ, f_X7_isWithin v 0 23 σ = some 0) ∧ (∀ τ, f_X8_isIn v.toInt64 0 23 τ = some 0)) := by
  rcases gd_nat (v := v) 23 (hi := 23) (lo' := 0) (hi' := 23) (by decide) (by decide) (by decide) rfl with ⟨j, h, e, c, m⟩ | ⟨-, c, m⟩
  · exact Or.inl ⟨j, by omega, e, c, m⟩
  · exact Or.inr ⟨c, m⟩
theorem in099 {v : Int32} : (∃ j, j < 100 ∧ v = nI j ∧ (∀ σ, f_X7_isWithin v 0 99 σ = some 1) ∧ (∀ τ, f_X8_isIn v.toInt64 0 99 τ = some 1)) ∨ ((∀ σ, f_X7_isWithin v 0 99 σ = some 0) ∧ (∀ τ, f_X8_isIn v.toInt64 0 99 τ = some 0)) := by
  rcases gd_nat (v := v) 99 (hi := 99) (lo' := 0) (hi' := 99) (by decide) (by decide) (by decide) rfl with ⟨j, h, e, c, m⟩ | ⟨-, c, m⟩
  · exact Or.inl ⟨j, by omega, e, c, m⟩
  · exact Or.inr ⟨c, m⟩
theorem op_person {σ τ : Mem} (W : RR2 σ τ) (a b c : Int32) : LkS (f_X7_person a b c σ) (f_X8_person a b c τ) RR2 := by
  have W0 := W
  obtain ⟨n, nv, nt, ⟨H, hv16, T, h, hh, h2⟩, hr⟩ := W
  unfold f_X7_person f_X8_person
  rcases in05 (v := a) with ⟨ja, la, rfl, c1, m1⟩ | ⟨c1, m1⟩
  · simp only [c1, m1, bnd_s, e10, e01, if_false, if_true]
    rcases in023 (v := b) with ⟨jb, lb, rfl, c2, m2⟩ | ⟨c2, m2⟩
    · simp only [c2, m2, bnd_s, e10, e01, if_false, if_true]
      rcases in099 (v := c) with ⟨jc, lc, rfl, c3, m3⟩ | ⟨c3, m3⟩
      · simp only [c3, m3, bnd_s, e10, e01, if_false, if_true]
        by_cases hn : n < 10
        · obtain ⟨σ', τ', q1, q2, q3, q4, q5, q6⟩ := ls_comes H hn la lb lc
          rw [H.1.1, if_pos (show nI n < 10 from nI_lt (b := 10) hn (by decide)), q1, bnd_s, sx0, bnd_s, H.1.2.1, if_neg (show ¬ nI n = 10 from fun q => by have := (nI_eq (a := n) (b := 10) (by omega) (by decide)).mp q; omega), q2, bnd_s, bnd_s, q3.1.1, q3.1.2.1]
          exact LkS_mk (RR2_land (n := n) (nv := nv) hr T rfl q3 hv16 hh (q6.trans h2) q4.n0 q5.n (fun k hk _ => q5.2 k hk))
        · have hn : n = 10 := by have := H.1.2.2; omega
          subst hn
          rw [H.1.1, if_neg (show ¬ nI 10 < 10 by decide), sx0, bnd_s, H.1.2.1, if_pos (show nI 10 = 10 from rfl)]
          exact LkS_mk W0
      · simp only [c3, m3, bnd_s, e10, e01, if_false, if_true]
        exact LkS_mk W0
    · simp only [c2, m2, bnd_s, e10, e01, if_false, if_true]
      exact LkS_mk W0
  · simp only [c1, m1, bnd_s, e10, e01, if_false, if_true]
    exact LkS_mk W0
theorem many_eq {b : Bool} {l n nv nt j : Nat} {σ τ : Mem} (H : RLd b l 22 σ τ n nv nt) : ∃ c, f_X0_vowsGivenBy l (nI j) σ = some (nI c) ∧ f_X8_manyBy (nI j) 0 τ = some (nI c) ∧ c ≤ nv := by
  obtain ⟨⟨a1, a2, a3⟩, ⟨b1, b2, b3⟩, hp, hw, hc, e1, e2, e3, e4⟩ := H
  have hcnt : accF (fun v => σ 13 l v) (nI j) 0 nv 0 = accF (fun v => τ 22 0 (57 + 3 * v + 0)) (nI j) 0 nv 0 := accF_congr nv 0 0 (fun u _ hu => by
    obtain ⟨⟨o', -, x1, x2⟩, -⟩ := hw u (by omega)
    show σ 13 l u = τ 22 0 (57 + 3 * u + 0)
    rw [x1, Nat.add_zero, x2])
  obtain ⟨c, hc1, hc2⟩ := accF_nat (f := fun v => σ 13 l v) (x := nI j) nv 0 0
  refine ⟨c, ?_, ?_, by omega⟩
  · rw [q_givenBy b1 b3]; exact congrArg some hc2
  · rw [q_many (w := 0) (e := 0) b2 b3 rfl (by decide), ← hcnt]; exact congrArg some hc2
theorem many_to {l n nv nt j : Nat} {σ τ : Mem} (H : RLd true l 22 σ τ n nv nt) : ∃ c, f_X0_vowsGivenTo l (nI j) σ = some (nI c) ∧ f_X8_manyBy (nI j) 1 τ = some (nI c) := by
  obtain ⟨⟨a1, a2, a3⟩, ⟨b1, b2, b3⟩, hp, hw, hc, e1, e2, e3, e4⟩ := H
  have hcnt : accF (fun v => σ 14 l v) (nI j) 0 nv 0 = accF (fun v => τ 22 0 (57 + 3 * v + 1)) (nI j) 0 nv 0 := accF_congr nv 0 0 (fun u _ hu => by
    obtain ⟨-, ⟨o, o', -, -, x1, x2, x3⟩, -⟩ := hw u (by omega)
    show σ 14 l u = τ 22 0 (57 + 3 * u + 1)
    rw [x1, show 57 + 3 * u + 1 = 58 + 3 * u by omega, x2, x3 rfl])
  obtain ⟨c, hc1, hc2⟩ := accF_nat (f := fun v => σ 14 l v) (x := nI j) nv 0 0
  refine ⟨c, ?_, ?_⟩
  · rw [q_givenTo b1 b3]; exact congrArg some hc2
  · rw [q_many (w := 1) (e := 1) b2 b3 rfl (by decide), ← hcnt]; exact congrArg some hc2
theorem or9 (b : Int32) : b = 0 ∨ b = 1 ∨ b = 2 ∨ b = 3 ∨ b = 4 ∨ b = 5 ∨ b = 6 ∨ b = 7 ∨ b = 8 ∨ (b ≠ 0 ∧ b ≠ 1 ∧ b ≠ 2 ∧ b ≠ 3 ∧ b ≠ 4 ∧ b ≠ 5 ∧ b ≠ 6 ∧ b ≠ 7 ∧ b ≠ 8) := by
  by_cases e0 : b = 0
  · exact Or.inl e0
  by_cases e1 : b = 1
  · exact Or.inr (Or.inl e1)
  by_cases e2 : b = 2
  · exact Or.inr (Or.inr (Or.inl e2))
  by_cases e3 : b = 3
  · exact Or.inr (Or.inr (Or.inr (Or.inl e3)))
  by_cases e4 : b = 4
  · exact Or.inr (Or.inr (Or.inr (Or.inr (Or.inl e4))))
  by_cases e5 : b = 5
  · exact Or.inr (Or.inr (Or.inr (Or.inr (Or.inr (Or.inl e5)))))
  by_cases e6 : b = 6
  · exact Or.inr (Or.inr (Or.inr (Or.inr (Or.inr (Or.inr (Or.inl e6))))))
  by_cases e7 : b = 7
  · exact Or.inr (Or.inr (Or.inr (Or.inr (Or.inr (Or.inr (Or.inr (Or.inl e7)))))))
  by_cases e8 : b = 8
  · exact Or.inr (Or.inr (Or.inr (Or.inr (Or.inr (Or.inr (Or.inr (Or.inr (Or.inl e8))))))))
  exact Or.inr (Or.inr (Or.inr (Or.inr (Or.inr (Or.inr (Or.inr (Or.inr (Or.inr ⟨e0, e1, e2, e3, e4, e5, e6, e7, e8⟩))))))))
theorem op_told {σ τ : Mem} (W : RR2 σ τ) (a b : Int32) : LkR (f_X7_told a b σ) (f_X8_told a b τ) := by
  obtain ⟨n, nv, nt, ⟨H, hv16, T, h, hh, h2⟩, hr⟩ := W
  have n10 := H.1.2.2
  unfold f_X7_told f_X8_told
  rcases gd_one (v := a) H.1 with ⟨j, hj, rfl, c1, m1⟩ | ⟨-, c1, m1⟩
  · have i10 : ix 10 (nI j) = some j := ix_nI (by omega) (by decide)
    obtain ⟨⟨kd, hkd, p1, p2⟩, ⟨e, he, p3, p4⟩, ⟨f, hf, p5, p6⟩, p7, p8⟩ := H.2.2.1 j hj
    obtain ⟨cb, gb1, gb2, -⟩ := many_eq (j := j) H
    obtain ⟨ct, gt1, gt2⟩ := many_to (j := j) H
    rw [c1, bnd_s, if_neg (show ¬ (1 : Int32) = 0 by decide), i10, bnd_s, m1, bnd_s, if_neg (show ¬ (1 : Int32) = 0 by decide)]
    rcases or9 b with rfl | rfl | rfl | rfl | rfl | rfl | rfl | rfl | rfl | ⟨k0, k1, k2, k3, k4, k5, k6, k7, k8⟩
    · show LkR (some (σ 3 (10 * 0 + j) 0)) (bnd (f_X8_of (nI j) 0 τ) _)
      rw [q_of (e := 0) j 0 rfl (by omega), p1]
      exact LkR_mk2 p2.symm
    · show LkR (some (σ 3 (10 * 0 + j) 1)) (bnd (f_X8_of (nI j) 1 τ) _)
      rw [q_of (e := 1) j 1 rfl (by omega), p3]
      exact LkR_mk2 (by rw [show 7 + 5 * j + 1 = 8 + 5 * j by omega]; exact p4.symm)
    · show LkR (some (σ 3 (10 * 0 + j) 2)) (bnd (f_X8_of (nI j) 2 τ) _)
      rw [q_of (e := 2) j 2 rfl (by omega), p5]
      exact LkR_mk2 (by rw [show 7 + 5 * j + 2 = 9 + 5 * j by omega]; exact p6.symm)
    · show LkR (some (σ 3 (10 * 0 + j) 3)) (bnd (f_X8_of (nI j) 3 τ) _)
      rw [q_of (e := 3) j 3 rfl (by omega), p7 rfl]
      exact LkR_mk2 (by rw [show 7 + 5 * j + 3 = 10 + 5 * j by omega])
    · show LkR (bnd (f_X0_vowsGivenBy 0 (nI j) σ) _) (bnd (f_X8_manyBy (nI j) 0 τ) _)
      rw [gb1, gb2]
      exact LkR_mk
    · show LkR (bnd (f_X0_vowsGivenTo 0 (nI j) σ) _) (bnd (f_X8_manyBy (nI j) 1 τ) _)
      rw [gt1, gt2]
      exact LkR_mk
    · show LkR (bnd (f_X3_noon (10 * 0 + j) σ) _) (bnd (f_X8_noon (nI j) τ) _)
      rw [c_noon p1 hkd, m_noon p2 hkd (by omega), p3, p4]
      exact LkR_mk
    · show LkR (bnd (f_X3_pays (10 * 0 + j) σ) _) (bnd (f_X8_pays (nI j) τ) _)
      rw [c_pays p1 hkd, m_pays p2 hkd (by omega)]
      exact LkR_mk
    · show LkR (bnd (f_X3_worth (10 * 0 + j) σ) _) (bnd (f_X8_worth (nI j) τ) _)
      rw [c_worth p1 hkd p5 hf, m_worth p2 hkd (by omega), p5, p6]
      exact LkR_mk
    · simp only [if_neg k0, if_neg k1, if_neg k2, if_neg k3, if_neg k4, if_neg k5, if_neg k6, if_neg k7, if_neg k8]
      exact LkR_mk
  · rw [c1, bnd_s, if_pos rfl, m1, bnd_s, if_pos rfl]
    exact LkR_mk
-- who is of a kind
theorem c_isOf {σ : Mem} {i own kd : Nat} (h : σ 3 i 0 = nI own) (ho : own < 6) (hk : kd < 6) : ∃ x : Int32, (x = 0 ∨ x = 1) ∧ f_X3_isOf i (nI kd) σ = some x ∧ ∀ τ, f_X8_isOf (nI own) (nI kd) τ = some x := by
  obtain ⟨F, hF⟩ : ∃ F, FU = F + 1 + 1 + 1 + 1 + 1 + 1 + 1 := ⟨FU - 7, by rw [FU_eq]⟩
  unfold f_X3_isOf
  rw [h, hF]
  rcases (show own = 0 ∨ own = 1 ∨ own = 2 ∨ own = 3 ∨ own = 4 ∨ own = 5 by omega) with rfl | rfl | rfl | rfl | rfl | rfl <;>
  rcases (show kd = 0 ∨ kd = 1 ∨ kd = 2 ∨ kd = 3 ∨ kd = 4 ∨ kd = 5 by omega) with rfl | rfl | rfl | rfl | rfl | rfl <;>
  first
  | exact ⟨1, Or.inr rfl, rfl, fun _ => rfl⟩
  | exact ⟨0, Or.inl rfl, rfl, fun _ => rfl⟩
theorem op_as {σ τ : Mem} (W : RR2 σ τ) (a b : Int32) : LkR (f_X7_as a b σ) (f_X8_as a b τ) := by
  obtain ⟨n, nv, nt, ⟨H, hv16, T, h, hh, h2⟩, hr⟩ := W
  have n10 := H.1.2.2
  unfold f_X7_as f_X8_as
  rcases gd_one (v := a) H.1 with ⟨j, hj, rfl, c1, m1⟩ | ⟨-, c1, m1⟩
  · have i10 : ix 10 (nI j) = some j := ix_nI (by omega) (by decide)
    obtain ⟨⟨kd, hkd, p1, p2⟩, -, ⟨f, hf, p5, p6⟩, -⟩ := H.2.2.1 j hj
    rw [c1, bnd_s, if_neg (show ¬ (1 : Int32) = 0 by decide), m1, bnd_s, if_neg (show ¬ (1 : Int32) = 0 by decide)]
    rcases in05 (v := b) with ⟨q, hq, rfl, c2, m2⟩ | ⟨c2, m2⟩
    · rw [c2, bnd_s, if_neg (show ¬ (1 : Int32) = 0 by decide), m2, bnd_s, if_neg (show ¬ (1 : Int32) = 0 by decide), i10, bnd_s, q_of (e := 0) j 0 rfl (by omega), bnd_s, Nat.add_zero, p2]
      obtain ⟨x, hx, y1, y2⟩ := c_isOf (kd := q) p1 hkd hq
      rw [y1, bnd_s, y2, bnd_s, q_of (e := 2) j 2 rfl (by omega), bnd_s, p5, show 7 + 5 * j + 2 = 9 + 5 * j by omega, p6]
      by_cases h0 : x = 0
      · rw [if_pos h0]; exact LkR_mk
      · rw [if_neg h0]; exact LkR_mk
    · rw [c2, bnd_s, if_pos rfl, m2, bnd_s, if_pos rfl]
      exact LkR_mk
  · rw [c1, bnd_s, if_pos rfl, m1, bnd_s, if_pos rfl]
    exact LkR_mk
theorem q_becomes {τ : Mem} {e v : Int32} (k : Nat) (he : e = nI k) (h : k < 3108) : f_X8_becomes e v τ = some (τ 22 0 k, mput τ 22 0 k v) := by
  unfold f_X8_becomes
  rw [s_ix he h, bnd_s, bnd_s]
theorem RR2_pcell {σ τ : Mem} {j f n nv nt : Nat} {v : Int32} (W : RNow σ τ n nv nt) (hr : Rest σ τ nt) (hj : j < n) (hf : (f = 0 ∧ ∃ q, q < 6 ∧ v = nI q) ∨ (f = 1 ∧ ∃ q, q < 24 ∧ v = nI q) ∨ (f = 2 ∧ ∃ q, q < 100 ∧ v = nI q) ∨ f = 3 ∨ f = 4) : RR2 (mput σ 3 (10 * 0 + j) f v) (mput τ 22 0 (7 + 5 * j + f) v) := by
  obtain ⟨H, hv16, T, h, hh, h2⟩ := W
  have n10 := H.1.2.2
  exact RR2_land (n := n) (nv := nv) hr T rfl (RLd_pcell H hj hf) hv16 hh ((mp_k (by omega)).trans h2) (Fm.n0 (Fm.put Fm.rf (by unfold RgD; omega))) (FrM.n (FrM.put FrM.rf (by omega))) (fun k hk _ => mp_k (by omega))
theorem p_field {σ τ : Mem} {n nv nt j f : Nat} (H : RLd true 0 22 σ τ n nv nt) (hj : j < n) (hf : f < 4) : σ 3 (10 * 0 + j) f = τ 22 0 (7 + 5 * j + f) := by
  obtain ⟨⟨kd, hkd, p1, p2⟩, ⟨e, he, p3, p4⟩, ⟨q, hf', p5, p6⟩, p7, p8⟩ := H.2.2.1 j hj
  rcases (show f = 0 ∨ f = 1 ∨ f = 2 ∨ f = 3 by omega) with rfl | rfl | rfl | rfl
  · rw [p1, Nat.add_zero, p2]
  · rw [p3, show 7 + 5 * j + 1 = 8 + 5 * j by omega, p4]
  · rw [p5, show 7 + 5 * j + 2 = 9 + 5 * j by omega, p6]
  · rw [p7 rfl, show 7 + 5 * j + 3 = 10 + 5 * j by omega]
theorem op_turns {σ τ : Mem} (W : RR2 σ τ) (a b : Int32) : LkS (f_X7_turns a b σ) (f_X8_turns a b τ) RR2 := by
  have W0 := W
  obtain ⟨n, nv, nt, N, hr⟩ := W
  have H := N.1
  have n10 := H.1.2.2
  unfold f_X7_turns f_X8_turns
  rcases gd_one (v := a) H.1 with ⟨j, hj, rfl, c1, m1⟩ | ⟨-, c1, m1⟩
  · have i10 : ix 10 (nI j) = some j := ix_nI (by omega) (by decide)
    have e := of_ix j 0
    rw [show nI 0 = (0 : Int32) from rfl, Int32.add_zero] at e
    rw [c1, bnd_s, if_neg (show ¬ (1 : Int32) = 0 by decide), m1, bnd_s, if_neg (show ¬ (1 : Int32) = 0 by decide)]
    rcases in05 (v := b) with ⟨q, hq, rfl, c2, m2⟩ | ⟨c2, m2⟩
    · rw [c2, bnd_s, if_neg (show ¬ (1 : Int32) = 0 by decide), m2, bnd_s, if_neg (show ¬ (1 : Int32) = 0 by decide), i10, bnd_s, bnd_s, q_becomes (7 + 5 * j + 0) e (by omega), bnd_s]
      exact LkS_mk2 (p_field H hj (by decide)) (RR2_pcell N hr hj (Or.inl ⟨rfl, q, hq, rfl⟩))
    · rw [c2, bnd_s, if_pos rfl, m2, bnd_s, if_pos rfl]
      exact LkS_mk W0
  · rw [c1, bnd_s, if_pos rfl, m1, bnd_s, if_pos rfl]
    exact LkS_mk W0
theorem op_set {σ τ : Mem} (W : RR2 σ τ) (a b c : Int32) : LkS (f_X7_set a b c σ) (f_X8_set a b c τ) RR2 := by
  have W0 := W
  obtain ⟨n, nv, nt, N, hr⟩ := W
  have H := N.1
  have n10 := H.1.2.2
  unfold f_X7_set f_X8_set f_X3_changeEast f_X3_changeFaith f_X3_changePurse
  rcases gd_one (v := a) H.1 with ⟨j, hj, rfl, c1, m1⟩ | ⟨-, c1, m1⟩
  · have i10 : ix 10 (nI j) = some j := ix_nI (by omega) (by decide)
    simp only [c1, m1, i10, bnd_s, e10, if_false, -Nat.reduceMul]
    by_cases b1 : b = 1
    · subst b1
      rw [if_pos rfl, show f_X8_isIn ((1 : Int32)).toInt64 (1 : Int64) (3 : Int64) τ = some 1 from rfl, bnd_s, if_neg (show ¬ (1 : Int32) = 0 by decide), if_neg (show ¬ (1 : Int32) = 3 by decide), if_pos rfl]
      rcases in023 (v := c) with ⟨q, hq, rfl, c2, m2⟩ | ⟨c2, m2⟩
      · rw [c2, bnd_s, if_neg (show ¬ (1 : Int32) = 0 by decide), m2, bnd_s, if_neg (show ¬ (1 : Int32) = 0 by decide), q_becomes (e := (7 : Int32) + (5 : Int32) * nI j + (1 : Int32)) (7 + 5 * j + 1) (of_ix j 1) (by omega), bnd_s]
        exact LkS_mk2 (p_field H hj (by decide)) (RR2_pcell N hr hj (Or.inr (Or.inl ⟨rfl, q, hq, rfl⟩)))
      · rw [c2, bnd_s, if_pos rfl, m2, bnd_s, if_pos rfl]
        exact LkS_mk W0
    by_cases b2 : b = 2
    · subst b2
      rw [if_neg b1, if_pos rfl, show f_X8_isIn ((2 : Int32)).toInt64 (1 : Int64) (3 : Int64) τ = some 1 from rfl, bnd_s, if_neg (show ¬ (1 : Int32) = 0 by decide), if_neg (show ¬ (2 : Int32) = 3 by decide), if_neg b1, if_pos rfl]
      rcases in099 (v := c) with ⟨q, hq, rfl, c2, m2⟩ | ⟨c2, m2⟩
      · rw [c2, bnd_s, if_neg (show ¬ (1 : Int32) = 0 by decide), m2, bnd_s, if_neg (show ¬ (1 : Int32) = 0 by decide), q_becomes (e := (7 : Int32) + (5 : Int32) * nI j + (2 : Int32)) (7 + 5 * j + 2) (of_ix j 2) (by omega), bnd_s]
        exact LkS_mk2 (p_field H hj (by decide)) (RR2_pcell N hr hj (Or.inr (Or.inr (Or.inl ⟨rfl, q, hq, rfl⟩))))
      · rw [c2, bnd_s, if_pos rfl, m2, bnd_s, if_pos rfl]
        exact LkS_mk W0
    by_cases b3 : b = 3
    · subst b3
      rw [if_neg b1, if_neg b2, if_pos rfl, show f_X8_isIn ((3 : Int32)).toInt64 (1 : Int64) (3 : Int64) τ = some 1 from rfl, bnd_s, if_neg (show ¬ (1 : Int32) = 0 by decide), if_pos rfl, if_neg b1, if_neg b2]
      rcases gd_in (v := c) (-9999) 9999 (lo' := -9999) (hi' := 9999) (by decide) (by decide) with ⟨-, c2, m2⟩ | ⟨-, c2, m2⟩
      · rw [c2, bnd_s, if_neg (show ¬ (1 : Int32) = 0 by decide), m2, bnd_s, if_neg (show ¬ (1 : Int32) = 0 by decide), q_becomes (e := (7 : Int32) + (5 : Int32) * nI j + (3 : Int32)) (7 + 5 * j + 3) (of_ix j 3) (by omega), bnd_s]
        exact LkS_mk2 (p_field H hj (by decide)) (RR2_pcell N hr hj (Or.inr (Or.inr (Or.inr (Or.inl rfl)))))
      · rw [c2, bnd_s, if_pos rfl, m2, bnd_s, if_pos rfl]
        exact LkS_mk W0
    have m0 : f_X8_isIn b.toInt64 (1 : Int64) (3 : Int64) τ = some 0 := by
      rcases gd_in (v := b) 1 3 (lo' := 1) (hi' := 3) (by decide) (by decide) with ⟨⟨x, y⟩, -, m2⟩ | ⟨-, -, m2⟩
      · obtain ⟨q, hq, rfl⟩ := nI_of2 (M := 3) (n := 3) rfl (x := b) (by rw [pl_lt32]; rw [pl_le32, show (1 : Int32).toInt = 1 from rfl] at x; show ¬ b.toInt < 0; omega) y
        rcases (show q = 0 ∨ q = 1 ∨ q = 2 ∨ q = 3 by omega) with rfl | rfl | rfl | rfl
        · exact absurd x (by decide)
        · exact absurd rfl b1
        · exact absurd rfl b2
        · exact absurd rfl b3
      · exact m2 τ
    rw [if_neg b1, if_neg b2, if_neg b3, m0, bnd_s, if_pos rfl]
    exact LkS_mk W0
  · rw [c1, bnd_s, if_pos rfl, m1, bnd_s, if_pos rfl]
    exact LkS_mk W0
