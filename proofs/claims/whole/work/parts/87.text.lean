-- the tape as a text
def RdOK (T : Nat) (key : Nat) (σ τ : Mem) : Prop := ∃ len, 1 ≤ len ∧ len ≤ 96 ∧ σ 1 T 0 = nI key ∧ σ 1 T 3 = nI len ∧ τ 8 0 24 = nI len ∧ σ 1 T 1 = τ 8 0 26 ∧ (∀ j, j < len → encS key (σ 11 T j) (τ 22 0 (atT T + 2 * j)) (τ 22 0 (atT T + 2 * j + 1))) ∧ WFc (fun j => σ 11 T j) len
set_option maxHeartbeats 1000000 in
theorem ls_body {x : Nat → Nat} {L T : Nat} {σ τ : Mem} (hT : T < 15) (hc : CT x L σ) (hm : MT x L τ) (h2 : σ 4 0 2 = nI (T + 1)) (h3 : σ 4 0 3 = nI 0) (h5 : σ 4 0 5 = nI 0) (h11 : σ 1 T 1 = 0) (h13 : σ 1 T 3 = 0) (t18 : τ 8 0 18 = nI 0) (t19 : τ 8 0 19 = nI 3) (t22 : τ 8 0 22 = nI 0) (t23 : τ 8 0 23 = nI 0) (t24 : τ 8 0 24 = nI 0) (t25 : τ 8 0 25 = nI (atT T)) (t26 : τ 8 0 26 = 0) :
    ∃ r kv σ' τ', (bnd (f_X4_goOn σ) (fun a2 => (bnd (dynL (a2 4 0 2)) (fun j2 => (bnd (f_X4_keyHere a2) (fun a3 => (bnd (dynL ((mput a2 1 j2 0 a3) 4 0 2)) (fun j3 => (if 0 ≤ ((mput a2 1 j2 0 a3) 1 j3 0) then (bnd (f_X4_goOn (mput a2 1 j2 0 a3)) (fun a4 => (bnd ((S_r 90).1 (0 : Int32) (0 : Int32) (0 : Int32) a4) (fun a5 => (if a5.1 = 0 then (some ((0 : Int32), a5.2)) else (if (a5.2 4 0 3) = 0 then (some ((1 : Int32), a5.2)) else (some ((0 : Int32), a5.2)))))))) else (some ((0 : Int32), (mput a2 1 j2 0 a3)))))))))))) = some (r, σ') ∧
      (bnd (f_X8_nextToken τ) (fun a1 => (bnd (f_X8_key a1) (fun a2 => (if a2 < 0 then (some ((-1 : Int32), (mput a1 8 0 16 (0 : Int32)))) else (bnd (f_X8_nextToken a1) (fun a3 => (bnd (S_m 90 0 a2 a3) (fun a4 => (if a4.1 = 0 then (some ((-1 : Int32), (mput a4.2 8 0 16 (0 : Int32)))) else (if (a4.2 8 0 19) = 0 then (some (a2, (mput a4.2 8 0 16 (0 : Int32)))) else (some ((-1 : Int32), (mput a4.2 8 0 16 (0 : Int32))))))))))))))) = some (kv, mput τ' 8 0 16 0) ∧
      FP T σ τ σ' τ' ∧ ((r = 0 ∧ kv = -1 ∧ σ' 4 0 4 = τ' 8 0 17) ∨ (r = 1 ∧ ∃ key, key < 3 ∧ kv = nI key ∧ RdOK T key σ' τ')) := by
  have h96 := hc.1
  have dT := dyn_T hT
  obtain ⟨σ1, τ1, s1, b1, e1, q1, q2, q3, q4, q5, q6, q7, q8, q9, q10⟩ := ls_goOn hc hm h5 t18 (Nat.zero_le _) h3 t19 (by decide) (by decide) (by decide) (fun q => by omega)
  have F1 : FP T σ τ σ1 τ1 := ⟨fun g i hg _ => by rw [q7 g hg], fun g hg _ => q9 g hg, fun k hk => q10 k (by omega), fun k _ => by rw [q9 22 (by decide)]⟩
  have k2 : σ1 4 0 2 = nI (T + 1) := by rw [q8 2 (by decide) (by decide) (by decide)]; exact h2
  rw [q1, bnd_s, q2, bnd_s, k2, dT, bnd_s]
  have tk3 := q3.2.2.1
  have tk4 := q3.2.2.2.1
  rcases ls_key q5 q6 q3 with ⟨a1, a2⟩ | ⟨key, hk, a1, a2⟩
  · rw [a1, bnd_s, mp_g (show 4 ≠ 1 by decide), k2, dT, bnd_s, mput_same, if_neg (show ¬ (0 : Int32) ≤ -1 by decide), a2, bnd_s, if_pos (show (-1 : Int32) < 0 by decide)]
    refine ⟨0, -1, _, τ1, rfl, rfl, FP.trans F1 ⟨fun g i _ hn => mput_cell (fun q => hn (by cases q; exact ⟨Or.inl rfl, rfl⟩)), fun _ _ _ => rfl, fun _ _ => rfl, fun _ _ => rfl⟩, Or.inl ⟨rfl, rfl, ?_⟩⟩
    rw [mp_g (by decide), tk3, tk4]
  · have g1 : σ1 1 = σ 1 := q7 1 (by decide)
    have P0 : PS x L T key (mput σ1 1 T 0 (nI key)) τ1 0 0 0 0 s1 b1 e1 := by
      refine ⟨⟨q5.1, by rw [mp_g (by decide)]; exact q5.2.1, by rw [mp_g (by decide)]; exact q5.2.2⟩, q6, ?_, ⟨hT, by rw [mp_g (by decide)]; exact k2, hk, mput_same⟩, ⟨by rw [mp_k (by decide), g1]; exact h13, by rw [q10 24 (by decide)]; exact t24, by rw [q10 25 (by decide)]; exact t25, by rw [mp_k (by decide), g1, q10 26 (by decide), h11, t26]⟩, fun j hj => absurd hj (Nat.not_lt_zero _), fun k hk => absurd hk (Nat.not_lt_zero _), rfl, by rw [q10 22 (by decide)]; exact t22, by rw [q10 23 (by decide)]; exact t23, by decide, by decide⟩
      obtain ⟨w1, w2, w3, w4, w5, w6, wr⟩ := q3
      exact ⟨by rw [mp_g (by decide)]; exact w1, w2, by rw [mp_g (by decide)]; exact w3, w4, by rw [mp_g (by decide)]; exact w5, w6, wr⟩
    have F2 : FP T σ1 τ1 (mput σ1 1 T 0 (nI key)) τ1 := ⟨fun g i _ hn => mput_cell (fun q => hn (by cases q; exact ⟨Or.inl rfl, rfl⟩)), fun _ _ _ => rfl, fun _ _ => rfl, fun _ _ => rfl⟩
    obtain ⟨σ2, τ2, s2, b2, e2, r1, r2, r3, r4, r5⟩ := PS_goOn P0
    rw [a1, bnd_s, mp_g (show 4 ≠ 1 by decide), k2, dT, bnd_s, mput_same, if_pos (nI_pos' (by omega)), r1, bnd_s, a2, bnd_s, if_neg (nI_pos (by omega)), r2, bnd_s]
    have M := (ls_parse (x := x) (L := L) (T := T) (key := key) 90).1 0 0 0 90 σ2 τ2 0 0 s2 b2 e2 (by decide) (by decide) (by decide) r3 (Nat.zero_le _)
    rcases M with ⟨σ3, τ3, v1, v2, v3, v4⟩ | ⟨σ3, τ3, len3, s3, b3, e3, v1, v2, v3, v4, v5, v6⟩
    · have v1' : (S_r 90).1 0 0 0 σ2 = some (0, σ3) := v1
      rw [v1', bnd_s, if_pos rfl, v2, bnd_s, if_pos rfl]
      exact ⟨0, -1, σ3, τ3, rfl, rfl, FP.trans (FP.trans F1 F2) (FP.trans r5 v4), Or.inl ⟨rfl, rfl, v3.1⟩⟩
    · have v1' : (S_r 90).1 0 0 0 σ2 = some (1, σ3) := v1
      obtain ⟨u1, u2, u3, ⟨u4, u5, u6, u7⟩, ⟨y1, y2, y3, y4⟩, y6, y7, y8, -⟩ := v3
      obtain ⟨z1, z2, z3, z4, z5, z6, z7, z8, z9, -⟩ := u3
      rw [v1', bnd_s, if_neg (show ¬ (1 : Int32) = 0 by decide), v2, bnd_s, if_neg (show ¬ (1 : Int32) = 0 by decide)]
      show ∃ r kv σ' τ', (if σ3 4 0 3 = 0 then some ((1 : Int32), σ3) else some ((0 : Int32), σ3)) = some (r, σ') ∧ (if τ3 8 0 19 = 0 then some (nI key, mput τ3 8 0 16 0) else some ((-1 : Int32), mput τ3 8 0 16 0)) = some (kv, mput τ' 8 0 16 0) ∧ _
      rw [z1, z2]
      by_cases hs : nI s3 = 0
      · rw [if_pos hs, if_pos hs]
        refine ⟨1, nI key, σ3, τ3, rfl, rfl, FP.trans (FP.trans F1 F2) (FP.trans r5 v6), Or.inr ⟨rfl, key, hk, rfl, len3, ?_, by omega, u7, y1, y2, y4, y6, y7, by omega⟩⟩
        have := dpt_le (fun j => σ3 11 T j) len3
        omega
      · rw [if_neg hs, if_neg hs]
        exact ⟨0, -1, σ3, τ3, rfl, rfl, FP.trans (FP.trans F1 F2) (FP.trans r5 v6), Or.inl ⟨rfl, rfl, z3.trans z4.symm⟩⟩
/-- lands beside rows, where only what they read is the same -/
theorem RLd_move2 {b : Bool} {l G : Nat} {σ τ σ' τ' : Mem} {n nv nt nt' : Nat} (H : RLd b l G σ τ n nv nt) (hs : ∀ k, k ≠ 11 → σ' 0 l k = σ 0 l k) (h3 : σ' 3 = σ 3) (hv : ∀ g, (g = 13 ∨ g = 14 ∨ g = 15) → σ' g l = σ g l) (ht : ∀ k, k < 108 → k ≠ 1 → τ' G 0 k = τ G 0 k) (hk : RLk l G σ' τ' nt') : RLd b l G σ' τ' n nv nt' := by
  obtain ⟨⟨a1, a2, a3⟩, ⟨b1, b2, b3⟩, hp, hw, ⟨d1, d2, d3, d4⟩, -⟩ := H
  refine ⟨⟨by rw [hs 2 (by decide)]; exact a1, by rw [ht 0 (by decide) (by decide)]; exact a2, a3⟩, ⟨by rw [hs 6 (by decide)]; exact b1, by rw [ht 3 (by decide) (by decide)]; exact b2, b3⟩, fun j hj => ?_, fun v hvv => ?_, ⟨by rw [hs 7 (by decide), ht 4 (by decide) (by decide)]; exact d1, by rw [hs 8 (by decide), ht 5 (by decide) (by decide)]; exact d2, by rw [hs 9 (by decide), ht 2 (by decide) (by decide)]; exact d3, by rw [hs 10 (by decide), ht 6 (by decide) (by decide)]; exact d4⟩, hk⟩
  · rw [h3, ht (7 + 5 * j) (by omega) (by omega), ht (8 + 5 * j) (by omega) (by omega), ht (9 + 5 * j) (by omega) (by omega), ht (10 + 5 * j) (by omega) (by omega), ht (11 + 5 * j) (by omega) (by omega)]
    exact hp j hj
  · rw [hv 13 (by decide), hv 14 (by decide), hv 15 (by decide), ht (57 + 3 * v) (by omega) (by omega), ht (58 + 3 * v) (by omega) (by omega), ht (59 + 3 * v) (by omega) (by omega)]
    exact hw v hvv
theorem TxR_cong2 {G : Nat} {σ τ σ' τ' : Mem} {t : Nat} (h : TxR G σ τ t) (h1 : σ' 1 t = σ 1 t) (h11 : σ' 11 t = σ 11 t) (hg : ∀ k, 108 + 200 * t ≤ k → k < 308 + 200 * t → τ' G 0 k = τ G 0 k) : TxR G σ' τ' t := by
  obtain ⟨key, len, k1, k2, k3, k4, k5, k6, k7, k8, k9, k10⟩ := h
  refine ⟨key, len, k1, k2, k3, ?_, ?_, ?_, ?_, ?_, ?_, ?_⟩
  · rw [h1]; exact k4
  · rw [hg _ (by omega) (by omega)]; exact k5
  · rw [h1, hg _ (by omega) (by omega)]; exact k6
  · rw [h1]; exact k7
  · rw [hg _ (by omega) (by omega)]; exact k8
  · intro j hj
    rw [h11, hg _ (by omega) (by omega), hg _ (by omega) (by omega)]
    exact k9 j hj
  · rw [h11]; exact k10
/-- what reading the tape leaves alone -/
theorem Rest_read {σ τ σ' τ' : Mem} {nt nt' : Nat} (hr : Rest σ τ nt) (hn : nt ≤ nt') (hs : ∀ g i, g ≠ 4 → ¬ (g = 0 ∧ i = 0) → ¬ (g = 16 ∧ i = 0) → g ≠ 7 → ¬ ((g = 1 ∨ g = 11) ∧ i = nt) → σ' g i = σ g i) (h7 : ∀ k, k ≠ 6 → σ' 7 0 k = σ 7 0 k) (h76 : σ' 7 0 6 = 0) (ht : ∀ g, g ≠ 8 → g ≠ 22 → τ' g = τ g) (h8 : ∀ k, (k < 16 ∨ 27 ≤ k) → τ' 8 0 k = τ 8 0 k) (h816 : τ' 8 0 16 = 0) : Rest σ' τ' nt' := by
  obtain ⟨r1, r2, r3, r4, r5⟩ := hr
  have ff : ∀ g i, (g = 5 ∨ g = 20 ∨ g = 6 ∨ g = 17 ∨ g = 18 ∨ g = 3) → σ' g i = σ g i := fun g i hg => hs g i (by omega) (by omega) (by omega) (by omega) (by omega)
  have tt : ∀ g, (g = 23 ∨ (25 ≤ g ∧ g ≤ 32) ∨ g = 40) → τ' g = τ g := fun g hg => ht g (by omega) (by omega)
  refine ⟨?_, ⟨0, by decide, h76, h816, fun j hj => by omega⟩, ?_, ?_, ?_⟩
  · exact RImg_fr r1 (h7 4 (by decide)) (h8 3 (by decide)) hn (fun g hg => hs g 1 (by omega) (by omega) (by omega) (by omega) (by omega)) (fun j _ => ff 3 _ (by decide)) (fun t hlt => ⟨hs 1 t (by decide) (by omega) (by omega) (by decide) (by omega), hs 11 t (by decide) (by omega) (by omega) (by decide) (by omega)⟩) (tt 23 (by decide))
  · exact RWait_fr r3 (h7 9 (by decide)) (h8 31 (by decide)) (funext (fun i => ff 18 i (by decide))) (tt 40 (by decide))
  · exact RSheet_fr r4 (fun k _ => ff 5 k (by decide)) (fun k _ => ff 20 k (by decide)) (tt 25 (by decide)) (tt 26 (by decide)) (tt 27 (by decide))
  · exact RSlot_fr r5 (funext (fun i => ff 6 i (by decide))) (fun k _ => ff 3 _ (by decide)) (fun k _ => ff 5 _ (by decide)) (fun k _ => ff 20 _ (by decide)) (tt 28 (by decide)) (tt 29 (by decide)) (tt 30 (by decide)) (tt 31 (by decide)) (tt 32 (by decide))
set_option maxHeartbeats 2000000 in
theorem op_text {σ τ : Mem} (W : RR2 σ τ) : LkS (f_X7_text σ) (f_X8_text τ) RR2 := by
  obtain ⟨n, nv, nt, N, hr⟩ := W
  obtain ⟨H, hv16, T, h, hh, h2⟩ := id N
  obtain ⟨-, -, -, -, -, e1, e2, e3, e4⟩ := id H
  obtain ⟨L, L96, L1, L2, L3⟩ := hr.2.1
  obtain ⟨x, hx⟩ : ∃ x : Nat → Nat, ∀ j, j < L → x j < 256 ∧ σ 17 0 j = byteV (x j) ∧ τ 36 0 j = nI (x j) := by
    refine ⟨fun j => if hj : j < L then Classical.choose (L3 j hj) else 0, fun j hj => ?_⟩
    show (if hj : j < L then Classical.choose (L3 j hj) else 0) < 256 ∧ σ 17 0 j = byteV (if hj : j < L then Classical.choose (L3 j hj) else 0) ∧ τ 36 0 j = nI (if hj : j < L then Classical.choose (L3 j hj) else 0)
    rw [dif_pos hj]
    exact Classical.choose_spec (L3 j hj)
  have hT15 : nt < 15 := by omega
  have dT := dyn_T hT15
  -- the class's start
  have cA : ∀ k, f_X4_readsText (nI L) nt σ = k → f_X4_readsText (nI L) nt σ = k := fun _ q => q
  obtain ⟨σa, hσa⟩ : ∃ s, s = mput (mput (mput (mput (mput (mput σ 4 0 1 (nI L)) 4 0 2 (nI (nt + 1))) 1 nt 1 0) 1 nt 3 0) 4 0 3 0) 4 0 5 0 := ⟨_, rfl⟩
  have a41 : σa 4 0 1 = nI L := by rw [hσa, mp_k (by decide), mp_k (by decide), mp_g (by decide), mp_g (by decide), mp_k (by decide), mput_same]
  have a42 : σa 4 0 2 = nI (nt + 1) := by rw [hσa, mp_k (by decide), mp_k (by decide), mp_g (by decide), mp_g (by decide), mput_same]
  have a43 : σa 4 0 3 = nI 0 := by rw [hσa, mp_k (by decide), mput_same]; rfl
  have a45 : σa 4 0 5 = nI 0 := by rw [hσa, mput_same]; rfl
  have a11 : σa 1 nt 1 = 0 := by rw [hσa, mp_g (by decide), mp_g (by decide), mp_k (by decide), mput_same]
  have a13 : σa 1 nt 3 = 0 := by rw [hσa, mp_g (by decide), mp_g (by decide), mput_same]
  have ag : ∀ g i, g ≠ 4 → ¬ ((g = 1 ∨ g = 11) ∧ i = nt) → σa g i = σ g i := fun g i hg hn => by
    have z : (g, i) ≠ (1, nt) := fun q => hn (by cases q; exact ⟨Or.inl rfl, rfl⟩)
    rw [hσa, mp_g hg, mp_g hg, mput_cell z, mput_cell z, mp_g hg, mp_g hg]
  have eC : f_X4_readsText (nI L) nt σ = (bnd (f_X4_goOn σa) (fun a2 => (bnd (dynL (a2 4 0 2)) (fun j2 => (bnd (f_X4_keyHere a2) (fun a3 => (bnd (dynL ((mput a2 1 j2 0 a3) 4 0 2)) (fun j3 => (if 0 ≤ ((mput a2 1 j2 0 a3) 1 j3 0) then (bnd (f_X4_goOn (mput a2 1 j2 0 a3)) (fun a4 => (bnd ((S_r 90).1 (0 : Int32) (0 : Int32) (0 : Int32) a4) (fun a5 => (if a5.1 = 0 then (some ((0 : Int32), a5.2)) else (if (a5.2 4 0 3) = 0 then (some ((1 : Int32), a5.2)) else (some ((0 : Int32), a5.2)))))))) else (some ((0 : Int32), (mput a2 1 j2 0 a3)))))))))))) := by
    unfold f_X4_readsText f_X1_startAnew
    rw [mput_same, dT, bnd_s, bnd_s, hσa]
  -- the reference's start
  obtain ⟨τa, hτa⟩ : ∃ s, s = mput (mput (mput (mput (mput (mput (mput τ 8 0 18 0) 8 0 19 3) 8 0 22 0) 8 0 23 0) 8 0 24 0) 8 0 26 0) 8 0 25 (nI (atT nt)) := ⟨_, rfl⟩
  have b16 : τa 8 0 16 = nI L := by rw [hτa, mp_k (by decide), mp_k (by decide), mp_k (by decide), mp_k (by decide), mp_k (by decide), mp_k (by decide), mp_k (by decide)]; exact L2
  have b18 : τa 8 0 18 = nI 0 := by rw [hτa, mp_k (by decide), mp_k (by decide), mp_k (by decide), mp_k (by decide), mp_k (by decide), mp_k (by decide), mput_same]; rfl
  have b19 : τa 8 0 19 = nI 3 := by rw [hτa, mp_k (by decide), mp_k (by decide), mp_k (by decide), mp_k (by decide), mp_k (by decide), mput_same]; rfl
  have b22 : τa 8 0 22 = nI 0 := by rw [hτa, mp_k (by decide), mp_k (by decide), mp_k (by decide), mp_k (by decide), mput_same]; rfl
  have b23 : τa 8 0 23 = nI 0 := by rw [hτa, mp_k (by decide), mp_k (by decide), mp_k (by decide), mput_same]; rfl
  have b24 : τa 8 0 24 = nI 0 := by rw [hτa, mp_k (by decide), mp_k (by decide), mput_same]; rfl
  have b25 : τa 8 0 25 = nI (atT nt) := by rw [hτa, mput_same]
  have b26 : τa 8 0 26 = 0 := by rw [hτa, mp_k (by decide), mput_same]
  have bg : ∀ g, g ≠ 8 → τa g = τ g := fun g hg => by rw [hτa, mp_g hg, mp_g hg, mp_g hg, mp_g hg, mp_g hg, mp_g hg, mp_g hg]
  have bk : ∀ k, k < 17 ∨ 27 ≤ k → τa 8 0 k = τ 8 0 k := fun k hk => by rw [hτa, mp_k (by omega), mp_k (by omega), mp_k (by omega), mp_k (by omega), mp_k (by omega), mp_k (by omega), mp_k (by omega)]
  have eM : f_X8_parse τ = (bnd (f_X8_nextToken τa) (fun a1 => (bnd (f_X8_key a1) (fun a2 => (if a2 < 0 then (some ((-1 : Int32), (mput a1 8 0 16 (0 : Int32)))) else (bnd (f_X8_nextToken a1) (fun a3 => (bnd (S_m 90 0 a2 a3) (fun a4 => (if a4.1 = 0 then (some ((-1 : Int32), (mput a4.2 8 0 16 (0 : Int32)))) else (if (a4.2 8 0 19) = 0 then (some (a2, (mput a4.2 8 0 16 (0 : Int32)))) else (some ((-1 : Int32), (mput a4.2 8 0 16 (0 : Int32))))))))))))))) := by
    unfold f_X8_parse
    have ez : ∀ u1 u2 u3 u4 u5 u6 : Int32, mput (mput (mput (mput (mput (mput τ 8 0 18 u1) 8 0 19 u2) 8 0 22 u3) 8 0 23 u4) 8 0 24 u5) 8 0 26 u6 22 0 1 = nI nt := fun _ _ _ _ _ _ => by rw [mp_g (by decide), mp_g (by decide), mp_g (by decide), mp_g (by decide), mp_g (by decide), mp_g (by decide)]; exact e2
    rw [bnd_s, sx1, bnd_s, ez]
    by_cases h14 : nt = 14
    · subst h14
      rw [if_pos (show (14 : Int32) ≤ nI 14 by decide), hτa]
      rfl
    · rw [if_neg (show ¬ (14 : Int32) ≤ nI nt from nI_ge (b := 14) (by omega) (by decide)), bnd_s, ez, m_textAt, bnd_s, hτa, show nI (108 + 200 * nt) + (4 : Int32) = nI (atT nt) by
        unfold atT
        rw [if_pos (by omega), show (4 : Int32) = nI 4 from rfl, nI_add, show 108 + 200 * nt + 4 = 112 + 200 * nt by omega]]
  obtain ⟨r, kv, σ', τ', q1, q2, q3, q4⟩ := ls_body (x := x) (L := L) hT15 (σ := σa) (τ := τa) ⟨L96, a41, fun j hj => ⟨(hx j hj).1, by rw [ag 17 0 (by decide) (by omega)]; exact (hx j hj).2.1⟩⟩ ⟨L96, b16, fun j hj => ⟨(hx j hj).1, by rw [bg 36 (by decide)]; exact (hx j hj).2.2⟩⟩ a42 a43 a45 a11 a13 b18 b19 b22 b23 b24 b25 b26
  have fs : ∀ g i, g ≠ 4 → ¬ ((g = 1 ∨ g = 11) ∧ i = nt) → σ' g i = σ g i := fun g i hg hn => by rw [q3.1 g i hg hn, ag g i hg hn]
  have ft : ∀ g, g ≠ 8 → g ≠ 22 → τ' g = τ g := fun g x1 x2 => by rw [q3.2.1 g x1 x2, bg g x1]
  have fk : ∀ k, k < 17 ∨ 27 ≤ k → τ' 8 0 k = τ 8 0 k := fun k hk => by rw [q3.2.2.1 k hk, bk k hk]
  have fc : ∀ k, k < atT nt ∨ atT nt + 192 ≤ k → τ' 22 0 k = τ 22 0 k := fun k hk => by rw [q3.2.2.2 k hk, bg 22 (by decide)]
  have hat : 112 ≤ atT nt ∧ (nt < 14 → atT nt = 112 + 200 * nt) ∧ (nt = 14 → atT nt = 2908) := by
    unfold atT
    refine ⟨by split <;> omega, fun q => if_pos q, fun q => if_neg (by omega)⟩
  have text_cell : ∀ t k, t < nt → 108 + 200 * t ≤ k → k < 308 + 200 * t → τ' 22 0 k = τ 22 0 k := fun t k ht h1 h2 => fc k (by
    rcases (show nt < 14 ∨ nt = 14 by omega) with q | q
    · have := hat.2.1 q; omega
    · have := hat.2.2 q; omega)
  have co_same : ∀ k, co τ' 22 k nt = co τ 22 k nt := fun k => co_congr nt (fun t ht => text_cell t _ ht (by omega) (by omega))
  have keepRR : RR2 (mput σ' 7 0 6 0) (mput τ' 8 0 16 0) := by
    refine ⟨n, nv, nt, ⟨RLd_move2 H (fun k _ => by rw [mp_g (by decide), fs 0 0 (by decide) (by omega)]) (funext (fun i => by rw [mp_g (by decide), fs 3 i (by decide) (by omega)])) (fun g hg => by rw [mp_g (by omega), fs g 0 (by omega) (by omega)]) (fun k hk _ => by rw [mp_g (by decide), fc k (by omega)]) ⟨by rw [mp_g (by decide), fs 0 0 (by decide) (by omega)]; exact e1, by rw [mp_g (by decide), fc 1 (by omega)]; exact e2, e3, fun k hk => ?_⟩, hv16, fun t ht => TxR_cong2 (T t ht) (by rw [mp_g (by decide), fs 1 t (by decide) (by omega)]) (by rw [mp_g (by decide), fs 11 t (by decide) (by omega)]) (fun k h1 h2 => by rw [mp_g (by decide)]; exact text_cell t k ht h1 h2), h, hh, by rw [mp_g (by decide), fc 2 (by omega)]; exact h2⟩, Rest_read hr (Nat.le_refl _) (fun g i x1 _ _ x7 hn => by rw [mp_g x7, fs g i x1 hn]) (fun k hk => by rw [mp_k hk, fs 7 0 (by decide) (by omega)]) mput_same (fun g x1 x2 => by rw [mp_g x1, ft g x1 x2]) (fun k hk => by rw [mp_k (by omega), fk k (by omega)]) mput_same⟩
    have c0 : co (mput τ' 8 0 16 0) 22 k nt = co τ' 22 k nt := co_congr nt (fun t _ => by rw [mp_g (by decide)])
    rw [mp_g (show 16 ≠ 7 by decide), fs 16 0 (by decide) (by omega), e4 k hk, c0, co_same k]
  unfold f_X7_text f_X8_text
  rw [e1, L1, ix_nI hT15 (by decide), bnd_s, eC, q1, bnd_s, eM, q2, bnd_s, bnd_s]
  rcases q4 with ⟨rfl, rfl, qs⟩ | ⟨rfl, key, hk, rfl, len, o1, o2, o3, o4, o5, o6, o7, o8⟩
  · rw [if_pos rfl, if_neg (show ¬ (0 : Int32) ≤ -1 by decide)]
    show LkS (some (-100 - mput σ' 7 0 6 0 4 0 4, mput σ' 7 0 6 0)) (some (-100 - mput τ' 8 0 16 0 8 0 17, mput τ' 8 0 16 0)) RR2
    rw [mp_g (show 4 ≠ 7 by decide), mp_k (show 17 ≠ 16 by decide), qs]
    exact LkS_mk keepRR
  · rw [if_neg (show ¬ (1 : Int32) = 0 by decide), if_pos (nI_pos' (by omega))]
    show LkS (if nI nt < 14 then bnd (ix 3 (mput (mput σ' 7 0 6 0) 0 0 11 (mput σ' 7 0 6 0 0 0 11 + 1) 1 nt 0)) (fun j2 => some (nI nt, mput (mput (mput σ' 7 0 6 0) 0 0 11 (mput σ' 7 0 6 0 0 0 11 + 1)) 16 0 j2 (nI nt))) else _) (bnd (ix 3108 1) (fun j1 => if mput τ' 8 0 16 0 22 0 j1 = 14 then _ else _)) RR2
    have k0 : mput σ' 7 0 6 0 0 0 11 = nI nt := by rw [mp_g (by decide), fs 0 0 (by decide) (by omega)]; exact e1
    have k1 : mput τ' 8 0 16 0 22 0 1 = nI nt := by rw [mp_g (by decide), fc 1 (by omega)]; exact e2
    rw [sx1, bnd_s, k1]
    by_cases h14 : nt = 14
    · subst h14
      rw [if_neg (show ¬ nI 14 < 14 by decide), if_pos (show nI 14 = 14 from rfl)]
      exact LkS_mk keepRR
    · have hlt : nt < 14 := by omega
      have eat := hat.2.1 hlt
      rw [if_pos (show nI nt < 14 from nI_lt (b := 14) hlt (by decide)), if_neg (show ¬ nI nt = 14 from fun q => h14 ((nI_eq (a := nt) (b := 14) (by omega) (by decide)).mp q)), k0, nI_s]
      have k2 : mput (mput σ' 7 0 6 0) 0 0 11 (nI (nt + 1)) 1 nt 0 = nI key := by rw [mp_g (by decide), mp_g (by decide)]; exact o3
      rw [k2, ix_nI hk (by decide), bnd_s, bnd_s]
      dsimp only
      rw [k1]
      show LkS _ (bnd (f_X8_textAt (nI nt) (mput τ' 8 0 16 0)) _) RR2
      rw [m_textAt, bnd_s, Int32.add_zero, ix_nI (show 108 + 200 * nt < 3108 by omega) (by decide), bnd_s, nI_s, ix_nI (show 108 + 200 * nt + 1 < 3108 by omega) (by decide), bnd_s, show nI (108 + 200 * nt) + (2 : Int32) = nI (108 + 200 * nt + 2) from nI_add _ 2, ix_nI (show 108 + 200 * nt + 2 < 3108 by omega) (by decide), bnd_s, bnd_s, bnd_s, bnd_s, bnd_s]
      show LkS (some (nI nt, mput (mput (mput σ' 7 0 6 0) 0 0 11 (nI (nt + 1))) 16 0 key (nI nt))) (some (_, _)) RR2
      have z26 : mput (mput τ' 8 0 16 0) 22 0 (108 + 200 * nt) (nI key) 8 0 26 = τ' 8 0 26 := by rw [mp_g (by decide), mp_k (by decide)]
      have z24 : ∀ u, mput (mput (mput τ' 8 0 16 0) 22 0 (108 + 200 * nt) (nI key)) 22 0 (108 + 200 * nt + 1) u 8 0 24 = nI len := fun u => by rw [mp_g (by decide), mp_g (by decide), mp_k (by decide)]; exact o5
      rw [z26, z24]
      have z1 : mput (mput (mput (mput τ' 8 0 16 0) 22 0 (108 + 200 * nt) (nI key)) 22 0 (108 + 200 * nt + 1) (τ' 8 0 26)) 22 0 (108 + 200 * nt + 2) (nI len) 22 0 1 = nI nt := by rw [mp_k (by omega), mp_k (by omega), mp_k (by omega)]; exact k1
      rw [z1, nI_s, mput_same, show nI (nt + 1) - (1 : Int32) = nI nt from nI_pred nt]
      refine LkS_mk ⟨n, nv, nt + 1, ?_, ?_⟩
      · have tw : ∀ k, k ≠ 1 → k ≠ 108 + 200 * nt → k ≠ 108 + 200 * nt + 1 → k ≠ 108 + 200 * nt + 2 → mput (mput (mput (mput (mput τ' 8 0 16 0) 22 0 (108 + 200 * nt) (nI key)) 22 0 (108 + 200 * nt + 1) (τ' 8 0 26)) 22 0 (108 + 200 * nt + 2) (nI len)) 22 0 1 (nI (nt + 1)) 22 0 k = τ' 22 0 k := fun k w1 w2 w3 w4 => by rw [mp_k w1, mp_k w4, mp_k w3, mp_k w2, mp_g (by decide)]
        have t8 : mput (mput (mput (mput (mput τ' 8 0 16 0) 22 0 (108 + 200 * nt) (nI key)) 22 0 (108 + 200 * nt + 1) (τ' 8 0 26)) 22 0 (108 + 200 * nt + 2) (nI len)) 22 0 1 (nI (nt + 1)) 22 0 (108 + 200 * nt) = nI key := by rw [mp_k (by omega), mp_k (by omega), mp_k (by omega), mput_same]
        have t9 : mput (mput (mput (mput (mput τ' 8 0 16 0) 22 0 (108 + 200 * nt) (nI key)) 22 0 (108 + 200 * nt + 1) (τ' 8 0 26)) 22 0 (108 + 200 * nt + 2) (nI len)) 22 0 1 (nI (nt + 1)) 22 0 (109 + 200 * nt) = τ' 8 0 26 := by rw [mp_k (by omega), mp_k (by omega), show 109 + 200 * nt = 108 + 200 * nt + 1 by omega, mput_same]
        have t10 : mput (mput (mput (mput (mput τ' 8 0 16 0) 22 0 (108 + 200 * nt) (nI key)) 22 0 (108 + 200 * nt + 1) (τ' 8 0 26)) 22 0 (108 + 200 * nt + 2) (nI len)) 22 0 1 (nI (nt + 1)) 22 0 (110 + 200 * nt) = nI len := by rw [mp_k (by omega), show 110 + 200 * nt = 108 + 200 * nt + 2 by omega, mput_same]
        have t1 : mput (mput (mput (mput (mput τ' 8 0 16 0) 22 0 (108 + 200 * nt) (nI key)) 22 0 (108 + 200 * nt + 1) (τ' 8 0 26)) 22 0 (108 + 200 * nt + 2) (nI len)) 22 0 1 (nI (nt + 1)) 22 0 1 = nI (nt + 1) := mput_same
        generalize mput (mput (mput (mput (mput τ' 8 0 16 0) 22 0 (108 + 200 * nt) (nI key)) 22 0 (108 + 200 * nt + 1) (τ' 8 0 26)) 22 0 (108 + 200 * nt + 2) (nI len)) 22 0 1 (nI (nt + 1)) = τ2 at tw t8 t9 t10 t1
        have s1g : ∀ g i, g ≠ 0 → g ≠ 16 → g ≠ 7 → mput (mput (mput σ' 7 0 6 0) 0 0 11 (nI (nt + 1))) 16 0 key (nI nt) g i = σ' g i := fun g i w1 w2 w3 => by rw [mp_g w2, mp_g w1, mp_g w3]
        refine ⟨RLd_move2 H (fun k hk11 => ?_) (funext (fun i => ?_)) (fun g hg => ?_) (fun k hk1 hk2 => ?_) ⟨?_, t1, by omega, fun k hk3 => ?_⟩, hv16, fun t ht => ?_, h, hh, ?_⟩
        · rw [mp_g (by decide), mp_k hk11, mp_g (by decide), fs 0 0 (by decide) (by omega)]
        · rw [s1g 3 i (by decide) (by decide) (by decide), fs 3 i (by decide) (by omega)]
        · rw [s1g g 0 (by omega) (by omega) (by omega), fs g 0 (by omega) (by omega)]
        · rw [tw k hk2 (by omega) (by omega) (by omega), fc k (by omega)]
        · rw [mp_g (by decide), mput_same]
        · have ec : co τ2 22 k (nt + 1) = if τ2 22 0 (108 + 200 * nt) = nI k then nI nt else co τ2 22 k nt := rfl
          have ec2 : co τ2 22 k nt = co τ 22 k nt := co_congr nt (fun t ht => by rw [tw _ (by omega) (by omega) (by omega) (by omega)]; exact text_cell t _ ht (by omega) (by omega))
          rw [ec, t8, ec2]
          by_cases hkk : k = key
          · subst hkk
            rw [if_pos rfl, mput_same]
          · rw [if_neg (fun q => hkk ((nI_eq (by omega) (by omega)).mp q).symm), mp_k hkk, mp_g (by decide), mp_g (by decide), fs 16 0 (by decide) (by omega)]
            exact e4 k hk3
        · by_cases htn : t = nt
          · subst htn
            refine ⟨key, len, hk, o1, o2, ?_, t8, ?_, ?_, t10, fun j hj => ?_, ?_⟩
            · rw [s1g 1 t (by decide) (by decide) (by decide)]; exact o3
            · rw [s1g 1 t (by decide) (by decide) (by decide), t9]; exact o6
            · rw [s1g 1 t (by decide) (by decide) (by decide)]; exact o4
            · rw [s1g 11 t (by decide) (by decide) (by decide), tw _ (by omega) (by omega) (by omega) (by omega), tw _ (by omega) (by omega) (by omega) (by omega)]
              have := o7 j hj
              rw [eat] at this
              rw [show 113 + 200 * t + 2 * j = 112 + 200 * t + 2 * j + 1 by omega]
              exact this
            · rw [s1g 11 t (by decide) (by decide) (by decide)]; exact o8
          · refine TxR_cong2 (T t (by omega)) ?_ ?_ (fun k w1 w2 => ?_)
            · rw [s1g 1 t (by decide) (by decide) (by decide), fs 1 t (by decide) (by omega)]
            · rw [s1g 11 t (by decide) (by decide) (by decide), fs 11 t (by decide) (by omega)]
            · rw [tw k (by omega) (by omega) (by omega) (by omega)]; exact text_cell t k (by omega) w1 w2
        · rw [tw 2 (by decide) (by omega) (by omega) (by omega), fc 2 (by omega)]; exact h2
      · refine Rest_read hr (by omega) (fun g i x1 w0 w16 x7 hn => ?_) (fun k hk6 => ?_) ?_ (fun g x1 x2 => ?_) (fun k hk1 => ?_) ?_
        · have z0 : (g, i) ≠ (0, 0) := fun q => w0 (by cases q; exact ⟨rfl, rfl⟩)
          have z16 : (g, i) ≠ (16, 0) := fun q => w16 (by cases q; exact ⟨rfl, rfl⟩)
          rw [mput_cell z16, mput_cell z0, mp_g x7, fs g i x1 hn]
        · rw [mp_g (by decide), mp_g (by decide), mp_k hk6, fs 7 0 (by decide) (by omega)]
        · rw [mp_g (by decide), mp_g (by decide), mput_same]
        · rw [mp_g x2, mp_g x2, mp_g x2, mp_g x2, mp_g x1, ft g x1 x2]
        · rw [mp_g (by decide), mp_g (by decide), mp_g (by decide), mp_g (by decide), mp_k (by omega), fk k (by omega)]
        · rw [mp_g (by decide), mp_g (by decide), mp_g (by decide), mp_g (by decide), mput_same]
