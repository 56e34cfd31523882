-- what texts give, rows told, images, the tape
theorem RNow_eq {σ τ σ' τ' : Mem} {n nv nt : Nat} (N : RNow σ τ n nv nt) (hs : ∀ g, (g = 0 ∨ g = 1 ∨ g = 11 ∨ g = 13 ∨ g = 14 ∨ g = 15 ∨ g = 16) → σ' g = σ g) (h3 : ∀ j, j < 10 → σ' 3 j = σ 3 j) (ht : τ' 22 = τ 22) : RNow σ' τ' n nv nt := by
  obtain ⟨H, hv16, T, h, hh, h2⟩ := N
  have e3 := H.2.2.2.2.2.2.2.1
  have n10 := H.1.2.2
  obtain ⟨d1, d2, d3, d4⟩ := H.2.2.2.2.1
  refine ⟨RLd_move H (by rw [hs 0 (by decide)]) (by rw [hs 0 (by decide)]) (by rw [hs 0 (by decide)]) (fun j hj k _ => by rw [h3 _ (by omega)]) (fun v _ => ⟨by rw [hs 13 (by decide)], by rw [hs 14 (by decide)], by rw [hs 15 (by decide)]⟩) (fun k _ => by rw [hs 16 (by decide)]) (by rw [ht]) (by rw [ht]) (by rw [ht]) (fun k _ _ => by rw [ht]) ⟨by rw [hs 0 (by decide), ht]; exact d1, by rw [hs 0 (by decide), ht]; exact d2, by rw [hs 0 (by decide), ht]; exact d3, by rw [hs 0 (by decide), ht]; exact d4⟩, hv16, fun t htt => TxR_congr (T t htt) (by omega) (by rw [hs 1 (by decide)]) (by rw [hs 11 (by decide)]) (fun k _ _ => by rw [ht]), h, hh, by rw [ht]; exact h2⟩
theorem RImg_eq {σ τ σ' τ' : Mem} {nt : Nat} (h : RImg σ τ nt) (h7 : σ' 7 0 4 = σ 7 0 4) (h8 : τ' 8 0 3 = τ 8 0 3) (hs : ∀ g, (g = 0 ∨ g = 1 ∨ g = 11 ∨ g = 13 ∨ g = 14 ∨ g = 15 ∨ g = 16) → σ' g = σ g) (h3 : ∀ j, j < 20 → σ' 3 j = σ 3 j) (hG : τ' 23 = τ 23) : RImg σ' τ' nt :=
  RImg_fr h h7 h8 (Nat.le_refl _) (fun g hg => by rw [hs g (by omega)]) (fun j hj => h3 _ (by omega)) (fun t _ => ⟨by rw [hs 1 (by decide)], by rw [hs 11 (by decide)]⟩) hG
theorem hk_of {σ τ : Mem} {t key nt : Nat} (T : ∀ t, t < nt → TxR 22 σ τ t) (ht : t < nt) (hkey : τ 22 0 (108 + 200 * t) = nI key) (hk3 : key < 3) : σ 1 t 0 = nI key := by
  obtain ⟨ky, len, k1, k2, k3, k4, k5, -⟩ := T t ht
  have : ky = key := (nI_eq (by omega) (by omega)).mp (k5.symm.trans hkey)
  subst this
  exact k4
theorem op_fee {σ τ : Mem} (W : RR2 σ τ) : LkS (f_X7_fee σ) (f_X8_fee τ) RR2 := by
  have W0 := W
  obtain ⟨n, nv, nt, N, hr⟩ := W
  obtain ⟨H, hv16, T, h, hh, h2⟩ := N
  obtain ⟨-, -, -, -, ⟨d1, d2, d3, d4⟩, e1, e2, e3, e4⟩ := id H
  have e41 := e4 1 (by decide)
  have mc : f_X8_counts 1 τ = some (co τ 22 1 nt) := q_counts (k := 1) e2 e3
  unfold f_X7_fee f_X8_fee
  rw [show ix 3 (1 : Int32) = some 1 from rfl, bnd_s, mc, bnd_s, e41]
  rcases co_cases (τ := τ) (G := 22) (k := 1) nt with q | ⟨t, ht, q, hkey⟩
  · rw [q, if_neg (show ¬ (0 : Int32) ≤ -1 by decide), if_neg (show ¬ (0 : Int32) ≤ -1 by decide), sx5, bnd_s, d2]
    exact LkS_mk W0
  · have htn : t < 14 := by omega
    have hT : TxR 22 σ (mput (mput τ 37 0 107 (τ 22 0 4)) 37 0 108 (τ 22 0 5)) t := TxR_congr (T t ht) htn rfl rfl (fun k _ _ => by rw [mp_g (by decide), mp_g (by decide)])
    obtain ⟨r, σ', τ', x1, x2, x3, x4⟩ := ev_text (a1 := τ 22 0 4) (a2 := τ 22 0 5) (a3 := 0) htn hT (hk_of T ht hkey (by decide)) (by decide) (fun p hp => by
      have hp : p < 2 := hp
      rcases (show p = 0 ∨ p = 1 by omega) with rfl | rfl
      · show mput (mput τ 37 0 107 (τ 22 0 4)) 37 0 108 (τ 22 0 5) 37 0 107 = τ 22 0 4
        rw [mp_k (by decide), mput_same]
      · show mput (mput τ 37 0 107 (τ 22 0 4)) 37 0 108 (τ 22 0 5) 37 0 108 = τ 22 0 5
        rw [mput_same])
    rw [q, if_pos (nI_pos' (by omega)), if_pos (nI_pos' (by omega)), d1, d2, x1, bnd_s, sx4, bnd_s, show ix 128 (107 : Int32) = some 107 from by decide +kernel, bnd_s, sx5, bnd_s, show ix 128 (108 : Int32) = some 108 from by decide +kernel, bnd_s, mp_g (show 22 ≠ 37 by decide), x2, bnd_s]
    have y4 : ∀ g, g ≠ 37 → g ≠ 38 → τ' g = τ g := fun g h37 h38 => by rw [x4 g h38, mp_g h37, mp_g h37]
    exact LkS_mk (RR2_keeps ⟨H, hv16, T, h, hh, h2⟩ hr x3 y4)
theorem op_fine {σ τ : Mem} (W : RR2 σ τ) (a : Int32) : LkS (f_X7_fine a σ) (f_X8_fine a τ) RR2 := by
  have W0 := W
  obtain ⟨n, nv, nt, N, hr⟩ := W
  obtain ⟨H, hv16, T, h, hh, h2⟩ := N
  obtain ⟨-, -, -, -, ⟨d1, d2, d3, d4⟩, e1, e2, e3, e4⟩ := id H
  have n10 := H.1.2.2
  have e41 := e4 2 (by decide)
  have mc : f_X8_counts 2 τ = some (co τ 22 2 nt) := q_counts (k := 2) e2 e3
  unfold f_X7_fine f_X8_fine
  rcases gd_one (v := a) H.1 with ⟨j, hj, rfl, c1, m1⟩ | ⟨-, c1, m1⟩
  · have f3 := p_field (f := 3) H hj (by decide)
    have f1 := p_field (f := 1) H hj (by decide)
    rw [c1, bnd_s, if_neg (show ¬ (1 : Int32) = 0 by decide), ix_nI (by omega) (by decide), bnd_s, show ix 3 (2 : Int32) = some 2 from rfl, bnd_s, m1, bnd_s, if_neg (show ¬ (1 : Int32) = 0 by decide), mc, bnd_s, e41, q_of (e := 3) j 3 rfl (by omega), bnd_s, bnd_s, f3, f1]
    rcases co_cases (τ := τ) (G := 22) (k := 2) nt with q | ⟨t, ht, q, hkey⟩
    · rw [q, if_neg (show ¬ (0 : Int32) ≤ -1 by decide), if_neg (show ¬ (0 : Int32) ≤ -1 by decide)]
      exact LkS_mk W0
    · have htn : t < 14 := by omega
      have hT : TxR 22 σ (mput (mput τ 37 0 112 (τ 22 0 (7 + 5 * j + 3))) 37 0 101 (τ 22 0 (7 + 5 * j + 1))) t := TxR_congr (T t ht) htn rfl rfl (fun k _ _ => by rw [mp_g (by decide), mp_g (by decide)])
      obtain ⟨r, σ', τ', x1, x2, x3, x4⟩ := ev_text (a1 := τ 22 0 (7 + 5 * j + 3)) (a2 := τ 22 0 (7 + 5 * j + 1)) (a3 := 0) htn hT (hk_of T ht hkey (by decide)) (by decide) (fun p hp => by
        have hp : p < 2 := hp
        rcases (show p = 0 ∨ p = 1 by omega) with rfl | rfl
        · show mput (mput τ 37 0 112 (τ 22 0 (7 + 5 * j + 3))) 37 0 101 (τ 22 0 (7 + 5 * j + 1)) 37 0 112 = τ 22 0 (7 + 5 * j + 3)
          rw [mp_k (by decide), mput_same]
        · show mput (mput τ 37 0 112 (τ 22 0 (7 + 5 * j + 3))) 37 0 101 (τ 22 0 (7 + 5 * j + 1)) 37 0 101 = τ 22 0 (7 + 5 * j + 1)
          rw [mput_same])
      rw [q, if_pos (nI_pos' (by omega)), if_pos (nI_pos' (by omega)), x1, bnd_s, show ix 128 (112 : Int32) = some 112 from by decide +kernel, bnd_s, q_of (e := 1) j 1 rfl (by omega), bnd_s, show ix 128 (101 : Int32) = some 101 from by decide +kernel, bnd_s, mp_g (show 22 ≠ 37 by decide), x2, bnd_s]
      have y4 : ∀ g, g ≠ 37 → g ≠ 38 → τ' g = τ g := fun g h37 h38 => by rw [x4 g h38, mp_g h37, mp_g h37]
      exact LkS_mk (RR2_keeps ⟨H, hv16, T, h, hh, h2⟩ hr x3 y4)
  · rw [c1, bnd_s, if_pos rfl, m1, bnd_s, if_pos rfl]
    exact LkS_mk W0
theorem op_tell {σ τ : Mem} (W : RR2 σ τ) (a : Int32) : LkS (f_X7_tell a σ) (f_X8_tell a τ) RR2 := by
  have W0 := W
  obtain ⟨n, nv, nt, N, h1, h2, ⟨w, hw, w1, w2, w3⟩, h4, h5⟩ := W
  unfold f_X7_tell f_X8_tell
  rw [w1, w2]
  by_cases hlt : w < 60
  · rw [if_pos (show nI w < 60 from nI_lt (b := 60) hlt (by decide)), if_neg (show ¬ nI w = 60 from fun q => by have := (nI_eq (a := w) (b := 60) (by omega) (by decide)).mp q; omega), ix_nI hlt (by decide), bnd_s, bnd_s, mp_g (show 7 ≠ 18 by decide), mp_g (show 8 ≠ 40 by decide), w1, w2, nI_s, mput_same, mput_same]
    refine LkS_mk ⟨n, nv, nt, RNow_eq N (fun g hg => by rw [mp_g (by omega), mp_g (by omega)]) (fun j _ => by rw [mp_g (by decide), mp_g (by decide)]) (by rw [mp_g (by decide), mp_g (by decide)]), ?_, ?_, ?_, ?_, ?_⟩
    · exact RImg_eq h1 (by rw [mp_k (by decide), mp_g (by decide)]) (by rw [mp_k (by decide), mp_g (by decide)]) (fun g hg => by rw [mp_g (by omega), mp_g (by omega)]) (fun j _ => by rw [mp_g (by decide), mp_g (by decide)]) (by rw [mp_g (by decide), mp_g (by decide)])
    · exact RTape_fr h2 (by rw [mp_k (by decide), mp_g (by decide)]) (by rw [mp_k (by decide), mp_g (by decide)]) (by rw [mp_g (by decide), mp_g (by decide)]) (by rw [mp_g (by decide), mp_g (by decide)])
    · refine ⟨w + 1, by omega, mput_same, mput_same, fun j hj => ?_⟩
      rw [mp_g (show 18 ≠ 7 by decide), mp_g (show 40 ≠ 8 by decide)]
      by_cases e : j = w
      · subst e; rw [mput_same, mput_same]
      · rw [mp_k e, mp_k e]; exact w3 j (by omega)
    · exact RSheet_fr h4 (fun k _ => by rw [mp_g (by decide), mp_g (by decide)]) (fun k _ => by rw [mp_g (by decide), mp_g (by decide)]) (by rw [mp_g (by decide), mp_g (by decide)]) (by rw [mp_g (by decide), mp_g (by decide)]) (by rw [mp_g (by decide), mp_g (by decide)])
    · exact RSlot_fr h5 (by rw [mp_g (by decide), mp_g (by decide)]) (fun k _ => by rw [mp_g (by decide), mp_g (by decide)]) (fun k _ => by rw [mp_g (by decide), mp_g (by decide)]) (fun k _ => by rw [mp_g (by decide), mp_g (by decide)]) (by rw [mp_g (by decide), mp_g (by decide)]) (by rw [mp_g (by decide), mp_g (by decide)]) (by rw [mp_g (by decide), mp_g (by decide)]) (by rw [mp_g (by decide), mp_g (by decide)]) (by rw [mp_g (by decide), mp_g (by decide)])
  · have hw : w = 60 := by omega
    subst hw
    rw [if_neg (show ¬ nI 60 < 60 by decide), if_pos (show nI 60 = 60 from rfl)]
    exact LkS_mk W0
/-- all but the numbers of tape, image and waiting -/
theorem RR2_tape {σ τ σ' τ' : Mem} {n nv nt : Nat} (N : RNow σ τ n nv nt) (hr : Rest σ τ nt) (hs : ∀ g, g ≠ 7 → g ≠ 17 → σ' g = σ g) (hs7 : ∀ k, k ≠ 6 → σ' 7 0 k = σ 7 0 k) (ht : ∀ g, g ≠ 8 → g ≠ 36 → τ' g = τ g) (ht8 : ∀ k, k ≠ 16 → τ' 8 0 k = τ 8 0 k) (hT : RTape σ' τ') : RR2 σ' τ' := by
  obtain ⟨h1, h2, h3, h4, h5⟩ := hr
  refine ⟨n, nv, nt, RNow_eq N (fun g hg => hs g (by omega) (by omega)) (fun j _ => by rw [hs 3 (by decide) (by decide)]) (ht 22 (by decide) (by decide)), ?_, hT, ?_, ?_, ?_⟩
  · exact RImg_eq h1 (hs7 4 (by decide)) (ht8 3 (by decide)) (fun g hg => hs g (by omega) (by omega)) (fun j _ => by rw [hs 3 (by decide) (by decide)]) (ht 23 (by decide) (by decide))
  · exact RWait_fr h3 (hs7 9 (by decide)) (ht8 31 (by decide)) (hs 18 (by decide) (by decide)) (ht 40 (by decide) (by decide))
  · exact RSheet_fr h4 (fun k _ => by rw [hs 5 (by decide) (by decide)]) (fun k _ => by rw [hs 20 (by decide) (by decide)]) (ht 25 (by decide) (by decide)) (ht 26 (by decide) (by decide)) (ht 27 (by decide) (by decide))
  · exact RSlot_fr h5 (hs 6 (by decide) (by decide)) (fun k _ => by rw [hs 3 (by decide) (by decide)]) (fun k _ => by rw [hs 5 (by decide) (by decide)]) (fun k _ => by rw [hs 20 (by decide) (by decide)]) (ht 28 (by decide) (by decide)) (ht 29 (by decide) (by decide)) (ht 30 (by decide) (by decide)) (ht 31 (by decide) (by decide)) (ht 32 (by decide) (by decide))
theorem op_trim {σ τ : Mem} (W : RR2 σ τ) (a : Int32) : LkS (f_X7_trim a σ) (f_X8_trim a τ) RR2 := by
  have W0 := W
  obtain ⟨n, nv, nt, N, hr⟩ := W
  obtain ⟨k, k1, k2, k3, k4⟩ := hr.2.1
  unfold f_X7_trim f_X8_trim
  rcases gd_nat (v := a) k (hi := nI k) (lo' := 0) (hi' := (nI k).toInt64) (by omega) (by decide) rfl rfl with ⟨j, hj, rfl, c1, m1⟩ | ⟨-, c1, m1⟩
  · rw [k2, k3, c1, bnd_s, if_neg (show ¬ (1 : Int32) = 0 by decide), m1, bnd_s, if_neg (show ¬ (1 : Int32) = 0 by decide)]
    exact LkS_mk (RR2_tape N hr (fun g h7 _ => mp_g h7) (fun i hi => mp_k hi) (fun g h8 _ => mp_g h8) (fun i hi => mp_k hi) ⟨j, by omega, mput_same, mput_same, fun i hi => by rw [mp_g (by decide), mp_g (by decide)]; exact k4 i (by omega)⟩)
  · rw [k2, k3, c1, bnd_s, if_pos rfl, m1, bnd_s, if_pos rfl]
    exact LkS_mk W0
-- bytes
theorem byte_of (y : Int32) : ∃ x, x < 256 ∧ (y.toInt8.toInt32).toInt8.toInt32 = byteV x ∧ y &&& 255 = nI x := by
  refine ⟨y.toBitVec.toNat % 2 ^ 8, Nat.mod_lt _ (by decide), ?_, pk_and y 8 (by decide)⟩
  unfold byteV
  have e : y.toInt8 = (nI (y.toBitVec.toNat % 2 ^ 8)).toInt8 := by
    apply Int8.toBitVec_inj.mp
    apply BitVec.eq_of_toNat_eq
    rw [Int32.toBitVec_toInt8, Int32.toBitVec_toInt8, BitVec.signExtend_eq_setWidth_of_le _ (by decide), BitVec.signExtend_eq_setWidth_of_le _ (by decide), BitVec.toNat_setWidth, BitVec.toNat_setWidth, pk_tn (by have := Nat.mod_lt y.toBitVec.toNat (show 0 < 2 ^ 8 by decide); omega), Nat.mod_mod]
  rw [← e]
  simp
def RTp (k : Nat) (σ τ : Mem) : Prop := σ 7 0 6 = nI k ∧ τ 8 0 16 = nI k ∧ ∀ j, j < k → ∃ x, x < 256 ∧ σ 17 0 j = byteV x ∧ τ 36 0 j = nI x
def putC (σ : Mem) (k : Nat) (y : Int32) : Mem := mput (mput σ 17 0 k ((y.toInt8.toInt32).toInt8.toInt32)) 7 0 6 (nI (k + 1))
def putM (τ : Mem) (k : Nat) (y : Int32) : Mem := mput (mput τ 36 0 k (y &&& 255)) 8 0 16 (nI (k + 1))
theorem RTp_put {k : Nat} {σ τ : Mem} (h : RTp k σ τ) (y : Int32) : RTp (k + 1) (putC σ k y) (putM τ k y) := by
  obtain ⟨h1, h2, h3⟩ := h
  refine ⟨mput_same, mput_same, fun j hj => ?_⟩
  unfold putC putM
  rw [mp_g (show 17 ≠ 7 by decide), mp_g (show 36 ≠ 8 by decide)]
  by_cases e : j = k
  · subst e
    rw [mput_same, mput_same]
    obtain ⟨x, x1, x2, x3⟩ := byte_of y
    exact ⟨x, x1, x2, x3⟩
  · rw [mp_k e, mp_k e]
    exact h3 j (by omega)
theorem putC_g {σ : Mem} {k g : Nat} {y : Int32} (h7 : g ≠ 7) (h17 : g ≠ 17) : putC σ k y g = σ g := by unfold putC; rw [mp_g h7, mp_g h17]
theorem putC_7 {σ : Mem} {k i : Nat} {y : Int32} (h : i ≠ 6) : putC σ k y 7 0 i = σ 7 0 i := by unfold putC; rw [mp_k h, mp_g (by decide)]
theorem putM_g {τ : Mem} {k g : Nat} {y : Int32} (h7 : g ≠ 8) (h17 : g ≠ 36) : putM τ k y g = τ g := by unfold putM; rw [mp_g h7, mp_g h17]
theorem putM_8 {τ : Mem} {k i : Nat} {y : Int32} (h : i ≠ 16) : putM τ k y 8 0 i = τ 8 0 i := by unfold putM; rw [mp_k h, mp_g (by decide)]
theorem putC_s {σ : Mem} {k : Nat} {y : Int32} : putC σ k y 7 0 6 = nI (k + 1) := mput_same
theorem putM_s {τ : Mem} {k : Nat} {y : Int32} : putM τ k y 8 0 16 = nI (k + 1) := mput_same
theorem c_put1 {k n : Nat} {p v s : Int32} {σ : Mem} {K : Mem → Option Mem} (h : σ 7 0 6 = nI k) (hk : k < 96) (hv : ¬ v < 0) (hs : v &&& 31 = s) : f_X7_putBytes_3 p (n + 1) v σ K = f_X7_putBytes_3 p n (v + (-8 : Int32)) (putC σ k (p >>> s)) K := by
  rw [f_X7_putBytes_3.eq_2, if_neg hv, h, ix_nI hk (by decide), bnd_s, bnd_s, hs, mp_g (by decide), h, nI_s]
  rfl
theorem c_putBytes {k : Nat} {p : Int32} {σ : Mem} (h : σ 7 0 6 = nI k) (hk : k + 4 ≤ 96) : f_X7_putBytes p σ = some (putC (putC (putC (putC σ k (p >>> 24)) (k + 1) (p >>> 16)) (k + 2) (p >>> 8)) (k + 3) (p >>> 0)) := by
  obtain ⟨F, hF⟩ : ∃ F, FU = F + 1 + 1 + 1 + 1 + 1 := ⟨FU - 5, by rw [FU_eq]⟩
  unfold f_X7_putBytes
  rw [hF, c_put1 (s := 24) h (by omega) (by decide) (by decide), show (24 : Int32) + (-8 : Int32) = 16 from by decide, c_put1 (k := k + 1) (s := 16) putC_s (by omega) (by decide) (by decide), show (16 : Int32) + (-8 : Int32) = 8 from by decide, c_put1 (k := k + 2) (s := 8) putC_s (by omega) (by decide) (by decide), show (8 : Int32) + (-8 : Int32) = 0 from by decide, c_put1 (k := k + 3) (s := 0) putC_s (by omega) (by decide) (by decide), f_X7_putBytes_3.eq_2, if_pos (by decide)]
theorem m_put1 {k n i : Nat} {p1 p2 p3 s : Int32} {τ : Mem} {K : Mem → Option (Int32 × Mem)} (h : τ 8 0 16 = nI k) (hk : k < 96) (hi : i < 12) (hs : (((24 : Int32) - ((8 : Int32) * (nI i - nI i / (4 : Int32) * (4 : Int32)))) &&& (31 : Int32)) = s) : f_X8_feed_18 p1 p2 p3 (n + 1) (nI i) τ K = f_X8_feed_18 p1 p2 p3 n (nI (i + 1)) (putM τ k ((if i < 4 then p1 else if i < 8 then p2 else p3) >>> s)) K := by
  rw [f_X8_feed_18.eq_2, if_neg (show ¬ (12 : Int32) ≤ nI i from nI_ge (a := i) (b := 12) hi (by decide)), h, ix_nI hk (by decide), bnd_s, bnd_s, bnd_s, bnd_s, bnd_s, bnd_s, hs, mp_g (by decide), mp_g (by decide), mp_g (by decide), h, nI_s, nI_s]
  by_cases h4 : i < 4
  · rw [if_neg (show ¬ (4 : Int32) ≤ nI i from nI_ge (a := i) (b := 4) h4 (by decide)), if_pos h4]
    rfl
  · rw [if_pos (show (4 : Int32) ≤ nI i from nI_le (a := 4) (b := i) (by omega) (by omega)), if_neg h4]
    by_cases h8 : i < 8
    · rw [if_neg (show ¬ (8 : Int32) ≤ nI i from nI_ge (a := i) (b := 8) h8 (by decide)), if_pos h8]
      rfl
    · rw [if_pos (show (8 : Int32) ≤ nI i from nI_le (a := 8) (b := i) (by omega) (by omega)), if_neg h8]
      rfl
theorem m_feed {k : Nat} {p1 p2 p3 : Int32} {τ : Mem} (h : τ 8 0 16 = nI k) (hk : k + 12 ≤ 96) (K : Mem → Option (Int32 × Mem)) : f_X8_feed_18 p1 p2 p3 FU 0 τ K = K (putM (putM (putM (putM (putM (putM (putM (putM (putM (putM (putM (putM τ k (p1 >>> 24)) (k + 1) (p1 >>> 16)) (k + 2) (p1 >>> 8)) (k + 3) (p1 >>> 0)) (k + 4) (p2 >>> 24)) (k + 5) (p2 >>> 16)) (k + 6) (p2 >>> 8)) (k + 7) (p2 >>> 0)) (k + 8) (p3 >>> 24)) (k + 9) (p3 >>> 16)) (k + 10) (p3 >>> 8)) (k + 11) (p3 >>> 0)) := by
  obtain ⟨F, hF⟩ : ∃ F, FU = F + 1 + 1 + 1 + 1 + 1 + 1 + 1 + 1 + 1 + 1 + 1 + 1 + 1 := ⟨FU - 13, by rw [FU_eq]⟩
  rw [hF]
  refine (m_put1 (i := 0) (s := 24) h (by omega) (by decide) (by decide)).trans ?_
  refine (m_put1 (i := 1) (k := k + 1) (s := 16) putM_s (by omega) (by decide) (by decide)).trans ?_
  refine (m_put1 (i := 2) (k := k + 2) (s := 8) putM_s (by omega) (by decide) (by decide)).trans ?_
  refine (m_put1 (i := 3) (k := k + 3) (s := 0) putM_s (by omega) (by decide) (by decide)).trans ?_
  refine (m_put1 (i := 4) (k := k + 4) (s := 24) putM_s (by omega) (by decide) (by decide)).trans ?_
  refine (m_put1 (i := 5) (k := k + 5) (s := 16) putM_s (by omega) (by decide) (by decide)).trans ?_
  refine (m_put1 (i := 6) (k := k + 6) (s := 8) putM_s (by omega) (by decide) (by decide)).trans ?_
  refine (m_put1 (i := 7) (k := k + 7) (s := 0) putM_s (by omega) (by decide) (by decide)).trans ?_
  refine (m_put1 (i := 8) (k := k + 8) (s := 24) putM_s (by omega) (by decide) (by decide)).trans ?_
  refine (m_put1 (i := 9) (k := k + 9) (s := 16) putM_s (by omega) (by decide) (by decide)).trans ?_
  refine (m_put1 (i := 10) (k := k + 10) (s := 8) putM_s (by omega) (by decide) (by decide)).trans ?_
  refine (m_put1 (i := 11) (k := k + 11) (s := 0) putM_s (by omega) (by decide) (by decide)).trans ?_
  rw [f_X8_feed_18.eq_2, if_pos (show (12 : Int32) ≤ nI (11 + 1) by decide)]
  rfl
theorem op_feed {σ τ : Mem} (W : RR2 σ τ) (a b c : Int32) : LkS (f_X7_feed a b c σ) (f_X8_feed a b c τ) RR2 := by
  have W0 := W
  obtain ⟨n, nv, nt, N, hr⟩ := W
  obtain ⟨k, k1, k2, k3, k4⟩ := hr.2.1
  unfold f_X7_feed f_X8_feed
  rw [k2, k3, show (12 : Int32) = nI 12 from rfl, nI_add]
  by_cases hlt : k ≤ 84
  · rw [if_pos (show nI k ≤ 84 from nI_le (b := 84) hlt (by decide)), if_pos (show nI (k + 12) ≤ 96 from nI_le (b := 96) (by omega) (by decide)), m_feed k3 (by omega), c_putBytes k2 (by omega), bnd_s, c_putBytes (k := k + 4) putC_s (by omega), bnd_s, c_putBytes (k := k + 8) putC_s (by omega), bnd_s]
    have Q : RTp (k + 12) _ _ := RTp_put (RTp_put (RTp_put (RTp_put (RTp_put (RTp_put (RTp_put (RTp_put (RTp_put (RTp_put (RTp_put (RTp_put (show RTp k σ τ from ⟨k2, k3, k4⟩) (a >>> 24)) (a >>> 16)) (a >>> 8)) (a >>> 0)) (b >>> 24)) (b >>> 16)) (b >>> 8)) (b >>> 0)) (c >>> 24)) (c >>> 16)) (c >>> 8)) (c >>> 0)
    refine LkS_mk2 (Q.1.trans Q.2.1.symm) (RR2_tape N hr (fun g h7 h17 => ?_) (fun i hi => ?_) (fun g h8 h36 => ?_) (fun i hi => ?_) ⟨k + 12, by omega, Q⟩)
    · simp only [putC_g h7 h17]
    · simp only [putC_7 hi]
    · simp only [putM_g h8 h36]
    · simp only [putM_8 hi]
  · rw [if_neg (show ¬ nI k ≤ 84 from nI_ge (b := k) (a := 84) (by omega) (by omega)), if_neg (show ¬ nI (k + 12) ≤ 96 from nI_ge (b := k + 12) (a := 96) (by omega) (by omega))]
    exact LkS_mk W0
