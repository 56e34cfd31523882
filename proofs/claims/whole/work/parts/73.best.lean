-- sworn
theorem hs_nv {b : Bool} {l n nt N u u' o nv : Nat} {σ τ : Mem} (hN : N < 5000) (H : RLd b l 22 σ τ n nv nt) (hv : nv < 17) (T : ∀ t, t < nt → TxR 22 σ τ t) (ho : o < n) (hu : u < n) (hu' : u' < n) (hb : b = true → u = u') :
    ∃ σ1 σ2 τ1 τ2 nv2, f_X0_addVow l (nI o) (nI u) 0 σ = some σ1 ∧ f_X0_passHours l (nI N) σ1 = some σ2 ∧ f_X8_gives (nI o) (nI u') 0 τ = some τ1 ∧ f_X8_goesOnMany (nI N) τ1 = some τ2 ∧ σ2 0 l 6 = nI nv2 ∧ τ2 22 0 3 = nI nv2 ∧ nv2 ≤ 17 ∧ Fm (RgD l) σ σ2 ∧ FrM τ τ2 := by
  have e3 := H.2.2.2.2.2.2.2.1
  obtain ⟨σ1, τ1, q1, q2, q3, q4, q5, q6⟩ := ls_vow (w := 0) H hv ho hu hu' hb
  obtain ⟨σ2, τ2, nv2, r1, r2, r3, r4, r5, r6⟩ := ls_hours hN q3 (T_fr T e3 q4 q5)
  exact ⟨σ1, σ2, τ1, τ2, nv2, q1, r1, q2, r2, r3.2.1.1, r3.2.1.2.1, r3.2.1.2.2, Fm.trans q4 r4, FrM.trans q5 r5⟩
def fstO (a : Nat) : Nat := if a = 0 then 1 else 0
theorem fstO_lt {a n : Nat} (h2 : 2 ≤ n) : fstO a < n := by unfold fstO; split <;> omega
theorem fstO_ne (a : Nat) : fstO a ≠ a := by unfold fstO; split <;> omega
theorem fstO_le {a b : Nat} (h : b ≠ a) : fstO a ≤ b := by unfold fstO; split <;> omega
set_option maxHeartbeats 2000000 in
theorem sw_inner {n nv nt a N V : Nat} {p2 : Int32} {τ0 : Mem} (hn : n ≤ 10) (h0 : τ0 22 0 0 = nI n) (ha : a < n) (hV : V < 100)
    (hrun : ∀ b, b < n → b ≠ a → ∀ τ, Sam τ0 τ → ∃ τ1 τ2, f_X8_gives (nI a) (nI b) 0 τ = some τ1 ∧ f_X8_goesOnMany (nI N) τ1 = some τ2 ∧ τ2 22 0 3 = nI V ∧ FrM τ τ2) :
    ∀ (m b nM : Nat) (best most : Int32) (τ : Mem), Sav τ0 τ → Sam τ0 τ → b + m = n → m < nM → (fstO a < b → nI V ≤ most) →
      ∃ τ', Sav τ0 τ' ∧ Sam τ0 τ' ∧ ∀ K, f_X8_sworn_51 (nI N) p2 (nI a) nM best most (nI b) τ K = (if fstO a < b ∨ n ≤ fstO a ∨ nI V ≤ most then K best most τ' else K (10 * nI a + nI (fstO a)) (nI V) τ') := by
  intro m
  induction m with
  | zero =>
    intro b nM best most τ hS hM hb h4 hf
    obtain ⟨nM, rfl, -⟩ := succ_of h4
    refine ⟨τ, hS, hM, fun K => ?_⟩
    rw [f_X8_sworn_51.eq_2, sx0, bnd_s, hM 0, h0, if_pos (nI_le (by omega) (by omega)), if_pos (by omega)]
  | succ m ih =>
    intro b nM best most τ hS hM hb h4 hf
    obtain ⟨nM, rfl, h4⟩ := succ_of h4
    have hlt : ¬ nI n ≤ nI b := nI_ge (by omega) (by omega)
    by_cases hab : a = b
    · subst hab
      have hne := fstO_ne a
      obtain ⟨τ', s1, s2, s3⟩ := ih (a + 1) nM best most τ hS hM (by omega) (by omega) (fun h => by
        by_cases q : fstO a < a
        · exact hf q
        · omega)
      refine ⟨τ', s1, s2, fun K => ?_⟩
      rw [f_X8_sworn_51.eq_2, sx0, bnd_s, hM 0, h0, if_neg hlt, if_pos rfl, nI_s, s3 K]
      by_cases q : fstO a < a
      · rw [if_pos (Or.inl (by omega)), if_pos (Or.inl q)]
      · by_cases q2 : n ≤ fstO a ∨ nI V ≤ most
        · rw [if_pos (Or.inr q2), if_pos (Or.inr q2)]
        · rw [if_neg (by rintro (x | x); omega; exact q2 x), if_neg (by rintro (x | x); omega; exact q2 x)]
    · have hne : ¬ nI a = nI b := fun e => hab ((nI_eq (by omega) (by omega)).mp e)
      obtain ⟨τ1, τ2, r1, r2, r3, r4⟩ := hrun b (by omega) (fun e => hab e.symm) τ hM
      obtain ⟨z1, z2⟩ := Sav.back (Sav.go hS r4)
      have hle := fstO_le (a := a) (b := b) (fun e => hab e.symm)
      by_cases hV : nI V ≤ most
      · obtain ⟨τ', s1, s2, s3⟩ := ih (b + 1) nM best most _ z1 z2 (by omega) (by omega) (fun _ => hV)
        refine ⟨τ', s1, s2, fun K => ?_⟩
        rw [f_X8_sworn_51.eq_2, sx0, bnd_s, hM 0, h0, if_neg hlt, if_neg hne, r1, bnd_s, r2, bnd_s, sx3, bnd_s, m_laysBack, bnd_s, r3, if_pos hV, if_pos hV, nI_s, s3 K, if_pos (Or.inr (Or.inr hV)), if_pos (Or.inr (Or.inr hV))]
      · have hnf : ¬ fstO a < b := fun q => hV (hf q)
        have hfe : fstO a = b := by omega
        obtain ⟨τ', s1, s2, s3⟩ := ih (b + 1) nM (10 * nI a + nI b) (nI V) _ z1 z2 (by omega) (by omega) (fun _ => by rw [pl_le32]; omega)
        refine ⟨τ', s1, s2, fun K => ?_⟩
        rw [f_X8_sworn_51.eq_2, sx0, bnd_s, hM 0, h0, if_neg hlt, if_neg hne, r1, bnd_s, r2, bnd_s, sx3, bnd_s, m_laysBack, bnd_s, r3, if_neg hV, if_neg hV, nI_s, s3 K, if_pos (Or.inl (by omega)), if_neg (by rintro (x | x | x); omega; omega; exact hV x), hfe]
set_option maxHeartbeats 2000000 in
theorem sw_outer {n nv nt N : Nat} {p2 : Int32} {σ0 τ0 : Mem} (hN : N < 5000) (H : RLd true 0 22 σ0 τ0 n nv nt) (hv : nv ≤ 16) (T : ∀ t, t < nt → TxR 22 σ0 τ0 t) (h2 : 2 ≤ n) :
    ∀ (m a nC nM : Nat) (best most : Int32) (σ τ : Mem), Fm (RgD 2) σ0 σ → Sav τ0 τ → Sam τ0 τ → a + m = n → m < nC → m < nM → ((a = 0 ∧ best = -1 ∧ most = -1) ∨ 0 ≤ best) →
      ∃ best' most' σ' τ', (∀ K, f_X7_sworn_44 (nI N) p2 nC best most (nI a) σ K = K best' most' σ') ∧ (∀ K, f_X8_sworn_37 (nI N) p2 nM best most (nI a) τ K = K best' most' τ') ∧ 0 ≤ best' ∧ Fm (RgD 2) σ0 σ' ∧ Sav τ0 τ' ∧ Sam τ0 τ' := by
  intro m
  have n10 := H.1.2.2
  have e3 := H.2.2.2.2.2.2.2.1
  induction m with
  | zero =>
    intro a nC nM best most σ τ hF hS hM ha h3 h4 hb
    obtain ⟨nC, rfl, -⟩ := succ_of h3
    obtain ⟨nM, rfl, -⟩ := succ_of h4
    have H1 := RLd_02 (by decide) H hF
    refine ⟨best, most, σ, τ, fun K => ?_, fun K => ?_, by rcases hb with ⟨q, -⟩ | q; omega; exact q, hF, hS, hM⟩
    · rw [f_X7_sworn_44.eq_2, H1.1.1, if_pos (nI_le (by omega) (by omega))]
    · rw [f_X8_sworn_37.eq_2, sx0, bnd_s, hM 0, H.1.2.1, if_pos (nI_le (by omega) (by omega))]
  | succ m ih =>
    intro a nC nM best most σ τ hF hS hM ha h3 h4 hb
    obtain ⟨nC, rfl, h3⟩ := succ_of h3
    obtain ⟨nM, rfl, h4⟩ := succ_of h4
    have H1 := RLd_02 (by decide) H hF
    have hlt : ¬ nI n ≤ nI a := nI_ge (by omega) (by omega)
    obtain ⟨σ1, q1, q2, q3, q4, q5⟩ := c_becomes (p0 := 2) (p1 := 0) (by decide) H1
    have T1 := T_sam (τ' := τ0) T e3 (Fm.trans hF q2) (fun _ _ => rfl)
    have o1 := fstO_lt (a := a) h2
    obtain ⟨σ2, σ3, -, -, V, x1, x2, -, -, x5, -, x7, x8, -⟩ := hs_nv (u := fstO a) (u' := fstO a) (o := a) hN q4 (by omega) T1 (by omega) o1 o1 (fun _ => rfl)
    have hrun : ∀ b, b < n → b ≠ a → ∀ τ, Sam τ0 τ → ∃ τ1 τ2, f_X8_gives (nI a) (nI b) 0 τ = some τ1 ∧ f_X8_goesOnMany (nI N) τ1 = some τ2 ∧ τ2 22 0 3 = nI V ∧ FrM τ τ2 := by
      intro b hbn hba τ' hs
      obtain ⟨σ2', σ3', τ1, τ2, V', y1, y2, y3, y4, y5, y6, y7, -, y9⟩ := hs_nv (u := fstO a) (u' := b) (o := a) hN (RLd_sam (RLd_weak q4) hs) (by omega) (T_sam T e3 (Fm.trans hF q2) (fun k _ => hs k)) (by omega) o1 hbn (fun e => Bool.noConfusion e)
      rw [x1] at y1
      cases y1
      rw [x2] at y2
      cases y2
      rw [x5] at y5
      exact ⟨τ1, τ2, y3, y4, by rw [y6, y5], y9⟩
    obtain ⟨τ', s1, s2, s3⟩ := sw_inner (p2 := p2) (nv := nv) (nt := nt) n10 H.1.2.1 (show a < n by omega) (show V < 100 by omega) hrun n 0 FU best most τ hS hM (by omega) (fu_gt (by omega)) (fun q => by omega)
    have hcls : ∀ K, f_X7_sworn_44 (nI N) p2 (nC + 1) best most (nI a) σ K = (if nI V ≤ most then f_X7_sworn_44 (nI N) p2 nC best most (nI (a + 1)) σ3 K else f_X7_sworn_44 (nI N) p2 nC (10 * nI a + nI (fstO a)) (nI V) (nI (a + 1)) σ3 K) := by
      intro K
      rw [f_X7_sworn_44.eq_2, H1.1.1, if_neg hlt]
      by_cases h0 : a = 0
      · subst h0
        have x1' : f_X0_addVow 2 (nI 0) 1 0 σ1 = some σ2 := x1
        rw [if_pos nI_0, q1, bnd_s, x1', bnd_s, x2, bnd_s, x5, nI_s]
        rfl
      · have x1' : f_X0_addVow 2 (nI a) 0 0 σ1 = some σ2 := by
          have : fstO a = 0 := by unfold fstO; rw [if_neg h0]
          rw [this] at x1
          exact x1
        rw [if_neg (nI_ne0 (by omega) (by omega)), q1, bnd_s, x1', bnd_s, x2, bnd_s, x5, nI_s, show fstO a = 0 by unfold fstO; rw [if_neg h0]]
        rfl
    have F3 : Fm (RgD 2) σ0 σ3 := Fm.trans (Fm.trans hF q2) x8
    have hz : nI (0 : Nat) = (0 : Int32) := rfl
    by_cases hV : nI V ≤ most
    · obtain ⟨best', most', σ', τ'', u1, u2, u3, u4, u5, u6⟩ := ih (a + 1) nC nM best most σ3 τ' F3 s1 s2 (by omega) (by omega) (by omega) (by
        rcases hb with ⟨-, -, rfl⟩ | q
        · exfalso
          rw [pl_le32, nI_toInt (by omega), show (-1 : Int32).toInt = -1 by decide] at hV
          omega
        · exact Or.inr q)
      refine ⟨best', most', σ', τ'', fun K => ?_, fun K => ?_, u3, u4, u5, u6⟩
      · rw [hcls, if_pos hV]; exact u1 K
      · rw [f_X8_sworn_37.eq_2, sx0, bnd_s, hM 0, H.1.2.1, if_neg hlt]
        have := s3 (fun e1 e2 σ_1 => f_X8_sworn_37 (nI N) p2 nM e1 e2 (nI a + 1) σ_1 K)
        rw [hz, if_pos (Or.inr (Or.inr hV))] at this
        rw [this, nI_s]
        exact u2 K
    · obtain ⟨best', most', σ', τ'', u1, u2, u3, u4, u5, u6⟩ := ih (a + 1) nC nM (10 * nI a + nI (fstO a)) (nI V) σ3 τ' F3 s1 s2 (by omega) (by omega) (by omega) (Or.inr (by
        rw [show (10 : Int32) = nI 10 from rfl, pk_mul, nI_add]
        exact nI_pos' (by omega)))
      refine ⟨best', most', σ', τ'', fun K => ?_, fun K => ?_, u3, u4, u5, u6⟩
      · rw [hcls, if_neg hV]; exact u1 K
      · rw [f_X8_sworn_37.eq_2, sx0, bnd_s, hM 0, H.1.2.1, if_neg hlt]
        have := s3 (fun e1 e2 σ_1 => f_X8_sworn_37 (nI N) p2 nM e1 e2 (nI a + 1) σ_1 K)
        rw [hz, if_neg (by rintro (x | x | x); omega; omega; exact hV x)] at this
        rw [this, nI_s]
        exact u2 K
theorem sw_few {n N : Nat} {p2 : Int32} {τ : Mem} (h0 : τ 22 0 0 = nI n) (hn : n < 2) : ∀ K, f_X8_sworn_37 (nI N) p2 FU (-1) (-1) 0 τ K = K (-1) (-1) τ := by
  intro K
  obtain ⟨F, hF⟩ : ∃ F, FU = F + 1 + 1 + 1 := ⟨FU - 3, by rw [FU_eq]⟩
  rcases (show n = 0 ∨ n = 1 by omega) with rfl | rfl
  · rw [hF, f_X8_sworn_37.eq_2, sx0, bnd_s, h0, if_pos (show nI 0 ≤ 0 by decide)]
  · rw [hF, f_X8_sworn_37.eq_2, sx0, bnd_s, h0, if_neg (show ¬ nI 1 ≤ 0 by decide), hF, f_X8_sworn_51.eq_2, sx0, bnd_s, h0, if_neg (show ¬ nI 1 ≤ 0 by decide), if_pos rfl, f_X8_sworn_51.eq_2, sx0, bnd_s, h0, if_pos (show nI 1 ≤ 0 + 1 by decide), f_X8_sworn_37.eq_2, sx0, bnd_s, h0, if_pos (show nI 1 ≤ 0 + 1 by decide)]
theorem op_sworn {σ τ : Mem} (W : RR2 σ τ) (a b : Int32) : LkS (f_X7_sworn a b σ) (f_X8_sworn a b τ) RR2 := by
  have W0 := W
  obtain ⟨n, nv, nt, N, hr⟩ := W
  obtain ⟨H, hv16, T, h, hh, h2⟩ := id N
  have n10 := H.1.2.2
  unfold f_X7_sworn f_X8_sworn
  rcases in1 (v := a) 40 (hi := 40) (hi' := 40) (by decide) (by decide) rfl with ⟨d, d1, d2, rfl, c1, m1⟩ | ⟨c1, m1⟩
  · rw [c1, bnd_s, if_neg (show ¬ (1 : Int32) = 0 by decide), m1, bnd_s, if_neg (show ¬ (1 : Int32) = 0 by decide)]
    rcases gd_nat (v := b) 1 (hi := 1) (lo' := 0) (hi' := 1) (by decide) (by decide) (by decide) rfl with ⟨q, hq, rfl, c2, m2⟩ | ⟨-, c2, m2⟩
    · obtain ⟨y1, y2⟩ := Sav_by (τ := τ)
      rw [c2, bnd_s, if_neg (show ¬ (1 : Int32) = 0 by decide), m2, bnd_s, if_neg (show ¬ (1 : Int32) = 0 by decide), H.1.1, m_laysBy, bnd_s]
      by_cases hn : 2 ≤ n
      · obtain ⟨best, most, σ', τ', u1, u2, u3, u4, u5, u6⟩ := sw_outer (p2 := nI q) (N := d) (by omega) H hv16 T hn n 0 FU FU (-1) (-1) σ _ Fm.rf y1 y2 (by omega) (fu_gt (by omega)) (fu_gt (by omega)) (Or.inl ⟨rfl, rfl, rfl⟩)
        have u1' := u1 (fun e1 e2 σ_1 => if nI q = 0 then some (e1, σ_1) else some (e2, σ_1))
        have u2' := u2 (fun e1 e2 σ_1 => if 0 ≤ e1 then (if nI q = 0 then some (e1, σ_1) else some (e2, σ_1)) else some (-1000000005, σ_1))
        rw [show nI 0 = (0 : Int32) from rfl] at u1' u2'
        rw [if_pos (show (2 : Int32) ≤ nI n from nI_le (a := 2) hn (by omega)), u1', u2', if_pos u3]
        have fin : RR2 σ' τ' := RR2_thought N hr u4 u6 u5.2.2
        by_cases h0 : nI q = 0
        · rw [if_pos h0, if_pos h0]; exact LkS_mk fin
        · rw [if_neg h0, if_neg h0]; exact LkS_mk fin
      · rw [if_neg (show ¬ (2 : Int32) ≤ nI n from nI_ge (b := 2) (by omega) (by omega)), sw_few (n := n) (by rw [y2 0]; exact H.1.2.1) (by omega), if_neg (show ¬ (0 : Int32) ≤ -1 by decide)]
        exact LkS_mk (RR2_thought N hr Fm.rf y2 y1.2.2)
    · rw [c2, bnd_s, if_pos rfl, m2, bnd_s, if_pos rfl]
      exact LkS_mk W0
  · rw [c1, bnd_s, if_pos rfl, m1, bnd_s, if_pos rfl]
    exact LkS_mk W0
-- trust
set_option maxHeartbeats 2000000 in
theorem tr_loop {n nv nt N : Nat} {p2 : Int32} {σ0 τ0 : Mem} (hN : N < 5000) (H : RLd true 0 22 σ0 τ0 n nv nt) (T : ∀ t, t < nt → TxR 22 σ0 τ0 t) :
    ∀ (m a nC nM : Nat) (bc bm most : Int32) (σ τ : Mem), Fm (RgD 2) σ0 σ → Sav τ0 τ → Sam τ0 τ → a + m = n → m < nC → m < nM → ((bc = -1000000005 ∧ bm = -1) ∨ ∃ j, j < 10 ∧ bc = nI j ∧ bm = nI j) →
      ∃ bc' bm' most' σ' τ', (∀ K, f_X7_trust_31 (nI N) p2 nC bc most (nI a) σ K = K bc' most' σ') ∧ (∀ K, f_X8_trust_37 (nI N) p2 nM bm most (nI a) τ K = K bm' most' τ') ∧ ((bc' = -1000000005 ∧ bm' = -1) ∨ ∃ j, j < 10 ∧ bc' = nI j ∧ bm' = nI j) ∧ Fm (RgD 2) σ0 σ' ∧ Sav τ0 τ' ∧ Sam τ0 τ' := by
  intro m
  have n10 := H.1.2.2
  have e3 := H.2.2.2.2.2.2.2.1
  induction m with
  | zero =>
    intro a nC nM bc bm most σ τ hF hS hM ha h3 h4 hb
    obtain ⟨nC, rfl, -⟩ := succ_of h3
    obtain ⟨nM, rfl, -⟩ := succ_of h4
    have H1 := RLd_02 (by decide) H hF
    refine ⟨bc, bm, most, σ, τ, fun K => ?_, fun K => ?_, hb, hF, hS, hM⟩
    · rw [f_X7_trust_31.eq_2, H1.1.1, if_pos (nI_le (by omega) (by omega))]
    · rw [f_X8_trust_37.eq_2, sx0, bnd_s, hM 0, H.1.2.1, if_pos (nI_le (by omega) (by omega))]
  | succ m ih =>
    intro a nC nM bc bm most σ τ hF hS hM ha h3 h4 hb
    obtain ⟨nC, rfl, h3⟩ := succ_of h3
    obtain ⟨nM, rfl, h4⟩ := succ_of h4
    have H1 := RLd_02 (by decide) H hF
    have hlt : ¬ nI n ≤ nI a := nI_ge (by omega) (by omega)
    obtain ⟨σ1, q1, q2, q3, q4, q5⟩ := c_becomes (p0 := 2) (p1 := 0) (by decide) H1
    have H2 := RLd_pcell (f := 2) (v := 99) (j := a) (RLd_sam q4 hM) (by omega) (Or.inr (Or.inr (Or.inl ⟨rfl, 99, by decide, rfl⟩)))
    have F2 : Fm (RgD 2) σ0 (mput σ1 3 (10 * 2 + a) 2 99) := Fm.put (Fm.trans hF q2) (by unfold RgD; omega)
    have G2 : FrM τ (mput τ 22 0 (7 + 5 * a + 2) 99) := FrM.put FrM.rf (by omega)
    have S2 := Sav.go hS G2
    obtain ⟨σ3, τ3, V, r1, r2, r3, r4, r5, r6⟩ := ls_hours hN H2 (T_sam T e3 F2 S2.2.1)
    obtain ⟨z1, z2⟩ := Sav.back (Sav.go S2 r5)
    have F3 := Fm.trans F2 r4
    have i10 : ix 10 (nI a) = some a := ix_nI (by omega) (by decide)
    have eC := r3.2.1.1
    have eM := r3.2.1.2.1
    by_cases hV : nI V ≤ most
    · obtain ⟨bc', bm', most', σ', τ', u1, u2, u3⟩ := ih (a + 1) nC nM bc bm most σ3 _ F3 z1 z2 (by omega) (by omega) (by omega) hb
      refine ⟨bc', bm', most', σ', τ', fun K => ?_, fun K => ?_, u3⟩
      · rw [f_X7_trust_31.eq_2, H1.1.1, if_neg hlt, q1, bnd_s, i10, bnd_s, r1, bnd_s, eC, if_pos hV, nI_s]
        exact u1 K
      · rw [f_X8_trust_37.eq_2, sx0, bnd_s, hM 0, H.1.2.1, if_neg hlt, q_sets (e := 2) a 2 rfl (by omega), bnd_s, r2, bnd_s, sx3, bnd_s, m_laysBack, bnd_s, eM, if_pos hV, if_pos hV, nI_s]
        exact u2 K
    · obtain ⟨bc', bm', most', σ', τ', u1, u2, u3⟩ := ih (a + 1) nC nM (nI a) (nI a) (nI V) σ3 _ F3 z1 z2 (by omega) (by omega) (by omega) (Or.inr ⟨a, by omega, rfl, rfl⟩)
      refine ⟨bc', bm', most', σ', τ', fun K => ?_, fun K => ?_, u3⟩
      · rw [f_X7_trust_31.eq_2, H1.1.1, if_neg hlt, q1, bnd_s, i10, bnd_s, r1, bnd_s, eC, if_neg hV, nI_s]
        exact u1 K
      · rw [f_X8_trust_37.eq_2, sx0, bnd_s, hM 0, H.1.2.1, if_neg hlt, q_sets (e := 2) a 2 rfl (by omega), bnd_s, r2, bnd_s, sx3, bnd_s, m_laysBack, bnd_s, eM, if_neg hV, if_neg hV, nI_s]
        exact u2 K
theorem fin_best {bc bm most : Int32} {q : Nat} {σ τ : Mem} (hb : (bc = -1000000005 ∧ bm = -1) ∨ ∃ j, j < 10 ∧ bc = nI j ∧ bm = nI j) (fin : RR2 σ τ) :
    LkS (if nI q = 0 then some (bc, σ) else (if bc = (-1000000005 : Int32) then some (bc, σ) else some (most, σ))) (if 0 ≤ bm then (if nI q = 0 then some (bm, τ) else some (most, τ)) else some ((-1000000005 : Int32), τ)) RR2 := by
  rcases hb with ⟨rfl, rfl⟩ | ⟨j, hj, rfl, rfl⟩
  · rw [if_neg (show ¬ (0 : Int32) ≤ -1 by decide), if_pos rfl, ite_self]
    exact LkS_mk fin
  · rw [if_pos (show (0 : Int32) ≤ nI j from nI_pos' (by omega)), if_neg (show ¬ nI j = -1000000005 from fun e => by
      have := congrArg Int32.toInt e
      rw [nI_toInt (by omega), show (-1000000005 : Int32).toInt = -1000000005 by decide] at this
      omega)]
    by_cases h0 : nI q = 0
    · rw [if_pos h0, if_pos h0]; exact LkS_mk fin
    · rw [if_neg h0, if_neg h0]; exact LkS_mk fin
theorem op_trust {σ τ : Mem} (W : RR2 σ τ) (a b : Int32) : LkS (f_X7_trust a b σ) (f_X8_trust a b τ) RR2 := by
  have W0 := W
  obtain ⟨n, nv, nt, N, hr⟩ := W
  obtain ⟨H, hv16, T, h, hh, h2⟩ := id N
  have n10 := H.1.2.2
  unfold f_X7_trust f_X8_trust
  rcases in1 (v := a) 60 (hi := 60) (hi' := 60) (by decide) (by decide) rfl with ⟨d, d1, d2, rfl, c1, m1⟩ | ⟨c1, m1⟩
  · rw [c1, bnd_s, if_neg (show ¬ (1 : Int32) = 0 by decide), m1, bnd_s, if_neg (show ¬ (1 : Int32) = 0 by decide)]
    rcases gd_nat (v := b) 1 (hi := 1) (lo' := 0) (hi' := 1) (by decide) (by decide) (by decide) rfl with ⟨q, hq, rfl, c2, m2⟩ | ⟨-, c2, m2⟩
    · obtain ⟨y1, y2⟩ := Sav_by (τ := τ)
      obtain ⟨bc, bm, most, σ', τ', u1, u2, u3, u4, u5, u6⟩ := tr_loop (p2 := nI q) (N := d) (by omega) H T n 0 FU FU (-1000000005) (-1) (-1) σ _ Fm.rf y1 y2 (by omega) (fu_gt (by omega)) (fu_gt (by omega)) (Or.inl ⟨rfl, rfl⟩)
      have u1' := u1 (fun e1 e2 σ_1 => if nI q = 0 then some (e1, σ_1) else (if e1 = (-1000000005 : Int32) then some (e1, σ_1) else some (e2, σ_1)))
      have u2' := u2 (fun e1 e2 σ_1 => if 0 ≤ e1 then (if nI q = 0 then some (e1, σ_1) else some (e2, σ_1)) else some (-1000000005, σ_1))
      rw [show nI 0 = (0 : Int32) from rfl] at u1' u2'
      rw [c2, bnd_s, if_neg (show ¬ (1 : Int32) = 0 by decide), m2, bnd_s, if_neg (show ¬ (1 : Int32) = 0 by decide), m_laysBy, bnd_s, u1', u2']
      exact fin_best u3 (RR2_thought N hr u4 u6 u5.2.2)
    · rw [c2, bnd_s, if_pos rfl, m2, bnd_s, if_pos rfl]
      exact LkS_mk W0
  · rw [c1, bnd_s, if_pos rfl, m1, bnd_s, if_pos rfl]
    exact LkS_mk W0
-- debtor
theorem db_loop {n nv nv2 nt : Nat} {p2 : Int32} {σ τ τ0 : Mem} (H : RLd true 0 22 σ τ0 n nv nt) (H2 : RLd true 2 22 σ τ n nv2 nt) (hS : Sav τ0 τ) :
    ∀ (m a nC nM : Nat) (bc bm most : Int32), a + m = n → m < nC → m < nM → ((bc = -1000000005 ∧ bm = -1) ∨ ∃ j, j < 10 ∧ bc = nI j ∧ bm = nI j) →
      ∃ bc' bm' most', (∀ K, f_X7_debtor_50 p2 σ nC bc most (nI a) K = K bc' most') ∧ (∀ K, f_X8_debtor_42 p2 τ nM bm most (nI a) K = K bm' most') ∧ ((bc' = -1000000005 ∧ bm' = -1) ∨ ∃ j, j < 10 ∧ bc' = nI j ∧ bm' = nI j) := by
  intro m
  have n10 := H.1.2.2
  induction m with
  | zero =>
    intro a nC nM bc bm most ha h3 h4 hb
    obtain ⟨nC, rfl, -⟩ := succ_of h3
    obtain ⟨nM, rfl, -⟩ := succ_of h4
    refine ⟨bc, bm, most, fun K => ?_, fun K => ?_, hb⟩
    · rw [f_X7_debtor_50.eq_2, H.1.1, if_pos (nI_le (by omega) (by omega))]
    · rw [f_X8_debtor_42.eq_2, sx0, bnd_s, H2.1.2.1, if_pos (nI_le (by omega) (by omega))]
  | succ m ih =>
    intro a nC nM bc bm most ha h3 h4 hb
    obtain ⟨nC, rfl, h3⟩ := succ_of h3
    obtain ⟨nM, rfl, h4⟩ := succ_of h4
    have hlt : ¬ nI n ≤ nI a := nI_ge (by omega) (by omega)
    have i10 : ix 10 (nI a) = some a := ix_nI (by omega) (by decide)
    obtain ⟨-, -, -, p7, -⟩ := H.2.2.1 a (by omega)
    obtain ⟨-, -, -, s7, -⟩ := H2.2.2.1 a (by omega)
    have ic : ix 108 (((7 : Int32) + ((5 : Int32) * nI a)) + (3 : Int32)) = some (7 + 5 * a + 3) := ix_eq (of_ix a 3) (by omega) (by decide)
    have om : f_X8_of (nI a) 3 τ = some (τ 22 0 (10 + 5 * a)) := by rw [q_of (e := 3) a 3 rfl (by omega), show 7 + 5 * a + 3 = 10 + 5 * a by omega]
    have cl : τ 35 0 (7 + 5 * a + 3) = σ 3 (10 * 0 + a) 3 := by rw [hS.1 _ (by omega), show 7 + 5 * a + 3 = 10 + 5 * a by omega, p7 rfl]
    rcases hb with ⟨rfl, rfl⟩ | ⟨j, hj, rfl, rfl⟩
    · obtain ⟨bc', bm', most', u1, u2, u3⟩ := ih (a + 1) nC nM (nI a) (nI a) (σ 3 (10 * 0 + a) 3 - σ 3 (10 * 2 + a) 3) (by omega) (by omega) (by omega) (Or.inr ⟨a, by omega, rfl, rfl⟩)
      refine ⟨bc', bm', most', fun K => ?_, fun K => ?_, u3⟩
      · rw [f_X7_debtor_50.eq_2, H.1.1, if_neg hlt, i10, bnd_s, bnd_s, if_pos rfl, nI_s]
        exact u1 K
      · rw [f_X8_debtor_42.eq_2, sx0, bnd_s, H2.1.2.1, if_neg hlt, ic, bnd_s, om, bnd_s, if_pos (show (-1 : Int32) < 0 by decide), nI_s, cl, ← s7 rfl]
        exact u2 K
    · have nn : ¬ nI j = -1000000005 := fun e => by
        have := congrArg Int32.toInt e
        rw [nI_toInt (by omega), show (-1000000005 : Int32).toInt = -1000000005 by decide] at this
        omega
      have np : ¬ nI j < 0 := nI_pos (by omega)
      by_cases hV : σ 3 (10 * 0 + a) 3 - σ 3 (10 * 2 + a) 3 ≤ most
      · obtain ⟨bc', bm', most', u1, u2, u3⟩ := ih (a + 1) nC nM (nI j) (nI j) most (by omega) (by omega) (by omega) (Or.inr ⟨j, hj, rfl, rfl⟩)
        refine ⟨bc', bm', most', fun K => ?_, fun K => ?_, u3⟩
        · rw [f_X7_debtor_50.eq_2, H.1.1, if_neg hlt, i10, bnd_s, bnd_s, if_neg nn, if_pos hV, nI_s]
          exact u1 K
        · rw [f_X8_debtor_42.eq_2, sx0, bnd_s, H2.1.2.1, if_neg hlt, ic, bnd_s, om, bnd_s, if_neg np, cl, ← s7 rfl, if_pos hV, nI_s]
          exact u2 K
      · obtain ⟨bc', bm', most', u1, u2, u3⟩ := ih (a + 1) nC nM (nI a) (nI a) (σ 3 (10 * 0 + a) 3 - σ 3 (10 * 2 + a) 3) (by omega) (by omega) (by omega) (Or.inr ⟨a, by omega, rfl, rfl⟩)
        refine ⟨bc', bm', most', fun K => ?_, fun K => ?_, u3⟩
        · rw [f_X7_debtor_50.eq_2, H.1.1, if_neg hlt, i10, bnd_s, bnd_s, if_neg nn, if_neg hV, nI_s]
          exact u1 K
        · rw [f_X8_debtor_42.eq_2, sx0, bnd_s, H2.1.2.1, if_neg hlt, ic, bnd_s, om, bnd_s, if_neg np, cl, ← s7 rfl, if_neg hV, nI_s]
          exact u2 K
theorem op_debtor {σ τ : Mem} (W : RR2 σ τ) (a b : Int32) : LkS (f_X7_debtor a b σ) (f_X8_debtor a b τ) RR2 := by
  have W0 := W
  obtain ⟨n, nv, nt, N, hr⟩ := W
  obtain ⟨H, hv16, T, h, hh, h2⟩ := id N
  have n10 := H.1.2.2
  have e3 := H.2.2.2.2.2.2.2.1
  unfold f_X7_debtor f_X8_debtor
  rcases in1 (v := a) 60 (hi := 60) (hi' := 60) (by decide) (by decide) rfl with ⟨d, d1, d2, rfl, c1, m1⟩ | ⟨c1, m1⟩
  · rw [c1, bnd_s, if_neg (show ¬ (1 : Int32) = 0 by decide), m1, bnd_s, if_neg (show ¬ (1 : Int32) = 0 by decide)]
    rcases gd_nat (v := b) 1 (hi := 1) (lo' := 0) (hi' := 1) (by decide) (by decide) (by decide) rfl with ⟨q, hq, rfl, c2, m2⟩ | ⟨-, c2, m2⟩
    · obtain ⟨y1, y2⟩ := Sav_by (τ := τ)
      obtain ⟨σ1, q1, q2, q3, q4, q5⟩ := c_becomes (p0 := 2) (p1 := 0) (by decide) H
      obtain ⟨σ2, τ2, nv2, r1, r2, r3, r4, r5, r6⟩ := ls_hours (N := d) (by omega) (RLd_sam q4 y2) (T_sam T e3 q2 (fun k _ => y2 k))
      obtain ⟨z1, z2⟩ := Sav.back (Sav.go y1 r5)
      obtain ⟨bc, bm, most, u1, u2, u3⟩ := db_loop (p2 := nI q) (RLd_02 (by decide) H (Fm.trans q2 r4)) r3 (Sav.go y1 r5) n 0 FU FU (-1000000005) (-1) 0 (by omega) (fu_gt (by omega)) (fu_gt (by omega)) (Or.inl ⟨rfl, rfl⟩)
      have u1' := u1 (fun e1 e2 => if nI q = 0 then some (e1, σ2) else (if e1 = (-1000000005 : Int32) then some (e1, σ2) else some (e2, σ2)))
      have u2' := u2 (fun e1 e2 => bnd (f_X8_laysBack τ2) (fun a5 => if 0 ≤ e1 then (if nI q = 0 then some (e1, a5) else some (e2, a5)) else some (-1000000005, a5)))
      rw [show nI 0 = (0 : Int32) from rfl] at u1' u2'
      rw [c2, bnd_s, if_neg (show ¬ (1 : Int32) = 0 by decide), m2, bnd_s, if_neg (show ¬ (1 : Int32) = 0 by decide), q1, bnd_s, r1, bnd_s, m_laysBy, bnd_s, r2, bnd_s, u1', u2', m_laysBack, bnd_s]
      exact fin_best u3 (RR2_thought N hr (Fm.trans q2 r4) z2 z1.2.2)
    · rw [c2, bnd_s, if_pos rfl, m2, bnd_s, if_pos rfl]
      exact LkS_mk W0
  · rw [c1, bnd_s, if_pos rfl, m1, bnd_s, if_pos rfl]
    exact LkS_mk W0
