-- the next word, number or sign, on both sides
def scL (x : Nat → Nat) (L b : Nat) : Nat := sc (fun j => isLe (x j)) L b
def scD (x : Nat → Nat) (L b : Nat) : Nat := sc (fun j => isDg (x j)) L b
def tkS (x : Nat → Nat) (L : Nat) (tg : Bool) (b : Nat) : Nat := if b < L then (if isLe (x b) = true then (if tg = true then 4 else 1) else if isDg (x b) = true then (if tg = true then 4 else if 4 < scD x L b - b then 4 else 2) else 3) else 0
def tkE (x : Nat → Nat) (L b : Nat) : Nat := if b < L then (if isLe (x b) = true then scL x L b else if isDg (x b) = true then scD x L b else b + 1) else b
theorem scL_f {x : Nat → Nat} {L b : Nat} (hb : b < L) (h : isLe (x b) = true) : b < scL x L b ∧ scL x L b ≤ L := by
  unfold scL
  rw [sc_go (f := fun j => isLe (x j)) hb h]
  obtain ⟨q1, q2, -⟩ := sc_fact (f := fun j => isLe (x j)) (L := L) (L - (b + 1)) (b + 1) rfl (by omega)
  exact ⟨by omega, q2⟩
theorem scD_f {x : Nat → Nat} {L b : Nat} (hb : b < L) (h : isDg (x b) = true) : b < scD x L b ∧ scD x L b ≤ L ∧ ∀ q, b ≤ q → q < scD x L b → isDg (x q) = true := by
  obtain ⟨q1, q2, q3⟩ := sc_fact (f := fun j => isDg (x j)) (L := L) (L - b) b rfl (by omega)
  refine ⟨?_, q2, q3⟩
  unfold scD
  rw [sc_go (f := fun j => isDg (x j)) hb h]
  have := (sc_fact (f := fun j => isDg (x j)) (L := L) (L - (b + 1)) (b + 1) rfl (by omega)).1
  omega
set_option maxHeartbeats 1000000 in
theorem c_goT {x : Nat → Nat} {L b p : Nat} {s : Mem} (hc : CT x L s) (hb : s 4 0 4 = nI b) (hl : b ≤ L) (hp : p ≤ L) : ∃ s', goT (nI p) s = some s' ∧ s' 4 0 3 = nI (tkS x L (decide (b = p)) b) ∧ s' 4 0 4 = nI b ∧ s' 4 0 5 = nI (tkE x L b) ∧ (∀ g, g ≠ 4 → s' g = s g) ∧ (∀ k, k ≠ 3 → k ≠ 5 → s' 4 0 k = s 4 0 k) := by
  have h96 := hc.1
  unfold goT
  rw [hb]
  have c1 : CT x L (mput s 4 0 5 (nI b)) := hc.put (by decide)
  have c4 : mput s 4 0 5 (nI b) 4 0 4 = nI b := by rw [mp_k (by decide)]; exact hb
  have c5 : mput s 4 0 5 (nI b) 4 0 5 = nI b := mput_same
  have cg : ∀ g, g ≠ 4 → mput s 4 0 5 (nI b) g = s g := fun g hg => mp_g hg
  have ck : ∀ k, k ≠ 5 → mput s 4 0 5 (nI b) 4 0 k = s 4 0 k := fun k hk => mp_k hk
  generalize mput s 4 0 5 (nI b) = s1 at c1 c4 c5 cg ck
  rw [c4, c1.2.1]
  unfold tkS tkE
  by_cases hlt : b < L
  · obtain ⟨hv, e⟩ := c1.2.2 b hlt
    rw [if_pos (nI_lt hlt (by omega)), c_isLe e hv (by omega), bnd_s, if_pos hlt, if_pos hlt]
    by_cases hle : isLe (x b) = true
    · rw [bI_t hle, if_neg (show ¬ (1 : Int32) = 0 by decide), if_pos hle, if_pos hle, c_le (x := x) (L := L) (L - b) b FU (mput s1 4 0 3 1) _ (c1.put (by decide)) (by rw [mp_k (by decide)]; exact c5) hl rfl (fu_gt (by omega))]
      have k3 : mput (mput s1 4 0 3 1) 4 0 5 (nI (sc (fun j => isLe (x j)) L b)) 4 0 3 = 1 := by rw [mp_k (by decide), mput_same]
      have k4 : mput (mput s1 4 0 3 1) 4 0 5 (nI (sc (fun j => isLe (x j)) L b)) 4 0 4 = nI b := by rw [mp_k (by decide), mp_k (by decide)]; exact c4
      rw [k3, k4, if_neg (show ¬ (1 : Int32) = 3 by decide), if_neg (show ¬ (1 : Int32) = 2 by decide)]
      by_cases hbp : b = p
      · subst hbp
        rw [if_pos rfl, decide_eq_true rfl, if_pos rfl]
        refine ⟨_, rfl, mput_same, ?_, ?_, fun g hg => ?_, fun k h3 h5 => ?_⟩
        · rw [mp_k (by decide)]; exact k4
        · rw [mp_k (by decide), mput_same]; rfl
        · rw [mp_g hg, mp_g hg, mp_g hg, cg g hg]
        · rw [mp_k h3, mp_k h5, mp_k h3, ck k h5]
      · rw [if_neg (fun q => hbp ((nI_eq (by omega) (by omega)).mp q)), decide_eq_false hbp, if_neg (show ¬ (false = true) by decide)]
        refine ⟨_, rfl, k3, k4, mput_same, fun g hg => ?_, fun k h3 h5 => ?_⟩
        · rw [mp_g hg, mp_g hg, cg g hg]
        · rw [mp_k h5, mp_k h3, ck k h5]
    · rw [bI_f hle, if_pos rfl, c_isDg e hv (by omega), bnd_s, if_neg hle, if_neg hle]
      by_cases hdg : isDg (x b) = true
      · obtain ⟨f1, f2, -⟩ := scD_f hlt hdg
        rw [bI_t hdg, if_neg (show ¬ (1 : Int32) = 0 by decide), if_pos hdg, if_pos hdg, c_dg (x := x) (L := L) (L - b) b FU (mput s1 4 0 3 2) _ (c1.put (by decide)) (by rw [mp_k (by decide)]; exact c5) hl rfl (fu_gt (by omega))]
        have k3 : mput (mput s1 4 0 3 2) 4 0 5 (nI (sc (fun j => isDg (x j)) L b)) 4 0 3 = 2 := by rw [mp_k (by decide), mput_same]
        have k4 : mput (mput s1 4 0 3 2) 4 0 5 (nI (sc (fun j => isDg (x j)) L b)) 4 0 4 = nI b := by rw [mp_k (by decide), mp_k (by decide)]; exact c4
        have k5 : mput (mput s1 4 0 3 2) 4 0 5 (nI (sc (fun j => isDg (x j)) L b)) 4 0 5 = nI (scD x L b) := mput_same
        rw [k3, k4, k5, if_neg (show ¬ (2 : Int32) = 3 by decide), if_pos rfl, pk_sub (by omega)]
        by_cases hbp : b = p
        · subst hbp
          rw [if_pos rfl, decide_eq_true rfl, if_pos rfl]
          refine ⟨_, rfl, mput_same, ?_, ?_, fun g hg => ?_, fun k h3 h5 => ?_⟩
          · rw [mp_k (by decide)]; exact k4
          · rw [mp_k (by decide)]; exact k5
          · rw [mp_g hg, mp_g hg, mp_g hg, cg g hg]
          · rw [mp_k h3, mp_k h5, mp_k h3, ck k h5]
        · rw [if_neg (fun q => hbp ((nI_eq (by omega) (by omega)).mp q)), decide_eq_false hbp, if_neg (show ¬ (false = true) by decide)]
          by_cases h4 : 4 < scD x L b - b
          · rw [if_neg (show ¬ nI (scD x L b - b) ≤ 4 from nI_ge (a := 4) h4 (by omega)), if_pos h4]
            refine ⟨_, rfl, mput_same, ?_, ?_, fun g hg => ?_, fun k h3 h5 => ?_⟩
            · rw [mp_k (by decide)]; exact k4
            · rw [mp_k (by decide)]; exact k5
            · rw [mp_g hg, mp_g hg, mp_g hg, cg g hg]
            · rw [mp_k h3, mp_k h5, mp_k h3, ck k h5]
          · rw [if_pos (show nI (scD x L b - b) ≤ 4 from nI_le (b := 4) (by omega) (by decide)), if_neg h4]
            refine ⟨_, rfl, k3, k4, k5, fun g hg => ?_, fun k h3 h5 => ?_⟩
            · rw [mp_g hg, mp_g hg, cg g hg]
            · rw [mp_k h5, mp_k h3, ck k h5]
      · rw [bI_f hdg, if_pos rfl, bnd_s, if_neg hdg, if_neg hdg, mp_k (show 5 ≠ 3 by decide), c5, nI_s]
        have k3 : mput (mput s1 4 0 3 3) 4 0 5 (nI (b + 1)) 4 0 3 = 3 := by rw [mp_k (by decide), mput_same]
        rw [k3, if_pos rfl, if_neg (show ¬ (3 : Int32) = 2 by decide)]
        refine ⟨_, rfl, k3, ?_, mput_same, fun g hg => ?_, fun k h3 h5 => ?_⟩
        · rw [mp_k (by decide), mp_k (by decide)]; exact c4
        · rw [mp_g hg, mp_g hg, cg g hg]
        · rw [mp_k h5, mp_k h3, ck k h5]
  · rw [if_neg (nI_nlt (by omega) (by omega)), if_neg hlt, if_neg hlt]
    refine ⟨_, rfl, mput_same, ?_, ?_, fun g hg => ?_, fun k h3 h5 => ?_⟩
    · rw [mp_k (by decide)]; exact c4
    · rw [mp_k (by decide)]; exact c5
    · rw [mp_g hg, cg g hg]
    · rw [mp_k h3, ck k h5]
set_option maxHeartbeats 1000000 in
theorem c_goN {x : Nat → Nat} {L b : Nat} {p : Int32} {s : Mem} (hc : CT x L s) (hb : s 4 0 4 = nI b) (hl : b ≤ L) : ∃ s', goN p s = some s' ∧ s' 4 0 3 = nI (tkS x L false b) ∧ s' 4 0 4 = nI b ∧ s' 4 0 5 = nI (tkE x L b) ∧ (∀ g, g ≠ 4 → s' g = s g) ∧ (∀ k, k ≠ 3 → k ≠ 5 → s' 4 0 k = s 4 0 k) := by
  have h96 := hc.1
  unfold goN
  rw [hb]
  have c1 : CT x L (mput s 4 0 5 (nI b)) := hc.put (by decide)
  have c4 : mput s 4 0 5 (nI b) 4 0 4 = nI b := by rw [mp_k (by decide)]; exact hb
  have c5 : mput s 4 0 5 (nI b) 4 0 5 = nI b := mput_same
  have cg : ∀ g, g ≠ 4 → mput s 4 0 5 (nI b) g = s g := fun g hg => mp_g hg
  have ck : ∀ k, k ≠ 5 → mput s 4 0 5 (nI b) 4 0 k = s 4 0 k := fun k hk => mp_k hk
  generalize mput s 4 0 5 (nI b) = s1 at c1 c4 c5 cg ck
  rw [c4, c1.2.1]
  unfold tkS tkE
  by_cases hlt : b < L
  · obtain ⟨hv, e⟩ := c1.2.2 b hlt
    rw [if_pos (nI_lt hlt (by omega)), c_isLe e hv (by omega), bnd_s, if_pos hlt, if_pos hlt]
    by_cases hle : isLe (x b) = true
    · rw [bI_t hle, if_neg (show ¬ (1 : Int32) = 0 by decide), if_pos hle, if_pos hle, c_le (x := x) (L := L) (L - b) b FU (mput s1 4 0 3 1) _ (c1.put (by decide)) (by rw [mp_k (by decide)]; exact c5) hl rfl (fu_gt (by omega))]
      have k3 : mput (mput s1 4 0 3 1) 4 0 5 (nI (sc (fun j => isLe (x j)) L b)) 4 0 3 = 1 := by rw [mp_k (by decide), mput_same]
      have k4 : mput (mput s1 4 0 3 1) 4 0 5 (nI (sc (fun j => isLe (x j)) L b)) 4 0 4 = nI b := by rw [mp_k (by decide), mp_k (by decide)]; exact c4
      rw [k3, if_neg (show ¬ (1 : Int32) = 2 by decide), if_neg (show ¬ (false = true) by decide)]
      refine ⟨_, rfl, k3, k4, mput_same, fun g hg => ?_, fun k h3 h5 => ?_⟩
      · rw [mp_g hg, mp_g hg, cg g hg]
      · rw [mp_k h5, mp_k h3, ck k h5]
    · rw [bI_f hle, if_pos rfl, c_isDg e hv (by omega), bnd_s, if_neg hle, if_neg hle]
      by_cases hdg : isDg (x b) = true
      · obtain ⟨f1, f2, -⟩ := scD_f hlt hdg
        rw [bI_t hdg, if_neg (show ¬ (1 : Int32) = 0 by decide), if_pos hdg, if_pos hdg, c_dg (x := x) (L := L) (L - b) b FU (mput s1 4 0 3 2) _ (c1.put (by decide)) (by rw [mp_k (by decide)]; exact c5) hl rfl (fu_gt (by omega))]
        have k3 : mput (mput s1 4 0 3 2) 4 0 5 (nI (sc (fun j => isDg (x j)) L b)) 4 0 3 = 2 := by rw [mp_k (by decide), mput_same]
        have k4 : mput (mput s1 4 0 3 2) 4 0 5 (nI (sc (fun j => isDg (x j)) L b)) 4 0 4 = nI b := by rw [mp_k (by decide), mp_k (by decide)]; exact c4
        have k5 : mput (mput s1 4 0 3 2) 4 0 5 (nI (sc (fun j => isDg (x j)) L b)) 4 0 5 = nI (scD x L b) := mput_same
        rw [k3, k4, k5, if_pos rfl, pk_sub (by omega), if_neg (show ¬ (false = true) by decide)]
        by_cases h4 : 4 < scD x L b - b
        · rw [if_neg (show ¬ nI (scD x L b - b) ≤ 4 from nI_ge (a := 4) h4 (by omega)), if_pos h4]
          refine ⟨_, rfl, mput_same, ?_, ?_, fun g hg => ?_, fun k h3 h5 => ?_⟩
          · rw [mp_k (by decide)]; exact k4
          · rw [mp_k (by decide)]; exact k5
          · rw [mp_g hg, mp_g hg, mp_g hg, cg g hg]
          · rw [mp_k h3, mp_k h5, mp_k h3, ck k h5]
        · rw [if_pos (show nI (scD x L b - b) ≤ 4 from nI_le (b := 4) (by omega) (by decide)), if_neg h4]
          refine ⟨_, rfl, k3, k4, k5, fun g hg => ?_, fun k h3 h5 => ?_⟩
          · rw [mp_g hg, mp_g hg, cg g hg]
          · rw [mp_k h5, mp_k h3, ck k h5]
      · rw [bI_f hdg, if_pos rfl, bnd_s, if_neg hdg, if_neg hdg, mp_k (show 5 ≠ 3 by decide), c5, nI_s]
        have k3 : mput (mput s1 4 0 3 3) 4 0 5 (nI (b + 1)) 4 0 3 = 3 := by rw [mp_k (by decide), mput_same]
        rw [k3, if_neg (show ¬ (3 : Int32) = 2 by decide)]
        refine ⟨_, rfl, k3, ?_, mput_same, fun g hg => ?_, fun k h3 h5 => ?_⟩
        · rw [mp_k (by decide), mp_k (by decide)]; exact c4
        · rw [mp_g hg, mp_g hg, cg g hg]
        · rw [mp_k h5, mp_k h3, ck k h5]
  · rw [if_neg (nI_nlt (by omega) (by omega)), if_neg hlt, if_neg hlt]
    refine ⟨_, rfl, mput_same, ?_, ?_, fun g hg => ?_, fun k h3 h5 => ?_⟩
    · rw [mp_k (by decide)]; exact c4
    · rw [mp_k (by decide)]; exact c5
    · rw [mp_g hg, cg g hg]
    · rw [mp_k h3, ck k h5]
/-- what the reference's side has found -/
def MTk (x : Nat → Nat) (L : Nat) (tg : Bool) (b : Nat) (s s' : Mem) : Prop := s' 8 0 19 = nI (tkS x L tg b) ∧ s' 8 0 17 = nI b ∧ s' 8 0 18 = nI (tkE x L b) ∧ (b < L → isLe (x b) = true → s' 8 0 21 = (if tkE x L b = b + 1 then nI (x b) else 0)) ∧ (b < L → ¬ isLe (x b) = true → ¬ isDg (x b) = true → s' 8 0 21 = nI (x b)) ∧ (b < L → ¬ isLe (x b) = true → isDg (x b) = true → tkE x L b ≤ b + 4 → s' 8 0 20 = nI (nvN x b (tkE x L b - b) 0)) ∧ (∀ g, g ≠ 8 → s' g = s g) ∧ (∀ k, k < 17 ∨ 22 ≤ k → s' 8 0 k = s 8 0 k)
set_option maxHeartbeats 1000000 in
theorem m_nt {x : Nat → Nat} {L b : Nat} {s : Mem} (tg : Bool) (hc : MT x L s) (hb : s 8 0 18 = nI b) (hl : b ≤ L) : ∃ s', (if tg = true then ntT s else ntN s) = some s' ∧ MTk x L tg b s s' := by
  have h96 := hc.1
  have c1 : MT x L (mput s 8 0 17 (nI b)) := hc.put (by decide)
  have c17 : mput s 8 0 17 (nI b) 8 0 17 = nI b := mput_same
  have c18 : mput s 8 0 17 (nI b) 8 0 18 = nI b := by rw [mp_k (by decide)]; exact hb
  have cg : ∀ g, g ≠ 8 → mput s 8 0 17 (nI b) g = s g := fun g hg => mp_g hg
  have ck : ∀ k, k < 17 ∨ 22 ≤ k → mput s 8 0 17 (nI b) 8 0 k = s 8 0 k := fun k hk => mp_k (by omega)
  unfold ntT ntN MTk
  rw [hb]
  generalize mput s 8 0 17 (nI b) = s1 at c1 c17 c18 cg ck
  rw [c17, c1.2.1]
  unfold tkS tkE
  by_cases hlt : b < L
  · obtain ⟨hv, e⟩ := c1.2.2 b hlt
    have nl : ¬ nI b = nI L := fun q => by have := (nI_eq (by omega) (by omega)).mp q; omega
    have iL : f_X8_isLetter (nI b) s1 = some (bI (b < L ∧ isLe (x b) = true)) := m_isLe c1.2.1 h96 hl (fun _ => ⟨e, hv⟩)
    have iD : f_X8_isDigit (nI b) s1 = some (bI (b < L ∧ isDg (x b) = true)) := m_isDg c1.2.1 h96 hl (fun _ => ⟨e, hv⟩)
    simp only [if_neg nl, iL, bnd_s, if_pos hlt]
    by_cases hle : isLe (x b) = true
    · obtain ⟨f1, f2⟩ := scL_f hlt hle
      have ml : ∀ (a : Int32) (K : Mem → Option Mem), f_X8_nextToken_128 a FU s1 K = K (mput s1 8 0 18 (nI (scL x L b))) := fun a K => m_le (x := x) (L := L) (L - b) b FU s1 K c1 c18 hl rfl (fu_gt (by omega))
      have i96 : ix 96 (nI b) = some b := ix_nI (by omega) (by decide)
      have es : nI (scL x L b) - nI b = nI (scL x L b - b) := pk_sub (by omega)
      have e36 : mput s1 8 0 18 (nI (scL x L b)) 36 = s1 36 := mp_g (by decide)
      have w18 : ∀ v, mput (mput s1 8 0 18 (nI (scL x L b))) 8 0 19 v 8 0 18 = nI (scL x L b) := fun v => by rw [mp_k (by decide), mput_same]
      have w17 : ∀ v, mput (mput s1 8 0 18 (nI (scL x L b))) 8 0 19 v 8 0 17 = nI b := fun v => by rw [mp_k (by decide), mp_k (by decide)]; exact c17
      have w36 : ∀ v, mput (mput s1 8 0 18 (nI (scL x L b))) 8 0 19 v 36 0 b = nI (x b) := fun v => by rw [mp_g (by decide), e36]; exact e
      simp only [bI_t (show b < L ∧ isLe (x b) = true from ⟨hlt, hle⟩), e10, if_false, if_pos hle, ml, w18, w17, es, i96, bnd_s, w36]
      by_cases h1 : scL x L b = b + 1
      · have q1 : nI (scL x L b - b) = 1 := by rw [h1, show b + 1 - b = 1 by omega]; rfl
        cases tg
        · simp only [Bool.false_eq_true, if_false, if_pos q1, if_pos h1]
          refine ⟨_, rfl, ?_, ?_, ?_, fun _ _ => mput_same, fun _ q => absurd hle q, fun _ q => absurd hle q, fun g hg => ?_, fun k hk => ?_⟩
          · rw [mp_k (by decide), mput_same]; rfl
          · rw [mp_k (by decide)]; exact w17 _
          · rw [mp_k (by decide)]; exact w18 _
          · rw [mp_g hg, mp_g hg, mp_g hg, cg g hg]
          · rw [mp_k (by omega), mp_k (by omega), mp_k (by omega), ck k hk]
        · simp only [if_true, if_pos q1, if_pos h1]
          refine ⟨_, rfl, ?_, ?_, ?_, fun _ _ => mput_same, fun _ q => absurd hle q, fun _ q => absurd hle q, fun g hg => ?_, fun k hk => ?_⟩
          · rw [mp_k (by decide), mput_same]; rfl
          · rw [mp_k (by decide)]; exact w17 _
          · rw [mp_k (by decide)]; exact w18 _
          · rw [mp_g hg, mp_g hg, mp_g hg, cg g hg]
          · rw [mp_k (by omega), mp_k (by omega), mp_k (by omega), ck k hk]
      · have q1 : ¬ nI (scL x L b - b) = 1 := fun q => by have := (nI_eq (a := scL x L b - b) (b := 1) (by omega) (by decide)).mp q; omega
        cases tg
        · simp only [Bool.false_eq_true, if_false, if_neg q1, if_neg h1]
          refine ⟨_, rfl, ?_, ?_, ?_, fun _ _ => mput_same, fun _ q => absurd hle q, fun _ q => absurd hle q, fun g hg => ?_, fun k hk => ?_⟩
          · rw [mp_k (by decide), mput_same]; rfl
          · rw [mp_k (by decide)]; exact w17 _
          · rw [mp_k (by decide)]; exact w18 _
          · rw [mp_g hg, mp_g hg, mp_g hg, cg g hg]
          · rw [mp_k (by omega), mp_k (by omega), mp_k (by omega), ck k hk]
        · simp only [if_true, if_neg q1, if_neg h1]
          refine ⟨_, rfl, ?_, ?_, ?_, fun _ _ => mput_same, fun _ q => absurd hle q, fun _ q => absurd hle q, fun g hg => ?_, fun k hk => ?_⟩
          · rw [mp_k (by decide), mput_same]; rfl
          · rw [mp_k (by decide)]; exact w17 _
          · rw [mp_k (by decide)]; exact w18 _
          · rw [mp_g hg, mp_g hg, mp_g hg, cg g hg]
          · rw [mp_k (by omega), mp_k (by omega), mp_k (by omega), ck k hk]
    · simp only [bI_f (show ¬ (b < L ∧ isLe (x b) = true) from fun q => hle q.2), e01, if_true, if_neg hle, iD, bnd_s]
      by_cases hdg : isDg (x b) = true
      · obtain ⟨f1, f2, -⟩ := scD_f hlt hdg
        obtain ⟨s2, d1, d2, d3, d4, d5⟩ := m_dg (x := x) (L := L) (b := b) (a := 0) (L - b) b FU 0 (mput s1 8 0 20 0) (c1.put (by decide)) (by rw [mp_k (by decide)]; exact c18) (by rw [mp_k (by decide)]; exact c17) mput_same (Nat.le_refl _) hl rfl (fu_gt (by omega))
        obtain ⟨s3, g1, g2, g3, g4, g5⟩ := m_dg (x := x) (L := L) (b := b) (a := 1) (L - b) b FU 0 (mput s1 8 0 20 0) (c1.put (by decide)) (by rw [mp_k (by decide)]; exact c18) (by rw [mp_k (by decide)]; exact c17) mput_same (Nat.le_refl _) hl rfl (fu_gt (by omega))
        have e2 : s2 8 0 18 = nI (scD x L b) := d2
        have e3 : s2 8 0 17 = nI b := by rw [d5 17 (by decide) (by decide), mp_k (by decide)]; exact c17
        have es : nI (scD x L b) - nI b = nI (scD x L b - b) := pk_sub (by omega)
        simp only [bI_t (show b < L ∧ isDg (x b) = true from ⟨hlt, hdg⟩), e10, if_false, if_pos hdg, d1, g1, e2, e3, es]
        cases tg
        · simp only [Bool.false_eq_true, if_false]
          by_cases h4 : 4 < scD x L b - b
          · rw [if_neg (show ¬ nI (scD x L b - b) ≤ 4 from nI_ge (a := 4) h4 (by omega)), if_pos h4]
            refine ⟨_, rfl, mput_same, ?_, ?_, fun _ q => absurd q hle, fun _ _ q => absurd hdg q, fun _ _ _ q => by omega, fun g hg => ?_, fun k hk => ?_⟩
            · rw [mp_k (by decide)]; exact e3
            · rw [mp_k (by decide)]; exact e2
            · rw [mp_g hg, d4 g hg, mp_g hg, cg g hg]
            · rw [mp_k (by omega), d5 k (by omega) (by omega), mp_k (by omega), ck k hk]
          · rw [if_pos (show nI (scD x L b - b) ≤ 4 from nI_le (b := 4) (by omega) (by decide)), if_neg h4]
            refine ⟨_, rfl, mput_same, ?_, ?_, fun _ q => absurd q hle, fun _ _ q => absurd hdg q, fun _ _ _ q => ?_, fun g hg => ?_, fun k hk => ?_⟩
            · rw [mp_k (by decide)]; exact e3
            · rw [mp_k (by decide)]; exact e2
            · rw [mp_k (by decide)]; exact d3 q
            · rw [mp_g hg, d4 g hg, mp_g hg, cg g hg]
            · rw [mp_k (by omega), d5 k (by omega) (by omega), mp_k (by omega), ck k hk]
        · simp only [if_true]
          refine ⟨_, rfl, mput_same, ?_, ?_, fun _ q => absurd q hle, fun _ _ q => absurd hdg q, fun _ _ _ q => ?_, fun g hg => ?_, fun k hk => ?_⟩
          · rw [mp_k (by decide), g5 17 (by decide) (by decide), mp_k (by decide)]; exact c17
          · rw [mp_k (by decide)]; exact g2
          · rw [mp_k (by decide)]; exact g3 q
          · rw [mp_g hg, g4 g hg, mp_g hg, cg g hg]
          · rw [mp_k (by omega), g5 k (by omega) (by omega), mp_k (by omega), ck k hk]
      · have i96 : ix 96 (nI b) = some b := ix_nI (by omega) (by decide)
        have w17 : mput s1 8 0 19 3 8 0 17 = nI b := by rw [mp_k (by decide)]; exact c17
        have w36 : mput s1 8 0 19 3 36 0 b = nI (x b) := by rw [mp_g (by decide)]; exact e
        have w18 : mput (mput s1 8 0 19 3) 8 0 21 (nI (x b)) 8 0 18 = nI b := by rw [mp_k (by decide), mp_k (by decide)]; exact c18
        simp only [bI_f (show ¬ (b < L ∧ isDg (x b) = true) from fun q => hdg q.2), e01, if_true, if_neg hdg, w17, i96, bnd_s, w36, w18, nI_s, ite_self]
        refine ⟨_, rfl, ?_, ?_, mput_same, fun _ q => absurd q hle, fun _ _ _ => ?_, fun _ _ q => absurd q hdg, fun g hg => ?_, fun k hk => ?_⟩
        · rw [mp_k (by decide), mp_k (by decide), mput_same]; rfl
        · rw [mp_k (by decide), mp_k (by decide)]; exact w17
        · rw [mp_k (by decide), mput_same]
        · rw [mp_g hg, mp_g hg, mp_g hg, cg g hg]
        · rw [mp_k (by omega), mp_k (by omega), mp_k (by omega), ck k hk]
  · have hbl : b = L := by omega
    subst hbl
    simp only [if_true, if_neg hlt, ite_self]
    refine ⟨_, rfl, mput_same, ?_, ?_, fun q => absurd q hlt, fun q => absurd q hlt, fun q => absurd q hlt, fun g hg => ?_, fun k hk => ?_⟩
    · rw [mp_k (by decide)]; exact c17
    · rw [mp_k (by decide)]; exact c18
    · rw [mp_g hg, cg g hg]
    · rw [mp_k (by omega), ck k hk]
/-- the word or sign that is looked at, on both sides -/
def TK (x : Nat → Nat) (L s b e : Nat) (σ τ : Mem) : Prop := σ 4 0 3 = nI s ∧ τ 8 0 19 = nI s ∧ σ 4 0 4 = nI b ∧ τ 8 0 17 = nI b ∧ σ 4 0 5 = nI e ∧ τ 8 0 18 = nI e ∧ b ≤ e ∧ e ≤ L ∧ s ≤ 4 ∧ (s ≠ 0 → b < e) ∧
  (s = 1 → isLe (x b) = true ∧ τ 8 0 21 = (if e = b + 1 then nI (x b) else 0)) ∧ (s = 3 → e = b + 1 ∧ τ 8 0 21 = nI (x b)) ∧
  (s = 2 → e ≤ b + 4 ∧ (∀ q, b ≤ q → q < e → isDg (x q) = true) ∧ τ 8 0 20 = nI (nvN x b (e - b) 0))
theorem TK_of {x : Nat → Nat} {L b : Nat} {tg : Bool} {s σ' τ' : Mem} (hb : b ≤ L) (h3 : σ' 4 0 3 = nI (tkS x L tg b)) (h4 : σ' 4 0 4 = nI b) (h5 : σ' 4 0 5 = nI (tkE x L b)) (hm : MTk x L tg b s τ') : TK x L (tkS x L tg b) b (tkE x L b) σ' τ' := by
  obtain ⟨m1, m2, m3, m4, m5, m6, -, -⟩ := hm
  refine ⟨h3, m1, h4, m2, h5, m3, ?_⟩
  unfold tkS tkE
  unfold tkE at m4 m6
  by_cases hlt : b < L
  · rw [if_pos hlt] at m4 m6 ⊢
    rw [if_pos hlt]
    by_cases hle : isLe (x b) = true
    · obtain ⟨f1, f2⟩ := scL_f hlt hle
      rw [if_pos hle] at m4 ⊢
      rw [if_pos hle]
      refine ⟨by omega, by omega, by cases tg <;> decide, fun _ => f1, fun _ => ⟨hle, m4 hlt hle⟩, fun q => ?_, fun q => ?_⟩
      · cases tg <;> exact absurd q (by decide)
      · cases tg <;> exact absurd q (by decide)
    · rw [if_neg hle] at m6 ⊢
      rw [if_neg hle]
      by_cases hdg : isDg (x b) = true
      · obtain ⟨f1, f2, f3⟩ := scD_f hlt hdg
        rw [if_pos hdg] at m6 ⊢
        rw [if_pos hdg]
        cases tg
        · simp only [Bool.false_eq_true, if_false]
          by_cases h4 : 4 < scD x L b - b
          · rw [if_pos h4]
            exact ⟨by omega, by omega, by decide, fun _ => f1, fun q => by omega, fun q => by omega, fun q => by omega⟩
          · rw [if_neg h4]
            exact ⟨by omega, by omega, by decide, fun _ => f1, fun q => by omega, fun q => by omega, fun _ => ⟨by omega, f3, m6 hlt hle hdg (by omega)⟩⟩
        · simp only [if_true]
          exact ⟨by omega, by omega, by decide, fun _ => f1, fun q => by omega, fun q => by omega, fun q => by omega⟩
      · rw [if_neg hdg, if_neg hdg]
        exact ⟨by omega, by omega, by decide, fun _ => by omega, fun q => by omega, fun _ => ⟨rfl, m5 hlt hle hdg⟩, fun q => by omega⟩
  · rw [if_neg hlt, if_neg hlt]
    exact ⟨Nat.le_refl _, hb, by decide, fun q => absurd rfl q, fun q => by omega, fun q => by omega, fun q => by omega⟩
theorem ls_goOn {x : Nat → Nat} {L e0 s0 s1 : Nat} {σ τ : Mem} (hc : CT x L σ) (hm : MT x L τ) (h5 : σ 4 0 5 = nI e0) (h18 : τ 8 0 18 = nI e0) (he : e0 ≤ L) (h3 : σ 4 0 3 = nI s0) (h19 : τ 8 0 19 = nI s1) (hs0 : s0 ≤ 4) (hs1 : s1 ≤ 4) (hw : (s0 = 1 ∨ s0 = 2) ↔ (s1 = 1 ∨ s1 = 2)) (hp : s1 = 1 ∨ s1 = 2 → 0 < e0) :
    ∃ σ' τ' s b e, f_X4_goOn σ = some σ' ∧ f_X8_nextToken τ = some τ' ∧ TK x L s b e σ' τ' ∧ e0 ≤ b ∧ CT x L σ' ∧ MT x L τ' ∧ (∀ g, g ≠ 4 → σ' g = σ g) ∧ (∀ k, k ≠ 3 → k ≠ 4 → k ≠ 5 → σ' 4 0 k = σ 4 0 k) ∧ (∀ g, g ≠ 8 → τ' g = τ g) ∧ (∀ k, k < 17 ∨ 22 ≤ k → τ' 8 0 k = τ 8 0 k) := by
  have h96 := hc.1
  obtain ⟨b1, b2, -⟩ := sc_fact (f := fun j => isBl (x j)) (L := L) (L - e0) e0 rfl he
  generalize hbd : sc (fun j => isBl (x j)) L e0 = b at b1 b2
  have cs : ∀ (p q : Int32) (K : Mem → Option Mem), f_X4_goOn_35 p q FU (mput σ 4 0 4 (nI e0)) K = K (mput σ 4 0 4 (nI b)) := fun p q K => by
    rw [c_sp (x := x) (L := L) (L - e0) e0 FU (mput σ 4 0 4 (nI e0)) K (hc.put (by decide)) mput_same he rfl (fu_gt (by omega)), mput_mput, hbd]
  have ms : ∀ (p q : Int32) (K : Mem → Option Mem), f_X8_nextToken_34 p q FU τ K = K (mput τ 8 0 18 (nI b)) := fun p q K => by
    rw [m_sp (x := x) (L := L) (L - e0) e0 FU τ K hm h18 he rfl (fu_gt (by omega)), hbd]
  have c4 : mput σ 4 0 4 (nI b) 4 0 4 = nI b := mput_same
  have cc : CT x L (mput σ 4 0 4 (nI b)) := hc.put (by decide)
  have mm : MT x L (mput τ 8 0 18 (nI b)) := hm.put (by decide)
  have m18 : mput τ 8 0 18 (nI b) 8 0 18 = nI b := mput_same
  have fin : ∀ (tg : Bool) (σ' τ' : Mem), f_X4_goOn σ = some σ' → f_X8_nextToken τ = some τ' → σ' 4 0 3 = nI (tkS x L tg b) → σ' 4 0 4 = nI b → σ' 4 0 5 = nI (tkE x L b) → (∀ g, g ≠ 4 → σ' g = mput σ 4 0 4 (nI b) g) → (∀ k, k ≠ 3 → k ≠ 5 → σ' 4 0 k = mput σ 4 0 4 (nI b) 4 0 k) → MTk x L tg b (mput τ 8 0 18 (nI b)) τ' →
      ∃ σ' τ' s b e, f_X4_goOn σ = some σ' ∧ f_X8_nextToken τ = some τ' ∧ TK x L s b e σ' τ' ∧ e0 ≤ b ∧ CT x L σ' ∧ MT x L τ' ∧ (∀ g, g ≠ 4 → σ' g = σ g) ∧ (∀ k, k ≠ 3 → k ≠ 4 → k ≠ 5 → σ' 4 0 k = σ 4 0 k) ∧ (∀ g, g ≠ 8 → τ' g = τ g) ∧ (∀ k, k < 17 ∨ 22 ≤ k → τ' 8 0 k = τ 8 0 k) := by
    intro tg σ' τ' q1 q2 q3 q4 q5 q6 q7 q8
    have r1 : ∀ g, g ≠ 4 → σ' g = σ g := fun g hg => by rw [q6 g hg, mp_g hg]
    have r2 : ∀ k, k ≠ 3 → k ≠ 4 → k ≠ 5 → σ' 4 0 k = σ 4 0 k := fun k x3 x4 x5 => by rw [q7 k x3 x5, mp_k x4]
    have r3 : ∀ g, g ≠ 8 → τ' g = τ g := fun g hg => by rw [q8.2.2.2.2.2.2.1 g hg, mp_g hg]
    have r4 : ∀ k, k < 17 ∨ 22 ≤ k → τ' 8 0 k = τ 8 0 k := fun k hk => by rw [q8.2.2.2.2.2.2.2 k hk, mp_k (by omega)]
    exact ⟨σ', τ', _, b, _, q1, q2, TK_of b2 q3 q4 q5 q8, b1, ⟨h96, by rw [r2 1 (by decide) (by decide) (by decide)]; exact hc.2.1, by rw [r1 17 (by decide)]; exact hc.2.2⟩, ⟨h96, by rw [r4 16 (by decide)]; exact hm.2.1, by rw [r3 36 (by decide)]; exact hm.2.2⟩, r1, r2, r3, r4⟩
  by_cases hword : s1 = 1 ∨ s1 = 2
  · have hpos := hp hword
    have hw0 := hw.mpr hword
    obtain ⟨σ', q1, q2, q3, q4, q5, q6⟩ := c_goT (p := e0) cc c4 b2 he
    obtain ⟨τ', r1, r2⟩ := m_nt (decide (b = e0)) mm m18 b2
    refine fin (decide (b = e0)) σ' τ' ?_ ?_ q2 q3 q4 q5 q6 r2
    · rw [go_eq, h3, h5, cs]
      rcases hw0 with rfl | rfl
      · rw [if_pos (show nI 1 = 1 from rfl)]; exact q1
      · rw [if_neg (show ¬ nI 2 = 1 by decide), if_pos (show nI 2 = 2 from rfl)]; exact q1
    · have K2 : (fun σ_4 : Mem => if nI e0 = σ_4 8 0 18 then ntT σ_4 else ntN σ_4) (mput τ 8 0 18 (nI b)) = some τ' := by
        show (if nI e0 = mput τ 8 0 18 (nI b) 8 0 18 then _ else _) = _
        rw [m18, ← r1]
        by_cases hbe : b = e0
        · subst hbe
          rw [if_pos rfl, decide_eq_true rfl, if_pos rfl]
        · rw [if_neg (fun q => hbe ((nI_eq (by omega) (by omega)).mp q).symm), decide_eq_false hbe, if_neg (show ¬ (false = true) by decide)]
      rw [nt_eq, h18, h19, if_neg (nI_nle hpos (by omega)), ms]
      rcases hword with rfl | rfl
      · rw [if_pos (show nI 1 = 1 from rfl)]; exact K2
      · rw [if_neg (show ¬ nI 2 = 1 by decide), if_pos (show nI 2 = 2 from rfl)]; exact K2
  · have hw0 : ¬ (s0 = 1 ∨ s0 = 2) := fun q => hword (hw.mp q)
    obtain ⟨σ', q1, q2, q3, q4, q5, q6⟩ := c_goN (p := nI e0) cc c4 b2
    obtain ⟨τ', r1, r2⟩ := m_nt false mm m18 b2
    rw [if_neg (show ¬ (false = true) by decide)] at r1
    refine fin false σ' τ' ?_ ?_ q2 q3 q4 q5 q6 r2
    · rw [go_eq, h3, h5, cs, cs, if_neg (show ¬ nI s0 = 1 from fun q => by have := (nI_eq (a := s0) (b := 1) (by omega) (by decide)).mp q; omega), if_neg (show ¬ nI s0 = 2 from fun q => by have := (nI_eq (a := s0) (b := 2) (by omega) (by decide)).mp q; omega)]
      exact q1
    · rw [nt_eq, h18, h19, ms, ms, if_neg (show ¬ nI s1 = 1 from fun q => by have := (nI_eq (a := s1) (b := 1) (by omega) (by decide)).mp q; omega), if_neg (show ¬ nI s1 = 2 from fun q => by have := (nI_eq (a := s1) (b := 2) (by omega) (by decide)).mp q; omega), ite_self]
      exact r1
