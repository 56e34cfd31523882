-- words and signs of the tape
noncomputable def ntN (σ_1 : Mem) : Option Mem :=
  (if ((mput σ_1 8 0 17 (σ_1 8 0 18)) 8 0 17) = ((mput σ_1 8 0 17 (σ_1 8 0 18)) 8 0 16) then (some (mput (mput σ_1 8 0 17 (σ_1 8 0 18)) 8 0 19 (0 : Int32))) else (bnd (f_X8_isLetter ((mput σ_1 8 0 17 (σ_1 8 0 18)) 8 0 17) (mput σ_1 8 0 17 (σ_1 8 0 18))) (fun a1 => (if a1 = 0 then (bnd (f_X8_isDigit ((mput σ_1 8 0 17 (σ_1 8 0 18)) 8 0 17) (mput σ_1 8 0 17 (σ_1 8 0 18))) (fun a2 => (if a2 = 0 then (bnd (ix 96 ((mput (mput σ_1 8 0 17 (σ_1 8 0 18)) 8 0 19 (3 : Int32)) 8 0 17)) (fun j1 => (bnd (some (mput (mput (mput σ_1 8 0 17 (σ_1 8 0 18)) 8 0 19 (3 : Int32)) 8 0 21 ((mput (mput σ_1 8 0 17 (σ_1 8 0 18)) 8 0 19 (3 : Int32)) 36 0 j1))) (fun s1 => (some (mput s1 8 0 18 ((s1 8 0 18) + (1 : Int32)))))))) else (f_X8_nextToken_214 (0 : Int32) FU (mput (mput σ_1 8 0 17 (σ_1 8 0 18)) 8 0 20 (0 : Int32)) (fun σ_2 => (if ((σ_2 8 0 18) - (σ_2 8 0 17)) ≤ (4 : Int32) then (some (mput σ_2 8 0 19 (2 : Int32))) else (some (mput σ_2 8 0 19 (4 : Int32))))))))) else (f_X8_nextToken_128 (0 : Int32) FU (mput σ_1 8 0 17 (σ_1 8 0 18)) (fun σ_3 => (if (((mput σ_3 8 0 19 (1 : Int32)) 8 0 18) - ((mput σ_3 8 0 19 (1 : Int32)) 8 0 17)) = (1 : Int32) then (bnd (ix 96 ((mput σ_3 8 0 19 (1 : Int32)) 8 0 17)) (fun j2 => (some (mput (mput σ_3 8 0 19 (1 : Int32)) 8 0 21 ((mput σ_3 8 0 19 (1 : Int32)) 36 0 j2))))) else (some (mput (mput σ_3 8 0 19 (1 : Int32)) 8 0 21 (0 : Int32))))))))))
noncomputable def ntT (σ_4 : Mem) : Option Mem :=
  (if ((mput σ_4 8 0 17 (σ_4 8 0 18)) 8 0 17) = ((mput σ_4 8 0 17 (σ_4 8 0 18)) 8 0 16) then (some (mput (mput σ_4 8 0 17 (σ_4 8 0 18)) 8 0 19 (0 : Int32))) else (bnd (f_X8_isLetter ((mput σ_4 8 0 17 (σ_4 8 0 18)) 8 0 17) (mput σ_4 8 0 17 (σ_4 8 0 18))) (fun a5 => (if a5 = 0 then (bnd (f_X8_isDigit ((mput σ_4 8 0 17 (σ_4 8 0 18)) 8 0 17) (mput σ_4 8 0 17 (σ_4 8 0 18))) (fun a6 => (if a6 = 0 then (bnd (ix 96 ((mput (mput σ_4 8 0 17 (σ_4 8 0 18)) 8 0 19 (3 : Int32)) 8 0 17)) (fun j5 => (bnd (some (mput (mput (mput σ_4 8 0 17 (σ_4 8 0 18)) 8 0 19 (3 : Int32)) 8 0 21 ((mput (mput σ_4 8 0 17 (σ_4 8 0 18)) 8 0 19 (3 : Int32)) 36 0 j5))) (fun s3 => (some (mput s3 8 0 18 ((s3 8 0 18) + (1 : Int32)))))))) else (f_X8_nextToken_214 (1 : Int32) FU (mput (mput σ_4 8 0 17 (σ_4 8 0 18)) 8 0 20 (0 : Int32)) (fun σ_7 => (some (mput σ_7 8 0 19 (4 : Int32)))))))) else (f_X8_nextToken_128 (1 : Int32) FU (mput σ_4 8 0 17 (σ_4 8 0 18)) (fun σ_8 => (if (((mput σ_8 8 0 19 (4 : Int32)) 8 0 18) - ((mput σ_8 8 0 19 (4 : Int32)) 8 0 17)) = (1 : Int32) then (bnd (ix 96 ((mput σ_8 8 0 19 (4 : Int32)) 8 0 17)) (fun j6 => (some (mput (mput σ_8 8 0 19 (4 : Int32)) 8 0 21 ((mput σ_8 8 0 19 (4 : Int32)) 36 0 j6))))) else (some (mput (mput σ_8 8 0 19 (4 : Int32)) 8 0 21 (0 : Int32))))))))))
noncomputable def goT (p : Int32) (σ_1 : Mem) : Option Mem :=
  (if ((mput σ_1 4 0 5 (σ_1 4 0 4)) 4 0 4) < ((mput σ_1 4 0 5 (σ_1 4 0 4)) 4 0 1) then (bnd (f_X4_isLetter ((mput σ_1 4 0 5 (σ_1 4 0 4)) 4 0 4) (mput σ_1 4 0 5 (σ_1 4 0 4))) (fun a1 => (if a1 = 0 then (bnd (f_X4_isDigit ((mput σ_1 4 0 5 (σ_1 4 0 4)) 4 0 4) (mput σ_1 4 0 5 (σ_1 4 0 4))) (fun a2 => (if a2 = 0 then (bnd (some (mput (mput (mput σ_1 4 0 5 (σ_1 4 0 4)) 4 0 3 (3 : Int32)) 4 0 5 (((mput (mput σ_1 4 0 5 (σ_1 4 0 4)) 4 0 3 (3 : Int32)) 4 0 5) + (1 : Int32)))) (fun s1 => (if (s1 4 0 3) = (3 : Int32) then (if (s1 4 0 3) = (2 : Int32) then (if ((s1 4 0 5) - (s1 4 0 4)) ≤ (4 : Int32) then (some s1) else (some (mput s1 4 0 3 (4 : Int32)))) else (some s1)) else (if (s1 4 0 4) = p then (some (mput s1 4 0 3 (4 : Int32))) else (if (s1 4 0 3) = (2 : Int32) then (if ((s1 4 0 5) - (s1 4 0 4)) ≤ (4 : Int32) then (some s1) else (some (mput s1 4 0 3 (4 : Int32)))) else (some s1)))))) else (f_X4_goOn_165 p (1 : Int32) FU (mput (mput σ_1 4 0 5 (σ_1 4 0 4)) 4 0 3 (2 : Int32)) (fun σ_2 => (if (σ_2 4 0 3) = (3 : Int32) then (if (σ_2 4 0 3) = (2 : Int32) then (if ((σ_2 4 0 5) - (σ_2 4 0 4)) ≤ (4 : Int32) then (some σ_2) else (some (mput σ_2 4 0 3 (4 : Int32)))) else (some σ_2)) else (if (σ_2 4 0 4) = p then (some (mput σ_2 4 0 3 (4 : Int32))) else (if (σ_2 4 0 3) = (2 : Int32) then (if ((σ_2 4 0 5) - (σ_2 4 0 4)) ≤ (4 : Int32) then (some σ_2) else (some (mput σ_2 4 0 3 (4 : Int32)))) else (some σ_2))))))))) else (f_X4_goOn_114 p (1 : Int32) FU (mput (mput σ_1 4 0 5 (σ_1 4 0 4)) 4 0 3 (1 : Int32)) (fun σ_3 => (if (σ_3 4 0 3) = (3 : Int32) then (if (σ_3 4 0 3) = (2 : Int32) then (if ((σ_3 4 0 5) - (σ_3 4 0 4)) ≤ (4 : Int32) then (some σ_3) else (some (mput σ_3 4 0 3 (4 : Int32)))) else (some σ_3)) else (if (σ_3 4 0 4) = p then (some (mput σ_3 4 0 3 (4 : Int32))) else (if (σ_3 4 0 3) = (2 : Int32) then (if ((σ_3 4 0 5) - (σ_3 4 0 4)) ≤ (4 : Int32) then (some σ_3) else (some (mput σ_3 4 0 3 (4 : Int32)))) else (some σ_3))))))))) else (some (mput (mput σ_1 4 0 5 (σ_1 4 0 4)) 4 0 3 (0 : Int32))))
noncomputable def goN (p : Int32) (σ_4 : Mem) : Option Mem :=
  (if ((mput σ_4 4 0 5 (σ_4 4 0 4)) 4 0 4) < ((mput σ_4 4 0 5 (σ_4 4 0 4)) 4 0 1) then (bnd (f_X4_isLetter ((mput σ_4 4 0 5 (σ_4 4 0 4)) 4 0 4) (mput σ_4 4 0 5 (σ_4 4 0 4))) (fun a3 => (if a3 = 0 then (bnd (f_X4_isDigit ((mput σ_4 4 0 5 (σ_4 4 0 4)) 4 0 4) (mput σ_4 4 0 5 (σ_4 4 0 4))) (fun a4 => (if a4 = 0 then (bnd (some (mput (mput (mput σ_4 4 0 5 (σ_4 4 0 4)) 4 0 3 (3 : Int32)) 4 0 5 (((mput (mput σ_4 4 0 5 (σ_4 4 0 4)) 4 0 3 (3 : Int32)) 4 0 5) + (1 : Int32)))) (fun s2 => (if (s2 4 0 3) = (2 : Int32) then (if ((s2 4 0 5) - (s2 4 0 4)) ≤ (4 : Int32) then (some s2) else (some (mput s2 4 0 3 (4 : Int32)))) else (some s2)))) else (f_X4_goOn_165 p (0 : Int32) FU (mput (mput σ_4 4 0 5 (σ_4 4 0 4)) 4 0 3 (2 : Int32)) (fun σ_5 => (if (σ_5 4 0 3) = (2 : Int32) then (if ((σ_5 4 0 5) - (σ_5 4 0 4)) ≤ (4 : Int32) then (some σ_5) else (some (mput σ_5 4 0 3 (4 : Int32)))) else (some σ_5))))))) else (f_X4_goOn_114 p (0 : Int32) FU (mput (mput σ_4 4 0 5 (σ_4 4 0 4)) 4 0 3 (1 : Int32)) (fun σ_6 => (if (σ_6 4 0 3) = (2 : Int32) then (if ((σ_6 4 0 5) - (σ_6 4 0 4)) ≤ (4 : Int32) then (some σ_6) else (some (mput σ_6 4 0 3 (4 : Int32)))) else (some σ_6))))))) else (some (mput (mput σ_4 4 0 5 (σ_4 4 0 4)) 4 0 3 (0 : Int32))))
theorem nt_eq (σ : Mem) : f_X8_nextToken σ = (if (σ 8 0 18) ≤ 0 then (f_X8_nextToken_34 0 (σ 8 0 18) FU σ ntN) else (if (σ 8 0 19) = (1 : Int32) then (f_X8_nextToken_34 1 (σ 8 0 18) FU σ (fun σ_4 => if (σ 8 0 18) = (σ_4 8 0 18) then ntT σ_4 else ntN σ_4)) else (if (σ 8 0 19) = (2 : Int32) then (f_X8_nextToken_34 1 (σ 8 0 18) FU σ (fun σ_4 => if (σ 8 0 18) = (σ_4 8 0 18) then ntT σ_4 else ntN σ_4)) else (f_X8_nextToken_34 0 (σ 8 0 18) FU σ ntN)))) := rfl
theorem go_eq (σ : Mem) : f_X4_goOn σ = (if (σ 4 0 3) = (1 : Int32) then (f_X4_goOn_35 (σ 4 0 5) 1 FU (mput σ 4 0 4 (σ 4 0 5)) (goT (σ 4 0 5))) else (if (σ 4 0 3) = (2 : Int32) then (f_X4_goOn_35 (σ 4 0 5) 1 FU (mput σ 4 0 4 (σ 4 0 5)) (goT (σ 4 0 5))) else (f_X4_goOn_35 (σ 4 0 5) 0 FU (mput σ 4 0 4 (σ 4 0 5)) (goN (σ 4 0 5))))) := rfl
theorem mput_mput {s : Mem} {g i k : Nat} {u v : Int32} : mput (mput s g i k u) g i k v = mput s g i k v := by
  funext g' i' k'
  unfold mput
  split
  · rfl
  · rfl
theorem mput_id {s : Mem} {g i k : Nat} {v : Int32} (h : s g i k = v) : mput s g i k v = s := by
  funext g' i' k'
  unfold mput
  split
  · rename_i q
    obtain ⟨rfl, rfl, rfl⟩ := q
    exact h.symm
  · rfl
def isLe (v : Nat) : Bool := decide (97 ≤ v) && decide (v ≤ 122)
def isDg (v : Nat) : Bool := decide (48 ≤ v) && decide (v ≤ 57)
def isBl (v : Nat) : Bool := decide (v = 32)
def scn (f : Nat → Bool) (L : Nat) : Nat → Nat → Nat
  | 0, p => p
  | m + 1, p => if p < L ∧ f p = true then scn f L m (p + 1) else p
def sc (f : Nat → Bool) (L p : Nat) : Nat := scn f L (L - p) p
theorem sc_go {f : Nat → Bool} {L p : Nat} (h1 : p < L) (h2 : f p = true) : sc f L p = sc f L (p + 1) := by
  unfold sc
  rw [show L - p = (L - (p + 1)) + 1 by omega, scn, if_pos ⟨h1, h2⟩]
theorem sc_stop {f : Nat → Bool} {L p : Nat} (h : ¬ (p < L ∧ f p = true)) : sc f L p = p := by
  unfold sc
  cases hm : L - p with
  | zero => rfl
  | succ m => rw [scn, if_neg h]
theorem sc_fact {f : Nat → Bool} {L : Nat} : ∀ (m p : Nat), L - p = m → p ≤ L → p ≤ sc f L p ∧ sc f L p ≤ L ∧ (∀ q, p ≤ q → q < sc f L p → f q = true) := by
  intro m
  induction m with
  | zero =>
    intro p hm hp
    rw [sc_stop (by omega)]
    exact ⟨Nat.le_refl _, hp, fun q h1 h2 => by omega⟩
  | succ m ih =>
    intro p hm hp
    by_cases h : p < L ∧ f p = true
    · rw [sc_go h.1 h.2]
      obtain ⟨q1, q2, q3⟩ := ih (p + 1) (by omega) (by omega)
      refine ⟨by omega, q2, fun q h1 h2 => ?_⟩
      by_cases e : q = p
      · subst e; exact h.2
      · exact q3 q (by omega) h2
    · rw [sc_stop h]
      exact ⟨Nat.le_refl _, hp, fun q h1 h2 => by omega⟩
theorem le_b : ∀ v, v < 256 → (byteV v < 97 ∧ isLe v = false) ∨ (¬ byteV v < 97 ∧ 122 < byteV v ∧ isLe v = false) ∨ (¬ byteV v < 97 ∧ ¬ 122 < byteV v ∧ isLe v = true) := by decide +kernel
theorem dg_b : ∀ v, v < 256 → (byteV v < 48 ∧ isDg v = false) ∨ (¬ byteV v < 48 ∧ 57 < byteV v ∧ isDg v = false) ∨ (¬ byteV v < 48 ∧ ¬ 57 < byteV v ∧ isDg v = true) := by decide +kernel
theorem bl_b : ∀ v, v < 256 → (byteV v = 32 ↔ isBl v = true) := by decide +kernel
theorem c_isLe {σ : Mem} {p v : Nat} (h : σ 17 0 p = byteV v) (hv : v < 256) (hp : p < 96) : f_X4_isLetter (nI p) σ = some (bI (isLe v = true)) := by
  unfold f_X4_isLetter
  rw [ix_nI hp (by decide), bnd_s, bnd_s, h]
  rcases le_b v hv with ⟨q1, q2⟩ | ⟨q1, q2, q3⟩ | ⟨q1, q2, q3⟩
  · rw [if_pos q1, bI_f (by rw [q2]; decide)]
  · rw [if_neg q1, if_pos q2, bI_f (by rw [q3]; decide)]
  · rw [if_neg q1, if_neg q2, bI_t q3]
theorem c_isDg {σ : Mem} {p v : Nat} (h : σ 17 0 p = byteV v) (hv : v < 256) (hp : p < 96) : f_X4_isDigit (nI p) σ = some (bI (isDg v = true)) := by
  unfold f_X4_isDigit
  rw [ix_nI hp (by decide), bnd_s, bnd_s, h]
  rcases dg_b v hv with ⟨q1, q2⟩ | ⟨q1, q2, q3⟩ | ⟨q1, q2, q3⟩
  · rw [if_pos q1, bI_f (by rw [q2]; decide)]
  · rw [if_neg q1, if_pos q2, bI_f (by rw [q3]; decide)]
  · rw [if_neg q1, if_neg q2, bI_t q3]
theorem m_isLe {τ : Mem} {p L : Nat} {x : Nat → Nat} (hL : τ 8 0 16 = nI L) (h96 : L ≤ 96) (hp : p ≤ L) (h : p < L → τ 36 0 p = nI (x p) ∧ x p < 256) : f_X8_isLetter (nI p) τ = some (bI (p < L ∧ isLe (x p) = true)) := by
  unfold f_X8_isLetter
  rw [hL]
  by_cases hlt : p < L
  · obtain ⟨e, hv⟩ := h hlt
    rw [if_neg (nI_ge hlt (by omega)), ix_nI (by omega) (by decide), bnd_s, e, q_isIn τ (lo := 97) (hi := 122) (a := 97) (b := 122) (by decide) (by decide), bnd_s]
    have e1 : (97 ≤ nI (x p) ∧ nI (x p) ≤ 122) ↔ isLe (x p) = true := by
      unfold isLe
      rw [show (97 : Int32) = nI 97 from rfl, show (122 : Int32) = nI 122 from rfl, nI_leI (by decide) (by omega), nI_leI (by omega) (by decide), Bool.and_eq_true, decide_eq_true_eq, decide_eq_true_eq]
    by_cases hl : isLe (x p) = true
    · rw [bI_t (e1.mpr hl), if_neg (by decide), bI_t ⟨hlt, hl⟩]
    · rw [bI_f (fun q => hl (e1.mp q)), if_pos rfl, bI_f (fun q => hl q.2)]
  · rw [if_pos (nI_le (by omega) (by omega)), bI_f (fun q => hlt q.1)]
theorem m_isDg {τ : Mem} {p L : Nat} {x : Nat → Nat} (hL : τ 8 0 16 = nI L) (h96 : L ≤ 96) (hp : p ≤ L) (h : p < L → τ 36 0 p = nI (x p) ∧ x p < 256) : f_X8_isDigit (nI p) τ = some (bI (p < L ∧ isDg (x p) = true)) := by
  unfold f_X8_isDigit
  rw [hL]
  by_cases hlt : p < L
  · obtain ⟨e, hv⟩ := h hlt
    rw [if_neg (nI_ge hlt (by omega)), ix_nI (by omega) (by decide), bnd_s, e, q_isIn τ (lo := 48) (hi := 57) (a := 48) (b := 57) (by decide) (by decide), bnd_s]
    have e1 : (48 ≤ nI (x p) ∧ nI (x p) ≤ 57) ↔ isDg (x p) = true := by
      unfold isDg
      rw [show (48 : Int32) = nI 48 from rfl, show (57 : Int32) = nI 57 from rfl, nI_leI (by decide) (by omega), nI_leI (by omega) (by decide), Bool.and_eq_true, decide_eq_true_eq, decide_eq_true_eq]
    by_cases hl : isDg (x p) = true
    · rw [bI_t (e1.mpr hl), if_neg (by decide), bI_t ⟨hlt, hl⟩]
    · rw [bI_f (fun q => hl (e1.mp q)), if_pos rfl, bI_f (fun q => hl q.2)]
  · rw [if_pos (nI_le (by omega) (by omega)), bI_f (fun q => hlt q.1)]
def CT (x : Nat → Nat) (L : Nat) (σ : Mem) : Prop := L ≤ 96 ∧ σ 4 0 1 = nI L ∧ ∀ j, j < L → x j < 256 ∧ σ 17 0 j = byteV (x j)
def MT (x : Nat → Nat) (L : Nat) (τ : Mem) : Prop := L ≤ 96 ∧ τ 8 0 16 = nI L ∧ ∀ j, j < L → x j < 256 ∧ τ 36 0 j = nI (x j)
theorem CT.put {x : Nat → Nat} {L k : Nat} {σ : Mem} {v : Int32} (h : CT x L σ) (hk : k ≠ 1) : CT x L (mput σ 4 0 k v) := ⟨h.1, by rw [mp_k (Ne.symm hk)]; exact h.2.1, by rw [mp_g (by decide)]; exact h.2.2⟩
theorem MT.put {x : Nat → Nat} {L k : Nat} {τ : Mem} {v : Int32} (h : MT x L τ) (hk : k ≠ 16) : MT x L (mput τ 8 0 k v) := ⟨h.1, by rw [mp_k (Ne.symm hk)]; exact h.2.1, by rw [mp_g (by decide)]; exact h.2.2⟩
theorem c_sp {x : Nat → Nat} {L : Nat} {a b : Int32} : ∀ (m p N : Nat) (s : Mem) (K : Mem → Option Mem), CT x L s → s 4 0 4 = nI p → p ≤ L → L - p = m → m < N → f_X4_goOn_35 a b N s K = K (mput s 4 0 4 (nI (sc (fun j => isBl (x j)) L p))) := by
  intro m
  induction m with
  | zero =>
    intro p N s K hc hp hl hm hN
    obtain ⟨N, rfl, -⟩ := succ_of hN
    obtain ⟨h96, h1, h2⟩ := hc
    rw [f_X4_goOn_35.eq_2, h1, hp, if_pos (nI_le (by omega) (by omega)), sc_stop (by omega), mput_id hp]
  | succ m ih =>
    intro p N s K hc hp hl hm hN
    obtain ⟨N, rfl, hN⟩ := succ_of hN
    obtain ⟨h96, h1, h2⟩ := id hc
    obtain ⟨hv, e⟩ := h2 p (by omega)
    rw [f_X4_goOn_35.eq_2, h1, hp, if_neg (nI_ge (by omega) (by omega)), ix_nI (by omega) (by decide), bnd_s, e]
    by_cases hb : isBl (x p) = true
    · rw [if_pos ((bl_b _ hv).mpr hb), nI_s, ih (p + 1) N _ K (hc.put (by decide)) mput_same (by omega) (by omega) (by omega), mput_mput, sc_go (f := fun j => isBl (x j)) (show p < L by omega) hb]
    · rw [if_neg (fun q => hb ((bl_b _ hv).mp q)), sc_stop (f := fun j => isBl (x j)) (L := L) (p := p) (fun q => hb q.2), mput_id hp]
theorem c_le {x : Nat → Nat} {L : Nat} {a b : Int32} : ∀ (m p N : Nat) (s : Mem) (K : Mem → Option Mem), CT x L s → s 4 0 5 = nI p → p ≤ L → L - p = m → m < N → f_X4_goOn_114 a b N s K = K (mput s 4 0 5 (nI (sc (fun j => isLe (x j)) L p))) := by
  intro m
  induction m with
  | zero =>
    intro p N s K hc hp hl hm hN
    obtain ⟨N, rfl, -⟩ := succ_of hN
    obtain ⟨h96, h1, h2⟩ := hc
    rw [f_X4_goOn_114.eq_2, h1, hp, if_pos (nI_le (by omega) (by omega)), sc_stop (by omega), mput_id hp]
  | succ m ih =>
    intro p N s K hc hp hl hm hN
    obtain ⟨N, rfl, hN⟩ := succ_of hN
    obtain ⟨h96, h1, h2⟩ := id hc
    obtain ⟨hv, e⟩ := h2 p (by omega)
    rw [f_X4_goOn_114.eq_2, h1, hp, if_neg (nI_ge (by omega) (by omega)), c_isLe e hv (by omega), bnd_s]
    by_cases hb : isLe (x p) = true
    · rw [bI_t hb, if_neg (show ¬ (1 : Int32) = 0 by decide), nI_s, ih (p + 1) N _ K (hc.put (by decide)) mput_same (by omega) (by omega) (by omega), mput_mput, sc_go (f := fun j => isLe (x j)) (show p < L by omega) hb]
    · rw [bI_f hb, if_pos rfl, sc_stop (f := fun j => isLe (x j)) (L := L) (p := p) (fun q => hb q.2), mput_id hp]
theorem c_dg {x : Nat → Nat} {L : Nat} {a b : Int32} : ∀ (m p N : Nat) (s : Mem) (K : Mem → Option Mem), CT x L s → s 4 0 5 = nI p → p ≤ L → L - p = m → m < N → f_X4_goOn_165 a b N s K = K (mput s 4 0 5 (nI (sc (fun j => isDg (x j)) L p))) := by
  intro m
  induction m with
  | zero =>
    intro p N s K hc hp hl hm hN
    obtain ⟨N, rfl, -⟩ := succ_of hN
    obtain ⟨h96, h1, h2⟩ := hc
    rw [f_X4_goOn_165.eq_2, h1, hp, if_pos (nI_le (by omega) (by omega)), sc_stop (by omega), mput_id hp]
  | succ m ih =>
    intro p N s K hc hp hl hm hN
    obtain ⟨N, rfl, hN⟩ := succ_of hN
    obtain ⟨h96, h1, h2⟩ := id hc
    obtain ⟨hv, e⟩ := h2 p (by omega)
    rw [f_X4_goOn_165.eq_2, h1, hp, if_neg (nI_ge (by omega) (by omega)), c_isDg e hv (by omega), bnd_s]
    by_cases hb : isDg (x p) = true
    · rw [bI_t hb, if_neg (show ¬ (1 : Int32) = 0 by decide), nI_s, ih (p + 1) N _ K (hc.put (by decide)) mput_same (by omega) (by omega) (by omega), mput_mput, sc_go (f := fun j => isDg (x j)) (show p < L by omega) hb]
    · rw [bI_f hb, if_pos rfl, sc_stop (f := fun j => isDg (x j)) (L := L) (p := p) (fun q => hb q.2), mput_id hp]
theorem m_sp {x : Nat → Nat} {L : Nat} {a b : Int32} : ∀ (m p N : Nat) (s : Mem) (K : Mem → Option Mem), MT x L s → s 8 0 18 = nI p → p ≤ L → L - p = m → m < N → f_X8_nextToken_34 a b N s K = K (mput s 8 0 18 (nI (sc (fun j => isBl (x j)) L p))) := by
  intro m
  induction m with
  | zero =>
    intro p N s K hc hp hl hm hN
    obtain ⟨N, rfl, -⟩ := succ_of hN
    obtain ⟨h96, h1, h2⟩ := hc
    rw [f_X8_nextToken_34.eq_2, h1, hp, if_pos (nI_le (by omega) (by omega)), sc_stop (by omega), mput_id hp]
  | succ m ih =>
    intro p N s K hc hp hl hm hN
    obtain ⟨N, rfl, hN⟩ := succ_of hN
    obtain ⟨h96, h1, h2⟩ := id hc
    obtain ⟨hv, e⟩ := h2 p (by omega)
    rw [f_X8_nextToken_34.eq_2, h1, hp, if_neg (nI_ge (by omega) (by omega)), ix_nI (by omega) (by decide), bnd_s, e]
    have e2 : nI (x p) = 32 ↔ isBl (x p) = true := by
      unfold isBl
      rw [decide_eq_true_eq]
      exact nI_eq (b := 32) (by omega) (by decide)
    by_cases hb : isBl (x p) = true
    · rw [if_pos (e2.mpr hb), nI_s, ih (p + 1) N _ K (hc.put (by decide)) mput_same (by omega) (by omega) (by omega), mput_mput, sc_go (f := fun j => isBl (x j)) (show p < L by omega) hb]
    · rw [if_neg (fun q => hb (e2.mp q)), sc_stop (f := fun j => isBl (x j)) (L := L) (p := p) (fun q => hb q.2), mput_id hp]
theorem m_le {x : Nat → Nat} {L : Nat} {a : Int32} : ∀ (m p N : Nat) (s : Mem) (K : Mem → Option Mem), MT x L s → s 8 0 18 = nI p → p ≤ L → L - p = m → m < N → f_X8_nextToken_128 a N s K = K (mput s 8 0 18 (nI (sc (fun j => isLe (x j)) L p))) := by
  intro m
  induction m with
  | zero =>
    intro p N s K hc hp hl hm hN
    obtain ⟨N, rfl, -⟩ := succ_of hN
    obtain ⟨h96, h1, h2⟩ := hc
    rw [f_X8_nextToken_128.eq_2, hp, m_isLe (x := x) h1 h96 hl (fun q => by omega), bnd_s, bI_f (by omega), if_pos rfl, sc_stop (by omega), mput_id hp]
  | succ m ih =>
    intro p N s K hc hp hl hm hN
    obtain ⟨N, rfl, hN⟩ := succ_of hN
    obtain ⟨h96, h1, h2⟩ := id hc
    obtain ⟨hv, e⟩ := h2 p (by omega)
    rw [f_X8_nextToken_128.eq_2, hp, m_isLe (x := x) h1 h96 hl (fun _ => ⟨e, hv⟩), bnd_s]
    by_cases hb : isLe (x p) = true
    · rw [bI_t ⟨show p < L by omega, hb⟩, if_neg (show ¬ (1 : Int32) = 0 by decide), nI_s, ih (p + 1) N _ K (hc.put (by decide)) mput_same (by omega) (by omega) (by omega), mput_mput, sc_go (f := fun j => isLe (x j)) (show p < L by omega) hb]
    · rw [bI_f (fun q => hb q.2), if_pos rfl, sc_stop (f := fun j => isLe (x j)) (L := L) (p := p) (fun q => hb q.2), mput_id hp]
/-- the number that m digits from p on tell, behind acc -/
def nvN (x : Nat → Nat) : Nat → Nat → Nat → Nat
  | _, 0, acc => acc
  | p, m + 1, acc => nvN x (p + 1) m (10 * acc + x p - 48)
theorem m_dg {x : Nat → Nat} {L b : Nat} {a : Int32} : ∀ (m p N acc : Nat) (s : Mem), MT x L s → s 8 0 18 = nI p → s 8 0 17 = nI b → s 8 0 20 = nI acc → b ≤ p → p ≤ L → L - p = m → m < N →
    ∃ s', (∀ K, f_X8_nextToken_214 a N s K = K s') ∧ s' 8 0 18 = nI (sc (fun j => isDg (x j)) L p) ∧ (sc (fun j => isDg (x j)) L p ≤ b + 4 → s' 8 0 20 = nI (nvN x p (sc (fun j => isDg (x j)) L p - p) acc)) ∧ (∀ g, g ≠ 8 → s' g = s g) ∧ (∀ k, k ≠ 18 → k ≠ 20 → s' 8 0 k = s 8 0 k) := by
  intro m
  induction m with
  | zero =>
    intro p N acc s hc hp h17 h20 hb hl hm hN
    obtain ⟨N, rfl, -⟩ := succ_of hN
    obtain ⟨h96, h1, h2⟩ := hc
    refine ⟨s, fun K => ?_, ?_, fun _ => ?_, fun _ _ => rfl, fun _ _ _ => rfl⟩
    · rw [f_X8_nextToken_214.eq_2, hp, m_isDg (x := x) h1 h96 hl (fun q => by omega), bnd_s, bI_f (by omega), if_pos rfl]
    · rw [sc_stop (by omega)]; exact hp
    · rw [sc_stop (by omega), Nat.sub_self]; exact h20
  | succ m ih =>
    intro p N acc s hc hp h17 h20 hb hl hm hN
    obtain ⟨N, rfl, hN⟩ := succ_of hN
    obtain ⟨h96, h1, h2⟩ := id hc
    obtain ⟨hv, e⟩ := h2 p (by omega)
    by_cases hd : isDg (x p) = true
    · have h48 : 48 ≤ x p := by
        unfold isDg at hd
        rw [Bool.and_eq_true, decide_eq_true_eq] at hd
        exact hd.1
      have hsc := sc_go (f := fun j => isDg (x j)) (show p < L by omega) hd
      have hge := (sc_fact (f := fun j => isDg (x j)) (L := L) (L - (p + 1)) (p + 1) rfl (by omega)).1
      have eb : nI p - nI b = nI (p - b) := pk_sub hb
      by_cases h4 : p - b < 4
      · have ev : (((10 : Int32) * nI acc) + nI (x p)) - (48 : Int32) = nI (10 * acc + x p - 48) := by
          rw [show (10 : Int32) = nI 10 from rfl, show (48 : Int32) = nI 48 from rfl, pk_mul, nI_add, pk_sub (by omega)]
        obtain ⟨s', q1, q2, q3, q4, q5⟩ := ih (p + 1) N (10 * acc + x p - 48) (mput (mput s 8 0 20 (nI (10 * acc + x p - 48))) 8 0 18 (nI (p + 1))) ((hc.put (by decide)).put (by decide)) mput_same (by rw [mp_k (by decide), mp_k (by decide)]; exact h17) (by rw [mp_k (by decide), mput_same]) (by omega) (by omega) (by omega) (by omega)
        refine ⟨s', fun K => ?_, by rw [hsc]; exact q2, fun hle => ?_, fun g hg => by rw [q4 g hg, mp_g hg, mp_g hg], fun k h18 h20 => by rw [q5 k h18 h20, mp_k h18, mp_k h20]⟩
        · rw [f_X8_nextToken_214.eq_2, hp, m_isDg (x := x) h1 h96 hl (fun _ => ⟨e, hv⟩), bnd_s, bI_t ⟨show p < L by omega, hd⟩, if_neg (show ¬ (1 : Int32) = 0 by decide), h17, eb, if_neg (show ¬ (4 : Int32) ≤ nI (p - b) from nI_ge (b := 4) h4 (by decide)), ix_nI (by omega) (by decide), bnd_s, bnd_s, h20, e, ev, mp_k (by decide), hp, nI_s]
          exact q1 K
        · rw [hsc] at hle ⊢
          rw [q3 hle, show sc (fun j => isDg (x j)) L (p + 1) - p = (sc (fun j => isDg (x j)) L (p + 1) - (p + 1)) + 1 by omega]
          rfl
      · obtain ⟨s', q1, q2, q3, q4, q5⟩ := ih (p + 1) N acc (mput (mput s 8 0 20 (nI acc)) 8 0 18 (nI (p + 1))) ((hc.put (by decide)).put (by decide)) mput_same (by rw [mp_k (by decide), mp_k (by decide)]; exact h17) (by rw [mp_k (by decide), mput_same]) (by omega) (by omega) (by omega) (by omega)
        refine ⟨s', fun K => ?_, by rw [hsc]; exact q2, fun hle => ?_, fun g hg => by rw [q4 g hg, mp_g hg, mp_g hg], fun k h18 h20 => by rw [q5 k h18 h20, mp_k h18, mp_k h20]⟩
        · rw [f_X8_nextToken_214.eq_2, hp, m_isDg (x := x) h1 h96 hl (fun _ => ⟨e, hv⟩), bnd_s, bI_t ⟨show p < L by omega, hd⟩, if_neg (show ¬ (1 : Int32) = 0 by decide), h17, eb, if_pos (show (4 : Int32) ≤ nI (p - b) from nI_le (a := 4) (by omega) (by omega)), bnd_s, h20, mp_k (by decide), hp, nI_s]
          exact q1 K
        · exfalso
          rw [hsc] at hle
          omega
    · refine ⟨s, fun K => ?_, ?_, fun _ => ?_, fun _ _ => rfl, fun _ _ _ => rfl⟩
      · rw [f_X8_nextToken_214.eq_2, hp, m_isDg (x := x) h1 h96 hl (fun _ => ⟨e, hv⟩), bnd_s, bI_f (fun q => hd q.2), if_pos rfl]
      · rw [sc_stop (f := fun j => isDg (x j)) (L := L) (p := p) (fun q => hd q.2)]; exact hp
      · rw [sc_stop (f := fun j => isDg (x j)) (L := L) (p := p) (fun q => hd q.2), Nat.sub_self]; exact h20
