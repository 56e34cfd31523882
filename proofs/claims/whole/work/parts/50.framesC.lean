/-- nothing outside the region has changed -/
def Fm (P : Nat → Nat → Prop) (σ σ' : Mem) : Prop := ∀ g i, ¬ P g i → σ' g i = σ g i
theorem Fm.rf {P : Nat → Nat → Prop} {σ : Mem} : Fm P σ σ := fun _ _ _ => rfl
theorem Fm.trans {P : Nat → Nat → Prop} {a b c : Mem} (h1 : Fm P a b) (h2 : Fm P b c) : Fm P a c := fun g i h => (h2 g i h).trans (h1 g i h)
theorem Fm.wide {P Q : Nat → Nat → Prop} {a b : Mem} (h : Fm P a b) (hPQ : ∀ g i, P g i → Q g i) : Fm Q a b := fun g i hn => h g i (fun q => hn (hPQ g i q))
theorem Fm.put {P : Nat → Nat → Prop} {a b : Mem} {g i k : Nat} {v : Int32} (h : Fm P a b) (hp : P g i) : Fm P a (mput b g i k v) := by
  intro g' i' hn
  rw [mput_cell (by rintro e; cases e; exact hn hp)]
  exact h g' i' hn
theorem Fm.cpy {P : Nat → Nat → Prop} {a b : Mem} {g0 i0 sp g1 i1 dp n : Nat} (h : Fm P a b) (hp : P g1 i1) : Fm P a (mcopy b g0 i0 sp g1 i1 dp n) := by
  intro g' i' hn
  rw [mcopy_off (by rintro e; cases e; exact hn hp)]
  exact h g' i' hn
theorem bnd_case {α β : Type} {o : Option α} {k : α → Option β} {b : β} {G : Prop} (h : bnd o k = some b) (h1 : ∀ a, o = some a → k a = some b → G) : G := by
  obtain ⟨a, e, h2⟩ := bnd_some h
  exact h1 a e h2
theorem fin_w {x y : Int32} {a b : Mem} (h : some (x, a) = some (y, b)) : b = a := by cases h; rfl
theorem fin_v {a b : Mem} (h : some a = some b) : b = a := by cases h; rfl
theorem r_esac {c : Prop} {inst : Decidable c} {ρ : Type} {A B : Option ρ} {res : ρ} {G : Prop} (hh : @ite _ c inst A B = some res) (h2 : ¬ c → B = some res → G) (h1 : c → A = some res → G) : G := r_case hh h1 h2
def RgP (p g i : Nat) : Prop := g = 3 ∧ i = p
def RgL (p g i : Nat) : Prop := (g = 1 ∨ g = 11) ∧ i = p
def RgS (g _i : Nat) : Prop := g = 10
def RgT (p g i : Nat) : Prop := (g = 5 ∨ g = 20) ∧ i = p
def RgD (p g i : Nat) : Prop := ((g = 0 ∨ g = 13 ∨ g = 14 ∨ g = 15 ∨ g = 16) ∧ i = p) ∨ (g = 3 ∧ 10 * p ≤ i ∧ i < 10 * p + 10) ∨ g = 10
def RgR (g _i : Nat) : Prop := g = 4 ∨ g = 1 ∨ g = 11
def RgC (g _i : Nat) : Prop := g ≠ 8 ∧ g < 22
def RgM (g _i : Nat) : Prop := g = 8 ∨ 22 ≤ g
set_option maxRecDepth 100000 in
theorem fr_X3_comes {p0 : Nat} {p1 : Int32} {p2 : Int32} {p3 : Int32} {σ : Mem} {res : Mem}  (h : f_X3_comes p0 p1 p2 p3 σ = some res) : Fm RgC σ res := by
  unfold f_X3_comes at h
  refine bnd_case h (fun s1 es1 h => ?_)
  cases es1
  rw [fin_v h]
  exact (Fm.put (Fm.put (Fm.put (Fm.put (Fm.put Fm.rf (by unfold RgC; omega)) (by unfold RgC; omega)) (by unfold RgC; omega)) (by unfold RgC; omega)) (by unfold RgC; omega))
set_option maxRecDepth 100000 in
theorem fr_X0_addPerson {p0 : Nat} {p1 : Int32} {p2 : Int32} {p3 : Int32} {σ : Mem} {res : Mem}  (h : f_X0_addPerson p0 p1 p2 p3 σ = some res) : Fm RgC σ res := by
  unfold f_X0_addPerson at h
  refine bnd_case h (fun j1 _ h => ?_)
  refine bnd_case h (fun a1 ea1 h => ?_)
  rw [fin_v h]
  exact (Fm.put (Fm.trans Fm.rf (fr_X3_comes ea1)) (by unfold RgC; omega))
set_option maxRecDepth 100000 in
theorem fr_X7_person {p1 : Int32} {p2 : Int32} {p3 : Int32} {σ : Mem} {res : (Int32 × Mem)}  (h : f_X7_person p1 p2 p3 σ = some res) : Fm RgC σ res.2 := by
  obtain ⟨r0, σ2⟩ := res
  show Fm RgC σ σ2
  unfold f_X7_person at h
  refine bnd_case h (fun a1 ea1 h => ?_)
  refine r_case h (fun _ h => ?_) (fun _ h => ?_)
  · skip
    rw [fin_w h]
    exact Fm.rf
  · skip
    refine bnd_case h (fun a2 ea2 h => ?_)
    refine r_case h (fun _ h => ?_) (fun _ h => ?_)
    · skip
      rw [fin_w h]
      exact Fm.rf
    · skip
      refine bnd_case h (fun a3 ea3 h => ?_)
      refine r_esac h (fun _ h => ?_) (fun _ h => ?_)
      · skip
        refine r_case h (fun _ h => ?_) (fun _ h => ?_)
        · skip
          refine bnd_case h (fun a4 ea4 h => ?_)
          rw [fin_w h]
          exact (Fm.trans Fm.rf (fr_X0_addPerson ea4))
        · skip
          rw [fin_w h]
          exact Fm.rf
      · skip
        rw [fin_w h]
        exact Fm.rf
set_option maxRecDepth 100000 in
theorem fr_X7_turns {p1 : Int32} {p2 : Int32} {σ : Mem} {res : (Int32 × Mem)}  (h : f_X7_turns p1 p2 σ = some res) : Fm RgC σ res.2 := by
  obtain ⟨r0, σ2⟩ := res
  show Fm RgC σ σ2
  unfold f_X7_turns at h
  refine bnd_case h (fun a1 ea1 h => ?_)
  refine r_case h (fun _ h => ?_) (fun _ h => ?_)
  · skip
    rw [fin_w h]
    exact Fm.rf
  · skip
    refine bnd_case h (fun a2 ea2 h => ?_)
    refine r_esac h (fun _ h => ?_) (fun _ h => ?_)
    · skip
      refine bnd_case h (fun j1 _ h => ?_)
      refine bnd_case h (fun j2 _ h => ?_)
      rw [fin_w h]
      exact (Fm.put Fm.rf (by unfold RgC; omega))
    · skip
      rw [fin_w h]
      exact Fm.rf
set_option maxRecDepth 100000 in
theorem fr_X3_changeEast {p0 : Nat} {p1 : Int32} {σ : Mem} {res : (Int32 × Mem)}  (h : f_X3_changeEast p0 p1 σ = some res) : Fm RgC σ res.2 := by
  obtain ⟨r0, σ2⟩ := res
  show Fm RgC σ σ2
  unfold f_X3_changeEast at h
  rw [fin_w h]
  exact (Fm.put Fm.rf (by unfold RgC; omega))
set_option maxRecDepth 100000 in
theorem fr_X3_changeFaith {p0 : Nat} {p1 : Int32} {σ : Mem} {res : (Int32 × Mem)}  (h : f_X3_changeFaith p0 p1 σ = some res) : Fm RgC σ res.2 := by
  obtain ⟨r0, σ2⟩ := res
  show Fm RgC σ σ2
  unfold f_X3_changeFaith at h
  rw [fin_w h]
  exact (Fm.put Fm.rf (by unfold RgC; omega))
set_option maxRecDepth 100000 in
theorem fr_X3_changePurse {p0 : Nat} {p1 : Int32} {σ : Mem} {res : (Int32 × Mem)}  (h : f_X3_changePurse p0 p1 σ = some res) : Fm RgC σ res.2 := by
  obtain ⟨r0, σ2⟩ := res
  show Fm RgC σ σ2
  unfold f_X3_changePurse at h
  rw [fin_w h]
  exact (Fm.put Fm.rf (by unfold RgC; omega))
set_option maxRecDepth 100000 in
theorem fr_X7_set {p1 : Int32} {p2 : Int32} {p3 : Int32} {σ : Mem} {res : (Int32 × Mem)}  (h : f_X7_set p1 p2 p3 σ = some res) : Fm RgC σ res.2 := by
  obtain ⟨r0, σ2⟩ := res
  show Fm RgC σ σ2
  unfold f_X7_set at h
  refine bnd_case h (fun a1 ea1 h => ?_)
  refine r_esac h (fun _ h => ?_) (fun _ h => ?_)
  · skip
    refine bnd_case h (fun j1 _ h => ?_)
    refine r_case h (fun _ h => ?_) (fun _ h => ?_)
    · skip
      refine bnd_case h (fun a2 ea2 h => ?_)
      refine r_case h (fun _ h => ?_) (fun _ h => ?_)
      · skip
        rw [fin_w h]
        exact Fm.rf
      · skip
        refine bnd_case h (fun a3 ea3 h => ?_)
        rw [fin_w h]
        exact (Fm.trans Fm.rf (fr_X3_changeEast ea3))
    · refine r_case h (fun _ h => ?_) (fun _ h => ?_)
      · skip
        refine bnd_case h (fun a4 ea4 h => ?_)
        refine r_case h (fun _ h => ?_) (fun _ h => ?_)
        · skip
          rw [fin_w h]
          exact Fm.rf
        · skip
          refine bnd_case h (fun a5 ea5 h => ?_)
          rw [fin_w h]
          exact (Fm.trans Fm.rf (fr_X3_changeFaith ea5))
      · refine r_case h (fun _ h => ?_) (fun _ h => ?_)
        · skip
          refine bnd_case h (fun a6 ea6 h => ?_)
          refine r_case h (fun _ h => ?_) (fun _ h => ?_)
          · skip
            rw [fin_w h]
            exact Fm.rf
          · skip
            refine bnd_case h (fun a7 ea7 h => ?_)
            rw [fin_w h]
            exact (Fm.trans Fm.rf (fr_X3_changePurse ea7))
        · skip
          rw [fin_w h]
          exact Fm.rf
  · skip
    rw [fin_w h]
    exact Fm.rf
set_option maxRecDepth 100000 in
theorem fr_X0_lapse {p0 : Nat} {p1 : Int32} {σ : Mem} {res : Mem}  (h : f_X0_lapse p0 p1 σ = some res) : Fm RgC σ res := by
  unfold f_X0_lapse at h
  refine r_case h (fun _ h => ?_) (fun _ q => by cases q)
  refine bnd_case h (fun s1 es1 h => ?_)
  cases es1
  refine r_case h (fun _ h => ?_) (fun _ q => by cases q)
  refine bnd_case h (fun s2 es2 h => ?_)
  cases es2
  refine r_case h (fun _ h => ?_) (fun _ q => by cases q)
  refine bnd_case h (fun s3 es3 h => ?_)
  cases es3
  refine bnd_case h (fun s4 es4 h => ?_)
  cases es4
  rw [fin_v h]
  exact (Fm.put (Fm.put (Fm.cpy (Fm.cpy (Fm.cpy Fm.rf (by unfold RgC; omega)) (by unfold RgC; omega)) (by unfold RgC; omega)) (by unfold RgC; omega)) (by unfold RgC; omega))
set_option maxRecDepth 100000 in
theorem lf_X0_strikeOff_17 {p0 : Nat} {p1 : Int32}  {σ2 : Mem} {k : Mem → Option Mem}  (hk : ∀ (σ1 : Mem), k  σ1 = some σ2 → Fm RgC σ1 σ2) : ∀ (n : Nat) (v2 : Int32) (σ : Mem), f_X0_strikeOff_17 p0 p1 n v2 σ k = some σ2 → Fm RgC σ σ2 := by
  intro n
  induction n with
  | zero =>
    intro v2 σ h
    cases h
  | succ n ih =>
    intro v2 σ h
    rw [f_X0_strikeOff_17.eq_2] at h
    refine r_case h (fun _ h => ?_) (fun _ h => ?_)
    · skip
      exact Fm.trans Fm.rf (hk _ h)
    · skip
      refine bnd_case h (fun j1 _ h => ?_)
      refine r_esac h (fun _ h => ?_) (fun _ h => ?_)
      · skip
        exact Fm.trans Fm.rf (ih _ _ h)
      · skip
        refine bnd_case h (fun a1 ea1 h => ?_)
        exact Fm.trans (Fm.trans Fm.rf (fr_X0_lapse ea1)) (ih _ _ h)
set_option maxRecDepth 100000 in
theorem fr_X0_strikeOff {p0 : Nat} {p1 : Int32} {σ : Mem} {res : Mem}  (h : f_X0_strikeOff p0 p1 σ = some res) : Fm RgC σ res := by
  unfold f_X0_strikeOff at h
  refine bnd_case h (fun j1 _ h => ?_)
  refine Fm.trans (Fm.put Fm.rf (by unfold RgC; omega)) (lf_X0_strikeOff_17 (fun σ_1 h => ?_) _ _ _ h)
  rw [fin_v h]
  exact Fm.rf
set_option maxRecDepth 100000 in
theorem fr_X0_addVow {p0 : Nat} {p1 : Int32} {p2 : Int32} {p3 : Int32} {σ : Mem} {res : Mem}  (h : f_X0_addVow p0 p1 p2 p3 σ = some res) : Fm RgC σ res := by
  unfold f_X0_addVow at h
  refine bnd_case h (fun j1 _ h => ?_)
  refine bnd_case h (fun j2 _ h => ?_)
  refine bnd_case h (fun j3 _ h => ?_)
  refine bnd_case h (fun s1 es1 h => ?_)
  cases es1
  rw [fin_v h]
  exact (Fm.put (Fm.put (Fm.put (Fm.put Fm.rf (by unfold RgC; omega)) (by unfold RgC; omega)) (by unfold RgC; omega)) (by unfold RgC; omega))
set_option maxRecDepth 100000 in
theorem fr_X7_vow {p1 : Int32} {p2 : Int32} {p3 : Int32} {σ : Mem} {res : (Int32 × Mem)}  (h : f_X7_vow p1 p2 p3 σ = some res) : Fm RgC σ res.2 := by
  obtain ⟨r0, σ2⟩ := res
  show Fm RgC σ σ2
  unfold f_X7_vow at h
  refine bnd_case h (fun a1 ea1 h => ?_)
  refine r_case h (fun _ h => ?_) (fun _ h => ?_)
  · skip
    rw [fin_w h]
    exact Fm.rf
  · skip
    refine bnd_case h (fun a2 ea2 h => ?_)
    refine r_case h (fun _ h => ?_) (fun _ h => ?_)
    · skip
      rw [fin_w h]
      exact Fm.rf
    · skip
      refine r_case h (fun _ h => ?_) (fun _ h => ?_)
      · skip
        rw [fin_w h]
        exact Fm.rf
      · skip
        refine bnd_case h (fun a3 ea3 h => ?_)
        refine r_esac h (fun _ h => ?_) (fun _ h => ?_)
        · skip
          refine bnd_case h (fun j1 _ h => ?_)
          refine r_esac h (fun _ h => ?_) (fun _ h => ?_)
          · skip
            refine r_esac h (fun _ h => ?_) (fun _ h => ?_)
            · skip
              refine r_case h (fun _ h => ?_) (fun _ h => ?_)
              · skip
                refine bnd_case h (fun a4 ea4 h => ?_)
                rw [fin_w h]
                exact (Fm.trans (Fm.put Fm.rf (by unfold RgC; omega)) (fr_X0_addVow ea4))
              · skip
                rw [fin_w h]
                exact Fm.rf
            · skip
              refine bnd_case h (fun a5 ea5 h => ?_)
              rw [fin_w h]
              exact (Fm.trans Fm.rf (fr_X0_strikeOff ea5))
          · skip
            rw [fin_w h]
            exact Fm.rf
        · skip
          rw [fin_w h]
          exact Fm.rf
set_option maxRecDepth 100000 in
theorem lf_X2_gives_14 {p2 : Int32} {p3 : Int32} {p4 : Int32} {p5 : Nat}   {r0 : Int32} {σ2 : Mem} {k : Mem → Option (Int32 × Mem)}  (hk : ∀ (σ1 : Mem), k  σ1 = some (r0, σ2) → Fm RgC σ1 σ2) : ∀ (n : Nat) (v6 : Int32) (v7 : Int32) (σ : Mem), f_X2_gives_14 p2 p3 p4 p5 n v6 v7 σ k = some (r0, σ2) → Fm RgC σ σ2 := by
  intro n
  induction n with
  | zero =>
    intro v6 v7 σ h
    cases h
  | succ n ih =>
    intro v6 v7 σ h
    rw [f_X2_gives_14.eq_2] at h
    refine r_case h (fun _ h => ?_) (fun _ h => ?_)
    · skip
      exact Fm.trans Fm.rf (hk _ h)
    · skip
      refine bnd_case h (fun j1 _ h => ?_)
      refine r_case h (fun _ h => ?_) (fun _ h => ?_)
      · skip
        refine r_esac h (fun _ h => ?_) (fun _ h => ?_)
        · skip
          refine r_case h (fun _ h => ?_) (fun _ h => ?_)
          · skip
            exact Fm.trans Fm.rf (ih _ _ _ h)
          · skip
            refine bnd_case h (fun j2 _ h => ?_)
            refine bnd_case h (fun j3 _ h => ?_)
            refine bnd_case h (fun a1 ea1 h => ?_)
            refine bnd_case h (fun j4 _ h => ?_)
            exact Fm.trans (Fm.put Fm.rf (by unfold RgC; omega)) (ih _ _ _ h)
        · skip
          refine r_case h (fun _ h => ?_) (fun _ h => ?_)
          · skip
            refine r_case h (fun _ h => ?_) (fun _ h => ?_)
            · skip
              exact Fm.trans Fm.rf (ih _ _ _ h)
            · skip
              refine bnd_case h (fun j5 _ h => ?_)
              refine bnd_case h (fun j6 _ h => ?_)
              refine bnd_case h (fun a2 ea2 h => ?_)
              refine bnd_case h (fun j7 _ h => ?_)
              exact Fm.trans (Fm.put Fm.rf (by unfold RgC; omega)) (ih _ _ _ h)
          · skip
            refine bnd_case h (fun j8 _ h => ?_)
            refine r_esac h (fun _ h => ?_) (fun _ h => ?_)
            · skip
              refine bnd_case h (fun j9 _ h => ?_)
              exact Fm.trans (Fm.put Fm.rf (by unfold RgC; omega)) (ih _ _ _ h)
            · skip
              refine bnd_case h (fun j10 _ h => ?_)
              exact Fm.trans (Fm.put Fm.rf (by unfold RgC; omega)) (ih _ _ _ h)
      · skip
        refine r_case h (fun _ h => ?_) (fun _ h => ?_)
        · skip
          refine r_esac h (fun _ h => ?_) (fun _ h => ?_)
          · skip
            refine r_esac h (fun _ h => ?_) (fun _ h => ?_)
            · skip
              refine bnd_case h (fun j11 _ h => ?_)
              exact Fm.trans (Fm.put Fm.rf (by unfold RgC; omega)) (ih _ _ _ h)
            · skip
              refine bnd_case h (fun j12 _ h => ?_)
              exact Fm.trans (Fm.put Fm.rf (by unfold RgC; omega)) (ih _ _ _ h)
          · skip
            refine bnd_case h (fun j13 _ h => ?_)
            exact Fm.trans (Fm.put Fm.rf (by unfold RgC; omega)) (ih _ _ _ h)
        · skip
          refine bnd_case h (fun j14 _ h => ?_)
          exact Fm.trans (Fm.put Fm.rf (by unfold RgC; omega)) (ih _ _ _ h)
set_option maxRecDepth 100000 in
theorem fr_X2_gives {p1 : Int32} {p2 : Int32} {p3 : Int32} {p4 : Int32} {σ : Mem} {res : (Int32 × Mem)}  (h : f_X2_gives p1 p2 p3 p4 σ = some res) : Fm RgC σ res.2 := by
  obtain ⟨r0, σ2⟩ := res
  show Fm RgC σ σ2
  unfold f_X2_gives at h
  refine bnd_case h (fun j1 _ h => ?_)
  refine Fm.trans Fm.rf (lf_X2_gives_14 (fun σ_1 h => ?_) _ _ _ _ h)
  refine bnd_case h (fun j2 _ h => ?_)
  rw [fin_w h]
  exact Fm.rf
set_option maxRecDepth 100000 in
theorem fr_X0_keeps {p0 : Nat} {p1 : Int32} {σ : Mem} {res : (Int32 × Mem)}  (h : f_X0_keeps p0 p1 σ = some res) : Fm RgC σ res.2 := by
  obtain ⟨r0, σ2⟩ := res
  show Fm RgC σ σ2
  unfold f_X0_keeps at h
  refine bnd_case h (fun j1 _ h => ?_)
  refine bnd_case h (fun j2 _ h => ?_)
  refine bnd_case h (fun j3 _ h => ?_)
  refine bnd_case h (fun a1 ea1 h => ?_)
  refine bnd_case h (fun j4 _ h => ?_)
  refine r_case h (fun _ h => ?_) (fun _ h => ?_)
  · skip
    refine bnd_case h (fun j5 _ h => ?_)
    refine bnd_case h (fun a2 ea2 h => ?_)
    refine bnd_case h (fun a3 ea3 h => ?_)
    refine bnd_case h (fun a4 ea4 h => ?_)
    rw [fin_w h]
    exact (Fm.trans Fm.rf (fr_X2_gives ea2))
  · skip
    refine bnd_case h (fun a5 ea5 h => ?_)
    rw [fin_w h]
    exact Fm.rf
set_option maxRecDepth 100000 in
theorem fr_X7_vowOf {p1 : Int32} {p2 : Int32} {σ : Mem} {res : (Int32 × Mem)}  (h : f_X7_vowOf p1 p2 σ = some res) : Fm RgC σ res.2 := by
  obtain ⟨r0, σ2⟩ := res
  show Fm RgC σ σ2
  unfold f_X7_vowOf at h
  refine bnd_case h (fun a1 ea1 h => ?_)
  refine r_esac h (fun _ h => ?_) (fun _ h => ?_)
  · skip
    refine r_case h (fun _ h => ?_) (fun _ h => ?_)
    · skip
      refine bnd_case h (fun j1 _ h => ?_)
      rw [fin_w h]
      exact Fm.rf
    · refine r_case h (fun _ h => ?_) (fun _ h => ?_)
      · skip
        refine bnd_case h (fun j2 _ h => ?_)
        rw [fin_w h]
        exact Fm.rf
      · refine r_case h (fun _ h => ?_) (fun _ h => ?_)
        · skip
          refine bnd_case h (fun j3 _ h => ?_)
          rw [fin_w h]
          exact Fm.rf
        · refine r_case h (fun _ h => ?_) (fun _ h => ?_)
          · skip
            refine bnd_case h (fun a2 ea2 h => ?_)
            rw [fin_w h]
            exact (Fm.trans Fm.rf (fr_X0_keeps ea2))
          · skip
            rw [fin_w h]
            exact Fm.rf
  · skip
    rw [fin_w h]
    exact Fm.rf
set_option maxRecDepth 100000 in
theorem fr_X7_breaks {p1 : Int32} {σ : Mem} {res : (Int32 × Mem)}  (h : f_X7_breaks p1 σ = some res) : Fm RgC σ res.2 := by
  obtain ⟨r0, σ2⟩ := res
  show Fm RgC σ σ2
  unfold f_X7_breaks at h
  refine bnd_case h (fun a1 ea1 h => ?_)
  refine r_esac h (fun _ h => ?_) (fun _ h => ?_)
  · skip
    refine bnd_case h (fun a2 ea2 h => ?_)
    rw [fin_w h]
    exact (Fm.trans Fm.rf (fr_X0_lapse ea2))
  · skip
    rw [fin_w h]
    exact Fm.rf
set_option maxRecDepth 100000 in
theorem fr_X7_eclipse  {σ : Mem} {res : (Int32 × Mem)}  (h : f_X7_eclipse σ = some res) : Fm RgC σ res.2 := by
  obtain ⟨r0, σ2⟩ := res
  show Fm RgC σ σ2
  unfold f_X7_eclipse at h
  rw [fin_w h]
  exact (Fm.put (Fm.put Fm.rf (by unfold RgC; omega)) (by unfold RgC; omega))
set_option maxRecDepth 100000 in
theorem fr_X0_draw {p0 : Nat} {σ : Mem} {res : (Int32 × Mem)}  (h : f_X0_draw p0 σ = some res) : Fm RgC σ res.2 := by
  obtain ⟨r0, σ2⟩ := res
  show Fm RgC σ σ2
  unfold f_X0_draw at h
  rw [fin_w h]
  exact (Fm.put Fm.rf (by unfold RgC; omega))
set_option maxRecDepth 100000 in
theorem fr_X0_drawPerson {p0 : Nat} {σ : Mem} {res : Mem}  (h : f_X0_drawPerson p0 σ = some res) : Fm RgC σ res := by
  unfold f_X0_drawPerson at h
  refine bnd_case h (fun a1 ea1 h => ?_)
  refine bnd_case h (fun a2 ea2 h => ?_)
  refine bnd_case h (fun a3 ea3 h => ?_)
  refine bnd_case h (fun a4 ea4 h => ?_)
  rw [fin_v h]
  exact (Fm.trans (Fm.trans (Fm.trans (Fm.trans Fm.rf (fr_X0_draw ea1)) (fr_X0_draw ea2)) (fr_X0_draw ea3)) (fr_X0_addPerson ea4))
set_option maxRecDepth 100000 in
theorem lf_X7_deal_30 {p2 : Int32}   {r0 : Int32} {σ2 : Mem} {k : Mem → Option (Int32 × Mem)}  (hk : ∀ (σ1 : Mem), k  σ1 = some (r0, σ2) → Fm RgC σ1 σ2) : ∀ (n : Nat) (v3 : Int32) (σ : Mem), f_X7_deal_30 p2 n v3 σ k = some (r0, σ2) → Fm RgC σ σ2 := by
  intro n
  induction n with
  | zero =>
    intro v3 σ h
    cases h
  | succ n ih =>
    intro v3 σ h
    rw [f_X7_deal_30.eq_2] at h
    refine r_case h (fun _ h => ?_) (fun _ h => ?_)
    · skip
      exact Fm.trans Fm.rf (hk _ h)
    · skip
      refine bnd_case h (fun a1 ea1 h => ?_)
      exact Fm.trans (Fm.trans Fm.rf (fr_X0_drawPerson ea1)) (ih _ _ h)
set_option maxRecDepth 100000 in
theorem fr_X7_deal {p1 : Int32} {σ : Mem} {res : (Int32 × Mem)}  (h : f_X7_deal p1 σ = some res) : Fm RgC σ res.2 := by
  obtain ⟨r0, σ2⟩ := res
  show Fm RgC σ σ2
  unfold f_X7_deal at h
  refine bnd_case h (fun a1 ea1 h => ?_)
  refine r_esac h (fun _ h => ?_) (fun _ h => ?_)
  · skip
    refine Fm.trans Fm.rf (lf_X7_deal_30 (fun σ_1 h => ?_) _ _ _ h)
    rw [fin_w h]
    exact Fm.rf
  · skip
    rw [fin_w h]
    exact Fm.rf
set_option maxRecDepth 100000 in
theorem fr_X7_seed {p1 : Int32} {σ : Mem} {res : (Int32 × Mem)}  (h : f_X7_seed p1 σ = some res) : Fm RgC σ res.2 := by
  obtain ⟨r0, σ2⟩ := res
  show Fm RgC σ σ2
  unfold f_X7_seed at h
  rw [fin_w h]
  exact (Fm.put Fm.rf (by unfold RgC; omega))
set_option maxRecDepth 100000 in
theorem lf_X0_callVowsAtNoon_9 {p0 : Nat} {p1 : Int32}  {σ2 : Mem} {k : Mem → Option Mem}  (hk : ∀ (σ1 : Mem), k  σ1 = some σ2 → Fm RgC σ1 σ2) : ∀ (n : Nat) (v2 : Int32) (v3 : Int32) (σ : Mem), f_X0_callVowsAtNoon_9 p0 p1 n v2 v3 σ k = some σ2 → Fm RgC σ σ2 := by
  intro n
  induction n with
  | zero =>
    intro v2 v3 σ h
    cases h
  | succ n ih =>
    intro v2 v3 σ h
    rw [f_X0_callVowsAtNoon_9.eq_2] at h
    refine r_case h (fun _ h => ?_) (fun _ h => ?_)
    · skip
      exact Fm.trans Fm.rf (hk _ h)
    · skip
      refine bnd_case h (fun j1 _ h => ?_)
      refine bnd_case h (fun j2 _ h => ?_)
      refine bnd_case h (fun a1 ea1 h => ?_)
      refine r_case h (fun _ h => ?_) (fun _ h => ?_)
      · skip
        refine bnd_case h (fun a2 ea2 h => ?_)
        refine bnd_case h (fun a3 ea3 h => ?_)
        refine r_case h (fun _ h => ?_) (fun _ h => ?_)
        · skip
          refine bnd_case h (fun a4 ea4 h => ?_)
          exact Fm.trans (Fm.trans (Fm.trans (Fm.trans Fm.rf (fr_X0_draw ea2)) (fr_X0_keeps ea3)) (fr_X0_lapse ea4)) (ih _ _ _ h)
        · skip
          exact Fm.trans (Fm.put (Fm.trans (Fm.trans Fm.rf (fr_X0_draw ea2)) (fr_X0_keeps ea3)) (by unfold RgC; omega)) (ih _ _ _ h)
      · skip
        exact Fm.trans Fm.rf (ih _ _ _ h)
set_option maxRecDepth 100000 in
theorem fr_X0_callVowsAtNoon {p0 : Nat} {σ : Mem} {res : Mem}  (h : f_X0_callVowsAtNoon p0 σ = some res) : Fm RgC σ res := by
  unfold f_X0_callVowsAtNoon at h
  refine Fm.trans Fm.rf (lf_X0_callVowsAtNoon_9 (fun σ_1 h => ?_) _ _ _ _ h)
  rw [fin_v h]
  exact Fm.rf
set_option maxRecDepth 100000 in
theorem fr_X3_receive {p0 : Nat} {p1 : Int32} {σ : Mem} {res : Mem}  (h : f_X3_receive p0 p1 σ = some res) : Fm RgC σ res := by
  unfold f_X3_receive at h
  refine bnd_case h (fun a1 ea1 h => ?_)
  rw [fin_v h]
  exact (Fm.put Fm.rf (by unfold RgC; omega))
set_option maxRecDepth 100000 in
theorem lf_X0_payDebts_2 {p0 : Nat}  {σ2 : Mem} {k : Mem → Option Mem}  (hk : ∀ (σ1 : Mem), k  σ1 = some σ2 → Fm RgC σ1 σ2) : ∀ (n : Nat) (v1 : Int32) (σ : Mem), f_X0_payDebts_2 p0 n v1 σ k = some σ2 → Fm RgC σ σ2 := by
  intro n
  induction n with
  | zero =>
    intro v1 σ h
    cases h
  | succ n ih =>
    intro v1 σ h
    rw [f_X0_payDebts_2.eq_2] at h
    refine r_case h (fun _ h => ?_) (fun _ h => ?_)
    · skip
      exact Fm.trans Fm.rf (hk _ h)
    · skip
      refine bnd_case h (fun j1 _ h => ?_)
      refine r_esac h (fun _ h => ?_) (fun _ h => ?_)
      · skip
        exact Fm.trans Fm.rf (ih _ _ h)
      · skip
        refine bnd_case h (fun j2 _ h => ?_)
        refine bnd_case h (fun j3 _ h => ?_)
        refine bnd_case h (fun a1 ea1 h => ?_)
        refine bnd_case h (fun j4 _ h => ?_)
        refine bnd_case h (fun j5 _ h => ?_)
        refine bnd_case h (fun a2 ea2 h => ?_)
        refine bnd_case h (fun j6 _ h => ?_)
        refine bnd_case h (fun j7 _ h => ?_)
        refine bnd_case h (fun a3 ea3 h => ?_)
        exact Fm.trans (Fm.trans (Fm.trans Fm.rf (fr_X3_receive ea2)) (fr_X3_receive ea3)) (ih _ _ h)
set_option maxRecDepth 100000 in
theorem fr_X0_payDebts {p0 : Nat} {σ : Mem} {res : Mem}  (h : f_X0_payDebts p0 σ = some res) : Fm RgC σ res := by
  unfold f_X0_payDebts at h
  refine Fm.trans Fm.rf (lf_X0_payDebts_2 (fun σ_1 h => ?_) _ _ _ h)
  rw [fin_v h]
  exact Fm.rf
set_option maxRecDepth 100000 in
theorem fr_X0_passHour {p0 : Nat} {σ : Mem} {res : Mem}  (h : f_X0_passHour p0 σ = some res) : Fm RgC σ res := by
  unfold f_X0_passHour at h
  refine bnd_case h (fun a1 ea1 h => ?_)
  refine bnd_case h (fun a2 ea2 h => ?_)
  rw [fin_v h]
  exact (Fm.trans (Fm.trans (Fm.put Fm.rf (by unfold RgC; omega)) (fr_X0_callVowsAtNoon ea1)) (fr_X0_payDebts ea2))
set_option maxRecDepth 100000 in
theorem lf_X0_passHours_2 {p0 : Nat} {p1 : Int32}  {σ2 : Mem} {k : Mem → Option Mem}  (hk : ∀ (σ1 : Mem), k  σ1 = some σ2 → Fm RgC σ1 σ2) : ∀ (n : Nat) (v2 : Int32) (σ : Mem), f_X0_passHours_2 p0 p1 n v2 σ k = some σ2 → Fm RgC σ σ2 := by
  intro n
  induction n with
  | zero =>
    intro v2 σ h
    cases h
  | succ n ih =>
    intro v2 σ h
    rw [f_X0_passHours_2.eq_2] at h
    refine r_case h (fun _ h => ?_) (fun _ h => ?_)
    · skip
      exact Fm.trans Fm.rf (hk _ h)
    · skip
      refine bnd_case h (fun a1 ea1 h => ?_)
      exact Fm.trans (Fm.trans Fm.rf (fr_X0_passHour ea1)) (ih _ _ h)
set_option maxRecDepth 100000 in
theorem fr_X0_passHours {p0 : Nat} {p1 : Int32} {σ : Mem} {res : Mem}  (h : f_X0_passHours p0 p1 σ = some res) : Fm RgC σ res := by
  unfold f_X0_passHours at h
  refine Fm.trans Fm.rf (lf_X0_passHours_2 (fun σ_1 h => ?_) _ _ _ h)
  rw [fin_v h]
  exact Fm.rf
set_option maxRecDepth 100000 in
theorem fr_X7_hours {p1 : Int32} {σ : Mem} {res : (Int32 × Mem)}  (h : f_X7_hours p1 σ = some res) : Fm RgC σ res.2 := by
  obtain ⟨r0, σ2⟩ := res
  show Fm RgC σ σ2
  unfold f_X7_hours at h
  refine bnd_case h (fun a1 ea1 h => ?_)
  refine r_esac h (fun _ h => ?_) (fun _ h => ?_)
  · skip
    refine bnd_case h (fun a2 ea2 h => ?_)
    rw [fin_w h]
    exact (Fm.trans Fm.rf (fr_X0_passHours ea2))
  · skip
    rw [fin_w h]
    exact Fm.rf
set_option maxRecDepth 100000 in
theorem fr_X3_becomes {p0 : Nat} {p1 : Nat} {σ : Mem} {res : Mem}  (h : f_X3_becomes p0 p1 σ = some res) : Fm RgC σ res := by
  unfold f_X3_becomes at h
  refine bnd_case h (fun s1 es1 h => ?_)
  cases es1
  rw [fin_v h]
  exact (Fm.put (Fm.put (Fm.put (Fm.put (Fm.put Fm.rf (by unfold RgC; omega)) (by unfold RgC; omega)) (by unfold RgC; omega)) (by unfold RgC; omega)) (by unfold RgC; omega))
set_option maxRecDepth 100000 in
theorem lf_X0_becomes_10 {p0 : Nat} {p1 : Nat}  {σ2 : Mem} {k : Mem → Option Mem}  (hk : ∀ (σ1 : Mem), k  σ1 = some σ2 → Fm RgC σ1 σ2) : ∀ (n : Nat) (v2 : Int32) (σ : Mem), f_X0_becomes_10 p0 p1 n v2 σ k = some σ2 → Fm RgC σ σ2 := by
  intro n
  induction n with
  | zero =>
    intro v2 σ h
    cases h
  | succ n ih =>
    intro v2 σ h
    rw [f_X0_becomes_10.eq_2] at h
    refine r_case h (fun _ h => ?_) (fun _ h => ?_)
    · skip
      exact Fm.trans Fm.rf (hk _ h)
    · skip
      refine bnd_case h (fun j1 _ h => ?_)
      refine bnd_case h (fun j2 _ h => ?_)
      refine bnd_case h (fun a1 ea1 h => ?_)
      exact Fm.trans (Fm.trans Fm.rf (fr_X3_becomes ea1)) (ih _ _ h)
set_option maxRecDepth 100000 in
theorem fr_X0_becomes {p0 : Nat} {p1 : Nat} {σ : Mem} {res : Mem}  (h : f_X0_becomes p0 p1 σ = some res) : Fm RgC σ res := by
  unfold f_X0_becomes at h
  refine Fm.trans (Fm.put Fm.rf (by unfold RgC; omega)) (lf_X0_becomes_10 (fun σ_1 h => ?_) _ _ _ h)
  refine r_case h (fun _ h => ?_) (fun _ q => by cases q)
  refine bnd_case h (fun s1 es1 h => ?_)
  cases es1
  refine r_case h (fun _ h => ?_) (fun _ q => by cases q)
  refine bnd_case h (fun s2 es2 h => ?_)
  cases es2
  refine r_case h (fun _ h => ?_) (fun _ q => by cases q)
  refine bnd_case h (fun s3 es3 h => ?_)
  cases es3
  refine bnd_case h (fun s4 es4 h => ?_)
  cases es4
  refine r_case h (fun _ h => ?_) (fun _ q => by cases q)
  refine bnd_case h (fun s5 es5 h => ?_)
  cases es5
  rw [fin_v h]
  exact (Fm.cpy (Fm.put (Fm.put (Fm.put (Fm.put (Fm.put (Fm.cpy (Fm.cpy (Fm.cpy (Fm.put Fm.rf (by unfold RgC; omega)) (by unfold RgC; omega)) (by unfold RgC; omega)) (by unfold RgC; omega)) (by unfold RgC; omega)) (by unfold RgC; omega)) (by unfold RgC; omega)) (by unfold RgC; omega)) (by unfold RgC; omega)) (by unfold RgC; omega))
set_option maxRecDepth 100000 in
theorem fr_X7_behind {p1 : Int32} {p2 : Int32} {σ : Mem} {res : (Int32 × Mem)}  (h : f_X7_behind p1 p2 σ = some res) : Fm RgC σ res.2 := by
  obtain ⟨r0, σ2⟩ := res
  show Fm RgC σ σ2
  unfold f_X7_behind at h
  refine bnd_case h (fun a1 ea1 h => ?_)
  refine r_case h (fun _ h => ?_) (fun _ h => ?_)
  · skip
    rw [fin_w h]
    exact Fm.rf
  · skip
    refine bnd_case h (fun a2 ea2 h => ?_)
    refine r_esac h (fun _ h => ?_) (fun _ h => ?_)
    · skip
      refine bnd_case h (fun a3 ea3 h => ?_)
      refine bnd_case h (fun a4 ea4 h => ?_)
      refine r_case h (fun _ h => ?_) (fun _ h => ?_)
      · skip
        rw [fin_w h]
        exact (Fm.trans (Fm.trans Fm.rf (fr_X0_becomes ea3)) (fr_X0_passHours ea4))
      · refine r_case h (fun _ h => ?_) (fun _ h => ?_)
        · skip
          rw [fin_w h]
          exact (Fm.trans (Fm.trans Fm.rf (fr_X0_becomes ea3)) (fr_X0_passHours ea4))
        · refine r_case h (fun _ h => ?_) (fun _ h => ?_)
          · skip
            rw [fin_w h]
            exact (Fm.trans (Fm.trans Fm.rf (fr_X0_becomes ea3)) (fr_X0_passHours ea4))
          · skip
            refine bnd_case h (fun j1 _ h => ?_)
            rw [fin_w h]
            exact (Fm.trans (Fm.trans Fm.rf (fr_X0_becomes ea3)) (fr_X0_passHours ea4))
    · skip
      rw [fin_w h]
      exact Fm.rf
set_option maxRecDepth 100000 in
theorem lf_X7_free_13    {r0 : Int32} {σ2 : Mem} {k : Mem → Option (Int32 × Mem)}  (hk : ∀ (σ1 : Mem), k  σ1 = some (r0, σ2) → Fm RgC σ1 σ2) : ∀ (n : Nat) (v1 : Int32) (σ : Mem), f_X7_free_13  n v1 σ k = some (r0, σ2) → Fm RgC σ σ2 := by
  intro n
  induction n with
  | zero =>
    intro v1 σ h
    cases h
  | succ n ih =>
    intro v1 σ h
    rw [f_X7_free_13.eq_2] at h
    refine r_case h (fun _ h => ?_) (fun _ h => ?_)
    · skip
      exact Fm.trans Fm.rf (hk _ h)
    · skip
      refine r_esac h (fun _ h => ?_) (fun _ h => ?_)
      · skip
        refine bnd_case h (fun a1 ea1 h => ?_)
        exact Fm.trans (Fm.trans Fm.rf (fr_X0_passHour ea1)) (ih _ _ h)
      · skip
        rw [fin_w h]
        exact Fm.rf
set_option maxRecDepth 100000 in
theorem fr_X7_free  {σ : Mem} {res : (Int32 × Mem)}  (h : f_X7_free σ = some res) : Fm RgC σ res.2 := by
  obtain ⟨r0, σ2⟩ := res
  show Fm RgC σ σ2
  unfold f_X7_free at h
  refine bnd_case h (fun a1 ea1 h => ?_)
  refine Fm.trans (Fm.trans Fm.rf (fr_X0_becomes ea1)) (lf_X7_free_13 (fun σ_1 h => ?_) _ _ _ h)
  rw [fin_w h]
  exact Fm.rf
set_option maxRecDepth 100000 in
theorem lf_X7_sworn_44 {p1 : Int32} {p2 : Int32}   {r0 : Int32} {σ2 : Mem} {k : Int32 → Int32 → Mem → Option (Int32 × Mem)}  (hk : ∀ (x3 : Int32) (x4 : Int32) (σ1 : Mem), k x3 x4 σ1 = some (r0, σ2) → Fm RgC σ1 σ2) : ∀ (n : Nat) (v3 : Int32) (v4 : Int32) (v5 : Int32) (σ : Mem), f_X7_sworn_44 p1 p2 n v3 v4 v5 σ k = some (r0, σ2) → Fm RgC σ σ2 := by
  intro n
  induction n with
  | zero =>
    intro v3 v4 v5 σ h
    cases h
  | succ n ih =>
    intro v3 v4 v5 σ h
    rw [f_X7_sworn_44.eq_2] at h
    refine r_case h (fun _ h => ?_) (fun _ h => ?_)
    · skip
      exact Fm.trans Fm.rf (hk _ _ _ h)
    · skip
      refine r_esac h (fun _ h => ?_) (fun _ h => ?_)
      · skip
        refine bnd_case h (fun a1 ea1 h => ?_)
        refine bnd_case h (fun a2 ea2 h => ?_)
        refine bnd_case h (fun a3 ea3 h => ?_)
        refine r_case h (fun _ h => ?_) (fun _ h => ?_)
        · skip
          exact Fm.trans (Fm.trans (Fm.trans (Fm.trans Fm.rf (fr_X0_becomes ea1)) (fr_X0_addVow ea2)) (fr_X0_passHours ea3)) (ih _ _ _ _ h)
        · skip
          exact Fm.trans (Fm.trans (Fm.trans (Fm.trans Fm.rf (fr_X0_becomes ea1)) (fr_X0_addVow ea2)) (fr_X0_passHours ea3)) (ih _ _ _ _ h)
      · skip
        refine bnd_case h (fun a4 ea4 h => ?_)
        refine bnd_case h (fun a5 ea5 h => ?_)
        refine bnd_case h (fun a6 ea6 h => ?_)
        refine r_case h (fun _ h => ?_) (fun _ h => ?_)
        · skip
          exact Fm.trans (Fm.trans (Fm.trans (Fm.trans Fm.rf (fr_X0_becomes ea4)) (fr_X0_addVow ea5)) (fr_X0_passHours ea6)) (ih _ _ _ _ h)
        · skip
          exact Fm.trans (Fm.trans (Fm.trans (Fm.trans Fm.rf (fr_X0_becomes ea4)) (fr_X0_addVow ea5)) (fr_X0_passHours ea6)) (ih _ _ _ _ h)
set_option maxRecDepth 100000 in
theorem fr_X7_sworn {p1 : Int32} {p2 : Int32} {σ : Mem} {res : (Int32 × Mem)}  (h : f_X7_sworn p1 p2 σ = some res) : Fm RgC σ res.2 := by
  obtain ⟨r0, σ2⟩ := res
  show Fm RgC σ σ2
  unfold f_X7_sworn at h
  refine bnd_case h (fun a1 ea1 h => ?_)
  refine r_case h (fun _ h => ?_) (fun _ h => ?_)
  · skip
    rw [fin_w h]
    exact Fm.rf
  · skip
    refine bnd_case h (fun a2 ea2 h => ?_)
    refine r_esac h (fun _ h => ?_) (fun _ h => ?_)
    · skip
      refine r_case h (fun _ h => ?_) (fun _ h => ?_)
      · skip
        refine Fm.trans Fm.rf (lf_X7_sworn_44 (fun e1 e2 σ_1 h => ?_) _ _ _ _ _ h)
        refine r_esac h (fun _ h => ?_) (fun _ h => ?_)
        · skip
          rw [fin_w h]
          exact Fm.rf
        · skip
          rw [fin_w h]
          exact Fm.rf
      · skip
        rw [fin_w h]
        exact Fm.rf
    · skip
      rw [fin_w h]
      exact Fm.rf
set_option maxRecDepth 100000 in
theorem lf_X7_trust_31 {p1 : Int32} {p2 : Int32}   {r0 : Int32} {σ2 : Mem} {k : Int32 → Int32 → Mem → Option (Int32 × Mem)}  (hk : ∀ (x3 : Int32) (x4 : Int32) (σ1 : Mem), k x3 x4 σ1 = some (r0, σ2) → Fm RgC σ1 σ2) : ∀ (n : Nat) (v3 : Int32) (v4 : Int32) (v5 : Int32) (σ : Mem), f_X7_trust_31 p1 p2 n v3 v4 v5 σ k = some (r0, σ2) → Fm RgC σ σ2 := by
  intro n
  induction n with
  | zero =>
    intro v3 v4 v5 σ h
    cases h
  | succ n ih =>
    intro v3 v4 v5 σ h
    rw [f_X7_trust_31.eq_2] at h
    refine r_case h (fun _ h => ?_) (fun _ h => ?_)
    · skip
      exact Fm.trans Fm.rf (hk _ _ _ h)
    · skip
      refine bnd_case h (fun a1 ea1 h => ?_)
      refine bnd_case h (fun j1 _ h => ?_)
      refine bnd_case h (fun a2 ea2 h => ?_)
      refine r_case h (fun _ h => ?_) (fun _ h => ?_)
      · skip
        exact Fm.trans (Fm.trans (Fm.put (Fm.trans Fm.rf (fr_X0_becomes ea1)) (by unfold RgC; omega)) (fr_X0_passHours ea2)) (ih _ _ _ _ h)
      · skip
        exact Fm.trans (Fm.trans (Fm.put (Fm.trans Fm.rf (fr_X0_becomes ea1)) (by unfold RgC; omega)) (fr_X0_passHours ea2)) (ih _ _ _ _ h)
set_option maxRecDepth 100000 in
theorem fr_X7_trust {p1 : Int32} {p2 : Int32} {σ : Mem} {res : (Int32 × Mem)}  (h : f_X7_trust p1 p2 σ = some res) : Fm RgC σ res.2 := by
  obtain ⟨r0, σ2⟩ := res
  show Fm RgC σ σ2
  unfold f_X7_trust at h
  refine bnd_case h (fun a1 ea1 h => ?_)
  refine r_case h (fun _ h => ?_) (fun _ h => ?_)
  · skip
    rw [fin_w h]
    exact Fm.rf
  · skip
    refine bnd_case h (fun a2 ea2 h => ?_)
    refine r_esac h (fun _ h => ?_) (fun _ h => ?_)
    · skip
      refine Fm.trans Fm.rf (lf_X7_trust_31 (fun e1 e2 σ_1 h => ?_) _ _ _ _ _ h)
      refine r_case h (fun _ h => ?_) (fun _ h => ?_)
      · skip
        rw [fin_w h]
        exact Fm.rf
      · skip
        refine r_esac h (fun _ h => ?_) (fun _ h => ?_)
        · skip
          rw [fin_w h]
          exact Fm.rf
        · skip
          rw [fin_w h]
          exact Fm.rf
    · skip
      rw [fin_w h]
      exact Fm.rf
set_option maxRecDepth 100000 in
theorem lf_X7_debtor_50 {p2 : Int32} {σ : Mem}   {r0 : Int32} {σ2 : Mem} {k : Int32 → Int32 → Option (Int32 × Mem)}  (hk : ∀ (x3 : Int32) (x4 : Int32), k x3 x4 = some (r0, σ2) → Fm RgC σ σ2) : ∀ (n : Nat) (v3 : Int32) (v4 : Int32) (v5 : Int32), f_X7_debtor_50 p2 σ n v3 v4 v5 k = some (r0, σ2) → Fm RgC σ σ2 := by
  intro n
  induction n with
  | zero =>
    intro v3 v4 v5 h
    cases h
  | succ n ih =>
    intro v3 v4 v5 h
    rw [f_X7_debtor_50.eq_2] at h
    refine r_case h (fun _ h => ?_) (fun _ h => ?_)
    · skip
      exact Fm.trans Fm.rf (hk _ _ h)
    · skip
      refine bnd_case h (fun j1 _ h => ?_)
      refine bnd_case h (fun j2 _ h => ?_)
      refine r_case h (fun _ h => ?_) (fun _ h => ?_)
      · skip
        exact Fm.trans Fm.rf (ih _ _ _ h)
      · skip
        refine r_case h (fun _ h => ?_) (fun _ h => ?_)
        · skip
          exact Fm.trans Fm.rf (ih _ _ _ h)
        · skip
          exact Fm.trans Fm.rf (ih _ _ _ h)
set_option maxRecDepth 100000 in
theorem fr_X7_debtor {p1 : Int32} {p2 : Int32} {σ : Mem} {res : (Int32 × Mem)}  (h : f_X7_debtor p1 p2 σ = some res) : Fm RgC σ res.2 := by
  obtain ⟨r0, σ2⟩ := res
  show Fm RgC σ σ2
  unfold f_X7_debtor at h
  refine bnd_case h (fun a1 ea1 h => ?_)
  refine r_case h (fun _ h => ?_) (fun _ h => ?_)
  · skip
    rw [fin_w h]
    exact Fm.rf
  · skip
    refine bnd_case h (fun a2 ea2 h => ?_)
    refine r_esac h (fun _ h => ?_) (fun _ h => ?_)
    · skip
      refine bnd_case h (fun a3 ea3 h => ?_)
      refine bnd_case h (fun a4 ea4 h => ?_)
      refine Fm.trans (Fm.trans (Fm.trans Fm.rf (fr_X0_becomes ea3)) (fr_X0_passHours ea4)) (lf_X7_debtor_50 (fun e1 e2 h => ?_) _ _ _ _ h)
      refine r_case h (fun _ h => ?_) (fun _ h => ?_)
      · skip
        rw [fin_w h]
        exact Fm.rf
      · skip
        refine r_esac h (fun _ h => ?_) (fun _ h => ?_)
        · skip
          rw [fin_w h]
          exact Fm.rf
        · skip
          rw [fin_w h]
          exact Fm.rf
    · skip
      rw [fin_w h]
      exact Fm.rf
set_option maxRecDepth 100000 in
theorem lf_X7_differencesWithEast_30 {p1 : Nat} {p2 : Int32}   {r0 : Int32} {σ2 : Mem} {k : Int32 → Mem → Option (Int32 × Mem)}  (hk : ∀ (x4 : Int32) (σ1 : Mem), k x4 σ1 = some (r0, σ2) → Fm RgC σ1 σ2) : ∀ (n : Nat) (v4 : Int32) (v5 : Int32) (σ : Mem), f_X7_differencesWithEast_30 p1 p2 n v4 v5 σ k = some (r0, σ2) → Fm RgC σ σ2 := by
  intro n
  induction n with
  | zero =>
    intro v4 v5 σ h
    cases h
  | succ n ih =>
    intro v4 v5 σ h
    rw [f_X7_differencesWithEast_30.eq_2] at h
    refine r_case h (fun _ h => ?_) (fun _ h => ?_)
    · skip
      exact Fm.trans Fm.rf (hk _ _ h)
    · skip
      refine bnd_case h (fun a1 ea1 h => ?_)
      refine r_case h (fun _ h => ?_) (fun _ h => ?_)
      · skip
        refine bnd_case h (fun a2 ea2 h => ?_)
        exact Fm.trans (Fm.trans Fm.rf (fr_X0_passHour ea2)) (ih _ _ _ h)
      · skip
        refine bnd_case h (fun a3 ea3 h => ?_)
        refine bnd_case h (fun j1 _ h => ?_)
        refine bnd_case h (fun a4 ea4 h => ?_)
        exact Fm.trans (Fm.trans Fm.rf (fr_X0_passHour ea4)) (ih _ _ _ h)
set_option maxRecDepth 100000 in
theorem fr_X7_differencesWithEast {p1 : Nat} {p2 : Int32} {p3 : Int32} {σ : Mem} {res : (Int32 × Mem)}  (h : f_X7_differencesWithEast p1 p2 p3 σ = some res) : Fm RgC σ res.2 := by
  obtain ⟨r0, σ2⟩ := res
  show Fm RgC σ σ2
  unfold f_X7_differencesWithEast at h
  refine bnd_case h (fun a1 ea1 h => ?_)
  refine bnd_case h (fun j1 _ h => ?_)
  refine Fm.trans (Fm.put (Fm.trans Fm.rf (fr_X0_becomes ea1)) (by unfold RgC; omega)) (lf_X7_differencesWithEast_30 (fun e1 σ_1 h => ?_) _ _ _ _ h)
  rw [fin_w h]
  exact Fm.rf
set_option maxRecDepth 100000 in
theorem lf_X7_clock_67 {p1 : Int32} {p2 : Int32} {p3 : Int32}   {r0 : Int32} {σ2 : Mem} {k : Int32 → Int32 → Mem → Option (Int32 × Mem)}  (hk : ∀ (x4 : Int32) (x5 : Int32) (σ1 : Mem), k x4 x5 σ1 = some (r0, σ2) → Fm RgC σ1 σ2) : ∀ (n : Nat) (v4 : Int32) (v5 : Int32) (v6 : Int32) (σ : Mem), f_X7_clock_67 p1 p2 p3 n v4 v5 v6 σ k = some (r0, σ2) → Fm RgC σ σ2 := by
  intro n
  induction n with
  | zero =>
    intro v4 v5 v6 σ h
    cases h
  | succ n ih =>
    intro v4 v5 v6 σ h
    rw [f_X7_clock_67.eq_2] at h
    refine r_case h (fun _ h => ?_) (fun _ h => ?_)
    · skip
      exact Fm.trans Fm.rf (hk _ _ _ h)
    · skip
      refine bnd_case h (fun j1 _ h => ?_)
      refine bnd_case h (fun a1 ea1 h => ?_)
      refine r_case h (fun _ h => ?_) (fun _ h => ?_)
      · skip
        exact Fm.trans (Fm.trans Fm.rf (fr_X7_differencesWithEast ea1)) (ih _ _ _ _ h)
      · skip
        exact Fm.trans (Fm.trans Fm.rf (fr_X7_differencesWithEast ea1)) (ih _ _ _ _ h)
set_option maxRecDepth 100000 in
theorem fr_X7_clock {p1 : Int32} {p2 : Int32} {p3 : Int32} {σ : Mem} {res : (Int32 × Mem)}  (h : f_X7_clock p1 p2 p3 σ = some res) : Fm RgC σ res.2 := by
  obtain ⟨r0, σ2⟩ := res
  show Fm RgC σ σ2
  unfold f_X7_clock at h
  refine bnd_case h (fun a1 ea1 h => ?_)
  refine r_case h (fun _ h => ?_) (fun _ h => ?_)
  · skip
    rw [fin_w h]
    exact Fm.rf
  · skip
    refine bnd_case h (fun a2 ea2 h => ?_)
    refine r_case h (fun _ h => ?_) (fun _ h => ?_)
    · skip
      rw [fin_w h]
      exact Fm.rf
    · skip
      refine bnd_case h (fun a3 ea3 h => ?_)
      refine r_esac h (fun _ h => ?_) (fun _ h => ?_)
      · skip
        refine bnd_case h (fun j1 _ h => ?_)
        refine bnd_case h (fun a4 ea4 h => ?_)
        refine r_case h (fun _ h => ?_) (fun _ h => ?_)
        · skip
          refine bnd_case h (fun j2 _ h => ?_)
          refine bnd_case h (fun a5 ea5 h => ?_)
          refine Fm.trans (Fm.trans Fm.rf (fr_X7_differencesWithEast ea5)) (lf_X7_clock_67 (fun e1 e2 σ_1 h => ?_) _ _ _ _ _ h)
          refine r_esac h (fun _ h => ?_) (fun _ h => ?_)
          · skip
            rw [fin_w h]
            exact Fm.rf
          · skip
            rw [fin_w h]
            exact Fm.rf
        · skip
          rw [fin_w h]
          exact Fm.rf
      · skip
        rw [fin_w h]
        exact Fm.rf
set_option maxRecDepth 100000 in
theorem fr_X7_fee  {σ : Mem} {res : (Int32 × Mem)}  (h : f_X7_fee σ = some res) : Fm RgC σ res.2 := by
  obtain ⟨r0, σ2⟩ := res
  show Fm RgC σ σ2
  unfold f_X7_fee at h
  refine bnd_case h (fun j1 _ h => ?_)
  refine r_case h (fun _ h => ?_) (fun _ h => ?_)
  · skip
    refine bnd_case h (fun a1 ea1 h => ?_)
    rw [fin_w h]
    exact (Fm.trans Fm.rf (fr_X2_gives ea1))
  · skip
    rw [fin_w h]
    exact Fm.rf
set_option maxRecDepth 100000 in
theorem fr_X7_fine {p1 : Int32} {σ : Mem} {res : (Int32 × Mem)}  (h : f_X7_fine p1 σ = some res) : Fm RgC σ res.2 := by
  obtain ⟨r0, σ2⟩ := res
  show Fm RgC σ σ2
  unfold f_X7_fine at h
  refine bnd_case h (fun a1 ea1 h => ?_)
  refine r_esac h (fun _ h => ?_) (fun _ h => ?_)
  · skip
    refine bnd_case h (fun j1 _ h => ?_)
    refine bnd_case h (fun j2 _ h => ?_)
    refine r_case h (fun _ h => ?_) (fun _ h => ?_)
    · skip
      refine bnd_case h (fun a2 ea2 h => ?_)
      rw [fin_w h]
      exact (Fm.trans Fm.rf (fr_X2_gives ea2))
    · skip
      rw [fin_w h]
      exact Fm.rf
  · skip
    rw [fin_w h]
    exact Fm.rf
set_option maxRecDepth 100000 in
theorem lf_X7_putBytes_3 {p1 : Int32}  {σ2 : Mem} {k : Mem → Option Mem}  (hk : ∀ (σ1 : Mem), k  σ1 = some σ2 → Fm RgC σ1 σ2) : ∀ (n : Nat) (v2 : Int32) (σ : Mem), f_X7_putBytes_3 p1 n v2 σ k = some σ2 → Fm RgC σ σ2 := by
  intro n
  induction n with
  | zero =>
    intro v2 σ h
    cases h
  | succ n ih =>
    intro v2 σ h
    rw [f_X7_putBytes_3.eq_2] at h
    refine r_case h (fun _ h => ?_) (fun _ h => ?_)
    · skip
      exact Fm.trans Fm.rf (hk _ h)
    · skip
      refine bnd_case h (fun j1 _ h => ?_)
      refine bnd_case h (fun s1 es1 h => ?_)
      cases es1
      exact Fm.trans (Fm.put (Fm.put Fm.rf (by unfold RgC; omega)) (by unfold RgC; omega)) (ih _ _ h)
set_option maxRecDepth 100000 in
theorem fr_X7_putBytes {p1 : Int32} {σ : Mem} {res : Mem}  (h : f_X7_putBytes p1 σ = some res) : Fm RgC σ res := by
  unfold f_X7_putBytes at h
  refine Fm.trans Fm.rf (lf_X7_putBytes_3 (fun σ_1 h => ?_) _ _ _ h)
  rw [fin_v h]
  exact Fm.rf
set_option maxRecDepth 100000 in
theorem fr_X7_feed {p1 : Int32} {p2 : Int32} {p3 : Int32} {σ : Mem} {res : (Int32 × Mem)}  (h : f_X7_feed p1 p2 p3 σ = some res) : Fm RgC σ res.2 := by
  obtain ⟨r0, σ2⟩ := res
  show Fm RgC σ σ2
  unfold f_X7_feed at h
  refine r_case h (fun _ h => ?_) (fun _ h => ?_)
  · skip
    refine bnd_case h (fun a1 ea1 h => ?_)
    refine bnd_case h (fun a2 ea2 h => ?_)
    refine bnd_case h (fun a3 ea3 h => ?_)
    rw [fin_w h]
    exact (Fm.trans (Fm.trans (Fm.trans Fm.rf (fr_X7_putBytes ea1)) (fr_X7_putBytes ea2)) (fr_X7_putBytes ea3))
  · skip
    rw [fin_w h]
    exact Fm.rf
set_option maxRecDepth 100000 in
theorem fr_X7_trim {p1 : Int32} {σ : Mem} {res : (Int32 × Mem)}  (h : f_X7_trim p1 σ = some res) : Fm RgC σ res.2 := by
  obtain ⟨r0, σ2⟩ := res
  show Fm RgC σ σ2
  unfold f_X7_trim at h
  refine bnd_case h (fun a1 ea1 h => ?_)
  refine r_esac h (fun _ h => ?_) (fun _ h => ?_)
  · skip
    rw [fin_w h]
    exact (Fm.put Fm.rf (by unfold RgC; omega))
  · skip
    rw [fin_w h]
    exact Fm.rf
set_option maxRecDepth 100000 in
theorem fr_X1_startAnew {p0 : Nat} {σ : Mem} {res : Mem}  (h : f_X1_startAnew p0 σ = some res) : Fm RgC σ res := by
  unfold f_X1_startAnew at h
  rw [fin_v h]
  exact (Fm.put (Fm.put Fm.rf (by unfold RgC; omega)) (by unfold RgC; omega))
set_option maxRecDepth 100000 in
theorem lf_X4_goOn_35 {p1 : Int32} {p2 : Int32}  {σ2 : Mem} {k : Mem → Option Mem}  (hk : ∀ (σ1 : Mem), k  σ1 = some σ2 → Fm RgC σ1 σ2) : ∀ (n : Nat) (σ : Mem), f_X4_goOn_35 p1 p2 n  σ k = some σ2 → Fm RgC σ σ2 := by
  intro n
  induction n with
  | zero =>
    intro σ h
    cases h
  | succ n ih =>
    intro σ h
    rw [f_X4_goOn_35.eq_2] at h
    refine r_case h (fun _ h => ?_) (fun _ h => ?_)
    · exact Fm.trans Fm.rf (hk _ h)
    · skip
      refine bnd_case h (fun j1 _ h => ?_)
      refine r_esac h (fun _ h => ?_) (fun _ h => ?_)
      · exact Fm.trans Fm.rf (hk _ h)
      · skip
        exact Fm.trans (Fm.put Fm.rf (by unfold RgC; omega)) (ih _ h)
set_option maxRecDepth 100000 in
theorem lf_X4_goOn_165 {p1 : Int32} {p2 : Int32}  {σ2 : Mem} {k : Mem → Option Mem}  (hk : ∀ (σ1 : Mem), k  σ1 = some σ2 → Fm RgC σ1 σ2) : ∀ (n : Nat) (σ : Mem), f_X4_goOn_165 p1 p2 n  σ k = some σ2 → Fm RgC σ σ2 := by
  intro n
  induction n with
  | zero =>
    intro σ h
    cases h
  | succ n ih =>
    intro σ h
    rw [f_X4_goOn_165.eq_2] at h
    refine r_case h (fun _ h => ?_) (fun _ h => ?_)
    · exact Fm.trans Fm.rf (hk _ h)
    · skip
      refine bnd_case h (fun a1 ea1 h => ?_)
      refine r_case h (fun _ h => ?_) (fun _ h => ?_)
      · exact Fm.trans Fm.rf (hk _ h)
      · skip
        exact Fm.trans (Fm.put Fm.rf (by unfold RgC; omega)) (ih _ h)
set_option maxRecDepth 100000 in
theorem lf_X4_goOn_114 {p1 : Int32} {p2 : Int32}  {σ2 : Mem} {k : Mem → Option Mem}  (hk : ∀ (σ1 : Mem), k  σ1 = some σ2 → Fm RgC σ1 σ2) : ∀ (n : Nat) (σ : Mem), f_X4_goOn_114 p1 p2 n  σ k = some σ2 → Fm RgC σ σ2 := by
  intro n
  induction n with
  | zero =>
    intro σ h
    cases h
  | succ n ih =>
    intro σ h
    rw [f_X4_goOn_114.eq_2] at h
    refine r_case h (fun _ h => ?_) (fun _ h => ?_)
    · exact Fm.trans Fm.rf (hk _ h)
    · skip
      refine bnd_case h (fun a1 ea1 h => ?_)
      refine r_case h (fun _ h => ?_) (fun _ h => ?_)
      · exact Fm.trans Fm.rf (hk _ h)
      · skip
        exact Fm.trans (Fm.put Fm.rf (by unfold RgC; omega)) (ih _ h)
set_option maxRecDepth 100000 in
theorem fr_X4_goOn  {σ : Mem} {res : Mem}  (h : f_X4_goOn σ = some res) : Fm RgC σ res := by
  unfold f_X4_goOn at h
  refine r_case h (fun _ h => ?_) (fun _ h => ?_)
  · skip
    refine Fm.trans (Fm.put Fm.rf (by unfold RgC; omega)) (lf_X4_goOn_35 (fun σ_1 h => ?_) _ _ h)
    refine r_case h (fun _ h => ?_) (fun _ h => ?_)
    · skip
      refine bnd_case h (fun a1 ea1 h => ?_)
      refine r_case h (fun _ h => ?_) (fun _ h => ?_)
      · skip
        refine bnd_case h (fun a2 ea2 h => ?_)
        refine r_case h (fun _ h => ?_) (fun _ h => ?_)
        · skip
          refine bnd_case h (fun s1 es1 h => ?_)
          cases es1
          refine r_case h (fun _ h => ?_) (fun _ h => ?_)
          · skip
            refine r_esac h (fun _ h => ?_) (fun _ h => ?_)
            · rw [fin_v h]
              exact (Fm.put (Fm.put (Fm.put Fm.rf (by unfold RgC; omega)) (by unfold RgC; omega)) (by unfold RgC; omega))
            · skip
              refine r_case h (fun _ h => ?_) (fun _ h => ?_)
              · rw [fin_v h]
                exact (Fm.put (Fm.put (Fm.put Fm.rf (by unfold RgC; omega)) (by unfold RgC; omega)) (by unfold RgC; omega))
              · skip
                rw [fin_v h]
                exact (Fm.put (Fm.put (Fm.put (Fm.put Fm.rf (by unfold RgC; omega)) (by unfold RgC; omega)) (by unfold RgC; omega)) (by unfold RgC; omega))
          · skip
            refine r_esac h (fun _ h => ?_) (fun _ h => ?_)
            · skip
              refine r_esac h (fun _ h => ?_) (fun _ h => ?_)
              · rw [fin_v h]
                exact (Fm.put (Fm.put (Fm.put Fm.rf (by unfold RgC; omega)) (by unfold RgC; omega)) (by unfold RgC; omega))
              · skip
                refine r_case h (fun _ h => ?_) (fun _ h => ?_)
                · rw [fin_v h]
                  exact (Fm.put (Fm.put (Fm.put Fm.rf (by unfold RgC; omega)) (by unfold RgC; omega)) (by unfold RgC; omega))
                · skip
                  rw [fin_v h]
                  exact (Fm.put (Fm.put (Fm.put (Fm.put Fm.rf (by unfold RgC; omega)) (by unfold RgC; omega)) (by unfold RgC; omega)) (by unfold RgC; omega))
            · skip
              rw [fin_v h]
              exact (Fm.put (Fm.put (Fm.put (Fm.put Fm.rf (by unfold RgC; omega)) (by unfold RgC; omega)) (by unfold RgC; omega)) (by unfold RgC; omega))
        · skip
          refine Fm.trans (Fm.put (Fm.put Fm.rf (by unfold RgC; omega)) (by unfold RgC; omega)) (lf_X4_goOn_165 (fun σ_2 h => ?_) _ _ h)
          refine r_case h (fun _ h => ?_) (fun _ h => ?_)
          · skip
            refine r_esac h (fun _ h => ?_) (fun _ h => ?_)
            · rw [fin_v h]
              exact Fm.rf
            · skip
              refine r_case h (fun _ h => ?_) (fun _ h => ?_)
              · rw [fin_v h]
                exact Fm.rf
              · skip
                rw [fin_v h]
                exact (Fm.put Fm.rf (by unfold RgC; omega))
          · skip
            refine r_esac h (fun _ h => ?_) (fun _ h => ?_)
            · skip
              refine r_esac h (fun _ h => ?_) (fun _ h => ?_)
              · rw [fin_v h]
                exact Fm.rf
              · skip
                refine r_case h (fun _ h => ?_) (fun _ h => ?_)
                · rw [fin_v h]
                  exact Fm.rf
                · skip
                  rw [fin_v h]
                  exact (Fm.put Fm.rf (by unfold RgC; omega))
            · skip
              rw [fin_v h]
              exact (Fm.put Fm.rf (by unfold RgC; omega))
      · skip
        refine Fm.trans (Fm.put (Fm.put Fm.rf (by unfold RgC; omega)) (by unfold RgC; omega)) (lf_X4_goOn_114 (fun σ_3 h => ?_) _ _ h)
        refine r_case h (fun _ h => ?_) (fun _ h => ?_)
        · skip
          refine r_esac h (fun _ h => ?_) (fun _ h => ?_)
          · rw [fin_v h]
            exact Fm.rf
          · skip
            refine r_case h (fun _ h => ?_) (fun _ h => ?_)
            · rw [fin_v h]
              exact Fm.rf
            · skip
              rw [fin_v h]
              exact (Fm.put Fm.rf (by unfold RgC; omega))
        · skip
          refine r_esac h (fun _ h => ?_) (fun _ h => ?_)
          · skip
            refine r_esac h (fun _ h => ?_) (fun _ h => ?_)
            · rw [fin_v h]
              exact Fm.rf
            · skip
              refine r_case h (fun _ h => ?_) (fun _ h => ?_)
              · rw [fin_v h]
                exact Fm.rf
              · skip
                rw [fin_v h]
                exact (Fm.put Fm.rf (by unfold RgC; omega))
          · skip
            rw [fin_v h]
            exact (Fm.put Fm.rf (by unfold RgC; omega))
    · skip
      rw [fin_v h]
      exact (Fm.put (Fm.put Fm.rf (by unfold RgC; omega)) (by unfold RgC; omega))
  · skip
    refine r_esac h (fun _ h => ?_) (fun _ h => ?_)
    · skip
      refine Fm.trans (Fm.put Fm.rf (by unfold RgC; omega)) (lf_X4_goOn_35 (fun σ_4 h => ?_) _ _ h)
      refine r_case h (fun _ h => ?_) (fun _ h => ?_)
      · skip
        refine bnd_case h (fun a3 ea3 h => ?_)
        refine r_case h (fun _ h => ?_) (fun _ h => ?_)
        · skip
          refine bnd_case h (fun a4 ea4 h => ?_)
          refine r_case h (fun _ h => ?_) (fun _ h => ?_)
          · skip
            refine bnd_case h (fun s2 es2 h => ?_)
            cases es2
            refine r_esac h (fun _ h => ?_) (fun _ h => ?_)
            · rw [fin_v h]
              exact (Fm.put (Fm.put (Fm.put Fm.rf (by unfold RgC; omega)) (by unfold RgC; omega)) (by unfold RgC; omega))
            · skip
              refine r_case h (fun _ h => ?_) (fun _ h => ?_)
              · rw [fin_v h]
                exact (Fm.put (Fm.put (Fm.put Fm.rf (by unfold RgC; omega)) (by unfold RgC; omega)) (by unfold RgC; omega))
              · skip
                rw [fin_v h]
                exact (Fm.put (Fm.put (Fm.put (Fm.put Fm.rf (by unfold RgC; omega)) (by unfold RgC; omega)) (by unfold RgC; omega)) (by unfold RgC; omega))
          · skip
            refine Fm.trans (Fm.put (Fm.put Fm.rf (by unfold RgC; omega)) (by unfold RgC; omega)) (lf_X4_goOn_165 (fun σ_5 h => ?_) _ _ h)
            refine r_esac h (fun _ h => ?_) (fun _ h => ?_)
            · rw [fin_v h]
              exact Fm.rf
            · skip
              refine r_case h (fun _ h => ?_) (fun _ h => ?_)
              · rw [fin_v h]
                exact Fm.rf
              · skip
                rw [fin_v h]
                exact (Fm.put Fm.rf (by unfold RgC; omega))
        · skip
          refine Fm.trans (Fm.put (Fm.put Fm.rf (by unfold RgC; omega)) (by unfold RgC; omega)) (lf_X4_goOn_114 (fun σ_6 h => ?_) _ _ h)
          refine r_esac h (fun _ h => ?_) (fun _ h => ?_)
          · rw [fin_v h]
            exact Fm.rf
          · skip
            refine r_case h (fun _ h => ?_) (fun _ h => ?_)
            · rw [fin_v h]
              exact Fm.rf
            · skip
              rw [fin_v h]
              exact (Fm.put Fm.rf (by unfold RgC; omega))
      · skip
        rw [fin_v h]
        exact (Fm.put (Fm.put Fm.rf (by unfold RgC; omega)) (by unfold RgC; omega))
    · skip
      refine Fm.trans (Fm.put Fm.rf (by unfold RgC; omega)) (lf_X4_goOn_35 (fun σ_7 h => ?_) _ _ h)
      refine r_case h (fun _ h => ?_) (fun _ h => ?_)
      · skip
        refine bnd_case h (fun a5 ea5 h => ?_)
        refine r_case h (fun _ h => ?_) (fun _ h => ?_)
        · skip
          refine bnd_case h (fun a6 ea6 h => ?_)
          refine r_case h (fun _ h => ?_) (fun _ h => ?_)
          · skip
            refine bnd_case h (fun s3 es3 h => ?_)
            cases es3
            refine r_case h (fun _ h => ?_) (fun _ h => ?_)
            · skip
              refine r_esac h (fun _ h => ?_) (fun _ h => ?_)
              · rw [fin_v h]
                exact (Fm.put (Fm.put (Fm.put Fm.rf (by unfold RgC; omega)) (by unfold RgC; omega)) (by unfold RgC; omega))
              · skip
                refine r_case h (fun _ h => ?_) (fun _ h => ?_)
                · rw [fin_v h]
                  exact (Fm.put (Fm.put (Fm.put Fm.rf (by unfold RgC; omega)) (by unfold RgC; omega)) (by unfold RgC; omega))
                · skip
                  rw [fin_v h]
                  exact (Fm.put (Fm.put (Fm.put (Fm.put Fm.rf (by unfold RgC; omega)) (by unfold RgC; omega)) (by unfold RgC; omega)) (by unfold RgC; omega))
            · skip
              refine r_esac h (fun _ h => ?_) (fun _ h => ?_)
              · skip
                refine r_esac h (fun _ h => ?_) (fun _ h => ?_)
                · rw [fin_v h]
                  exact (Fm.put (Fm.put (Fm.put Fm.rf (by unfold RgC; omega)) (by unfold RgC; omega)) (by unfold RgC; omega))
                · skip
                  refine r_case h (fun _ h => ?_) (fun _ h => ?_)
                  · rw [fin_v h]
                    exact (Fm.put (Fm.put (Fm.put Fm.rf (by unfold RgC; omega)) (by unfold RgC; omega)) (by unfold RgC; omega))
                  · skip
                    rw [fin_v h]
                    exact (Fm.put (Fm.put (Fm.put (Fm.put Fm.rf (by unfold RgC; omega)) (by unfold RgC; omega)) (by unfold RgC; omega)) (by unfold RgC; omega))
              · skip
                rw [fin_v h]
                exact (Fm.put (Fm.put (Fm.put (Fm.put Fm.rf (by unfold RgC; omega)) (by unfold RgC; omega)) (by unfold RgC; omega)) (by unfold RgC; omega))
          · skip
            refine Fm.trans (Fm.put (Fm.put Fm.rf (by unfold RgC; omega)) (by unfold RgC; omega)) (lf_X4_goOn_165 (fun σ_8 h => ?_) _ _ h)
            refine r_case h (fun _ h => ?_) (fun _ h => ?_)
            · skip
              refine r_esac h (fun _ h => ?_) (fun _ h => ?_)
              · rw [fin_v h]
                exact Fm.rf
              · skip
                refine r_case h (fun _ h => ?_) (fun _ h => ?_)
                · rw [fin_v h]
                  exact Fm.rf
                · skip
                  rw [fin_v h]
                  exact (Fm.put Fm.rf (by unfold RgC; omega))
            · skip
              refine r_esac h (fun _ h => ?_) (fun _ h => ?_)
              · skip
                refine r_esac h (fun _ h => ?_) (fun _ h => ?_)
                · rw [fin_v h]
                  exact Fm.rf
                · skip
                  refine r_case h (fun _ h => ?_) (fun _ h => ?_)
                  · rw [fin_v h]
                    exact Fm.rf
                  · skip
                    rw [fin_v h]
                    exact (Fm.put Fm.rf (by unfold RgC; omega))
              · skip
                rw [fin_v h]
                exact (Fm.put Fm.rf (by unfold RgC; omega))
        · skip
          refine Fm.trans (Fm.put (Fm.put Fm.rf (by unfold RgC; omega)) (by unfold RgC; omega)) (lf_X4_goOn_114 (fun σ_9 h => ?_) _ _ h)
          refine r_case h (fun _ h => ?_) (fun _ h => ?_)
          · skip
            refine r_esac h (fun _ h => ?_) (fun _ h => ?_)
            · rw [fin_v h]
              exact Fm.rf
            · skip
              refine r_case h (fun _ h => ?_) (fun _ h => ?_)
              · rw [fin_v h]
                exact Fm.rf
              · skip
                rw [fin_v h]
                exact (Fm.put Fm.rf (by unfold RgC; omega))
          · skip
            refine r_esac h (fun _ h => ?_) (fun _ h => ?_)
            · skip
              refine r_esac h (fun _ h => ?_) (fun _ h => ?_)
              · rw [fin_v h]
                exact Fm.rf
              · skip
                refine r_case h (fun _ h => ?_) (fun _ h => ?_)
                · rw [fin_v h]
                  exact Fm.rf
                · skip
                  rw [fin_v h]
                  exact (Fm.put Fm.rf (by unfold RgC; omega))
            · skip
              rw [fin_v h]
              exact (Fm.put Fm.rf (by unfold RgC; omega))
      · skip
        rw [fin_v h]
        exact (Fm.put (Fm.put Fm.rf (by unfold RgC; omega)) (by unfold RgC; omega))
set_option maxRecDepth 100000 in
theorem fr_X1_put {p0 : Nat} {p1 : Int32} {σ : Mem} {res : Mem}  (h : f_X1_put p0 p1 σ = some res) : Fm RgC σ res := by
  unfold f_X1_put at h
  refine r_case h (fun _ h => ?_) (fun _ h => ?_)
  · rw [fin_v h]
    exact Fm.rf
  · skip
    refine bnd_case h (fun j1 _ h => ?_)
    refine bnd_case h (fun s1 es1 h => ?_)
    cases es1
    rw [fin_v h]
    exact (Fm.put (Fm.put Fm.rf (by unfold RgC; omega)) (by unfold RgC; omega))
set_option maxRecDepth 100000 in
theorem fr_X1_addNumber {p0 : Nat} {p1 : Int32} {σ : Mem} {res : Mem}  (h : f_X1_addNumber p0 p1 σ = some res) : Fm RgC σ res := by
  unfold f_X1_addNumber at h
  refine bnd_case h (fun a1 ea1 h => ?_)
  rw [fin_v h]
  exact (Fm.put (Fm.trans Fm.rf (fr_X1_put ea1)) (by unfold RgC; omega))
set_option maxRecDepth 100000 in
theorem fr_X1_addName {p0 : Nat} {p1 : Int32} {σ : Mem} {res : Mem}  (h : f_X1_addName p0 p1 σ = some res) : Fm RgC σ res := by
  unfold f_X1_addName at h
  refine bnd_case h (fun a1 ea1 h => ?_)
  rw [fin_v h]
  exact (Fm.put (Fm.trans Fm.rf (fr_X1_put ea1)) (by unfold RgC; omega))
set_option maxRecDepth 100000 in
theorem fr_X4_readsName  {σ : Mem} {res : (Int32 × Mem)}  (h : f_X4_readsName σ = some res) : Fm RgC σ res.2 := by
  obtain ⟨r0, σ2⟩ := res
  show Fm RgC σ σ2
  unfold f_X4_readsName at h
  refine r_esac h (fun _ h => ?_) (fun _ h => ?_)
  · skip
    rw [fin_w h]
    exact Fm.rf
  · skip
    refine bnd_case h (fun j1 _ h => ?_)
    refine bnd_case h (fun a1 ea1 h => ?_)
    refine bnd_case h (fun a2 ea2 h => ?_)
    refine r_case h (fun _ h => ?_) (fun _ h => ?_)
    · skip
      refine bnd_case h (fun j2 _ h => ?_)
      refine bnd_case h (fun a3 ea3 h => ?_)
      refine bnd_case h (fun a4 ea4 h => ?_)
      rw [fin_w h]
      exact (Fm.trans (Fm.trans Fm.rf (fr_X1_addName ea3)) (fr_X4_goOn ea4))
    · skip
      rw [fin_w h]
      exact Fm.rf
set_option maxRecDepth 100000 in
theorem fr_X1_addSign {p0 : Nat} {p1 : Int32} {σ : Mem} {res : Mem}  (h : f_X1_addSign p0 p1 σ = some res) : Fm RgC σ res := by
  unfold f_X1_addSign at h
  refine bnd_case h (fun a1 ea1 h => ?_)
  rw [fin_v h]
  exact (Fm.trans Fm.rf (fr_X1_put ea1))
set_option maxRecDepth 100000 in
theorem fr_X4_closesBracket  {σ : Mem} {res : (Int32 × Mem)}  (h : f_X4_closesBracket σ = some res) : Fm RgC σ res.2 := by
  obtain ⟨r0, σ2⟩ := res
  show Fm RgC σ σ2
  unfold f_X4_closesBracket at h
  refine r_esac h (fun _ h => ?_) (fun _ h => ?_)
  · skip
    rw [fin_w h]
    exact Fm.rf
  · skip
    refine bnd_case h (fun a1 ea1 h => ?_)
    refine r_case h (fun _ h => ?_) (fun _ h => ?_)
    · skip
      refine bnd_case h (fun a2 ea2 h => ?_)
      rw [fin_w h]
      exact (Fm.trans Fm.rf (fr_X4_goOn ea2))
    · skip
      rw [fin_w h]
      exact Fm.rf
set_option maxRecDepth 100000 in
theorem lf_X5_startAnew_12 {p0 : Nat} {p2 : Int32}  {σ2 : Mem} {k : Mem → Option Mem}  (hk : ∀ (σ1 : Mem), k  σ1 = some σ2 → Fm RgC σ1 σ2) : ∀ (n : Nat) (v3 : Int32) (σ : Mem), f_X5_startAnew_12 p0 p2 n v3 σ k = some σ2 → Fm RgC σ σ2 := by
  intro n
  induction n with
  | zero =>
    intro v3 σ h
    cases h
  | succ n ih =>
    intro v3 σ h
    rw [f_X5_startAnew_12.eq_2] at h
    refine r_case h (fun _ h => ?_) (fun _ h => ?_)
    · skip
      exact Fm.trans Fm.rf (hk _ h)
    · skip
      refine bnd_case h (fun j1 _ h => ?_)
      exact Fm.trans (Fm.put Fm.rf (by unfold RgC; omega)) (ih _ _ h)
set_option maxRecDepth 100000 in
theorem fr_X5_startAnew {p0 : Nat} {p1 : Int32} {p2 : Int32} {σ : Mem} {res : Mem}  (h : f_X5_startAnew p0 p1 p2 σ = some res) : Fm RgC σ res := by
  unfold f_X5_startAnew at h
  refine Fm.trans (Fm.put (Fm.put Fm.rf (by unfold RgC; omega)) (by unfold RgC; omega)) (lf_X5_startAnew_12 (fun σ_1 h => ?_) _ _ _ h)
  rw [fin_v h]
  exact Fm.rf
set_option maxRecDepth 100000 in
theorem fr_X7_sheet {p1 : Int32} {p2 : Int32} {p3 : Int32} {σ : Mem} {res : (Int32 × Mem)}  (h : f_X7_sheet p1 p2 p3 σ = some res) : Fm RgC σ res.2 := by
  obtain ⟨r0, σ2⟩ := res
  show Fm RgC σ σ2
  unfold f_X7_sheet at h
  refine bnd_case h (fun a1 ea1 h => ?_)
  refine r_case h (fun _ h => ?_) (fun _ h => ?_)
  · skip
    rw [fin_w h]
    exact Fm.rf
  · skip
    refine bnd_case h (fun a2 ea2 h => ?_)
    refine r_esac h (fun _ h => ?_) (fun _ h => ?_)
    · skip
      refine r_esac h (fun _ h => ?_) (fun _ h => ?_)
      · skip
        refine r_case h (fun _ h => ?_) (fun _ h => ?_)
        · skip
          refine r_case h (fun _ h => ?_) (fun _ h => ?_)
          · skip
            refine bnd_case h (fun j1 _ h => ?_)
            refine bnd_case h (fun a3 ea3 h => ?_)
            rw [fin_w h]
            exact (Fm.trans Fm.rf (fr_X5_startAnew ea3))
          · skip
            rw [fin_w h]
            exact Fm.rf
        · skip
          rw [fin_w h]
          exact Fm.rf
      · skip
        refine bnd_case h (fun j2 _ h => ?_)
        refine bnd_case h (fun a4 ea4 h => ?_)
        rw [fin_w h]
        exact (Fm.trans Fm.rf (fr_X5_startAnew ea4))
    · skip
      rw [fin_w h]
      exact Fm.rf
set_option maxRecDepth 100000 in
theorem fr_X7_mark {p1 : Int32} {p2 : Int32} {p3 : Int32} {σ : Mem} {res : (Int32 × Mem)}  (h : f_X7_mark p1 p2 p3 σ = some res) : Fm RgC σ res.2 := by
  obtain ⟨r0, σ2⟩ := res
  show Fm RgC σ σ2
  unfold f_X7_mark at h
  refine bnd_case h (fun a1 ea1 h => ?_)
  refine r_esac h (fun _ h => ?_) (fun _ h => ?_)
  · skip
    refine bnd_case h (fun j1 _ h => ?_)
    refine bnd_case h (fun a2 ea2 h => ?_)
    refine r_case h (fun _ h => ?_) (fun _ h => ?_)
    · skip
      refine bnd_case h (fun a3 ea3 h => ?_)
      refine r_esac h (fun _ h => ?_) (fun _ h => ?_)
      · skip
        refine r_esac h (fun _ h => ?_) (fun _ h => ?_)
        · skip
          refine r_case h (fun _ h => ?_) (fun _ h => ?_)
          · skip
            refine bnd_case h (fun j2 _ h => ?_)
            rw [fin_w h]
            exact (Fm.put Fm.rf (by unfold RgC; omega))
          · skip
            refine bnd_case h (fun a4 ea4 h => ?_)
            refine r_esac h (fun _ h => ?_) (fun _ h => ?_)
            · skip
              refine bnd_case h (fun j3 _ h => ?_)
              rw [fin_w h]
              exact (Fm.put Fm.rf (by unfold RgC; omega))
            · skip
              rw [fin_w h]
              exact Fm.rf
        · skip
          refine r_esac h (fun _ h => ?_) (fun _ h => ?_)
          · skip
            refine bnd_case h (fun j4 _ h => ?_)
            rw [fin_w h]
            exact (Fm.put Fm.rf (by unfold RgC; omega))
          · skip
            rw [fin_w h]
            exact Fm.rf
      · skip
        rw [fin_w h]
        exact Fm.rf
    · skip
      rw [fin_w h]
      exact Fm.rf
  · skip
    rw [fin_w h]
    exact Fm.rf
set_option maxRecDepth 100000 in
theorem lf_X7_pour_50 {p2 : Nat} {p4 : Int32}   {r0 : Int32} {σ2 : Mem} {k : Int32 → Mem → Option (Int32 × Mem)}  (hk : ∀ (x3 : Int32) (σ1 : Mem), k x3 σ1 = some (r0, σ2) → Fm RgC σ1 σ2) : ∀ (n : Nat) (v3 : Int32) (v5 : Int32) (σ : Mem), f_X7_pour_50 p2 p4 n v3 v5 σ k = some (r0, σ2) → Fm RgC σ σ2 := by
  intro n
  induction n with
  | zero =>
    intro v3 v5 σ h
    cases h
  | succ n ih =>
    intro v3 v5 σ h
    rw [f_X7_pour_50.eq_2] at h
    refine r_case h (fun _ h => ?_) (fun _ h => ?_)
    · skip
      exact Fm.trans Fm.rf (hk _ _ h)
    · skip
      refine bnd_case h (fun a1 ea1 h => ?_)
      refine r_case h (fun _ h => ?_) (fun _ h => ?_)
      · skip
        exact Fm.trans Fm.rf (ih _ _ _ h)
      · skip
        refine bnd_case h (fun j1 _ h => ?_)
        refine bnd_case h (fun a2 ea2 h => ?_)
        refine bnd_case h (fun j2 _ h => ?_)
        refine bnd_case h (fun a3 ea3 h => ?_)
        refine r_case h (fun _ h => ?_) (fun _ h => ?_)
        · skip
          exact Fm.trans (Fm.trans Fm.rf (fr_X3_changeFaith ea3)) (ih _ _ _ h)
        · skip
          exact Fm.trans (Fm.trans Fm.rf (fr_X3_changeFaith ea3)) (ih _ _ _ h)
set_option maxRecDepth 100000 in
theorem fr_X7_pour {p1 : Int32} {σ : Mem} {res : (Int32 × Mem)}  (h : f_X7_pour p1 σ = some res) : Fm RgC σ res.2 := by
  obtain ⟨r0, σ2⟩ := res
  show Fm RgC σ σ2
  unfold f_X7_pour at h
  refine bnd_case h (fun a1 ea1 h => ?_)
  refine r_esac h (fun _ h => ?_) (fun _ h => ?_)
  · skip
    refine bnd_case h (fun j1 _ h => ?_)
    refine bnd_case h (fun a2 ea2 h => ?_)
    refine r_case h (fun _ h => ?_) (fun _ h => ?_)
    · skip
      refine Fm.trans Fm.rf (lf_X7_pour_50 (fun e1 σ_1 h => ?_) _ _ _ _ h)
      rw [fin_w h]
      exact Fm.rf
    · skip
      rw [fin_w h]
      exact Fm.rf
  · skip
    rw [fin_w h]
    exact Fm.rf
set_option maxRecDepth 100000 in
theorem fr_X7_copy {p1 : Int32} {p2 : Int32} {p3 : Int32} {p4 : Int32} {p5 : Int32} {σ : Mem} {res : (Int32 × Mem)}  (h : f_X7_copy p1 p2 p3 p4 p5 σ = some res) : Fm RgC σ res.2 := by
  obtain ⟨r0, σ2⟩ := res
  show Fm RgC σ σ2
  unfold f_X7_copy at h
  refine bnd_case h (fun a1 ea1 h => ?_)
  refine r_case h (fun _ h => ?_) (fun _ h => ?_)
  · skip
    rw [fin_w h]
    exact Fm.rf
  · skip
    refine bnd_case h (fun a2 ea2 h => ?_)
    refine r_esac h (fun _ h => ?_) (fun _ h => ?_)
    · skip
      refine bnd_case h (fun j1 _ h => ?_)
      refine bnd_case h (fun j2 _ h => ?_)
      refine bnd_case h (fun a3 ea3 h => ?_)
      refine r_esac h (fun _ h => ?_) (fun _ h => ?_)
      · skip
        rw [fin_w h]
        exact Fm.rf
      · skip
        refine bnd_case h (fun a4 ea4 h => ?_)
        refine r_case h (fun _ h => ?_) (fun _ h => ?_)
        · skip
          refine r_case h (fun _ h => ?_) (fun _ h => ?_)
          · skip
            refine bnd_case h (fun a5 ea5 h => ?_)
            refine r_case h (fun _ h => ?_) (fun _ h => ?_)
            · skip
              rw [fin_w h]
              exact Fm.rf
            · skip
              refine bnd_case h (fun a6 ea6 h => ?_)
              refine r_esac h (fun _ h => ?_) (fun _ h => ?_)
              · skip
                refine r_case h (fun _ h => ?_) (fun _ q => by cases q)
                rw [fin_w h]
                exact (Fm.cpy Fm.rf (by unfold RgC; omega))
              · skip
                rw [fin_w h]
                exact Fm.rf
          · skip
            rw [fin_w h]
            exact Fm.rf
        · skip
          rw [fin_w h]
          exact Fm.rf
    · skip
      rw [fin_w h]
      exact Fm.rf
set_option maxRecDepth 100000 in
theorem fr_X5_becomes {p0 : Nat} {p1 : Nat} {σ : Mem} {res : Mem}  (h : f_X5_becomes p0 p1 σ = some res) : Fm RgC σ res := by
  unfold f_X5_becomes at h
  refine r_case h (fun _ h => ?_) (fun _ q => by cases q)
  refine bnd_case h (fun s1 es1 h => ?_)
  cases es1
  rw [fin_v h]
  exact (Fm.cpy (Fm.put (Fm.put Fm.rf (by unfold RgC; omega)) (by unfold RgC; omega)) (by unfold RgC; omega))
set_option maxRecDepth 100000 in
theorem fr_X7_lay {p1 : Int32} {p2 : Int32} {p3 : Int32} {σ : Mem} {res : (Int32 × Mem)}  (h : f_X7_lay p1 p2 p3 σ = some res) : Fm RgC σ res.2 := by
  obtain ⟨r0, σ2⟩ := res
  show Fm RgC σ σ2
  unfold f_X7_lay at h
  refine bnd_case h (fun a1 ea1 h => ?_)
  refine r_case h (fun _ h => ?_) (fun _ h => ?_)
  · skip
    rw [fin_w h]
    exact Fm.rf
  · skip
    refine bnd_case h (fun a2 ea2 h => ?_)
    refine r_esac h (fun _ h => ?_) (fun _ h => ?_)
    · skip
      refine r_esac h (fun _ h => ?_) (fun _ h => ?_)
      · skip
        refine r_esac h (fun _ h => ?_) (fun _ h => ?_)
        · skip
          refine r_esac h (fun _ h => ?_) (fun _ h => ?_)
          · skip
            refine bnd_case h (fun j1 _ h => ?_)
            refine r_case h (fun _ h => ?_) (fun _ h => ?_)
            · skip
              refine bnd_case h (fun j2 _ h => ?_)
              refine bnd_case h (fun a3 ea3 h => ?_)
              rw [fin_w h]
              exact (Fm.trans (Fm.put Fm.rf (by unfold RgC; omega)) (fr_X3_becomes ea3))
            · refine r_case h (fun _ h => ?_) (fun _ h => ?_)
              · skip
                refine bnd_case h (fun j3 _ h => ?_)
                refine bnd_case h (fun a4 ea4 h => ?_)
                rw [fin_w h]
                exact (Fm.trans (Fm.put Fm.rf (by unfold RgC; omega)) (fr_X5_becomes ea4))
              · refine r_case h (fun _ h => ?_) (fun _ h => ?_)
                · skip
                  rw [fin_w h]
                  exact (Fm.put (Fm.put Fm.rf (by unfold RgC; omega)) (by unfold RgC; omega))
                · skip
                  rw [fin_w h]
                  exact (Fm.put Fm.rf (by unfold RgC; omega))
          · skip
            refine bnd_case h (fun j4 _ h => ?_)
            refine bnd_case h (fun a5 ea5 h => ?_)
            refine r_case h (fun _ h => ?_) (fun _ h => ?_)
            · skip
              refine bnd_case h (fun j5 _ h => ?_)
              refine r_case h (fun _ h => ?_) (fun _ h => ?_)
              · skip
                refine bnd_case h (fun j6 _ h => ?_)
                refine bnd_case h (fun a6 ea6 h => ?_)
                rw [fin_w h]
                exact (Fm.trans (Fm.put Fm.rf (by unfold RgC; omega)) (fr_X3_becomes ea6))
              · refine r_case h (fun _ h => ?_) (fun _ h => ?_)
                · skip
                  refine bnd_case h (fun j7 _ h => ?_)
                  refine bnd_case h (fun a7 ea7 h => ?_)
                  rw [fin_w h]
                  exact (Fm.trans (Fm.put Fm.rf (by unfold RgC; omega)) (fr_X5_becomes ea7))
                · refine r_case h (fun _ h => ?_) (fun _ h => ?_)
                  · skip
                    rw [fin_w h]
                    exact (Fm.put (Fm.put Fm.rf (by unfold RgC; omega)) (by unfold RgC; omega))
                  · skip
                    rw [fin_w h]
                    exact (Fm.put Fm.rf (by unfold RgC; omega))
            · skip
              rw [fin_w h]
              exact Fm.rf
        · skip
          refine bnd_case h (fun a8 ea8 h => ?_)
          refine r_esac h (fun _ h => ?_) (fun _ h => ?_)
          · skip
            refine r_esac h (fun _ h => ?_) (fun _ h => ?_)
            · skip
              refine bnd_case h (fun j8 _ h => ?_)
              refine r_case h (fun _ h => ?_) (fun _ h => ?_)
              · skip
                refine bnd_case h (fun j9 _ h => ?_)
                refine bnd_case h (fun a9 ea9 h => ?_)
                rw [fin_w h]
                exact (Fm.trans (Fm.put Fm.rf (by unfold RgC; omega)) (fr_X3_becomes ea9))
              · refine r_case h (fun _ h => ?_) (fun _ h => ?_)
                · skip
                  refine bnd_case h (fun j10 _ h => ?_)
                  refine bnd_case h (fun a10 ea10 h => ?_)
                  rw [fin_w h]
                  exact (Fm.trans (Fm.put Fm.rf (by unfold RgC; omega)) (fr_X5_becomes ea10))
                · refine r_case h (fun _ h => ?_) (fun _ h => ?_)
                  · skip
                    rw [fin_w h]
                    exact (Fm.put (Fm.put Fm.rf (by unfold RgC; omega)) (by unfold RgC; omega))
                  · skip
                    rw [fin_w h]
                    exact (Fm.put Fm.rf (by unfold RgC; omega))
            · skip
              refine bnd_case h (fun j11 _ h => ?_)
              refine bnd_case h (fun a11 ea11 h => ?_)
              refine r_case h (fun _ h => ?_) (fun _ h => ?_)
              · skip
                refine bnd_case h (fun j12 _ h => ?_)
                refine r_case h (fun _ h => ?_) (fun _ h => ?_)
                · skip
                  refine bnd_case h (fun j13 _ h => ?_)
                  refine bnd_case h (fun a12 ea12 h => ?_)
                  rw [fin_w h]
                  exact (Fm.trans (Fm.put Fm.rf (by unfold RgC; omega)) (fr_X3_becomes ea12))
                · refine r_case h (fun _ h => ?_) (fun _ h => ?_)
                  · skip
                    refine bnd_case h (fun j14 _ h => ?_)
                    refine bnd_case h (fun a13 ea13 h => ?_)
                    rw [fin_w h]
                    exact (Fm.trans (Fm.put Fm.rf (by unfold RgC; omega)) (fr_X5_becomes ea13))
                  · refine r_case h (fun _ h => ?_) (fun _ h => ?_)
                    · skip
                      rw [fin_w h]
                      exact (Fm.put (Fm.put Fm.rf (by unfold RgC; omega)) (by unfold RgC; omega))
                    · skip
                      rw [fin_w h]
                      exact (Fm.put Fm.rf (by unfold RgC; omega))
              · skip
                rw [fin_w h]
                exact Fm.rf
          · skip
            rw [fin_w h]
            exact Fm.rf
      · skip
        refine bnd_case h (fun a14 ea14 h => ?_)
        refine r_esac h (fun _ h => ?_) (fun _ h => ?_)
        · skip
          refine r_esac h (fun _ h => ?_) (fun _ h => ?_)
          · skip
            refine r_esac h (fun _ h => ?_) (fun _ h => ?_)
            · skip
              refine bnd_case h (fun j15 _ h => ?_)
              refine r_case h (fun _ h => ?_) (fun _ h => ?_)
              · skip
                refine bnd_case h (fun j16 _ h => ?_)
                refine bnd_case h (fun a15 ea15 h => ?_)
                rw [fin_w h]
                exact (Fm.trans (Fm.put Fm.rf (by unfold RgC; omega)) (fr_X3_becomes ea15))
              · refine r_case h (fun _ h => ?_) (fun _ h => ?_)
                · skip
                  refine bnd_case h (fun j17 _ h => ?_)
                  refine bnd_case h (fun a16 ea16 h => ?_)
                  rw [fin_w h]
                  exact (Fm.trans (Fm.put Fm.rf (by unfold RgC; omega)) (fr_X5_becomes ea16))
                · refine r_case h (fun _ h => ?_) (fun _ h => ?_)
                  · skip
                    rw [fin_w h]
                    exact (Fm.put (Fm.put Fm.rf (by unfold RgC; omega)) (by unfold RgC; omega))
                  · skip
                    rw [fin_w h]
                    exact (Fm.put Fm.rf (by unfold RgC; omega))
            · skip
              refine bnd_case h (fun j18 _ h => ?_)
              refine bnd_case h (fun a17 ea17 h => ?_)
              refine r_case h (fun _ h => ?_) (fun _ h => ?_)
              · skip
                refine bnd_case h (fun j19 _ h => ?_)
                refine r_case h (fun _ h => ?_) (fun _ h => ?_)
                · skip
                  refine bnd_case h (fun j20 _ h => ?_)
                  refine bnd_case h (fun a18 ea18 h => ?_)
                  rw [fin_w h]
                  exact (Fm.trans (Fm.put Fm.rf (by unfold RgC; omega)) (fr_X3_becomes ea18))
                · refine r_case h (fun _ h => ?_) (fun _ h => ?_)
                  · skip
                    refine bnd_case h (fun j21 _ h => ?_)
                    refine bnd_case h (fun a19 ea19 h => ?_)
                    rw [fin_w h]
                    exact (Fm.trans (Fm.put Fm.rf (by unfold RgC; omega)) (fr_X5_becomes ea19))
                  · refine r_case h (fun _ h => ?_) (fun _ h => ?_)
                    · skip
                      rw [fin_w h]
                      exact (Fm.put (Fm.put Fm.rf (by unfold RgC; omega)) (by unfold RgC; omega))
                    · skip
                      rw [fin_w h]
                      exact (Fm.put Fm.rf (by unfold RgC; omega))
              · skip
                rw [fin_w h]
                exact Fm.rf
          · skip
            refine bnd_case h (fun a20 ea20 h => ?_)
            refine r_esac h (fun _ h => ?_) (fun _ h => ?_)
            · skip
              refine r_esac h (fun _ h => ?_) (fun _ h => ?_)
              · skip
                refine bnd_case h (fun j22 _ h => ?_)
                refine r_case h (fun _ h => ?_) (fun _ h => ?_)
                · skip
                  refine bnd_case h (fun j23 _ h => ?_)
                  refine bnd_case h (fun a21 ea21 h => ?_)
                  rw [fin_w h]
                  exact (Fm.trans (Fm.put Fm.rf (by unfold RgC; omega)) (fr_X3_becomes ea21))
                · refine r_case h (fun _ h => ?_) (fun _ h => ?_)
                  · skip
                    refine bnd_case h (fun j24 _ h => ?_)
                    refine bnd_case h (fun a22 ea22 h => ?_)
                    rw [fin_w h]
                    exact (Fm.trans (Fm.put Fm.rf (by unfold RgC; omega)) (fr_X5_becomes ea22))
                  · refine r_case h (fun _ h => ?_) (fun _ h => ?_)
                    · skip
                      rw [fin_w h]
                      exact (Fm.put (Fm.put Fm.rf (by unfold RgC; omega)) (by unfold RgC; omega))
                    · skip
                      rw [fin_w h]
                      exact (Fm.put Fm.rf (by unfold RgC; omega))
              · skip
                refine bnd_case h (fun j25 _ h => ?_)
                refine bnd_case h (fun a23 ea23 h => ?_)
                refine r_case h (fun _ h => ?_) (fun _ h => ?_)
                · skip
                  refine bnd_case h (fun j26 _ h => ?_)
                  refine r_case h (fun _ h => ?_) (fun _ h => ?_)
                  · skip
                    refine bnd_case h (fun j27 _ h => ?_)
                    refine bnd_case h (fun a24 ea24 h => ?_)
                    rw [fin_w h]
                    exact (Fm.trans (Fm.put Fm.rf (by unfold RgC; omega)) (fr_X3_becomes ea24))
                  · refine r_case h (fun _ h => ?_) (fun _ h => ?_)
                    · skip
                      refine bnd_case h (fun j28 _ h => ?_)
                      refine bnd_case h (fun a25 ea25 h => ?_)
                      rw [fin_w h]
                      exact (Fm.trans (Fm.put Fm.rf (by unfold RgC; omega)) (fr_X5_becomes ea25))
                    · refine r_case h (fun _ h => ?_) (fun _ h => ?_)
                      · skip
                        rw [fin_w h]
                        exact (Fm.put (Fm.put Fm.rf (by unfold RgC; omega)) (by unfold RgC; omega))
                      · skip
                        rw [fin_w h]
                        exact (Fm.put Fm.rf (by unfold RgC; omega))
                · skip
                  rw [fin_w h]
                  exact Fm.rf
            · skip
              rw [fin_w h]
              exact Fm.rf
        · skip
          rw [fin_w h]
          exact Fm.rf
    · skip
      rw [fin_w h]
      exact Fm.rf
set_option maxRecDepth 100000 in
theorem fr_X7_tell {p1 : Int32} {σ : Mem} {res : (Int32 × Mem)}  (h : f_X7_tell p1 σ = some res) : Fm RgC σ res.2 := by
  obtain ⟨r0, σ2⟩ := res
  show Fm RgC σ σ2
  unfold f_X7_tell at h
  refine r_case h (fun _ h => ?_) (fun _ h => ?_)
  · skip
    refine bnd_case h (fun j1 _ h => ?_)
    rw [fin_w h]
    exact (Fm.put (Fm.put Fm.rf (by unfold RgC; omega)) (by unfold RgC; omega))
  · skip
    rw [fin_w h]
    exact Fm.rf
set_option maxRecDepth 100000 in
theorem lf_X7_check_65 {p2 : Int32} {p3 : Int32}   {r0 : Int32} {σ2 : Mem} {k : Mem → Option (Int32 × Mem)}  (hk : ∀ (σ1 : Mem), k  σ1 = some (r0, σ2) → Fm RgC σ1 σ2) : ∀ (n : Nat) (v4 : Int32) (σ : Mem), f_X7_check_65 p2 p3 n v4 σ k = some (r0, σ2) → Fm RgC σ σ2 := by
  intro n
  induction n with
  | zero =>
    intro v4 σ h
    cases h
  | succ n ih =>
    intro v4 σ h
    rw [f_X7_check_65.eq_2] at h
    refine r_case h (fun _ h => ?_) (fun _ h => ?_)
    · skip
      exact Fm.trans Fm.rf (hk _ h)
    · skip
      refine r_esac h (fun _ h => ?_) (fun _ h => ?_)
      · skip
        refine r_case h (fun _ h => ?_) (fun _ h => ?_)
        · skip
          rw [fin_w h]
          exact Fm.rf
        · skip
          refine bnd_case h (fun j1 _ h => ?_)
          refine r_case h (fun _ h => ?_) (fun _ h => ?_)
          · skip
            exact Fm.trans Fm.rf (ih _ _ h)
          · skip
            rw [fin_w h]
            exact Fm.rf
      · skip
        refine bnd_case h (fun a1 ea1 h => ?_)
        refine r_case h (fun _ h => ?_) (fun _ h => ?_)
        · skip
          rw [fin_w h]
          exact (Fm.trans Fm.rf (fr_X0_passHour ea1))
        · skip
          refine bnd_case h (fun j2 _ h => ?_)
          refine r_case h (fun _ h => ?_) (fun _ h => ?_)
          · skip
            exact Fm.trans (Fm.trans Fm.rf (fr_X0_passHour ea1)) (ih _ _ h)
          · skip
            rw [fin_w h]
            exact (Fm.trans Fm.rf (fr_X0_passHour ea1))
set_option maxRecDepth 100000 in
theorem fr_X7_check {p1 : Int32} {σ : Mem} {res : (Int32 × Mem)}  (h : f_X7_check p1 σ = some res) : Fm RgC σ res.2 := by
  obtain ⟨r0, σ2⟩ := res
  show Fm RgC σ σ2
  unfold f_X7_check at h
  refine bnd_case h (fun a1 ea1 h => ?_)
  refine r_esac h (fun _ h => ?_) (fun _ h => ?_)
  · skip
    refine r_esac h (fun _ h => ?_) (fun _ h => ?_)
    · skip
      refine bnd_case h (fun a2 ea2 h => ?_)
      refine Fm.trans (Fm.trans (Fm.put Fm.rf (by unfold RgC; omega)) (fr_X0_becomes ea2)) (lf_X7_check_65 (fun σ_1 h => ?_) _ _ _ h)
      refine r_esac h (fun _ h => ?_) (fun _ h => ?_)
      · skip
        rw [fin_w h]
        exact Fm.rf
      · skip
        rw [fin_w h]
        exact Fm.rf
    · skip
      rw [fin_w h]
      exact (Fm.put Fm.rf (by unfold RgC; omega))
  · skip
    rw [fin_w h]
    exact (Fm.put Fm.rf (by unfold RgC; omega))
set_option maxRecDepth 100000 in
theorem fr_X7_keep  {σ : Mem} {res : (Int32 × Mem)}  (h : f_X7_keep σ = some res) : Fm RgC σ res.2 := by
  obtain ⟨r0, σ2⟩ := res
  show Fm RgC σ σ2
  unfold f_X7_keep at h
  refine bnd_case h (fun a1 ea1 h => ?_)
  rw [fin_w h]
  exact (Fm.put (Fm.trans Fm.rf (fr_X0_becomes ea1)) (by unfold RgC; omega))
set_option maxRecDepth 100000 in
theorem fr_X7_back  {σ : Mem} {res : (Int32 × Mem)}  (h : f_X7_back σ = some res) : Fm RgC σ res.2 := by
  obtain ⟨r0, σ2⟩ := res
  show Fm RgC σ σ2
  unfold f_X7_back at h
  refine r_esac h (fun _ h => ?_) (fun _ h => ?_)
  · skip
    refine bnd_case h (fun a1 ea1 h => ?_)
    rw [fin_w h]
    exact (Fm.trans Fm.rf (fr_X0_becomes ea1))
  · skip
    rw [fin_w h]
    exact Fm.rf
set_option maxRecDepth 100000 in
theorem fr_X4_readsPiece {recL : Int32 → Int32 → Int32 → Mem → Option (Int32 × Mem)} {recP : Int32 → Int32 → Mem → Option (Int32 × Mem)} {p1 : Int32} {p2 : Int32} {σ : Mem} {res : (Int32 × Mem)} (hrecL : ∀ p1 p2 p3 σ a, recL p1 p2 p3 σ = some a → Fm RgC σ a.2) (hrecP : ∀ p1 p2 σ a, recP p1 p2 σ = some a → Fm RgC σ a.2) (h : f_X4_readsPiece recL recP p1 p2 σ = some res) : Fm RgC σ res.2 := by
  obtain ⟨r0, σ2⟩ := res
  show Fm RgC σ σ2
  unfold f_X4_readsPiece at h
  refine r_esac h (fun _ h => ?_) (fun _ h => ?_)
  · skip
    refine r_esac h (fun _ h => ?_) (fun _ h => ?_)
    · skip
      refine r_case h (fun _ h => ?_) (fun _ h => ?_)
      · skip
        refine bnd_case h (fun a1 ea1 h => ?_)
        refine r_esac h (fun _ h => ?_) (fun _ h => ?_)
        · skip
          refine bnd_case h (fun a2 ea2 h => ?_)
          refine r_esac h (fun _ h => ?_) (fun _ h => ?_)
          · skip
            rw [fin_w h]
            exact Fm.rf
          · skip
            refine r_case h (fun _ h => ?_) (fun _ h => ?_)
            · skip
              rw [fin_w h]
              exact Fm.rf
            · skip
              refine bnd_case h (fun a3 ea3 h => ?_)
              refine bnd_case h (fun a4 ea4 h => ?_)
              refine r_case h (fun _ h => ?_) (fun _ h => ?_)
              · skip
                rw [fin_w h]
                exact (Fm.trans (Fm.trans Fm.rf (fr_X4_goOn ea3)) (hrecL _ _ _ _ _ ea4))
              · skip
                refine bnd_case h (fun a5 ea5 h => ?_)
                refine r_case h (fun _ h => ?_) (fun _ h => ?_)
                · skip
                  rw [fin_w h]
                  exact (Fm.trans (Fm.trans (Fm.trans Fm.rf (fr_X4_goOn ea3)) (hrecL _ _ _ _ _ ea4)) (fr_X4_closesBracket ea5))
                · skip
                  rw [fin_w h]
                  exact (Fm.trans (Fm.trans (Fm.trans Fm.rf (fr_X4_goOn ea3)) (hrecL _ _ _ _ _ ea4)) (fr_X4_closesBracket ea5))
        · skip
          refine r_case h (fun _ h => ?_) (fun _ h => ?_)
          · skip
            refine bnd_case h (fun a6 ea6 h => ?_)
            refine r_esac h (fun _ h => ?_) (fun _ h => ?_)
            · skip
              rw [fin_w h]
              exact Fm.rf
            · skip
              refine r_case h (fun _ h => ?_) (fun _ h => ?_)
              · skip
                rw [fin_w h]
                exact Fm.rf
              · skip
                refine bnd_case h (fun a7 ea7 h => ?_)
                refine bnd_case h (fun a8 ea8 h => ?_)
                refine r_case h (fun _ h => ?_) (fun _ h => ?_)
                · skip
                  rw [fin_w h]
                  exact (Fm.trans (Fm.trans Fm.rf (fr_X4_goOn ea7)) (hrecL _ _ _ _ _ ea8))
                · skip
                  refine bnd_case h (fun a9 ea9 h => ?_)
                  refine r_case h (fun _ h => ?_) (fun _ h => ?_)
                  · skip
                    rw [fin_w h]
                    exact (Fm.trans (Fm.trans (Fm.trans Fm.rf (fr_X4_goOn ea7)) (hrecL _ _ _ _ _ ea8)) (fr_X4_closesBracket ea9))
                  · skip
                    rw [fin_w h]
                    exact (Fm.trans (Fm.trans (Fm.trans Fm.rf (fr_X4_goOn ea7)) (hrecL _ _ _ _ _ ea8)) (fr_X4_closesBracket ea9))
          · skip
            refine bnd_case h (fun a10 ea10 h => ?_)
            refine bnd_case h (fun a11 ea11 h => ?_)
            refine bnd_case h (fun j1 _ h => ?_)
            refine bnd_case h (fun a12 ea12 h => ?_)
            refine r_case h (fun _ h => ?_) (fun _ q => by cases q)
            rw [fin_w h]
            exact (Fm.trans (Fm.trans (Fm.trans Fm.rf (fr_X4_goOn ea10)) (hrecP _ _ _ _ ea11)) (fr_X1_addSign ea12))
      · skip
        rw [fin_w h]
        exact Fm.rf
    · skip
      refine bnd_case h (fun a13 ea13 h => ?_)
      refine r_case h (fun _ h => ?_) (fun _ q => by cases q)
      rw [fin_w h]
      exact (Fm.trans Fm.rf (fr_X4_readsName ea13))
  · skip
    refine bnd_case h (fun j2 _ h => ?_)
    refine bnd_case h (fun a14 ea14 h => ?_)
    refine bnd_case h (fun a15 ea15 h => ?_)
    refine bnd_case h (fun a16 ea16 h => ?_)
    rw [fin_w h]
    exact (Fm.trans (Fm.trans Fm.rf (fr_X1_addNumber ea15)) (fr_X4_goOn ea16))
set_option maxRecDepth 100000 in
theorem lf_X4_readsLevel_42 {recL : Int32 → Int32 → Int32 → Mem → Option (Int32 × Mem)} {recP : Int32 → Int32 → Mem → Option (Int32 × Mem)} {p1 : Int32} {p2 : Int32} {p3 : Int32} {p4 : Int32}   {r0 : Int32} {σ2 : Mem} {k : Mem → Option (Int32 × Mem)} (hrecL : ∀ p1 p2 p3 σ a, recL p1 p2 p3 σ = some a → Fm RgC σ a.2) (hrecP : ∀ p1 p2 σ a, recP p1 p2 σ = some a → Fm RgC σ a.2) (hk : ∀ (σ1 : Mem), k  σ1 = some (r0, σ2) → Fm RgC σ1 σ2) : ∀ (n : Nat) (v5 : Int32) (σ : Mem), f_X4_readsLevel_42 recL recP p1 p2 p3 p4 n v5 σ k = some (r0, σ2) → Fm RgC σ σ2 := by
  intro n
  induction n with
  | zero =>
    intro v5 σ h
    cases h
  | succ n ih =>
    intro v5 σ h
    rw [f_X4_readsLevel_42.eq_2] at h
    refine r_case h (fun _ h => ?_) (fun _ h => ?_)
    · skip
      exact Fm.trans Fm.rf (hk _ h)
    · skip
      refine r_esac h (fun _ h => ?_) (fun _ h => ?_)
      · skip
        exact Fm.trans Fm.rf (hk _ h)
      · skip
        refine bnd_case h (fun a1 ea1 h => ?_)
        refine bnd_case h (fun a2 ea2 h => ?_)
        refine r_case h (fun _ h => ?_) (fun _ h => ?_)
        · skip
          exact Fm.trans Fm.rf (hk _ h)
        · skip
          refine bnd_case h (fun a3 ea3 h => ?_)
          refine bnd_case h (fun a4 ea4 h => ?_)
          refine bnd_case h (fun a5 ea5 h => ?_)
          refine r_esac h (fun _ h => ?_) (fun _ h => ?_)
          · skip
            refine bnd_case h (fun j1 _ h => ?_)
            refine bnd_case h (fun a6 ea6 h => ?_)
            exact Fm.trans (Fm.trans (Fm.trans (Fm.trans Fm.rf (fr_X4_goOn ea4)) (hrecL _ _ _ _ _ ea5)) (fr_X1_addSign ea6)) (ih _ _ h)
          · skip
            rw [fin_w h]
            exact (Fm.trans (Fm.trans Fm.rf (fr_X4_goOn ea4)) (hrecL _ _ _ _ _ ea5))
set_option maxRecDepth 100000 in
theorem fr_X4_readsLevel {recL : Int32 → Int32 → Int32 → Mem → Option (Int32 × Mem)} {recP : Int32 → Int32 → Mem → Option (Int32 × Mem)} {p1 : Int32} {p2 : Int32} {p3 : Int32} {σ : Mem} {res : (Int32 × Mem)} (hrecL : ∀ p1 p2 p3 σ a, recL p1 p2 p3 σ = some a → Fm RgC σ a.2) (hrecP : ∀ p1 p2 σ a, recP p1 p2 σ = some a → Fm RgC σ a.2) (h : f_X4_readsLevel recL recP p1 p2 p3 σ = some res) : Fm RgC σ res.2 := by
  obtain ⟨r0, σ2⟩ := res
  show Fm RgC σ σ2
  unfold f_X4_readsLevel at h
  refine r_case h (fun _ h => ?_) (fun _ h => ?_)
  · skip
    refine bnd_case h (fun a1 ea1 h => ?_)
    refine r_esac h (fun _ h => ?_) (fun _ h => ?_)
    · skip
      refine r_esac h (fun _ h => ?_) (fun _ h => ?_)
      · skip
        refine Fm.trans (Fm.trans Fm.rf (hrecL _ _ _ _ _ ea1)) (lf_X4_readsLevel_42 hrecL hrecP (fun σ_1 h => ?_) _ _ _ h)
        rw [fin_w h]
        exact Fm.rf
      · skip
        refine Fm.trans (Fm.trans Fm.rf (hrecL _ _ _ _ _ ea1)) (lf_X4_readsLevel_42 hrecL hrecP (fun σ_2 h => ?_) _ _ _ h)
        rw [fin_w h]
        exact Fm.rf
    · skip
      rw [fin_w h]
      exact (Fm.trans Fm.rf (hrecL _ _ _ _ _ ea1))
  · skip
    refine bnd_case h (fun a2 ea2 h => ?_)
    refine r_case h (fun _ h => ?_) (fun _ q => by cases q)
    rw [fin_w h]
    exact (Fm.trans Fm.rf (hrecP _ _ _ _ ea2))
theorem fr_S_rn : ∀ n : Nat, (∀ p1 p2 p3 σ a, (S_r n).1 p1 p2 p3 σ = some a → Fm RgC σ a.2) ∧ (∀ p1 p2 σ a, (S_r n).2 p1 p2 σ = some a → Fm RgC σ a.2) := by
  intro n
  induction n with
  | zero => exact ⟨fun _ _ _ _ _ h => (by cases h), fun _ _ _ _ h => (by cases h)⟩
  | succ n ih => exact ⟨fun _ _ _ _ _ h => fr_X4_readsLevel ih.1 ih.2 h, fun _ _ _ _ h => fr_X4_readsPiece ih.1 ih.2 h⟩
theorem fr_S_r {n : Nat} {p1 p2 p3 : Int32} {σ : Mem} {a : Int32 × Mem} (h : (S_r n).1 p1 p2 p3 σ = some a) : Fm RgC σ a.2 := (fr_S_rn n).1 _ _ _ _ _ h
set_option maxRecDepth 100000 in
theorem fr_X4_readsText {p1 : Int32} {p2 : Nat} {σ : Mem} {res : (Int32 × Mem)}  (h : f_X4_readsText p1 p2 σ = some res) : Fm RgC σ res.2 := by
  obtain ⟨r0, σ2⟩ := res
  show Fm RgC σ σ2
  unfold f_X4_readsText at h
  refine bnd_case h (fun j1 _ h => ?_)
  refine bnd_case h (fun a1 ea1 h => ?_)
  refine bnd_case h (fun a2 ea2 h => ?_)
  refine bnd_case h (fun j2 _ h => ?_)
  refine bnd_case h (fun a3 ea3 h => ?_)
  refine bnd_case h (fun j3 _ h => ?_)
  refine r_case h (fun _ h => ?_) (fun _ h => ?_)
  · skip
    refine bnd_case h (fun a4 ea4 h => ?_)
    refine bnd_case h (fun a5 ea5 h => ?_)
    refine r_case h (fun _ h => ?_) (fun _ h => ?_)
    · skip
      rw [fin_w h]
      exact (Fm.trans (Fm.trans (Fm.put (Fm.trans (Fm.put (Fm.put (Fm.trans (Fm.put (Fm.put Fm.rf (by unfold RgC; omega)) (by unfold RgC; omega)) (fr_X1_startAnew ea1)) (by unfold RgC; omega)) (by unfold RgC; omega)) (fr_X4_goOn ea2)) (by unfold RgC; omega)) (fr_X4_goOn ea4)) (fr_S_r ea5))
    · skip
      refine r_esac h (fun _ h => ?_) (fun _ h => ?_)
      · skip
        rw [fin_w h]
        exact (Fm.trans (Fm.trans (Fm.put (Fm.trans (Fm.put (Fm.put (Fm.trans (Fm.put (Fm.put Fm.rf (by unfold RgC; omega)) (by unfold RgC; omega)) (fr_X1_startAnew ea1)) (by unfold RgC; omega)) (by unfold RgC; omega)) (fr_X4_goOn ea2)) (by unfold RgC; omega)) (fr_X4_goOn ea4)) (fr_S_r ea5))
      · skip
        rw [fin_w h]
        exact (Fm.trans (Fm.trans (Fm.put (Fm.trans (Fm.put (Fm.put (Fm.trans (Fm.put (Fm.put Fm.rf (by unfold RgC; omega)) (by unfold RgC; omega)) (fr_X1_startAnew ea1)) (by unfold RgC; omega)) (by unfold RgC; omega)) (fr_X4_goOn ea2)) (by unfold RgC; omega)) (fr_X4_goOn ea4)) (fr_S_r ea5))
  · skip
    rw [fin_w h]
    exact (Fm.put (Fm.trans (Fm.put (Fm.put (Fm.trans (Fm.put (Fm.put Fm.rf (by unfold RgC; omega)) (by unfold RgC; omega)) (fr_X1_startAnew ea1)) (by unfold RgC; omega)) (by unfold RgC; omega)) (fr_X4_goOn ea2)) (by unfold RgC; omega))
set_option maxRecDepth 100000 in
theorem fr_X7_text  {σ : Mem} {res : (Int32 × Mem)}  (h : f_X7_text σ = some res) : Fm RgC σ res.2 := by
  obtain ⟨r0, σ2⟩ := res
  show Fm RgC σ σ2
  unfold f_X7_text at h
  refine bnd_case h (fun j1 _ h => ?_)
  refine bnd_case h (fun a1 ea1 h => ?_)
  refine r_esac h (fun _ h => ?_) (fun _ h => ?_)
  · skip
    refine r_case h (fun _ h => ?_) (fun _ h => ?_)
    · skip
      refine bnd_case h (fun s1 es1 h => ?_)
      cases es1
      refine bnd_case h (fun j2 _ h => ?_)
      rw [fin_w h]
      exact (Fm.put (Fm.put (Fm.put (Fm.trans Fm.rf (fr_X4_readsText ea1)) (by unfold RgC; omega)) (by unfold RgC; omega)) (by unfold RgC; omega))
    · skip
      rw [fin_w h]
      exact (Fm.put (Fm.trans Fm.rf (fr_X4_readsText ea1)) (by unfold RgC; omega))
  · skip
    rw [fin_w h]
    exact (Fm.put (Fm.trans Fm.rf (fr_X4_readsText ea1)) (by unfold RgC; omega))
