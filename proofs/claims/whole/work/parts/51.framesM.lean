set_option maxRecDepth 100000 in
theorem fr_X8_becomes {p1 : Int32} {p2 : Int32} {σ : Mem} {res : (Int32 × Mem)}  (h : f_X8_becomes p1 p2 σ = some res) : Fm RgM σ res.2 := by
  obtain ⟨r0, σ2⟩ := res
  show Fm RgM σ σ2
  unfold f_X8_becomes at h
  refine bnd_case h (fun j1 _ h => ?_)
  refine bnd_case h (fun j2 _ h => ?_)
  rw [fin_w h]
  exact (Fm.put Fm.rf (by unfold RgM; omega))
set_option maxRecDepth 100000 in
theorem fr_X8_sets {p1 : Int32} {p2 : Int32} {p3 : Int32} {σ : Mem} {res : Mem}  (h : f_X8_sets p1 p2 p3 σ = some res) : Fm RgM σ res := by
  unfold f_X8_sets at h
  refine bnd_case h (fun j1 _ h => ?_)
  rw [fin_v h]
  exact (Fm.put Fm.rf (by unfold RgM; omega))
set_option maxRecDepth 100000 in
theorem fr_X8_drawn  {σ : Mem} {res : (Int32 × Mem)}  (h : f_X8_drawn σ = some res) : Fm RgM σ res.2 := by
  obtain ⟨r0, σ2⟩ := res
  show Fm RgM σ σ2
  unfold f_X8_drawn at h
  refine bnd_case h (fun j1 _ h => ?_)
  refine bnd_case h (fun j2 _ h => ?_)
  refine bnd_case h (fun j3 _ h => ?_)
  rw [fin_w h]
  exact (Fm.put Fm.rf (by unfold RgM; omega))
set_option maxRecDepth 100000 in
theorem fr_X8_comes {p1 : Int32} {p2 : Int32} {p3 : Int32} {σ : Mem} {res : Mem}  (h : f_X8_comes p1 p2 p3 σ = some res) : Fm RgM σ res := by
  unfold f_X8_comes at h
  refine bnd_case h (fun j1 _ h => ?_)
  refine bnd_case h (fun j2 _ h => ?_)
  refine bnd_case h (fun j3 _ h => ?_)
  refine bnd_case h (fun a1 ea1 h => ?_)
  refine bnd_case h (fun a2 ea2 h => ?_)
  refine bnd_case h (fun a3 ea3 h => ?_)
  refine bnd_case h (fun a4 ea4 h => ?_)
  refine bnd_case h (fun a5 ea5 h => ?_)
  rw [fin_v h]
  exact (Fm.trans (Fm.trans (Fm.trans (Fm.trans (Fm.trans (Fm.put Fm.rf (by unfold RgM; omega)) (fr_X8_sets ea1)) (fr_X8_sets ea2)) (fr_X8_sets ea3)) (fr_X8_sets ea4)) (fr_X8_sets ea5))
set_option maxRecDepth 100000 in
theorem fr_X8_person {p1 : Int32} {p2 : Int32} {p3 : Int32} {σ : Mem} {res : (Int32 × Mem)}  (h : f_X8_person p1 p2 p3 σ = some res) : Fm RgM σ res.2 := by
  obtain ⟨r0, σ2⟩ := res
  show Fm RgM σ σ2
  unfold f_X8_person at h
  refine bnd_case h (fun a1 ea1 h => ?_)
  refine r_case h (fun _ h => ?_) (fun _ h => ?_)
  · skip
    rw [fin_w h]
    exact Fm.rf
  · skip
    refine bnd_case h (fun a2 ea2 h => ?_)
    refine r_case h (fun _ h => ?_) (fun _ h => ?_)
    · skip
      rw [fin_w h]
      exact Fm.rf
    · skip
      refine bnd_case h (fun a3 ea3 h => ?_)
      refine r_esac h (fun _ h => ?_) (fun _ h => ?_)
      · skip
        refine bnd_case h (fun j1 _ h => ?_)
        refine r_esac h (fun _ h => ?_) (fun _ h => ?_)
        · skip
          refine bnd_case h (fun a4 ea4 h => ?_)
          refine bnd_case h (fun j2 _ h => ?_)
          rw [fin_w h]
          exact (Fm.trans Fm.rf (fr_X8_comes ea4))
        · skip
          rw [fin_w h]
          exact Fm.rf
      · skip
        rw [fin_w h]
        exact Fm.rf
set_option maxRecDepth 100000 in
theorem lf_X8_worked_4 {p1 : Int32}   {r0 : Int32} {σ2 : Mem} {k : Mem → Option (Int32 × Mem)}  (hk : ∀ (σ1 : Mem), k  σ1 = some (r0, σ2) → Fm RgM σ1 σ2) : ∀ (n : Nat) (v2 : Int32) (v3 : Int32) (σ : Mem), f_X8_worked_4 p1 n v2 v3 σ k = some (r0, σ2) → Fm RgM σ σ2 := by
  intro n
  induction n with
  | zero =>
    intro v2 v3 σ h
    cases h
  | succ n ih =>
    intro v2 v3 σ h
    rw [f_X8_worked_4.eq_2] at h
    refine bnd_case h (fun a1 ea1 h => ?_)
    refine bnd_case h (fun j1 _ h => ?_)
    refine r_case h (fun _ h => ?_) (fun _ h => ?_)
    · skip
      exact Fm.trans Fm.rf (hk _ h)
    · skip
      refine bnd_case h (fun a2 ea2 h => ?_)
      refine bnd_case h (fun j2 _ h => ?_)
      refine bnd_case h (fun a3 ea3 h => ?_)
      refine bnd_case h (fun j3 _ h => ?_)
      refine r_case h (fun _ h => ?_) (fun _ h => ?_)
      · skip
        refine r_esac h (fun _ h => ?_) (fun _ h => ?_)
        · skip
          refine bnd_case h (fun j4 _ h => ?_)
          refine bnd_case h (fun j5 _ h => ?_)
          refine bnd_case h (fun a4 ea4 h => ?_)
          refine bnd_case h (fun j6 _ h => ?_)
          exact Fm.trans (Fm.put Fm.rf (by unfold RgM; omega)) (ih _ _ _ h)
        · skip
          refine bnd_case h (fun j7 _ h => ?_)
          refine r_esac h (fun _ h => ?_) (fun _ h => ?_)
          · skip
            refine bnd_case h (fun j8 _ h => ?_)
            exact Fm.trans (Fm.put Fm.rf (by unfold RgM; omega)) (ih _ _ _ h)
          · skip
            refine bnd_case h (fun j9 _ h => ?_)
            exact Fm.trans (Fm.put Fm.rf (by unfold RgM; omega)) (ih _ _ _ h)
      · skip
        refine r_esac h (fun _ h => ?_) (fun _ h => ?_)
        · skip
          refine bnd_case h (fun j10 _ h => ?_)
          refine bnd_case h (fun j11 _ h => ?_)
          exact Fm.trans (Fm.put Fm.rf (by unfold RgM; omega)) (ih _ _ _ h)
        · skip
          refine bnd_case h (fun j12 _ h => ?_)
          exact Fm.trans (Fm.put Fm.rf (by unfold RgM; omega)) (ih _ _ _ h)
set_option maxRecDepth 100000 in
theorem fr_X8_worked {p1 : Int32} {σ : Mem} {res : (Int32 × Mem)}  (h : f_X8_worked p1 σ = some res) : Fm RgM σ res.2 := by
  obtain ⟨r0, σ2⟩ := res
  show Fm RgM σ σ2
  unfold f_X8_worked at h
  refine Fm.trans Fm.rf (lf_X8_worked_4 (fun σ_1 h => ?_) _ _ _ _ h)
  refine bnd_case h (fun j1 _ h => ?_)
  rw [fin_w h]
  exact Fm.rf
set_option maxRecDepth 100000 in
theorem fr_X8_keeps {p1 : Int32} {σ : Mem} {res : (Int32 × Mem)}  (h : f_X8_keeps p1 σ = some res) : Fm RgM σ res.2 := by
  obtain ⟨r0, σ2⟩ := res
  show Fm RgM σ σ2
  unfold f_X8_keeps at h
  refine bnd_case h (fun a1 ea1 h => ?_)
  refine bnd_case h (fun a2 ea2 h => ?_)
  refine bnd_case h (fun a3 ea3 h => ?_)
  refine r_case h (fun _ h => ?_) (fun _ h => ?_)
  · skip
    refine bnd_case h (fun a4 ea4 h => ?_)
    refine bnd_case h (fun a5 ea5 h => ?_)
    refine r_case h (fun _ h => ?_) (fun _ h => ?_)
    · skip
      refine bnd_case h (fun a6 ea6 h => ?_)
      refine bnd_case h (fun a7 ea7 h => ?_)
      refine bnd_case h (fun a8 ea8 h => ?_)
      refine r_case h (fun _ h => ?_) (fun _ h => ?_)
      · skip
        rw [fin_w h]
        exact Fm.rf
      · refine r_case h (fun _ h => ?_) (fun _ h => ?_)
        · skip
          rw [fin_w h]
          exact Fm.rf
        · refine r_case h (fun _ h => ?_) (fun _ h => ?_)
          · skip
            rw [fin_w h]
            exact Fm.rf
          · refine r_case h (fun _ h => ?_) (fun _ h => ?_)
            · skip
              refine bnd_case h (fun a9 ea9 h => ?_)
              rw [fin_w h]
              exact Fm.rf
            · refine r_case h (fun _ h => ?_) (fun _ h => ?_)
              · skip
                rw [fin_w h]
                exact Fm.rf
              · skip
                rw [fin_w h]
                exact Fm.rf
    · skip
      refine bnd_case h (fun a10 ea10 h => ?_)
      refine bnd_case h (fun j1 _ h => ?_)
      refine bnd_case h (fun j2 _ h => ?_)
      refine bnd_case h (fun a11 ea11 h => ?_)
      refine bnd_case h (fun j3 _ h => ?_)
      refine bnd_case h (fun a12 ea12 h => ?_)
      refine bnd_case h (fun a13 ea13 h => ?_)
      refine bnd_case h (fun a14 ea14 h => ?_)
      refine bnd_case h (fun a15 ea15 h => ?_)
      refine bnd_case h (fun a16 ea16 h => ?_)
      refine r_case h (fun _ h => ?_) (fun _ h => ?_)
      · skip
        rw [fin_w h]
        exact (Fm.trans (Fm.put (Fm.put (Fm.put Fm.rf (by unfold RgM; omega)) (by unfold RgM; omega)) (by unfold RgM; omega)) (fr_X8_worked ea12))
      · refine r_case h (fun _ h => ?_) (fun _ h => ?_)
        · skip
          rw [fin_w h]
          exact (Fm.trans (Fm.put (Fm.put (Fm.put Fm.rf (by unfold RgM; omega)) (by unfold RgM; omega)) (by unfold RgM; omega)) (fr_X8_worked ea12))
        · refine r_case h (fun _ h => ?_) (fun _ h => ?_)
          · skip
            rw [fin_w h]
            exact (Fm.trans (Fm.put (Fm.put (Fm.put Fm.rf (by unfold RgM; omega)) (by unfold RgM; omega)) (by unfold RgM; omega)) (fr_X8_worked ea12))
          · refine r_case h (fun _ h => ?_) (fun _ h => ?_)
            · skip
              refine bnd_case h (fun a17 ea17 h => ?_)
              rw [fin_w h]
              exact (Fm.trans (Fm.put (Fm.put (Fm.put Fm.rf (by unfold RgM; omega)) (by unfold RgM; omega)) (by unfold RgM; omega)) (fr_X8_worked ea12))
            · refine r_case h (fun _ h => ?_) (fun _ h => ?_)
              · skip
                rw [fin_w h]
                exact (Fm.trans (Fm.put (Fm.put (Fm.put Fm.rf (by unfold RgM; omega)) (by unfold RgM; omega)) (by unfold RgM; omega)) (fr_X8_worked ea12))
              · skip
                rw [fin_w h]
                exact (Fm.trans (Fm.put (Fm.put (Fm.put Fm.rf (by unfold RgM; omega)) (by unfold RgM; omega)) (by unfold RgM; omega)) (fr_X8_worked ea12))
  · skip
    refine bnd_case h (fun a18 ea18 h => ?_)
    refine r_case h (fun _ h => ?_) (fun _ h => ?_)
    · skip
      refine bnd_case h (fun a19 ea19 h => ?_)
      refine bnd_case h (fun a20 ea20 h => ?_)
      refine bnd_case h (fun a21 ea21 h => ?_)
      refine r_case h (fun _ h => ?_) (fun _ h => ?_)
      · skip
        rw [fin_w h]
        exact Fm.rf
      · refine r_case h (fun _ h => ?_) (fun _ h => ?_)
        · skip
          rw [fin_w h]
          exact Fm.rf
        · refine r_case h (fun _ h => ?_) (fun _ h => ?_)
          · skip
            rw [fin_w h]
            exact Fm.rf
          · refine r_case h (fun _ h => ?_) (fun _ h => ?_)
            · skip
              refine bnd_case h (fun a22 ea22 h => ?_)
              rw [fin_w h]
              exact Fm.rf
            · refine r_case h (fun _ h => ?_) (fun _ h => ?_)
              · skip
                rw [fin_w h]
                exact Fm.rf
              · skip
                rw [fin_w h]
                exact Fm.rf
    · skip
      refine bnd_case h (fun a23 ea23 h => ?_)
      refine bnd_case h (fun j4 _ h => ?_)
      refine bnd_case h (fun j5 _ h => ?_)
      refine bnd_case h (fun a24 ea24 h => ?_)
      refine bnd_case h (fun j6 _ h => ?_)
      refine bnd_case h (fun a25 ea25 h => ?_)
      refine bnd_case h (fun a26 ea26 h => ?_)
      refine bnd_case h (fun a27 ea27 h => ?_)
      refine bnd_case h (fun a28 ea28 h => ?_)
      refine bnd_case h (fun a29 ea29 h => ?_)
      refine r_case h (fun _ h => ?_) (fun _ h => ?_)
      · skip
        rw [fin_w h]
        exact (Fm.trans (Fm.put (Fm.put (Fm.put Fm.rf (by unfold RgM; omega)) (by unfold RgM; omega)) (by unfold RgM; omega)) (fr_X8_worked ea25))
      · refine r_case h (fun _ h => ?_) (fun _ h => ?_)
        · skip
          rw [fin_w h]
          exact (Fm.trans (Fm.put (Fm.put (Fm.put Fm.rf (by unfold RgM; omega)) (by unfold RgM; omega)) (by unfold RgM; omega)) (fr_X8_worked ea25))
        · refine r_case h (fun _ h => ?_) (fun _ h => ?_)
          · skip
            rw [fin_w h]
            exact (Fm.trans (Fm.put (Fm.put (Fm.put Fm.rf (by unfold RgM; omega)) (by unfold RgM; omega)) (by unfold RgM; omega)) (fr_X8_worked ea25))
          · refine r_case h (fun _ h => ?_) (fun _ h => ?_)
            · skip
              refine bnd_case h (fun a30 ea30 h => ?_)
              rw [fin_w h]
              exact (Fm.trans (Fm.put (Fm.put (Fm.put Fm.rf (by unfold RgM; omega)) (by unfold RgM; omega)) (by unfold RgM; omega)) (fr_X8_worked ea25))
            · refine r_case h (fun _ h => ?_) (fun _ h => ?_)
              · skip
                rw [fin_w h]
                exact (Fm.trans (Fm.put (Fm.put (Fm.put Fm.rf (by unfold RgM; omega)) (by unfold RgM; omega)) (by unfold RgM; omega)) (fr_X8_worked ea25))
              · skip
                rw [fin_w h]
                exact (Fm.trans (Fm.put (Fm.put (Fm.put Fm.rf (by unfold RgM; omega)) (by unfold RgM; omega)) (by unfold RgM; omega)) (fr_X8_worked ea25))
set_option maxRecDepth 100000 in
theorem fr_X8_turns {p1 : Int32} {p2 : Int32} {σ : Mem} {res : (Int32 × Mem)}  (h : f_X8_turns p1 p2 σ = some res) : Fm RgM σ res.2 := by
  obtain ⟨r0, σ2⟩ := res
  show Fm RgM σ σ2
  unfold f_X8_turns at h
  refine bnd_case h (fun a1 ea1 h => ?_)
  refine r_case h (fun _ h => ?_) (fun _ h => ?_)
  · skip
    rw [fin_w h]
    exact Fm.rf
  · skip
    refine bnd_case h (fun a2 ea2 h => ?_)
    refine r_case h (fun _ h => ?_) (fun _ h => ?_)
    · skip
      rw [fin_w h]
      exact Fm.rf
    · skip
      refine bnd_case h (fun a3 ea3 h => ?_)
      rw [fin_w h]
      exact (Fm.trans Fm.rf (fr_X8_becomes ea3))
set_option maxRecDepth 100000 in
theorem fr_X8_set {p1 : Int32} {p2 : Int32} {p3 : Int32} {σ : Mem} {res : (Int32 × Mem)}  (h : f_X8_set p1 p2 p3 σ = some res) : Fm RgM σ res.2 := by
  obtain ⟨r0, σ2⟩ := res
  show Fm RgM σ σ2
  unfold f_X8_set at h
  refine bnd_case h (fun a1 ea1 h => ?_)
  refine r_case h (fun _ h => ?_) (fun _ h => ?_)
  · skip
    rw [fin_w h]
    exact Fm.rf
  · skip
    refine bnd_case h (fun a2 ea2 h => ?_)
    refine r_case h (fun _ h => ?_) (fun _ h => ?_)
    · skip
      rw [fin_w h]
      exact Fm.rf
    · skip
      refine r_esac h (fun _ h => ?_) (fun _ h => ?_)
      · skip
        refine r_esac h (fun _ h => ?_) (fun _ h => ?_)
        · skip
          refine r_esac h (fun _ h => ?_) (fun _ h => ?_)
          · skip
            refine bnd_case h (fun a3 ea3 h => ?_)
            refine r_esac h (fun _ h => ?_) (fun _ h => ?_)
            · skip
              refine bnd_case h (fun a4 ea4 h => ?_)
              rw [fin_w h]
              exact (Fm.trans Fm.rf (fr_X8_becomes ea4))
            · skip
              rw [fin_w h]
              exact Fm.rf
          · skip
            refine bnd_case h (fun a5 ea5 h => ?_)
            refine r_esac h (fun _ h => ?_) (fun _ h => ?_)
            · skip
              refine bnd_case h (fun a6 ea6 h => ?_)
              rw [fin_w h]
              exact (Fm.trans Fm.rf (fr_X8_becomes ea6))
            · skip
              rw [fin_w h]
              exact Fm.rf
        · skip
          refine bnd_case h (fun a7 ea7 h => ?_)
          refine r_esac h (fun _ h => ?_) (fun _ h => ?_)
          · skip
            refine bnd_case h (fun a8 ea8 h => ?_)
            rw [fin_w h]
            exact (Fm.trans Fm.rf (fr_X8_becomes ea8))
          · skip
            rw [fin_w h]
            exact Fm.rf
      · skip
        refine r_esac h (fun _ h => ?_) (fun _ h => ?_)
        · skip
          refine r_esac h (fun _ h => ?_) (fun _ h => ?_)
          · skip
            refine bnd_case h (fun a9 ea9 h => ?_)
            refine r_esac h (fun _ h => ?_) (fun _ h => ?_)
            · skip
              refine bnd_case h (fun a10 ea10 h => ?_)
              rw [fin_w h]
              exact (Fm.trans Fm.rf (fr_X8_becomes ea10))
            · skip
              rw [fin_w h]
              exact Fm.rf
          · skip
            refine bnd_case h (fun a11 ea11 h => ?_)
            refine r_esac h (fun _ h => ?_) (fun _ h => ?_)
            · skip
              refine bnd_case h (fun a12 ea12 h => ?_)
              rw [fin_w h]
              exact (Fm.trans Fm.rf (fr_X8_becomes ea12))
            · skip
              rw [fin_w h]
              exact Fm.rf
        · skip
          refine bnd_case h (fun a13 ea13 h => ?_)
          refine r_esac h (fun _ h => ?_) (fun _ h => ?_)
          · skip
            refine bnd_case h (fun a14 ea14 h => ?_)
            rw [fin_w h]
            exact (Fm.trans Fm.rf (fr_X8_becomes ea14))
          · skip
            rw [fin_w h]
            exact Fm.rf
set_option maxRecDepth 100000 in
theorem fr_X8_gives {p1 : Int32} {p2 : Int32} {p3 : Int32} {σ : Mem} {res : Mem}  (h : f_X8_gives p1 p2 p3 σ = some res) : Fm RgM σ res := by
  unfold f_X8_gives at h
  refine bnd_case h (fun j1 _ h => ?_)
  refine bnd_case h (fun j2 _ h => ?_)
  refine bnd_case h (fun j3 _ h => ?_)
  refine bnd_case h (fun j4 _ h => ?_)
  refine bnd_case h (fun j5 _ h => ?_)
  refine bnd_case h (fun j6 _ h => ?_)
  refine bnd_case h (fun s1 es1 h => ?_)
  cases es1
  rw [fin_v h]
  exact (Fm.put (Fm.put (Fm.put (Fm.put Fm.rf (by unfold RgM; omega)) (by unfold RgM; omega)) (by unfold RgM; omega)) (by unfold RgM; omega))
set_option maxRecDepth 100000 in
theorem lf_X8_goes_21 {p2 : Int32}  {σ2 : Mem} {k : Mem → Option Mem}  (hk : ∀ (σ1 : Mem), k  σ1 = some σ2 → Fm RgM σ1 σ2) : ∀ (n : Nat) (v3 : Int32) (σ : Mem), f_X8_goes_21 p2 n v3 σ k = some σ2 → Fm RgM σ σ2 := by
  intro n
  induction n with
  | zero =>
    intro v3 σ h
    cases h
  | succ n ih =>
    intro v3 σ h
    rw [f_X8_goes_21.eq_2] at h
    refine r_case h (fun _ h => ?_) (fun _ h => ?_)
    · skip
      exact Fm.trans Fm.rf (hk _ h)
    · skip
      refine bnd_case h (fun j1 _ h => ?_)
      refine bnd_case h (fun j2 _ h => ?_)
      exact Fm.trans (Fm.put Fm.rf (by unfold RgM; omega)) (ih _ _ h)
set_option maxRecDepth 100000 in
theorem fr_X8_goes {p1 : Int32} {σ : Mem} {res : Mem}  (h : f_X8_goes p1 σ = some res) : Fm RgM σ res := by
  unfold f_X8_goes at h
  refine bnd_case h (fun j1 _ h => ?_)
  refine Fm.trans Fm.rf (lf_X8_goes_21 (fun σ_1 h => ?_) _ _ _ h)
  refine bnd_case h (fun j2 _ h => ?_)
  refine bnd_case h (fun j3 _ h => ?_)
  refine bnd_case h (fun j4 _ h => ?_)
  refine bnd_case h (fun j5 _ h => ?_)
  refine bnd_case h (fun s1 es1 h => ?_)
  cases es1
  rw [fin_v h]
  exact (Fm.put (Fm.put Fm.rf (by unfold RgM; omega)) (by unfold RgM; omega))
set_option maxRecDepth 100000 in
theorem lf_X8_strikes_16 {p1 : Int32}  {σ2 : Mem} {k : Mem → Option Mem}  (hk : ∀ (σ1 : Mem), k  σ1 = some σ2 → Fm RgM σ1 σ2) : ∀ (n : Nat) (v2 : Int32) (σ : Mem), f_X8_strikes_16 p1 n v2 σ k = some σ2 → Fm RgM σ σ2 := by
  intro n
  induction n with
  | zero =>
    intro v2 σ h
    cases h
  | succ n ih =>
    intro v2 σ h
    rw [f_X8_strikes_16.eq_2] at h
    refine r_case h (fun _ h => ?_) (fun _ h => ?_)
    · skip
      exact Fm.trans Fm.rf (hk _ h)
    · skip
      refine bnd_case h (fun a1 ea1 h => ?_)
      refine r_esac h (fun _ h => ?_) (fun _ h => ?_)
      · skip
        exact Fm.trans Fm.rf (ih _ _ h)
      · skip
        refine bnd_case h (fun a2 ea2 h => ?_)
        exact Fm.trans (Fm.trans Fm.rf (fr_X8_goes ea2)) (ih _ _ h)
set_option maxRecDepth 100000 in
theorem fr_X8_strikes {p1 : Int32} {σ : Mem} {res : Mem}  (h : f_X8_strikes p1 σ = some res) : Fm RgM σ res := by
  unfold f_X8_strikes at h
  refine bnd_case h (fun a1 ea1 h => ?_)
  refine bnd_case h (fun j1 _ h => ?_)
  refine Fm.trans (Fm.trans Fm.rf (fr_X8_sets ea1)) (lf_X8_strikes_16 (fun σ_1 h => ?_) _ _ _ h)
  rw [fin_v h]
  exact Fm.rf
set_option maxRecDepth 100000 in
theorem fr_X8_vow {p1 : Int32} {p2 : Int32} {p3 : Int32} {σ : Mem} {res : (Int32 × Mem)}  (h : f_X8_vow p1 p2 p3 σ = some res) : Fm RgM σ res.2 := by
  obtain ⟨r0, σ2⟩ := res
  show Fm RgM σ σ2
  unfold f_X8_vow at h
  refine bnd_case h (fun a1 ea1 h => ?_)
  refine r_case h (fun _ h => ?_) (fun _ h => ?_)
  · skip
    rw [fin_w h]
    exact Fm.rf
  · skip
    refine bnd_case h (fun a2 ea2 h => ?_)
    refine r_case h (fun _ h => ?_) (fun _ h => ?_)
    · skip
      rw [fin_w h]
      exact Fm.rf
    · skip
      refine r_case h (fun _ h => ?_) (fun _ h => ?_)
      · skip
        rw [fin_w h]
        exact Fm.rf
      · skip
        refine bnd_case h (fun a3 ea3 h => ?_)
        refine r_esac h (fun _ h => ?_) (fun _ h => ?_)
        · skip
          refine bnd_case h (fun a4 ea4 h => ?_)
          refine r_esac h (fun _ h => ?_) (fun _ h => ?_)
          · skip
            refine bnd_case h (fun a5 ea5 h => ?_)
            refine bnd_case h (fun j1 _ h => ?_)
            refine r_esac h (fun _ h => ?_) (fun _ h => ?_)
            · skip
              refine bnd_case h (fun j2 _ h => ?_)
              refine r_esac h (fun _ h => ?_) (fun _ h => ?_)
              · skip
                refine bnd_case h (fun a6 ea6 h => ?_)
                refine bnd_case h (fun j3 _ h => ?_)
                refine bnd_case h (fun a7 ea7 h => ?_)
                refine bnd_case h (fun j4 _ h => ?_)
                rw [fin_w h]
                exact (Fm.trans (Fm.trans Fm.rf (fr_X8_gives ea6)) (fr_X8_sets ea7))
              · skip
                rw [fin_w h]
                exact Fm.rf
            · skip
              refine bnd_case h (fun a8 ea8 h => ?_)
              rw [fin_w h]
              exact (Fm.trans Fm.rf (fr_X8_strikes ea8))
          · skip
            rw [fin_w h]
            exact Fm.rf
        · skip
          rw [fin_w h]
          exact Fm.rf
set_option maxRecDepth 100000 in
theorem fr_X8_vowOf {p1 : Int32} {p2 : Int32} {σ : Mem} {res : (Int32 × Mem)}  (h : f_X8_vowOf p1 p2 σ = some res) : Fm RgM σ res.2 := by
  obtain ⟨r0, σ2⟩ := res
  show Fm RgM σ σ2
  unfold f_X8_vowOf at h
  refine bnd_case h (fun a1 ea1 h => ?_)
  refine r_case h (fun _ h => ?_) (fun _ h => ?_)
  · skip
    rw [fin_w h]
    exact Fm.rf
  · skip
    refine bnd_case h (fun a2 ea2 h => ?_)
    refine r_esac h (fun _ h => ?_) (fun _ h => ?_)
    · skip
      refine r_esac h (fun _ h => ?_) (fun _ h => ?_)
      · skip
        refine bnd_case h (fun a3 ea3 h => ?_)
        rw [fin_w h]
        exact Fm.rf
      · skip
        refine bnd_case h (fun a4 ea4 h => ?_)
        rw [fin_w h]
        exact (Fm.trans Fm.rf (fr_X8_keeps ea4))
    · skip
      rw [fin_w h]
      exact Fm.rf
set_option maxRecDepth 100000 in
theorem fr_X8_breaks {p1 : Int32} {σ : Mem} {res : (Int32 × Mem)}  (h : f_X8_breaks p1 σ = some res) : Fm RgM σ res.2 := by
  obtain ⟨r0, σ2⟩ := res
  show Fm RgM σ σ2
  unfold f_X8_breaks at h
  refine bnd_case h (fun a1 ea1 h => ?_)
  refine r_esac h (fun _ h => ?_) (fun _ h => ?_)
  · skip
    refine bnd_case h (fun a2 ea2 h => ?_)
    refine bnd_case h (fun j1 _ h => ?_)
    rw [fin_w h]
    exact (Fm.trans Fm.rf (fr_X8_goes ea2))
  · skip
    rw [fin_w h]
    exact Fm.rf
set_option maxRecDepth 100000 in
theorem fr_X8_eclipse  {σ : Mem} {res : (Int32 × Mem)}  (h : f_X8_eclipse σ = some res) : Fm RgM σ res.2 := by
  obtain ⟨r0, σ2⟩ := res
  show Fm RgM σ σ2
  unfold f_X8_eclipse at h
  refine bnd_case h (fun j1 _ h => ?_)
  refine bnd_case h (fun j2 _ h => ?_)
  refine bnd_case h (fun j3 _ h => ?_)
  refine bnd_case h (fun j4 _ h => ?_)
  refine bnd_case h (fun s1 es1 h => ?_)
  cases es1
  rw [fin_w h]
  exact (Fm.put (Fm.put Fm.rf (by unfold RgM; omega)) (by unfold RgM; omega))
set_option maxRecDepth 100000 in
theorem lf_X8_deal_17 {p1 : Int32}   {r0 : Int32} {σ2 : Mem} {k : Int32 → Mem → Option (Int32 × Mem)}  (hk : ∀ (x2 : Int32) (σ1 : Mem), k x2 σ1 = some (r0, σ2) → Fm RgM σ1 σ2) : ∀ (n : Nat) (v2 : Int32) (σ : Mem), f_X8_deal_17 p1 n v2 σ k = some (r0, σ2) → Fm RgM σ σ2 := by
  intro n
  induction n with
  | zero =>
    intro v2 σ h
    cases h
  | succ n ih =>
    intro v2 σ h
    rw [f_X8_deal_17.eq_2] at h
    refine r_case h (fun _ h => ?_) (fun _ h => ?_)
    · skip
      exact Fm.trans Fm.rf (hk _ _ h)
    · skip
      refine bnd_case h (fun j1 _ h => ?_)
      refine r_case h (fun _ h => ?_) (fun _ h => ?_)
      · skip
        exact Fm.trans Fm.rf (hk _ _ h)
      · skip
        refine bnd_case h (fun a1 ea1 h => ?_)
        refine bnd_case h (fun a2 ea2 h => ?_)
        refine bnd_case h (fun a3 ea3 h => ?_)
        refine bnd_case h (fun a4 ea4 h => ?_)
        exact Fm.trans (Fm.trans (Fm.trans (Fm.trans (Fm.trans Fm.rf (fr_X8_drawn ea1)) (fr_X8_drawn ea2)) (fr_X8_drawn ea3)) (fr_X8_comes ea4)) (ih _ _ h)
set_option maxRecDepth 100000 in
theorem fr_X8_deal {p1 : Int32} {σ : Mem} {res : (Int32 × Mem)}  (h : f_X8_deal p1 σ = some res) : Fm RgM σ res.2 := by
  obtain ⟨r0, σ2⟩ := res
  show Fm RgM σ σ2
  unfold f_X8_deal at h
  refine bnd_case h (fun a1 ea1 h => ?_)
  refine r_esac h (fun _ h => ?_) (fun _ h => ?_)
  · skip
    refine Fm.trans Fm.rf (lf_X8_deal_17 (fun e1 σ_1 h => ?_) _ _ _ h)
    rw [fin_w h]
    exact Fm.rf
  · skip
    rw [fin_w h]
    exact Fm.rf
set_option maxRecDepth 100000 in
theorem fr_X8_seed {p1 : Int32} {σ : Mem} {res : (Int32 × Mem)}  (h : f_X8_seed p1 σ = some res) : Fm RgM σ res.2 := by
  obtain ⟨r0, σ2⟩ := res
  show Fm RgM σ σ2
  unfold f_X8_seed at h
  refine bnd_case h (fun a1 ea1 h => ?_)
  rw [fin_w h]
  exact (Fm.trans Fm.rf (fr_X8_becomes ea1))
set_option maxRecDepth 100000 in
theorem fr_X8_earns {p1 : Int32} {p2 : Int32} {σ : Mem} {res : Mem}  (h : f_X8_earns p1 p2 σ = some res) : Fm RgM σ res := by
  unfold f_X8_earns at h
  refine bnd_case h (fun a1 ea1 h => ?_)
  refine bnd_case h (fun a2 ea2 h => ?_)
  refine bnd_case h (fun a3 ea3 h => ?_)
  rw [fin_v h]
  exact (Fm.trans Fm.rf (fr_X8_sets ea3))
set_option maxRecDepth 100000 in
theorem lf_X8_goesOn_12   {σ2 : Mem} {k : Mem → Option Mem}  (hk : ∀ (σ1 : Mem), k  σ1 = some σ2 → Fm RgM σ1 σ2) : ∀ (n : Nat) (v1 : Int32) (σ : Mem), f_X8_goesOn_12  n v1 σ k = some σ2 → Fm RgM σ σ2 := by
  intro n
  induction n with
  | zero =>
    intro v1 σ h
    cases h
  | succ n ih =>
    intro v1 σ h
    rw [f_X8_goesOn_12.eq_2] at h
    refine bnd_case h (fun j1 _ h => ?_)
    refine r_case h (fun _ h => ?_) (fun _ h => ?_)
    · skip
      exact Fm.trans Fm.rf (hk _ h)
    · skip
      refine bnd_case h (fun a1 ea1 h => ?_)
      refine bnd_case h (fun a2 ea2 h => ?_)
      refine bnd_case h (fun j2 _ h => ?_)
      refine r_esac h (fun _ h => ?_) (fun _ h => ?_)
      · skip
        refine bnd_case h (fun j3 _ h => ?_)
        refine bnd_case h (fun j4 _ h => ?_)
        exact Fm.trans (Fm.put Fm.rf (by unfold RgM; omega)) (ih _ _ h)
      · skip
        refine bnd_case h (fun a3 ea3 h => ?_)
        refine bnd_case h (fun a4 ea4 h => ?_)
        refine r_case h (fun _ h => ?_) (fun _ h => ?_)
        · skip
          refine bnd_case h (fun j5 _ h => ?_)
          refine bnd_case h (fun j6 _ h => ?_)
          exact Fm.trans (Fm.put (Fm.trans (Fm.trans Fm.rf (fr_X8_drawn ea3)) (fr_X8_keeps ea4)) (by unfold RgM; omega)) (ih _ _ h)
        · skip
          refine bnd_case h (fun a5 ea5 h => ?_)
          exact Fm.trans (Fm.trans (Fm.trans (Fm.trans Fm.rf (fr_X8_drawn ea3)) (fr_X8_keeps ea4)) (fr_X8_goes ea5)) (ih _ _ h)
set_option maxRecDepth 100000 in
theorem lf_X8_goesOn_103   {σ2 : Mem} {k : Mem → Option Mem}  (hk : ∀ (σ1 : Mem), k  σ1 = some σ2 → Fm RgM σ1 σ2) : ∀ (n : Nat) (v1 : Int32) (σ : Mem), f_X8_goesOn_103  n v1 σ k = some σ2 → Fm RgM σ σ2 := by
  intro n
  induction n with
  | zero =>
    intro v1 σ h
    cases h
  | succ n ih =>
    intro v1 σ h
    rw [f_X8_goesOn_103.eq_2] at h
    refine bnd_case h (fun j1 _ h => ?_)
    refine r_case h (fun _ h => ?_) (fun _ h => ?_)
    · skip
      exact Fm.trans Fm.rf (hk _ h)
    · skip
      refine bnd_case h (fun a1 ea1 h => ?_)
      refine r_esac h (fun _ h => ?_) (fun _ h => ?_)
      · skip
        exact Fm.trans Fm.rf (ih _ _ h)
      · skip
        refine bnd_case h (fun a2 ea2 h => ?_)
        refine bnd_case h (fun a3 ea3 h => ?_)
        refine bnd_case h (fun a4 ea4 h => ?_)
        refine bnd_case h (fun a5 ea5 h => ?_)
        refine bnd_case h (fun a6 ea6 h => ?_)
        refine bnd_case h (fun a7 ea7 h => ?_)
        exact Fm.trans (Fm.trans (Fm.trans Fm.rf (fr_X8_earns ea5)) (fr_X8_earns ea7)) (ih _ _ h)
set_option maxRecDepth 100000 in
theorem fr_X8_goesOn  {σ : Mem} {res : Mem}  (h : f_X8_goesOn σ = some res) : Fm RgM σ res := by
  unfold f_X8_goesOn at h
  refine bnd_case h (fun j1 _ h => ?_)
  refine bnd_case h (fun j2 _ h => ?_)
  refine Fm.trans (Fm.put Fm.rf (by unfold RgM; omega)) (lf_X8_goesOn_12 (fun σ_1 h => ?_) _ _ _ h)
  refine Fm.trans Fm.rf (lf_X8_goesOn_103 (fun σ_2 h => ?_) _ _ _ h)
  rw [fin_v h]
  exact Fm.rf
set_option maxRecDepth 100000 in
theorem lf_X8_goesOnMany_2 {p1 : Int32}  {σ2 : Mem} {k : Mem → Option Mem}  (hk : ∀ (σ1 : Mem), k  σ1 = some σ2 → Fm RgM σ1 σ2) : ∀ (n : Nat) (v2 : Int32) (σ : Mem), f_X8_goesOnMany_2 p1 n v2 σ k = some σ2 → Fm RgM σ σ2 := by
  intro n
  induction n with
  | zero =>
    intro v2 σ h
    cases h
  | succ n ih =>
    intro v2 σ h
    rw [f_X8_goesOnMany_2.eq_2] at h
    refine r_case h (fun _ h => ?_) (fun _ h => ?_)
    · skip
      exact Fm.trans Fm.rf (hk _ h)
    · skip
      refine bnd_case h (fun a1 ea1 h => ?_)
      exact Fm.trans (Fm.trans Fm.rf (fr_X8_goesOn ea1)) (ih _ _ h)
set_option maxRecDepth 100000 in
theorem fr_X8_goesOnMany {p1 : Int32} {σ : Mem} {res : Mem}  (h : f_X8_goesOnMany p1 σ = some res) : Fm RgM σ res := by
  unfold f_X8_goesOnMany at h
  refine Fm.trans Fm.rf (lf_X8_goesOnMany_2 (fun σ_1 h => ?_) _ _ _ h)
  rw [fin_v h]
  exact Fm.rf
set_option maxRecDepth 100000 in
theorem lf_X8_hours_24 {p1 : Int32} {p2 : Int32}   {r0 : Int32} {σ2 : Mem} {k : Mem → Option (Int32 × Mem)}  (hk : ∀ (σ1 : Mem), k  σ1 = some (r0, σ2) → Fm RgM σ1 σ2) : ∀ (n : Nat) (v3 : Int32) (σ : Mem), f_X8_hours_24 p1 p2 n v3 σ k = some (r0, σ2) → Fm RgM σ σ2 := by
  intro n
  induction n with
  | zero =>
    intro v3 σ h
    cases h
  | succ n ih =>
    intro v3 σ h
    rw [f_X8_hours_24.eq_2] at h
    refine r_case h (fun _ h => ?_) (fun _ h => ?_)
    · skip
      exact Fm.trans Fm.rf (hk _ h)
    · skip
      refine bnd_case h (fun j1 _ h => ?_)
      refine r_case h (fun _ h => ?_) (fun _ h => ?_)
      · skip
        exact Fm.trans Fm.rf (hk _ h)
      · skip
        refine bnd_case h (fun a1 ea1 h => ?_)
        exact Fm.trans (Fm.trans Fm.rf (fr_X8_goesOn ea1)) (ih _ _ h)
set_option maxRecDepth 100000 in
theorem fr_X8_hours {p1 : Int32} {σ : Mem} {res : (Int32 × Mem)}  (h : f_X8_hours p1 σ = some res) : Fm RgM σ res.2 := by
  obtain ⟨r0, σ2⟩ := res
  show Fm RgM σ σ2
  unfold f_X8_hours at h
  refine bnd_case h (fun a1 ea1 h => ?_)
  refine r_esac h (fun _ h => ?_) (fun _ h => ?_)
  · skip
    refine bnd_case h (fun j1 _ h => ?_)
    refine Fm.trans Fm.rf (lf_X8_hours_24 (fun σ_1 h => ?_) _ _ _ h)
    refine bnd_case h (fun j2 _ h => ?_)
    rw [fin_w h]
    exact Fm.rf
  · skip
    rw [fin_w h]
    exact Fm.rf
set_option maxRecDepth 100000 in
theorem lf_X8_findSworn_2   {σ2 : Mem} {k : Mem → Option Mem}  (hk : ∀ (σ1 : Mem), k  σ1 = some σ2 → Fm RgM σ1 σ2) : ∀ (n : Nat) (v1 : Int32) (σ : Mem), f_X8_findSworn_2  n v1 σ k = some σ2 → Fm RgM σ σ2 := by
  intro n
  induction n with
  | zero =>
    intro v1 σ h
    cases h
  | succ n ih =>
    intro v1 σ h
    rw [f_X8_findSworn_2.eq_2] at h
    refine bnd_case h (fun j1 _ h => ?_)
    refine r_case h (fun _ h => ?_) (fun _ h => ?_)
    · skip
      exact Fm.trans Fm.rf (hk _ h)
    · skip
      refine bnd_case h (fun j2 _ h => ?_)
      exact Fm.trans (Fm.put Fm.rf (by unfold RgM; omega)) (ih _ _ h)
set_option maxRecDepth 100000 in
theorem lf_X8_findSworn_27   {σ2 : Mem} {k : Mem → Option Mem}  (hk : ∀ (σ1 : Mem), k  σ1 = some σ2 → Fm RgM σ1 σ2) : ∀ (n : Nat) (v1 : Int32) (σ : Mem), f_X8_findSworn_27  n v1 σ k = some σ2 → Fm RgM σ σ2 := by
  intro n
  induction n with
  | zero =>
    intro v1 σ h
    cases h
  | succ n ih =>
    intro v1 σ h
    rw [f_X8_findSworn_27.eq_2] at h
    refine bnd_case h (fun j1 _ h => ?_)
    refine r_case h (fun _ h => ?_) (fun _ h => ?_)
    · skip
      exact Fm.trans Fm.rf (hk _ h)
    · skip
      refine bnd_case h (fun a1 ea1 h => ?_)
      refine bnd_case h (fun j2 _ h => ?_)
      refine bnd_case h (fun a2 ea2 h => ?_)
      refine bnd_case h (fun j3 _ h => ?_)
      exact Fm.trans (Fm.put Fm.rf (by unfold RgM; omega)) (ih _ _ h)
set_option maxRecDepth 100000 in
theorem fr_X8_findSworn  {σ : Mem} {res : Mem}  (h : f_X8_findSworn σ = some res) : Fm RgM σ res := by
  unfold f_X8_findSworn at h
  refine Fm.trans Fm.rf (lf_X8_findSworn_2 (fun σ_1 h => ?_) _ _ _ h)
  refine Fm.trans Fm.rf (lf_X8_findSworn_27 (fun σ_2 h => ?_) _ _ _ h)
  rw [fin_v h]
  exact Fm.rf
set_option maxRecDepth 100000 in
theorem lf_X8_chain_15 {p1 : Int32}   {r0 : Int32} {σ2 : Mem} {k : Mem → Option (Int32 × Mem)}  (hk : ∀ (σ1 : Mem), k  σ1 = some (r0, σ2) → Fm RgM σ1 σ2) : ∀ (n : Nat) (v2 : Int32) (σ : Mem), f_X8_chain_15 p1 n v2 σ k = some (r0, σ2) → Fm RgM σ σ2 := by
  intro n
  induction n with
  | zero =>
    intro v2 σ h
    cases h
  | succ n ih =>
    intro v2 σ h
    rw [f_X8_chain_15.eq_2] at h
    refine r_case h (fun _ h => ?_) (fun _ h => ?_)
    · skip
      exact Fm.trans Fm.rf (hk _ h)
    · skip
      refine bnd_case h (fun j1 _ h => ?_)
      exact Fm.trans (Fm.put Fm.rf (by unfold RgM; omega)) (ih _ _ h)
set_option maxRecDepth 100000 in
theorem lf_X8_chain_35 {p1 : Int32}   {r0 : Int32} {σ2 : Mem} {k : Mem → Option (Int32 × Mem)}  (hk : ∀ (σ1 : Mem), k  σ1 = some (r0, σ2) → Fm RgM σ1 σ2) : ∀ (n : Nat) (v2 : Int32) (σ : Mem), f_X8_chain_35 p1 n v2 σ k = some (r0, σ2) → Fm RgM σ σ2 := by
  intro n
  induction n with
  | zero =>
    intro v2 σ h
    cases h
  | succ n ih =>
    intro v2 σ h
    rw [f_X8_chain_35.eq_2] at h
    refine bnd_case h (fun j1 _ h => ?_)
    refine r_case h (fun _ h => ?_) (fun _ h => ?_)
    · skip
      exact Fm.trans Fm.rf (hk _ h)
    · skip
      refine bnd_case h (fun j2 _ h => ?_)
      exact Fm.trans (Fm.put Fm.rf (by unfold RgM; omega)) (ih _ _ h)
set_option maxRecDepth 100000 in
theorem lf_X8_chain_77 {p1 : Int32} {p2 : Int32} {p3 : Int32} {σ : Mem}   {r0 : Int32} {σ2 : Mem} {k : Int32 → Option (Int32 × Mem)}  (hk : ∀ (x4 : Int32), k x4 = some (r0, σ2) → Fm RgM σ σ2) : ∀ (n : Nat) (v4 : Int32) (v5 : Int32), f_X8_chain_77 p1 p2 p3 σ n v4 v5 k = some (r0, σ2) → Fm RgM σ σ2 := by
  intro n
  induction n with
  | zero =>
    intro v4 v5 h
    cases h
  | succ n ih =>
    intro v4 v5 h
    rw [f_X8_chain_77.eq_2] at h
    refine bnd_case h (fun j1 _ h => ?_)
    refine r_case h (fun _ h => ?_) (fun _ h => ?_)
    · skip
      exact Fm.trans Fm.rf (hk _ h)
    · skip
      refine bnd_case h (fun j2 _ h => ?_)
      refine r_esac h (fun _ h => ?_) (fun _ h => ?_)
      · skip
        exact Fm.trans Fm.rf (ih _ _ h)
      · skip
        refine bnd_case h (fun j3 _ h => ?_)
        exact Fm.trans Fm.rf (ih _ _ h)
set_option maxRecDepth 100000 in
theorem lf_X8_chain_136 {p1 : Int32} {p2 : Int32} {p3 : Int32} {p4 : Int32}   {r0 : Int32} {σ2 : Mem} {k : Mem → Option (Int32 × Mem)}  (hk : ∀ (σ1 : Mem), k  σ1 = some (r0, σ2) → Fm RgM σ1 σ2) : ∀ (n : Nat) (v5 : Int32) (σ : Mem), f_X8_chain_136 p1 p2 p3 p4 n v5 σ k = some (r0, σ2) → Fm RgM σ σ2 := by
  intro n
  induction n with
  | zero =>
    intro v5 σ h
    cases h
  | succ n ih =>
    intro v5 σ h
    rw [f_X8_chain_136.eq_2] at h
    refine bnd_case h (fun j1 _ h => ?_)
    refine r_case h (fun _ h => ?_) (fun _ h => ?_)
    · skip
      exact Fm.trans Fm.rf (hk _ h)
    · skip
      refine r_esac h (fun _ h => ?_) (fun _ h => ?_)
      · skip
        exact Fm.trans Fm.rf (ih _ _ h)
      · skip
        refine bnd_case h (fun j2 _ h => ?_)
        refine bnd_case h (fun j3 _ h => ?_)
        exact Fm.trans (Fm.put Fm.rf (by unfold RgM; omega)) (ih _ _ h)
set_option maxRecDepth 100000 in
theorem lf_X8_chain_66 {p1 : Int32}   {r0 : Int32} {σ2 : Mem} {k : Int32 → Mem → Option (Int32 × Mem)}  (hk : ∀ (x2 : Int32) (σ1 : Mem), k x2 σ1 = some (r0, σ2) → Fm RgM σ1 σ2) : ∀ (n : Nat) (v2 : Int32) (v3 : Int32) (σ : Mem), f_X8_chain_66 p1 n v2 v3 σ k = some (r0, σ2) → Fm RgM σ σ2 := by
  intro n
  induction n with
  | zero =>
    intro v2 v3 σ h
    cases h
  | succ n ih =>
    intro v2 v3 σ h
    rw [f_X8_chain_66.eq_2] at h
    refine r_case h (fun _ h => ?_) (fun _ h => ?_)
    · skip
      exact Fm.trans Fm.rf (hk _ _ h)
    · skip
      refine Fm.trans Fm.rf (lf_X8_chain_77 (fun e1 h => ?_) _ _ _ h)
      refine Fm.trans Fm.rf (lf_X8_chain_136 (fun σ_1 h => ?_) _ _ _ h)
      refine bnd_case h (fun j1 _ h => ?_)
      refine r_case h (fun _ h => ?_) (fun _ h => ?_)
      · skip
        exact Fm.trans Fm.rf (ih _ _ _ h)
      · skip
        refine bnd_case h (fun a1 ea1 h => ?_)
        refine r_case h (fun _ h => ?_) (fun _ h => ?_)
        · skip
          exact Fm.trans Fm.rf (ih _ _ _ h)
        · skip
          refine bnd_case h (fun a2 ea2 h => ?_)
          exact Fm.trans Fm.rf (ih _ _ _ h)
set_option maxRecDepth 100000 in
theorem fr_X8_chain  {σ : Mem} {res : (Int32 × Mem)}  (h : f_X8_chain σ = some res) : Fm RgM σ res.2 := by
  obtain ⟨r0, σ2⟩ := res
  show Fm RgM σ σ2
  unfold f_X8_chain at h
  refine bnd_case h (fun a1 ea1 h => ?_)
  refine bnd_case h (fun j1 _ h => ?_)
  refine Fm.trans (Fm.trans Fm.rf (fr_X8_findSworn ea1)) (lf_X8_chain_15 (fun σ_1 h => ?_) _ _ _ h)
  refine Fm.trans Fm.rf (lf_X8_chain_35 (fun σ_2 h => ?_) _ _ _ h)
  refine Fm.trans Fm.rf (lf_X8_chain_66 (fun e1 σ_3 h => ?_) _ _ _ _ h)
  rw [fin_w h]
  exact Fm.rf
set_option maxRecDepth 100000 in
theorem fr_X8_land {p1 : Int32} {σ : Mem} {res : (Int32 × Mem)}  (h : f_X8_land p1 σ = some res) : Fm RgM σ res.2 := by
  obtain ⟨r0, σ2⟩ := res
  show Fm RgM σ σ2
  unfold f_X8_land at h
  refine r_case h (fun _ h => ?_) (fun _ h => ?_)
  · skip
    refine bnd_case h (fun j1 _ h => ?_)
    rw [fin_w h]
    exact Fm.rf
  · refine r_case h (fun _ h => ?_) (fun _ h => ?_)
    · skip
      refine bnd_case h (fun j2 _ h => ?_)
      rw [fin_w h]
      exact Fm.rf
    · refine r_case h (fun _ h => ?_) (fun _ h => ?_)
      · skip
        refine bnd_case h (fun j3 _ h => ?_)
        rw [fin_w h]
        exact Fm.rf
      · refine r_case h (fun _ h => ?_) (fun _ h => ?_)
        · skip
          refine bnd_case h (fun a1 ea1 h => ?_)
          rw [fin_w h]
          exact Fm.rf
        · refine r_case h (fun _ h => ?_) (fun _ h => ?_)
          · skip
            refine bnd_case h (fun a2 ea2 h => ?_)
            rw [fin_w h]
            exact Fm.rf
          · refine r_case h (fun _ h => ?_) (fun _ h => ?_)
            · skip
              refine bnd_case h (fun a3 ea3 h => ?_)
              rw [fin_w h]
              exact (Fm.trans Fm.rf (fr_X8_chain ea3))
            · skip
              rw [fin_w h]
              exact Fm.rf
set_option maxRecDepth 100000 in
theorem lf_X8_reaches_55 {p2 : Int32} {p3 : Int32} {p4 : Int32} {σ : Mem}   {r0 : Int32} {σ2 : Mem} {k : Int32 → Option (Int32 × Mem)}  (hk : ∀ (x5 : Int32), k x5 = some (r0, σ2) → Fm RgM σ σ2) : ∀ (n : Nat) (v5 : Int32) (v6 : Int32), f_X8_reaches_55 p2 p3 p4 σ n v5 v6 k = some (r0, σ2) → Fm RgM σ σ2 := by
  intro n
  induction n with
  | zero =>
    intro v5 v6 h
    cases h
  | succ n ih =>
    intro v5 v6 h
    rw [f_X8_reaches_55.eq_2] at h
    refine bnd_case h (fun j1 _ h => ?_)
    refine r_case h (fun _ h => ?_) (fun _ h => ?_)
    · skip
      exact Fm.trans Fm.rf (hk _ h)
    · skip
      refine r_esac h (fun _ h => ?_) (fun _ h => ?_)
      · skip
        exact Fm.trans Fm.rf (ih _ _ h)
      · skip
        refine bnd_case h (fun j2 _ h => ?_)
        exact Fm.trans Fm.rf (ih _ _ h)
set_option maxRecDepth 100000 in
theorem lf_X8_reaches_30 {p2 : Int32} {σ : Mem}   {r0 : Int32} {σ2 : Mem} {k : Option (Int32 × Mem)}  (hk : k  = some (r0, σ2) → Fm RgM σ σ2) : ∀ (n : Nat) (v3 : Int32) (v4 : Int32), f_X8_reaches_30 p2 σ n v3 v4 k = some (r0, σ2) → Fm RgM σ σ2 := by
  intro n
  induction n with
  | zero =>
    intro v3 v4 h
    cases h
  | succ n ih =>
    intro v3 v4 h
    rw [f_X8_reaches_30.eq_2] at h
    refine r_case h (fun _ h => ?_) (fun _ h => ?_)
    · skip
      exact Fm.trans Fm.rf (hk h)
    · skip
      refine r_esac h (fun _ h => ?_) (fun _ h => ?_)
      · skip
        refine Fm.trans Fm.rf (lf_X8_reaches_55 (fun e1 h => ?_) _ _ _ h)
        exact Fm.trans Fm.rf (ih _ _ h)
      · skip
        rw [fin_w h]
        exact Fm.rf
set_option maxRecDepth 100000 in
theorem fr_X8_reaches {p1 : Int32} {p2 : Int32} {σ : Mem} {res : (Int32 × Mem)}  (h : f_X8_reaches p1 p2 σ = some res) : Fm RgM σ res.2 := by
  obtain ⟨r0, σ2⟩ := res
  show Fm RgM σ σ2
  unfold f_X8_reaches at h
  refine bnd_case h (fun a1 ea1 h => ?_)
  refine r_case h (fun _ h => ?_) (fun _ h => ?_)
  · skip
    rw [fin_w h]
    exact Fm.rf
  · skip
    refine bnd_case h (fun a2 ea2 h => ?_)
    refine r_esac h (fun _ h => ?_) (fun _ h => ?_)
    · skip
      refine bnd_case h (fun a3 ea3 h => ?_)
      refine Fm.trans (Fm.trans Fm.rf (fr_X8_findSworn ea3)) (lf_X8_reaches_30 (fun  h => ?_) _ _ _ h)
      rw [fin_w h]
      exact Fm.rf
    · skip
      rw [fin_w h]
      exact Fm.rf
set_option maxRecDepth 100000 in
theorem lf_X8_laysBy_2   {σ2 : Mem} {k : Mem → Option Mem}  (hk : ∀ (σ1 : Mem), k  σ1 = some σ2 → Fm RgM σ1 σ2) : ∀ (n : Nat) (v1 : Int32) (σ : Mem), f_X8_laysBy_2  n v1 σ k = some σ2 → Fm RgM σ σ2 := by
  intro n
  induction n with
  | zero =>
    intro v1 σ h
    cases h
  | succ n ih =>
    intro v1 σ h
    rw [f_X8_laysBy_2.eq_2] at h
    refine r_case h (fun _ h => ?_) (fun _ h => ?_)
    · skip
      exact Fm.trans Fm.rf (hk _ h)
    · skip
      refine bnd_case h (fun j1 _ h => ?_)
      refine bnd_case h (fun j2 _ h => ?_)
      exact Fm.trans (Fm.put Fm.rf (by unfold RgM; omega)) (ih _ _ h)
set_option maxRecDepth 100000 in
theorem fr_X8_laysBy  {σ : Mem} {res : Mem}  (h : f_X8_laysBy σ = some res) : Fm RgM σ res := by
  unfold f_X8_laysBy at h
  refine Fm.trans Fm.rf (lf_X8_laysBy_2 (fun σ_1 h => ?_) _ _ _ h)
  rw [fin_v h]
  exact Fm.rf
set_option maxRecDepth 100000 in
theorem lf_X8_laysBack_2   {σ2 : Mem} {k : Mem → Option Mem}  (hk : ∀ (σ1 : Mem), k  σ1 = some σ2 → Fm RgM σ1 σ2) : ∀ (n : Nat) (v1 : Int32) (σ : Mem), f_X8_laysBack_2  n v1 σ k = some σ2 → Fm RgM σ σ2 := by
  intro n
  induction n with
  | zero =>
    intro v1 σ h
    cases h
  | succ n ih =>
    intro v1 σ h
    rw [f_X8_laysBack_2.eq_2] at h
    refine r_case h (fun _ h => ?_) (fun _ h => ?_)
    · skip
      exact Fm.trans Fm.rf (hk _ h)
    · skip
      refine bnd_case h (fun j1 _ h => ?_)
      refine bnd_case h (fun j2 _ h => ?_)
      exact Fm.trans (Fm.put Fm.rf (by unfold RgM; omega)) (ih _ _ h)
set_option maxRecDepth 100000 in
theorem fr_X8_laysBack  {σ : Mem} {res : Mem}  (h : f_X8_laysBack σ = some res) : Fm RgM σ res := by
  unfold f_X8_laysBack at h
  refine Fm.trans Fm.rf (lf_X8_laysBack_2 (fun σ_1 h => ?_) _ _ _ h)
  rw [fin_v h]
  exact Fm.rf
set_option maxRecDepth 100000 in
theorem fr_X8_behind {p1 : Int32} {p2 : Int32} {σ : Mem} {res : (Int32 × Mem)}  (h : f_X8_behind p1 p2 σ = some res) : Fm RgM σ res.2 := by
  obtain ⟨r0, σ2⟩ := res
  show Fm RgM σ σ2
  unfold f_X8_behind at h
  refine bnd_case h (fun a1 ea1 h => ?_)
  refine r_case h (fun _ h => ?_) (fun _ h => ?_)
  · skip
    rw [fin_w h]
    exact Fm.rf
  · skip
    refine bnd_case h (fun j1 _ h => ?_)
    refine bnd_case h (fun a2 ea2 h => ?_)
    refine r_esac h (fun _ h => ?_) (fun _ h => ?_)
    · skip
      refine bnd_case h (fun a3 ea3 h => ?_)
      refine bnd_case h (fun a4 ea4 h => ?_)
      refine r_esac h (fun _ h => ?_) (fun _ h => ?_)
      · skip
        refine r_esac h (fun _ h => ?_) (fun _ h => ?_)
        · skip
          refine r_esac h (fun _ h => ?_) (fun _ h => ?_)
          · skip
            refine bnd_case h (fun a5 ea5 h => ?_)
            refine bnd_case h (fun a6 ea6 h => ?_)
            rw [fin_w h]
            exact (Fm.trans (Fm.trans (Fm.trans Fm.rf (fr_X8_laysBy ea3)) (fr_X8_goesOnMany ea4)) (fr_X8_laysBack ea6))
          · skip
            refine bnd_case h (fun j2 _ h => ?_)
            refine bnd_case h (fun a7 ea7 h => ?_)
            rw [fin_w h]
            exact (Fm.trans (Fm.trans (Fm.trans Fm.rf (fr_X8_laysBy ea3)) (fr_X8_goesOnMany ea4)) (fr_X8_laysBack ea7))
        · skip
          refine bnd_case h (fun j3 _ h => ?_)
          refine bnd_case h (fun a8 ea8 h => ?_)
          rw [fin_w h]
          exact (Fm.trans (Fm.trans (Fm.trans Fm.rf (fr_X8_laysBy ea3)) (fr_X8_goesOnMany ea4)) (fr_X8_laysBack ea8))
      · skip
        refine bnd_case h (fun j4 _ h => ?_)
        refine bnd_case h (fun a9 ea9 h => ?_)
        rw [fin_w h]
        exact (Fm.trans (Fm.trans (Fm.trans Fm.rf (fr_X8_laysBy ea3)) (fr_X8_goesOnMany ea4)) (fr_X8_laysBack ea9))
    · skip
      rw [fin_w h]
      exact Fm.rf
set_option maxRecDepth 100000 in
theorem lf_X8_free_8    {r0 : Int32} {σ2 : Mem} {k : Int32 → Mem → Option (Int32 × Mem)}  (hk : ∀ (x1 : Int32) (σ1 : Mem), k x1 σ1 = some (r0, σ2) → Fm RgM σ1 σ2) : ∀ (n : Nat) (v1 : Int32) (v2 : Int32) (σ : Mem), f_X8_free_8  n v1 v2 σ k = some (r0, σ2) → Fm RgM σ σ2 := by
  intro n
  induction n with
  | zero =>
    intro v1 v2 σ h
    cases h
  | succ n ih =>
    intro v1 v2 σ h
    rw [f_X8_free_8.eq_2] at h
    refine r_case h (fun _ h => ?_) (fun _ h => ?_)
    · skip
      exact Fm.trans Fm.rf (hk _ _ h)
    · skip
      refine r_case h (fun _ h => ?_) (fun _ h => ?_)
      · skip
        exact Fm.trans Fm.rf (hk _ _ h)
      · skip
        refine bnd_case h (fun j1 _ h => ?_)
        refine r_esac h (fun _ h => ?_) (fun _ h => ?_)
        · skip
          refine bnd_case h (fun a1 ea1 h => ?_)
          exact Fm.trans (Fm.trans Fm.rf (fr_X8_goesOn ea1)) (ih _ _ _ h)
        · skip
          refine bnd_case h (fun a2 ea2 h => ?_)
          exact Fm.trans (Fm.trans Fm.rf (fr_X8_goesOn ea2)) (ih _ _ _ h)
set_option maxRecDepth 100000 in
theorem fr_X8_free  {σ : Mem} {res : (Int32 × Mem)}  (h : f_X8_free σ = some res) : Fm RgM σ res.2 := by
  obtain ⟨r0, σ2⟩ := res
  show Fm RgM σ σ2
  unfold f_X8_free at h
  refine bnd_case h (fun a1 ea1 h => ?_)
  refine Fm.trans (Fm.trans Fm.rf (fr_X8_laysBy ea1)) (lf_X8_free_8 (fun e1 σ_1 h => ?_) _ _ _ _ h)
  refine bnd_case h (fun a2 ea2 h => ?_)
  refine bnd_case h (fun a3 ea3 h => ?_)
  rw [fin_w h]
  exact (Fm.trans Fm.rf (fr_X8_laysBack ea2))
set_option maxRecDepth 100000 in
theorem lf_X8_sworn_51 {p1 : Int32} {p2 : Int32} {p5 : Int32}   {r0 : Int32} {σ2 : Mem} {k : Int32 → Int32 → Mem → Option (Int32 × Mem)}  (hk : ∀ (x3 : Int32) (x4 : Int32) (σ1 : Mem), k x3 x4 σ1 = some (r0, σ2) → Fm RgM σ1 σ2) : ∀ (n : Nat) (v3 : Int32) (v4 : Int32) (v6 : Int32) (σ : Mem), f_X8_sworn_51 p1 p2 p5 n v3 v4 v6 σ k = some (r0, σ2) → Fm RgM σ σ2 := by
  intro n
  induction n with
  | zero =>
    intro v3 v4 v6 σ h
    cases h
  | succ n ih =>
    intro v3 v4 v6 σ h
    rw [f_X8_sworn_51.eq_2] at h
    refine bnd_case h (fun j1 _ h => ?_)
    refine r_case h (fun _ h => ?_) (fun _ h => ?_)
    · skip
      exact Fm.trans Fm.rf (hk _ _ _ h)
    · skip
      refine r_case h (fun _ h => ?_) (fun _ h => ?_)
      · skip
        exact Fm.trans Fm.rf (ih _ _ _ _ h)
      · skip
        refine bnd_case h (fun a1 ea1 h => ?_)
        refine bnd_case h (fun a2 ea2 h => ?_)
        refine bnd_case h (fun j2 _ h => ?_)
        refine bnd_case h (fun a3 ea3 h => ?_)
        refine r_case h (fun _ h => ?_) (fun _ h => ?_)
        · skip
          refine r_case h (fun _ h => ?_) (fun _ h => ?_)
          · skip
            exact Fm.trans (Fm.trans (Fm.trans (Fm.trans Fm.rf (fr_X8_gives ea1)) (fr_X8_goesOnMany ea2)) (fr_X8_laysBack ea3)) (ih _ _ _ _ h)
          · skip
            exact Fm.trans (Fm.trans (Fm.trans (Fm.trans Fm.rf (fr_X8_gives ea1)) (fr_X8_goesOnMany ea2)) (fr_X8_laysBack ea3)) (ih _ _ _ _ h)
        · skip
          refine r_case h (fun _ h => ?_) (fun _ h => ?_)
          · skip
            exact Fm.trans (Fm.trans (Fm.trans (Fm.trans Fm.rf (fr_X8_gives ea1)) (fr_X8_goesOnMany ea2)) (fr_X8_laysBack ea3)) (ih _ _ _ _ h)
          · skip
            exact Fm.trans (Fm.trans (Fm.trans (Fm.trans Fm.rf (fr_X8_gives ea1)) (fr_X8_goesOnMany ea2)) (fr_X8_laysBack ea3)) (ih _ _ _ _ h)
set_option maxRecDepth 100000 in
theorem lf_X8_sworn_37 {p1 : Int32} {p2 : Int32}   {r0 : Int32} {σ2 : Mem} {k : Int32 → Int32 → Mem → Option (Int32 × Mem)}  (hk : ∀ (x3 : Int32) (x4 : Int32) (σ1 : Mem), k x3 x4 σ1 = some (r0, σ2) → Fm RgM σ1 σ2) : ∀ (n : Nat) (v3 : Int32) (v4 : Int32) (v5 : Int32) (σ : Mem), f_X8_sworn_37 p1 p2 n v3 v4 v5 σ k = some (r0, σ2) → Fm RgM σ σ2 := by
  intro n
  induction n with
  | zero =>
    intro v3 v4 v5 σ h
    cases h
  | succ n ih =>
    intro v3 v4 v5 σ h
    rw [f_X8_sworn_37.eq_2] at h
    refine bnd_case h (fun j1 _ h => ?_)
    refine r_case h (fun _ h => ?_) (fun _ h => ?_)
    · skip
      exact Fm.trans Fm.rf (hk _ _ _ h)
    · skip
      refine Fm.trans Fm.rf (lf_X8_sworn_51 (fun e1 e2 σ_1 h => ?_) _ _ _ _ _ h)
      exact Fm.trans Fm.rf (ih _ _ _ _ h)
set_option maxRecDepth 100000 in
theorem fr_X8_sworn {p1 : Int32} {p2 : Int32} {σ : Mem} {res : (Int32 × Mem)}  (h : f_X8_sworn p1 p2 σ = some res) : Fm RgM σ res.2 := by
  obtain ⟨r0, σ2⟩ := res
  show Fm RgM σ σ2
  unfold f_X8_sworn at h
  refine bnd_case h (fun a1 ea1 h => ?_)
  refine r_case h (fun _ h => ?_) (fun _ h => ?_)
  · skip
    rw [fin_w h]
    exact Fm.rf
  · skip
    refine bnd_case h (fun a2 ea2 h => ?_)
    refine r_esac h (fun _ h => ?_) (fun _ h => ?_)
    · skip
      refine bnd_case h (fun a3 ea3 h => ?_)
      refine Fm.trans (Fm.trans Fm.rf (fr_X8_laysBy ea3)) (lf_X8_sworn_37 (fun e1 e2 σ_1 h => ?_) _ _ _ _ _ h)
      refine r_case h (fun _ h => ?_) (fun _ h => ?_)
      · skip
        refine r_esac h (fun _ h => ?_) (fun _ h => ?_)
        · skip
          rw [fin_w h]
          exact Fm.rf
        · skip
          rw [fin_w h]
          exact Fm.rf
      · skip
        rw [fin_w h]
        exact Fm.rf
    · skip
      rw [fin_w h]
      exact Fm.rf
set_option maxRecDepth 100000 in
theorem lf_X8_trust_37 {p1 : Int32} {p2 : Int32}   {r0 : Int32} {σ2 : Mem} {k : Int32 → Int32 → Mem → Option (Int32 × Mem)}  (hk : ∀ (x3 : Int32) (x4 : Int32) (σ1 : Mem), k x3 x4 σ1 = some (r0, σ2) → Fm RgM σ1 σ2) : ∀ (n : Nat) (v3 : Int32) (v4 : Int32) (v5 : Int32) (σ : Mem), f_X8_trust_37 p1 p2 n v3 v4 v5 σ k = some (r0, σ2) → Fm RgM σ σ2 := by
  intro n
  induction n with
  | zero =>
    intro v3 v4 v5 σ h
    cases h
  | succ n ih =>
    intro v3 v4 v5 σ h
    rw [f_X8_trust_37.eq_2] at h
    refine bnd_case h (fun j1 _ h => ?_)
    refine r_case h (fun _ h => ?_) (fun _ h => ?_)
    · skip
      exact Fm.trans Fm.rf (hk _ _ _ h)
    · skip
      refine bnd_case h (fun a1 ea1 h => ?_)
      refine bnd_case h (fun a2 ea2 h => ?_)
      refine bnd_case h (fun j2 _ h => ?_)
      refine bnd_case h (fun a3 ea3 h => ?_)
      refine r_case h (fun _ h => ?_) (fun _ h => ?_)
      · skip
        refine r_case h (fun _ h => ?_) (fun _ h => ?_)
        · skip
          exact Fm.trans (Fm.trans (Fm.trans (Fm.trans Fm.rf (fr_X8_sets ea1)) (fr_X8_goesOnMany ea2)) (fr_X8_laysBack ea3)) (ih _ _ _ _ h)
        · skip
          exact Fm.trans (Fm.trans (Fm.trans (Fm.trans Fm.rf (fr_X8_sets ea1)) (fr_X8_goesOnMany ea2)) (fr_X8_laysBack ea3)) (ih _ _ _ _ h)
      · skip
        refine r_case h (fun _ h => ?_) (fun _ h => ?_)
        · skip
          exact Fm.trans (Fm.trans (Fm.trans (Fm.trans Fm.rf (fr_X8_sets ea1)) (fr_X8_goesOnMany ea2)) (fr_X8_laysBack ea3)) (ih _ _ _ _ h)
        · skip
          exact Fm.trans (Fm.trans (Fm.trans (Fm.trans Fm.rf (fr_X8_sets ea1)) (fr_X8_goesOnMany ea2)) (fr_X8_laysBack ea3)) (ih _ _ _ _ h)
set_option maxRecDepth 100000 in
theorem fr_X8_trust {p1 : Int32} {p2 : Int32} {σ : Mem} {res : (Int32 × Mem)}  (h : f_X8_trust p1 p2 σ = some res) : Fm RgM σ res.2 := by
  obtain ⟨r0, σ2⟩ := res
  show Fm RgM σ σ2
  unfold f_X8_trust at h
  refine bnd_case h (fun a1 ea1 h => ?_)
  refine r_case h (fun _ h => ?_) (fun _ h => ?_)
  · skip
    rw [fin_w h]
    exact Fm.rf
  · skip
    refine bnd_case h (fun a2 ea2 h => ?_)
    refine r_esac h (fun _ h => ?_) (fun _ h => ?_)
    · skip
      refine bnd_case h (fun a3 ea3 h => ?_)
      refine Fm.trans (Fm.trans Fm.rf (fr_X8_laysBy ea3)) (lf_X8_trust_37 (fun e1 e2 σ_1 h => ?_) _ _ _ _ _ h)
      refine r_case h (fun _ h => ?_) (fun _ h => ?_)
      · skip
        refine r_esac h (fun _ h => ?_) (fun _ h => ?_)
        · skip
          rw [fin_w h]
          exact Fm.rf
        · skip
          rw [fin_w h]
          exact Fm.rf
      · skip
        rw [fin_w h]
        exact Fm.rf
    · skip
      rw [fin_w h]
      exact Fm.rf
set_option maxRecDepth 100000 in
theorem lf_X8_debtor_42 {p2 : Int32} {σ : Mem}   {r0 : Int32} {σ2 : Mem} {k : Int32 → Int32 → Option (Int32 × Mem)}  (hk : ∀ (x3 : Int32) (x4 : Int32), k x3 x4 = some (r0, σ2) → Fm RgM σ σ2) : ∀ (n : Nat) (v3 : Int32) (v4 : Int32) (v5 : Int32), f_X8_debtor_42 p2 σ n v3 v4 v5 k = some (r0, σ2) → Fm RgM σ σ2 := by
  intro n
  induction n with
  | zero =>
    intro v3 v4 v5 h
    cases h
  | succ n ih =>
    intro v3 v4 v5 h
    rw [f_X8_debtor_42.eq_2] at h
    refine bnd_case h (fun j1 _ h => ?_)
    refine r_case h (fun _ h => ?_) (fun _ h => ?_)
    · skip
      exact Fm.trans Fm.rf (hk _ _ h)
    · skip
      refine bnd_case h (fun j2 _ h => ?_)
      refine bnd_case h (fun a1 ea1 h => ?_)
      refine r_case h (fun _ h => ?_) (fun _ h => ?_)
      · skip
        exact Fm.trans Fm.rf (ih _ _ _ h)
      · skip
        refine r_case h (fun _ h => ?_) (fun _ h => ?_)
        · skip
          exact Fm.trans Fm.rf (ih _ _ _ h)
        · skip
          exact Fm.trans Fm.rf (ih _ _ _ h)
set_option maxRecDepth 100000 in
theorem fr_X8_debtor {p1 : Int32} {p2 : Int32} {σ : Mem} {res : (Int32 × Mem)}  (h : f_X8_debtor p1 p2 σ = some res) : Fm RgM σ res.2 := by
  obtain ⟨r0, σ2⟩ := res
  show Fm RgM σ σ2
  unfold f_X8_debtor at h
  refine bnd_case h (fun a1 ea1 h => ?_)
  refine r_case h (fun _ h => ?_) (fun _ h => ?_)
  · skip
    rw [fin_w h]
    exact Fm.rf
  · skip
    refine bnd_case h (fun a2 ea2 h => ?_)
    refine r_esac h (fun _ h => ?_) (fun _ h => ?_)
    · skip
      refine bnd_case h (fun a3 ea3 h => ?_)
      refine bnd_case h (fun a4 ea4 h => ?_)
      refine Fm.trans (Fm.trans (Fm.trans Fm.rf (fr_X8_laysBy ea3)) (fr_X8_goesOnMany ea4)) (lf_X8_debtor_42 (fun e1 e2 h => ?_) _ _ _ _ h)
      refine bnd_case h (fun a5 ea5 h => ?_)
      refine r_case h (fun _ h => ?_) (fun _ h => ?_)
      · skip
        refine r_esac h (fun _ h => ?_) (fun _ h => ?_)
        · skip
          rw [fin_w h]
          exact (Fm.trans Fm.rf (fr_X8_laysBack ea5))
        · skip
          rw [fin_w h]
          exact (Fm.trans Fm.rf (fr_X8_laysBack ea5))
      · skip
        rw [fin_w h]
        exact (Fm.trans Fm.rf (fr_X8_laysBack ea5))
    · skip
      rw [fin_w h]
      exact Fm.rf
set_option maxRecDepth 100000 in
theorem fr_X8_fee  {σ : Mem} {res : (Int32 × Mem)}  (h : f_X8_fee σ = some res) : Fm RgM σ res.2 := by
  obtain ⟨r0, σ2⟩ := res
  show Fm RgM σ σ2
  unfold f_X8_fee at h
  refine bnd_case h (fun a1 ea1 h => ?_)
  refine r_case h (fun _ h => ?_) (fun _ h => ?_)
  · skip
    refine bnd_case h (fun j1 _ h => ?_)
    refine bnd_case h (fun j2 _ h => ?_)
    refine bnd_case h (fun j3 _ h => ?_)
    refine bnd_case h (fun j4 _ h => ?_)
    refine bnd_case h (fun a2 ea2 h => ?_)
    rw [fin_w h]
    exact (Fm.trans (Fm.put (Fm.put Fm.rf (by unfold RgM; omega)) (by unfold RgM; omega)) (fr_X8_worked ea2))
  · skip
    refine bnd_case h (fun j5 _ h => ?_)
    rw [fin_w h]
    exact Fm.rf
set_option maxRecDepth 100000 in
theorem fr_X8_fine {p1 : Int32} {σ : Mem} {res : (Int32 × Mem)}  (h : f_X8_fine p1 σ = some res) : Fm RgM σ res.2 := by
  obtain ⟨r0, σ2⟩ := res
  show Fm RgM σ σ2
  unfold f_X8_fine at h
  refine bnd_case h (fun a1 ea1 h => ?_)
  refine r_esac h (fun _ h => ?_) (fun _ h => ?_)
  · skip
    refine bnd_case h (fun a2 ea2 h => ?_)
    refine r_case h (fun _ h => ?_) (fun _ h => ?_)
    · skip
      refine bnd_case h (fun a3 ea3 h => ?_)
      refine bnd_case h (fun j1 _ h => ?_)
      refine bnd_case h (fun a4 ea4 h => ?_)
      refine bnd_case h (fun j2 _ h => ?_)
      refine bnd_case h (fun a5 ea5 h => ?_)
      rw [fin_w h]
      exact (Fm.trans (Fm.put (Fm.put Fm.rf (by unfold RgM; omega)) (by unfold RgM; omega)) (fr_X8_worked ea5))
    · skip
      refine bnd_case h (fun a6 ea6 h => ?_)
      rw [fin_w h]
      exact Fm.rf
  · skip
    rw [fin_w h]
    exact Fm.rf
set_option maxRecDepth 100000 in
theorem lf_X8_feed_18 {p1 : Int32} {p2 : Int32} {p3 : Int32}   {r0 : Int32} {σ2 : Mem} {k : Mem → Option (Int32 × Mem)}  (hk : ∀ (σ1 : Mem), k  σ1 = some (r0, σ2) → Fm RgM σ1 σ2) : ∀ (n : Nat) (v4 : Int32) (σ : Mem), f_X8_feed_18 p1 p2 p3 n v4 σ k = some (r0, σ2) → Fm RgM σ σ2 := by
  intro n
  induction n with
  | zero =>
    intro v4 σ h
    cases h
  | succ n ih =>
    intro v4 σ h
    rw [f_X8_feed_18.eq_2] at h
    refine r_case h (fun _ h => ?_) (fun _ h => ?_)
    · skip
      exact Fm.trans Fm.rf (hk _ h)
    · skip
      refine r_case h (fun _ h => ?_) (fun _ h => ?_)
      · skip
        refine r_case h (fun _ h => ?_) (fun _ h => ?_)
        · skip
          refine bnd_case h (fun j1 _ h => ?_)
          refine bnd_case h (fun s1 es1 h => ?_)
          cases es1
          exact Fm.trans (Fm.put (Fm.put Fm.rf (by unfold RgM; omega)) (by unfold RgM; omega)) (ih _ _ h)
        · skip
          refine bnd_case h (fun j2 _ h => ?_)
          refine bnd_case h (fun s2 es2 h => ?_)
          cases es2
          exact Fm.trans (Fm.put (Fm.put Fm.rf (by unfold RgM; omega)) (by unfold RgM; omega)) (ih _ _ h)
      · skip
        refine bnd_case h (fun j3 _ h => ?_)
        refine bnd_case h (fun s3 es3 h => ?_)
        cases es3
        exact Fm.trans (Fm.put (Fm.put Fm.rf (by unfold RgM; omega)) (by unfold RgM; omega)) (ih _ _ h)
set_option maxRecDepth 100000 in
theorem fr_X8_feed {p1 : Int32} {p2 : Int32} {p3 : Int32} {σ : Mem} {res : (Int32 × Mem)}  (h : f_X8_feed p1 p2 p3 σ = some res) : Fm RgM σ res.2 := by
  obtain ⟨r0, σ2⟩ := res
  show Fm RgM σ σ2
  unfold f_X8_feed at h
  refine r_case h (fun _ h => ?_) (fun _ h => ?_)
  · skip
    refine Fm.trans Fm.rf (lf_X8_feed_18 (fun σ_1 h => ?_) _ _ _ h)
    rw [fin_w h]
    exact Fm.rf
  · skip
    rw [fin_w h]
    exact Fm.rf
set_option maxRecDepth 100000 in
theorem fr_X8_trim {p1 : Int32} {σ : Mem} {res : (Int32 × Mem)}  (h : f_X8_trim p1 σ = some res) : Fm RgM σ res.2 := by
  obtain ⟨r0, σ2⟩ := res
  show Fm RgM σ σ2
  unfold f_X8_trim at h
  refine bnd_case h (fun a1 ea1 h => ?_)
  refine r_esac h (fun _ h => ?_) (fun _ h => ?_)
  · skip
    rw [fin_w h]
    exact (Fm.put Fm.rf (by unfold RgM; omega))
  · skip
    rw [fin_w h]
    exact Fm.rf
set_option maxRecDepth 100000 in
theorem lf_X8_nextToken_34 {p1 : Int32} {p2 : Int32}  {σ2 : Mem} {k : Mem → Option Mem}  (hk : ∀ (σ1 : Mem), k  σ1 = some σ2 → Fm RgM σ1 σ2) : ∀ (n : Nat) (σ : Mem), f_X8_nextToken_34 p1 p2 n  σ k = some σ2 → Fm RgM σ σ2 := by
  intro n
  induction n with
  | zero =>
    intro σ h
    cases h
  | succ n ih =>
    intro σ h
    rw [f_X8_nextToken_34.eq_2] at h
    refine r_case h (fun _ h => ?_) (fun _ h => ?_)
    · exact Fm.trans Fm.rf (hk _ h)
    · skip
      refine bnd_case h (fun j1 _ h => ?_)
      refine r_esac h (fun _ h => ?_) (fun _ h => ?_)
      · exact Fm.trans Fm.rf (hk _ h)
      · skip
        exact Fm.trans (Fm.put Fm.rf (by unfold RgM; omega)) (ih _ h)
set_option maxRecDepth 100000 in
theorem lf_X8_nextToken_214 {p1 : Int32}  {σ2 : Mem} {k : Mem → Option Mem}  (hk : ∀ (σ1 : Mem), k  σ1 = some σ2 → Fm RgM σ1 σ2) : ∀ (n : Nat) (σ : Mem), f_X8_nextToken_214 p1 n  σ k = some σ2 → Fm RgM σ σ2 := by
  intro n
  induction n with
  | zero =>
    intro σ h
    cases h
  | succ n ih =>
    intro σ h
    rw [f_X8_nextToken_214.eq_2] at h
    refine bnd_case h (fun a1 ea1 h => ?_)
    refine r_case h (fun _ h => ?_) (fun _ h => ?_)
    · exact Fm.trans Fm.rf (hk _ h)
    · skip
      refine r_case h (fun _ h => ?_) (fun _ h => ?_)
      · skip
        refine bnd_case h (fun s1 es1 h => ?_)
        cases es1
        exact Fm.trans (Fm.put (Fm.put Fm.rf (by unfold RgM; omega)) (by unfold RgM; omega)) (ih _ h)
      · skip
        refine bnd_case h (fun j1 _ h => ?_)
        refine bnd_case h (fun s2 es2 h => ?_)
        cases es2
        exact Fm.trans (Fm.put (Fm.put Fm.rf (by unfold RgM; omega)) (by unfold RgM; omega)) (ih _ h)
set_option maxRecDepth 100000 in
theorem lf_X8_nextToken_128 {p1 : Int32}  {σ2 : Mem} {k : Mem → Option Mem}  (hk : ∀ (σ1 : Mem), k  σ1 = some σ2 → Fm RgM σ1 σ2) : ∀ (n : Nat) (σ : Mem), f_X8_nextToken_128 p1 n  σ k = some σ2 → Fm RgM σ σ2 := by
  intro n
  induction n with
  | zero =>
    intro σ h
    cases h
  | succ n ih =>
    intro σ h
    rw [f_X8_nextToken_128.eq_2] at h
    refine bnd_case h (fun a1 ea1 h => ?_)
    refine r_case h (fun _ h => ?_) (fun _ h => ?_)
    · exact Fm.trans Fm.rf (hk _ h)
    · skip
      exact Fm.trans (Fm.put Fm.rf (by unfold RgM; omega)) (ih _ h)
set_option maxRecDepth 100000 in
theorem fr_X8_nextToken  {σ : Mem} {res : Mem}  (h : f_X8_nextToken σ = some res) : Fm RgM σ res := by
  unfold f_X8_nextToken at h
  refine r_case h (fun _ h => ?_) (fun _ h => ?_)
  · skip
    refine Fm.trans Fm.rf (lf_X8_nextToken_34 (fun σ_1 h => ?_) _ _ h)
    refine r_esac h (fun _ h => ?_) (fun _ h => ?_)
    · skip
      refine bnd_case h (fun a1 ea1 h => ?_)
      refine r_case h (fun _ h => ?_) (fun _ h => ?_)
      · skip
        refine bnd_case h (fun a2 ea2 h => ?_)
        refine r_case h (fun _ h => ?_) (fun _ h => ?_)
        · skip
          refine bnd_case h (fun j1 _ h => ?_)
          refine bnd_case h (fun s1 es1 h => ?_)
          cases es1
          rw [fin_v h]
          exact (Fm.put (Fm.put (Fm.put (Fm.put Fm.rf (by unfold RgM; omega)) (by unfold RgM; omega)) (by unfold RgM; omega)) (by unfold RgM; omega))
        · skip
          refine Fm.trans (Fm.put (Fm.put Fm.rf (by unfold RgM; omega)) (by unfold RgM; omega)) (lf_X8_nextToken_214 (fun σ_2 h => ?_) _ _ h)
          refine r_case h (fun _ h => ?_) (fun _ h => ?_)
          · skip
            rw [fin_v h]
            exact (Fm.put Fm.rf (by unfold RgM; omega))
          · skip
            rw [fin_v h]
            exact (Fm.put Fm.rf (by unfold RgM; omega))
      · skip
        refine Fm.trans (Fm.put Fm.rf (by unfold RgM; omega)) (lf_X8_nextToken_128 (fun σ_3 h => ?_) _ _ h)
        refine r_esac h (fun _ h => ?_) (fun _ h => ?_)
        · skip
          rw [fin_v h]
          exact (Fm.put (Fm.put Fm.rf (by unfold RgM; omega)) (by unfold RgM; omega))
        · skip
          refine bnd_case h (fun j2 _ h => ?_)
          rw [fin_v h]
          exact (Fm.put (Fm.put Fm.rf (by unfold RgM; omega)) (by unfold RgM; omega))
    · skip
      rw [fin_v h]
      exact (Fm.put (Fm.put Fm.rf (by unfold RgM; omega)) (by unfold RgM; omega))
  · skip
    refine r_case h (fun _ h => ?_) (fun _ h => ?_)
    · skip
      refine Fm.trans Fm.rf (lf_X8_nextToken_34 (fun σ_4 h => ?_) _ _ h)
      refine r_esac h (fun _ h => ?_) (fun _ h => ?_)
      · skip
        refine r_esac h (fun _ h => ?_) (fun _ h => ?_)
        · skip
          refine bnd_case h (fun a3 ea3 h => ?_)
          refine r_case h (fun _ h => ?_) (fun _ h => ?_)
          · skip
            refine bnd_case h (fun a4 ea4 h => ?_)
            refine r_case h (fun _ h => ?_) (fun _ h => ?_)
            · skip
              refine bnd_case h (fun j3 _ h => ?_)
              refine bnd_case h (fun s2 es2 h => ?_)
              cases es2
              rw [fin_v h]
              exact (Fm.put (Fm.put (Fm.put (Fm.put Fm.rf (by unfold RgM; omega)) (by unfold RgM; omega)) (by unfold RgM; omega)) (by unfold RgM; omega))
            · skip
              refine Fm.trans (Fm.put (Fm.put Fm.rf (by unfold RgM; omega)) (by unfold RgM; omega)) (lf_X8_nextToken_214 (fun σ_5 h => ?_) _ _ h)
              refine r_case h (fun _ h => ?_) (fun _ h => ?_)
              · skip
                rw [fin_v h]
                exact (Fm.put Fm.rf (by unfold RgM; omega))
              · skip
                rw [fin_v h]
                exact (Fm.put Fm.rf (by unfold RgM; omega))
          · skip
            refine Fm.trans (Fm.put Fm.rf (by unfold RgM; omega)) (lf_X8_nextToken_128 (fun σ_6 h => ?_) _ _ h)
            refine r_esac h (fun _ h => ?_) (fun _ h => ?_)
            · skip
              rw [fin_v h]
              exact (Fm.put (Fm.put Fm.rf (by unfold RgM; omega)) (by unfold RgM; omega))
            · skip
              refine bnd_case h (fun j4 _ h => ?_)
              rw [fin_v h]
              exact (Fm.put (Fm.put Fm.rf (by unfold RgM; omega)) (by unfold RgM; omega))
        · skip
          rw [fin_v h]
          exact (Fm.put (Fm.put Fm.rf (by unfold RgM; omega)) (by unfold RgM; omega))
      · skip
        refine r_esac h (fun _ h => ?_) (fun _ h => ?_)
        · skip
          refine bnd_case h (fun a5 ea5 h => ?_)
          refine r_case h (fun _ h => ?_) (fun _ h => ?_)
          · skip
            refine bnd_case h (fun a6 ea6 h => ?_)
            refine r_case h (fun _ h => ?_) (fun _ h => ?_)
            · skip
              refine bnd_case h (fun j5 _ h => ?_)
              refine bnd_case h (fun s3 es3 h => ?_)
              cases es3
              rw [fin_v h]
              exact (Fm.put (Fm.put (Fm.put (Fm.put Fm.rf (by unfold RgM; omega)) (by unfold RgM; omega)) (by unfold RgM; omega)) (by unfold RgM; omega))
            · skip
              refine Fm.trans (Fm.put (Fm.put Fm.rf (by unfold RgM; omega)) (by unfold RgM; omega)) (lf_X8_nextToken_214 (fun σ_7 h => ?_) _ _ h)
              rw [fin_v h]
              exact (Fm.put Fm.rf (by unfold RgM; omega))
          · skip
            refine Fm.trans (Fm.put Fm.rf (by unfold RgM; omega)) (lf_X8_nextToken_128 (fun σ_8 h => ?_) _ _ h)
            refine r_esac h (fun _ h => ?_) (fun _ h => ?_)
            · skip
              rw [fin_v h]
              exact (Fm.put (Fm.put Fm.rf (by unfold RgM; omega)) (by unfold RgM; omega))
            · skip
              refine bnd_case h (fun j6 _ h => ?_)
              rw [fin_v h]
              exact (Fm.put (Fm.put Fm.rf (by unfold RgM; omega)) (by unfold RgM; omega))
        · skip
          rw [fin_v h]
          exact (Fm.put (Fm.put Fm.rf (by unfold RgM; omega)) (by unfold RgM; omega))
    · skip
      refine r_esac h (fun _ h => ?_) (fun _ h => ?_)
      · skip
        refine Fm.trans Fm.rf (lf_X8_nextToken_34 (fun σ_9 h => ?_) _ _ h)
        refine r_esac h (fun _ h => ?_) (fun _ h => ?_)
        · skip
          refine bnd_case h (fun a7 ea7 h => ?_)
          refine r_case h (fun _ h => ?_) (fun _ h => ?_)
          · skip
            refine bnd_case h (fun a8 ea8 h => ?_)
            refine r_case h (fun _ h => ?_) (fun _ h => ?_)
            · skip
              refine bnd_case h (fun j7 _ h => ?_)
              refine bnd_case h (fun s4 es4 h => ?_)
              cases es4
              rw [fin_v h]
              exact (Fm.put (Fm.put (Fm.put (Fm.put Fm.rf (by unfold RgM; omega)) (by unfold RgM; omega)) (by unfold RgM; omega)) (by unfold RgM; omega))
            · skip
              refine Fm.trans (Fm.put (Fm.put Fm.rf (by unfold RgM; omega)) (by unfold RgM; omega)) (lf_X8_nextToken_214 (fun σ_10 h => ?_) _ _ h)
              refine r_case h (fun _ h => ?_) (fun _ h => ?_)
              · skip
                rw [fin_v h]
                exact (Fm.put Fm.rf (by unfold RgM; omega))
              · skip
                rw [fin_v h]
                exact (Fm.put Fm.rf (by unfold RgM; omega))
          · skip
            refine Fm.trans (Fm.put Fm.rf (by unfold RgM; omega)) (lf_X8_nextToken_128 (fun σ_11 h => ?_) _ _ h)
            refine r_esac h (fun _ h => ?_) (fun _ h => ?_)
            · skip
              rw [fin_v h]
              exact (Fm.put (Fm.put Fm.rf (by unfold RgM; omega)) (by unfold RgM; omega))
            · skip
              refine bnd_case h (fun j8 _ h => ?_)
              rw [fin_v h]
              exact (Fm.put (Fm.put Fm.rf (by unfold RgM; omega)) (by unfold RgM; omega))
        · skip
          rw [fin_v h]
          exact (Fm.put (Fm.put Fm.rf (by unfold RgM; omega)) (by unfold RgM; omega))
      · skip
        refine Fm.trans Fm.rf (lf_X8_nextToken_34 (fun σ_12 h => ?_) _ _ h)
        refine r_esac h (fun _ h => ?_) (fun _ h => ?_)
        · skip
          refine r_esac h (fun _ h => ?_) (fun _ h => ?_)
          · skip
            refine bnd_case h (fun a9 ea9 h => ?_)
            refine r_case h (fun _ h => ?_) (fun _ h => ?_)
            · skip
              refine bnd_case h (fun a10 ea10 h => ?_)
              refine r_case h (fun _ h => ?_) (fun _ h => ?_)
              · skip
                refine bnd_case h (fun j9 _ h => ?_)
                refine bnd_case h (fun s5 es5 h => ?_)
                cases es5
                rw [fin_v h]
                exact (Fm.put (Fm.put (Fm.put (Fm.put Fm.rf (by unfold RgM; omega)) (by unfold RgM; omega)) (by unfold RgM; omega)) (by unfold RgM; omega))
              · skip
                refine Fm.trans (Fm.put (Fm.put Fm.rf (by unfold RgM; omega)) (by unfold RgM; omega)) (lf_X8_nextToken_214 (fun σ_13 h => ?_) _ _ h)
                refine r_case h (fun _ h => ?_) (fun _ h => ?_)
                · skip
                  rw [fin_v h]
                  exact (Fm.put Fm.rf (by unfold RgM; omega))
                · skip
                  rw [fin_v h]
                  exact (Fm.put Fm.rf (by unfold RgM; omega))
            · skip
              refine Fm.trans (Fm.put Fm.rf (by unfold RgM; omega)) (lf_X8_nextToken_128 (fun σ_14 h => ?_) _ _ h)
              refine r_esac h (fun _ h => ?_) (fun _ h => ?_)
              · skip
                rw [fin_v h]
                exact (Fm.put (Fm.put Fm.rf (by unfold RgM; omega)) (by unfold RgM; omega))
              · skip
                refine bnd_case h (fun j10 _ h => ?_)
                rw [fin_v h]
                exact (Fm.put (Fm.put Fm.rf (by unfold RgM; omega)) (by unfold RgM; omega))
          · skip
            rw [fin_v h]
            exact (Fm.put (Fm.put Fm.rf (by unfold RgM; omega)) (by unfold RgM; omega))
        · skip
          refine r_esac h (fun _ h => ?_) (fun _ h => ?_)
          · skip
            refine bnd_case h (fun a11 ea11 h => ?_)
            refine r_case h (fun _ h => ?_) (fun _ h => ?_)
            · skip
              refine bnd_case h (fun a12 ea12 h => ?_)
              refine r_case h (fun _ h => ?_) (fun _ h => ?_)
              · skip
                refine bnd_case h (fun j11 _ h => ?_)
                refine bnd_case h (fun s6 es6 h => ?_)
                cases es6
                rw [fin_v h]
                exact (Fm.put (Fm.put (Fm.put (Fm.put Fm.rf (by unfold RgM; omega)) (by unfold RgM; omega)) (by unfold RgM; omega)) (by unfold RgM; omega))
              · skip
                refine Fm.trans (Fm.put (Fm.put Fm.rf (by unfold RgM; omega)) (by unfold RgM; omega)) (lf_X8_nextToken_214 (fun σ_15 h => ?_) _ _ h)
                rw [fin_v h]
                exact (Fm.put Fm.rf (by unfold RgM; omega))
            · skip
              refine Fm.trans (Fm.put Fm.rf (by unfold RgM; omega)) (lf_X8_nextToken_128 (fun σ_16 h => ?_) _ _ h)
              refine r_esac h (fun _ h => ?_) (fun _ h => ?_)
              · skip
                rw [fin_v h]
                exact (Fm.put (Fm.put Fm.rf (by unfold RgM; omega)) (by unfold RgM; omega))
              · skip
                refine bnd_case h (fun j12 _ h => ?_)
                rw [fin_v h]
                exact (Fm.put (Fm.put Fm.rf (by unfold RgM; omega)) (by unfold RgM; omega))
          · skip
            rw [fin_v h]
            exact (Fm.put (Fm.put Fm.rf (by unfold RgM; omega)) (by unfold RgM; omega))
set_option maxRecDepth 100000 in
theorem fr_X8_step {p1 : Int32} {p2 : Int32} {σ : Mem} {res : Mem}  (h : f_X8_step p1 p2 σ = some res) : Fm RgM σ res := by
  unfold f_X8_step at h
  refine bnd_case h (fun j1 _ h => ?_)
  refine bnd_case h (fun j2 _ h => ?_)
  refine bnd_case h (fun s1 es1 h => ?_)
  cases es1
  rw [fin_v h]
  exact (Fm.put (Fm.put (Fm.put Fm.rf (by unfold RgM; omega)) (by unfold RgM; omega)) (by unfold RgM; omega))
set_option maxRecDepth 100000 in
theorem lf_X8_sheet_69 {p1 : Int32}   {r0 : Int32} {σ2 : Mem} {k : Mem → Option (Int32 × Mem)}  (hk : ∀ (σ1 : Mem), k  σ1 = some (r0, σ2) → Fm RgM σ1 σ2) : ∀ (n : Nat) (v4 : Int32) (σ : Mem), f_X8_sheet_69 p1 n v4 σ k = some (r0, σ2) → Fm RgM σ σ2 := by
  intro n
  induction n with
  | zero =>
    intro v4 σ h
    cases h
  | succ n ih =>
    intro v4 σ h
    rw [f_X8_sheet_69.eq_2] at h
    refine r_case h (fun _ h => ?_) (fun _ h => ?_)
    · skip
      exact Fm.trans Fm.rf (hk _ h)
    · skip
      refine bnd_case h (fun j1 _ h => ?_)
      exact Fm.trans (Fm.put Fm.rf (by unfold RgM; omega)) (ih _ _ h)
set_option maxRecDepth 100000 in
theorem fr_X8_sheet {p1 : Int32} {p2 : Int32} {p3 : Int32} {σ : Mem} {res : (Int32 × Mem)}  (h : f_X8_sheet p1 p2 p3 σ = some res) : Fm RgM σ res.2 := by
  obtain ⟨r0, σ2⟩ := res
  show Fm RgM σ σ2
  unfold f_X8_sheet at h
  refine bnd_case h (fun a1 ea1 h => ?_)
  refine r_case h (fun _ h => ?_) (fun _ h => ?_)
  · skip
    rw [fin_w h]
    exact Fm.rf
  · skip
    refine bnd_case h (fun a2 ea2 h => ?_)
    refine r_case h (fun _ h => ?_) (fun _ h => ?_)
    · skip
      rw [fin_w h]
      exact Fm.rf
    · skip
      refine r_case h (fun _ h => ?_) (fun _ h => ?_)
      · skip
        refine r_case h (fun _ h => ?_) (fun _ h => ?_)
        · skip
          refine bnd_case h (fun j1 _ h => ?_)
          refine r_case h (fun _ h => ?_) (fun _ h => ?_)
          · skip
            refine bnd_case h (fun j2 _ h => ?_)
            refine Fm.trans (Fm.put (Fm.put Fm.rf (by unfold RgM; omega)) (by unfold RgM; omega)) (lf_X8_sheet_69 (fun σ_1 h => ?_) _ _ _ h)
            refine bnd_case h (fun j3 _ h => ?_)
            rw [fin_w h]
            exact Fm.rf
          · skip
            refine bnd_case h (fun j4 _ h => ?_)
            refine Fm.trans (Fm.put (Fm.put Fm.rf (by unfold RgM; omega)) (by unfold RgM; omega)) (lf_X8_sheet_69 (fun σ_2 h => ?_) _ _ _ h)
            refine bnd_case h (fun j5 _ h => ?_)
            rw [fin_w h]
            exact Fm.rf
        · skip
          refine r_case h (fun _ h => ?_) (fun _ h => ?_)
          · skip
            refine bnd_case h (fun j6 _ h => ?_)
            refine r_case h (fun _ h => ?_) (fun _ h => ?_)
            · skip
              refine bnd_case h (fun j7 _ h => ?_)
              refine Fm.trans (Fm.put (Fm.put Fm.rf (by unfold RgM; omega)) (by unfold RgM; omega)) (lf_X8_sheet_69 (fun σ_3 h => ?_) _ _ _ h)
              refine bnd_case h (fun j8 _ h => ?_)
              rw [fin_w h]
              exact Fm.rf
            · skip
              refine bnd_case h (fun j9 _ h => ?_)
              refine Fm.trans (Fm.put (Fm.put Fm.rf (by unfold RgM; omega)) (by unfold RgM; omega)) (lf_X8_sheet_69 (fun σ_4 h => ?_) _ _ _ h)
              refine bnd_case h (fun j10 _ h => ?_)
              rw [fin_w h]
              exact Fm.rf
          · skip
            rw [fin_w h]
            exact Fm.rf
      · skip
        refine r_case h (fun _ h => ?_) (fun _ h => ?_)
        · skip
          refine r_case h (fun _ h => ?_) (fun _ h => ?_)
          · skip
            refine bnd_case h (fun j11 _ h => ?_)
            refine r_case h (fun _ h => ?_) (fun _ h => ?_)
            · skip
              refine bnd_case h (fun j12 _ h => ?_)
              refine Fm.trans (Fm.put (Fm.put Fm.rf (by unfold RgM; omega)) (by unfold RgM; omega)) (lf_X8_sheet_69 (fun σ_5 h => ?_) _ _ _ h)
              refine bnd_case h (fun j13 _ h => ?_)
              rw [fin_w h]
              exact Fm.rf
            · skip
              refine bnd_case h (fun j14 _ h => ?_)
              refine Fm.trans (Fm.put (Fm.put Fm.rf (by unfold RgM; omega)) (by unfold RgM; omega)) (lf_X8_sheet_69 (fun σ_6 h => ?_) _ _ _ h)
              refine bnd_case h (fun j15 _ h => ?_)
              rw [fin_w h]
              exact Fm.rf
          · skip
            refine r_case h (fun _ h => ?_) (fun _ h => ?_)
            · skip
              refine bnd_case h (fun j16 _ h => ?_)
              refine r_case h (fun _ h => ?_) (fun _ h => ?_)
              · skip
                refine bnd_case h (fun j17 _ h => ?_)
                refine Fm.trans (Fm.put (Fm.put Fm.rf (by unfold RgM; omega)) (by unfold RgM; omega)) (lf_X8_sheet_69 (fun σ_7 h => ?_) _ _ _ h)
                refine bnd_case h (fun j18 _ h => ?_)
                rw [fin_w h]
                exact Fm.rf
              · skip
                refine bnd_case h (fun j19 _ h => ?_)
                refine Fm.trans (Fm.put (Fm.put Fm.rf (by unfold RgM; omega)) (by unfold RgM; omega)) (lf_X8_sheet_69 (fun σ_8 h => ?_) _ _ _ h)
                refine bnd_case h (fun j20 _ h => ?_)
                rw [fin_w h]
                exact Fm.rf
            · skip
              rw [fin_w h]
              exact Fm.rf
        · skip
          rw [fin_w h]
          exact Fm.rf
set_option maxRecDepth 100000 in
theorem fr_X8_mark {p1 : Int32} {p2 : Int32} {p3 : Int32} {σ : Mem} {res : (Int32 × Mem)}  (h : f_X8_mark p1 p2 p3 σ = some res) : Fm RgM σ res.2 := by
  obtain ⟨r0, σ2⟩ := res
  show Fm RgM σ σ2
  unfold f_X8_mark at h
  refine bnd_case h (fun a1 ea1 h => ?_)
  refine r_esac h (fun _ h => ?_) (fun _ h => ?_)
  · skip
    refine bnd_case h (fun j1 _ h => ?_)
    refine r_case h (fun _ h => ?_) (fun _ h => ?_)
    · skip
      refine bnd_case h (fun j2 _ h => ?_)
      refine bnd_case h (fun a2 ea2 h => ?_)
      refine r_esac h (fun _ h => ?_) (fun _ h => ?_)
      · skip
        refine bnd_case h (fun j3 _ h => ?_)
        refine r_esac h (fun _ h => ?_) (fun _ h => ?_)
        · skip
          refine bnd_case h (fun j4 _ h => ?_)
          refine r_esac h (fun _ h => ?_) (fun _ h => ?_)
          · skip
            refine bnd_case h (fun j5 _ h => ?_)
            refine r_esac h (fun _ h => ?_) (fun _ h => ?_)
            · skip
              refine bnd_case h (fun j6 _ h => ?_)
              rw [fin_w h]
              exact (Fm.put Fm.rf (by unfold RgM; omega))
            · skip
              refine bnd_case h (fun j7 _ h => ?_)
              refine bnd_case h (fun s1 es1 h => ?_)
              cases es1
              rw [fin_w h]
              exact (Fm.put Fm.rf (by unfold RgM; omega))
          · skip
            refine r_case h (fun _ h => ?_) (fun _ h => ?_)
            · skip
              refine bnd_case h (fun j8 _ h => ?_)
              refine r_esac h (fun _ h => ?_) (fun _ h => ?_)
              · skip
                refine bnd_case h (fun j9 _ h => ?_)
                rw [fin_w h]
                exact (Fm.put Fm.rf (by unfold RgM; omega))
              · skip
                refine bnd_case h (fun j10 _ h => ?_)
                refine bnd_case h (fun s2 es2 h => ?_)
                cases es2
                rw [fin_w h]
                exact (Fm.put Fm.rf (by unfold RgM; omega))
            · skip
              refine bnd_case h (fun a3 ea3 h => ?_)
              refine r_esac h (fun _ h => ?_) (fun _ h => ?_)
              · skip
                refine bnd_case h (fun j11 _ h => ?_)
                refine r_esac h (fun _ h => ?_) (fun _ h => ?_)
                · skip
                  refine bnd_case h (fun j12 _ h => ?_)
                  rw [fin_w h]
                  exact (Fm.put Fm.rf (by unfold RgM; omega))
                · skip
                  refine bnd_case h (fun j13 _ h => ?_)
                  refine bnd_case h (fun s3 es3 h => ?_)
                  cases es3
                  rw [fin_w h]
                  exact (Fm.put Fm.rf (by unfold RgM; omega))
              · skip
                rw [fin_w h]
                exact Fm.rf
        · skip
          refine r_esac h (fun _ h => ?_) (fun _ h => ?_)
          · skip
            refine bnd_case h (fun j14 _ h => ?_)
            refine r_esac h (fun _ h => ?_) (fun _ h => ?_)
            · skip
              refine bnd_case h (fun j15 _ h => ?_)
              refine r_esac h (fun _ h => ?_) (fun _ h => ?_)
              · skip
                refine bnd_case h (fun j16 _ h => ?_)
                rw [fin_w h]
                exact (Fm.put Fm.rf (by unfold RgM; omega))
              · skip
                refine bnd_case h (fun j17 _ h => ?_)
                refine bnd_case h (fun s4 es4 h => ?_)
                cases es4
                rw [fin_w h]
                exact (Fm.put Fm.rf (by unfold RgM; omega))
            · skip
              refine r_case h (fun _ h => ?_) (fun _ h => ?_)
              · skip
                refine bnd_case h (fun j18 _ h => ?_)
                refine r_esac h (fun _ h => ?_) (fun _ h => ?_)
                · skip
                  refine bnd_case h (fun j19 _ h => ?_)
                  rw [fin_w h]
                  exact (Fm.put Fm.rf (by unfold RgM; omega))
                · skip
                  refine bnd_case h (fun j20 _ h => ?_)
                  refine bnd_case h (fun s5 es5 h => ?_)
                  cases es5
                  rw [fin_w h]
                  exact (Fm.put Fm.rf (by unfold RgM; omega))
              · skip
                refine bnd_case h (fun a4 ea4 h => ?_)
                refine r_esac h (fun _ h => ?_) (fun _ h => ?_)
                · skip
                  refine bnd_case h (fun j21 _ h => ?_)
                  refine r_esac h (fun _ h => ?_) (fun _ h => ?_)
                  · skip
                    refine bnd_case h (fun j22 _ h => ?_)
                    rw [fin_w h]
                    exact (Fm.put Fm.rf (by unfold RgM; omega))
                  · skip
                    refine bnd_case h (fun j23 _ h => ?_)
                    refine bnd_case h (fun s6 es6 h => ?_)
                    cases es6
                    rw [fin_w h]
                    exact (Fm.put Fm.rf (by unfold RgM; omega))
                · skip
                  rw [fin_w h]
                  exact Fm.rf
          · skip
            rw [fin_w h]
            exact Fm.rf
      · skip
        rw [fin_w h]
        exact Fm.rf
    · skip
      rw [fin_w h]
      exact Fm.rf
  · skip
    rw [fin_w h]
    exact Fm.rf
set_option maxRecDepth 100000 in
theorem lf_X8_pour_27 {p1 : Int32}   {r0 : Int32} {σ2 : Mem} {k : Int32 → Mem → Option (Int32 × Mem)}  (hk : ∀ (x2 : Int32) (σ1 : Mem), k x2 σ1 = some (r0, σ2) → Fm RgM σ1 σ2) : ∀ (n : Nat) (v2 : Int32) (v3 : Int32) (σ : Mem), f_X8_pour_27 p1 n v2 v3 σ k = some (r0, σ2) → Fm RgM σ σ2 := by
  intro n
  induction n with
  | zero =>
    intro v2 v3 σ h
    cases h
  | succ n ih =>
    intro v2 v3 σ h
    rw [f_X8_pour_27.eq_2] at h
    refine bnd_case h (fun j1 _ h => ?_)
    refine r_case h (fun _ h => ?_) (fun _ h => ?_)
    · skip
      exact Fm.trans Fm.rf (hk _ _ h)
    · skip
      refine bnd_case h (fun j2 _ h => ?_)
      refine r_case h (fun _ h => ?_) (fun _ h => ?_)
      · skip
        exact Fm.trans Fm.rf (hk _ _ h)
      · skip
        refine bnd_case h (fun j3 _ h => ?_)
        refine r_esac h (fun _ h => ?_) (fun _ h => ?_)
        · skip
          refine bnd_case h (fun a1 ea1 h => ?_)
          refine bnd_case h (fun a2 ea2 h => ?_)
          refine r_esac h (fun _ h => ?_) (fun _ h => ?_)
          · skip
            exact Fm.trans (Fm.trans Fm.rf (fr_X8_becomes ea2)) (ih _ _ _ h)
          · skip
            exact Fm.trans (Fm.trans Fm.rf (fr_X8_becomes ea2)) (ih _ _ _ h)
        · skip
          refine bnd_case h (fun j4 _ h => ?_)
          refine bnd_case h (fun a3 ea3 h => ?_)
          refine r_esac h (fun _ h => ?_) (fun _ h => ?_)
          · skip
            exact Fm.trans (Fm.trans Fm.rf (fr_X8_becomes ea3)) (ih _ _ _ h)
          · skip
            exact Fm.trans (Fm.trans Fm.rf (fr_X8_becomes ea3)) (ih _ _ _ h)
set_option maxRecDepth 100000 in
theorem fr_X8_pour {p1 : Int32} {σ : Mem} {res : (Int32 × Mem)}  (h : f_X8_pour p1 σ = some res) : Fm RgM σ res.2 := by
  obtain ⟨r0, σ2⟩ := res
  show Fm RgM σ σ2
  unfold f_X8_pour at h
  refine bnd_case h (fun a1 ea1 h => ?_)
  refine r_esac h (fun _ h => ?_) (fun _ h => ?_)
  · skip
    refine bnd_case h (fun j1 _ h => ?_)
    refine r_case h (fun _ h => ?_) (fun _ h => ?_)
    · skip
      refine Fm.trans Fm.rf (lf_X8_pour_27 (fun e1 σ_1 h => ?_) _ _ _ _ h)
      rw [fin_w h]
      exact Fm.rf
    · skip
      rw [fin_w h]
      exact Fm.rf
  · skip
    rw [fin_w h]
    exact Fm.rf
set_option maxRecDepth 100000 in
theorem lf_X8_clock_75 {p1 : Int32} {p2 : Int32} {p3 : Int32} {p4 : Int32} {p5 : Int32} {p6 : Int32}   {r0 : Int32} {σ2 : Mem} {k : Int32 → Mem → Option (Int32 × Mem)}  (hk : ∀ (x7 : Int32) (σ1 : Mem), k x7 σ1 = some (r0, σ2) → Fm RgM σ1 σ2) : ∀ (n : Nat) (v7 : Int32) (v8 : Int32) (σ : Mem), f_X8_clock_75 p1 p2 p3 p4 p5 p6 n v7 v8 σ k = some (r0, σ2) → Fm RgM σ σ2 := by
  intro n
  induction n with
  | zero =>
    intro v7 v8 σ h
    cases h
  | succ n ih =>
    intro v7 v8 σ h
    rw [f_X8_clock_75.eq_2] at h
    refine bnd_case h (fun j1 _ h => ?_)
    refine r_case h (fun _ h => ?_) (fun _ h => ?_)
    · skip
      exact Fm.trans Fm.rf (hk _ _ h)
    · skip
      refine bnd_case h (fun j2 _ h => ?_)
      refine r_esac h (fun _ h => ?_) (fun _ h => ?_)
      · skip
        refine bnd_case h (fun a1 ea1 h => ?_)
        refine bnd_case h (fun a2 ea2 h => ?_)
        refine bnd_case h (fun a3 ea3 h => ?_)
        exact Fm.trans (Fm.trans Fm.rf (fr_X8_goesOn ea3)) (ih _ _ _ h)
      · skip
        refine bnd_case h (fun a4 ea4 h => ?_)
        exact Fm.trans (Fm.trans Fm.rf (fr_X8_goesOn ea4)) (ih _ _ _ h)
set_option maxRecDepth 100000 in
theorem lf_X8_clock_54 {p1 : Int32} {p2 : Int32} {p3 : Int32}   {r0 : Int32} {σ2 : Mem} {k : Int32 → Int32 → Mem → Option (Int32 × Mem)}  (hk : ∀ (x4 : Int32) (x5 : Int32) (σ1 : Mem), k x4 x5 σ1 = some (r0, σ2) → Fm RgM σ1 σ2) : ∀ (n : Nat) (v4 : Int32) (v5 : Int32) (v6 : Int32) (σ : Mem), f_X8_clock_54 p1 p2 p3 n v4 v5 v6 σ k = some (r0, σ2) → Fm RgM σ σ2 := by
  intro n
  induction n with
  | zero =>
    intro v4 v5 v6 σ h
    cases h
  | succ n ih =>
    intro v4 v5 v6 σ h
    rw [f_X8_clock_54.eq_2] at h
    refine r_case h (fun _ h => ?_) (fun _ h => ?_)
    · skip
      exact Fm.trans Fm.rf (hk _ _ _ h)
    · skip
      refine bnd_case h (fun a1 ea1 h => ?_)
      refine Fm.trans (Fm.trans Fm.rf (fr_X8_sets ea1)) (lf_X8_clock_75 (fun e1 σ_1 h => ?_) _ _ _ _ h)
      refine bnd_case h (fun a2 ea2 h => ?_)
      refine r_case h (fun _ h => ?_) (fun _ h => ?_)
      · skip
        exact Fm.trans (Fm.trans Fm.rf (fr_X8_laysBack ea2)) (ih _ _ _ _ h)
      · skip
        refine r_case h (fun _ h => ?_) (fun _ h => ?_)
        · skip
          exact Fm.trans (Fm.trans Fm.rf (fr_X8_laysBack ea2)) (ih _ _ _ _ h)
        · skip
          exact Fm.trans (Fm.trans Fm.rf (fr_X8_laysBack ea2)) (ih _ _ _ _ h)
set_option maxRecDepth 100000 in
theorem fr_X8_clock {p1 : Int32} {p2 : Int32} {p3 : Int32} {σ : Mem} {res : (Int32 × Mem)}  (h : f_X8_clock p1 p2 p3 σ = some res) : Fm RgM σ res.2 := by
  obtain ⟨r0, σ2⟩ := res
  show Fm RgM σ σ2
  unfold f_X8_clock at h
  refine bnd_case h (fun a1 ea1 h => ?_)
  refine r_case h (fun _ h => ?_) (fun _ h => ?_)
  · skip
    rw [fin_w h]
    exact Fm.rf
  · skip
    refine bnd_case h (fun a2 ea2 h => ?_)
    refine r_case h (fun _ h => ?_) (fun _ h => ?_)
    · skip
      rw [fin_w h]
      exact Fm.rf
    · skip
      refine bnd_case h (fun a3 ea3 h => ?_)
      refine r_esac h (fun _ h => ?_) (fun _ h => ?_)
      · skip
        refine bnd_case h (fun j1 _ h => ?_)
        refine r_case h (fun _ h => ?_) (fun _ h => ?_)
        · skip
          refine bnd_case h (fun a4 ea4 h => ?_)
          refine Fm.trans (Fm.trans Fm.rf (fr_X8_laysBy ea4)) (lf_X8_clock_54 (fun e1 e2 σ_1 h => ?_) _ _ _ _ _ h)
          refine r_esac h (fun _ h => ?_) (fun _ h => ?_)
          · skip
            rw [fin_w h]
            exact Fm.rf
          · skip
            rw [fin_w h]
            exact Fm.rf
        · skip
          rw [fin_w h]
          exact Fm.rf
      · skip
        rw [fin_w h]
        exact Fm.rf
set_option maxRecDepth 100000 in
theorem lf_X8_copy_113 {p1 : Int32} {p2 : Int32} {p3 : Int32} {p4 : Int32} {p5 : Int32}   {r0 : Int32} {σ2 : Mem} {k : Mem → Option (Int32 × Mem)}  (hk : ∀ (σ1 : Mem), k  σ1 = some (r0, σ2) → Fm RgM σ1 σ2) : ∀ (n : Nat) (v6 : Int32) (σ : Mem), f_X8_copy_113 p1 p2 p3 p4 p5 n v6 σ k = some (r0, σ2) → Fm RgM σ σ2 := by
  intro n
  induction n with
  | zero =>
    intro v6 σ h
    cases h
  | succ n ih =>
    intro v6 σ h
    rw [f_X8_copy_113.eq_2] at h
    refine r_case h (fun _ h => ?_) (fun _ h => ?_)
    · skip
      exact Fm.trans Fm.rf (hk _ h)
    · skip
      refine bnd_case h (fun j1 _ h => ?_)
      refine bnd_case h (fun j2 _ h => ?_)
      exact Fm.trans (Fm.put Fm.rf (by unfold RgM; omega)) (ih _ _ h)
set_option maxRecDepth 100000 in
theorem lf_X8_copy_150 {p3 : Int32} {p4 : Int32} {p5 : Int32}   {r0 : Int32} {σ2 : Mem} {k : Mem → Option (Int32 × Mem)}  (hk : ∀ (σ1 : Mem), k  σ1 = some (r0, σ2) → Fm RgM σ1 σ2) : ∀ (n : Nat) (v6 : Int32) (σ : Mem), f_X8_copy_150 p3 p4 p5 n v6 σ k = some (r0, σ2) → Fm RgM σ σ2 := by
  intro n
  induction n with
  | zero =>
    intro v6 σ h
    cases h
  | succ n ih =>
    intro v6 σ h
    rw [f_X8_copy_150.eq_2] at h
    refine r_case h (fun _ h => ?_) (fun _ h => ?_)
    · skip
      exact Fm.trans Fm.rf (hk _ h)
    · skip
      refine bnd_case h (fun j1 _ h => ?_)
      refine bnd_case h (fun j2 _ h => ?_)
      exact Fm.trans (Fm.put Fm.rf (by unfold RgM; omega)) (ih _ _ h)
set_option maxRecDepth 100000 in
theorem fr_X8_copy {p1 : Int32} {p2 : Int32} {p3 : Int32} {p4 : Int32} {p5 : Int32} {σ : Mem} {res : (Int32 × Mem)}  (h : f_X8_copy p1 p2 p3 p4 p5 σ = some res) : Fm RgM σ res.2 := by
  obtain ⟨r0, σ2⟩ := res
  show Fm RgM σ σ2
  unfold f_X8_copy at h
  refine bnd_case h (fun a1 ea1 h => ?_)
  refine r_case h (fun _ h => ?_) (fun _ h => ?_)
  · skip
    rw [fin_w h]
    exact Fm.rf
  · skip
    refine bnd_case h (fun a2 ea2 h => ?_)
    refine r_esac h (fun _ h => ?_) (fun _ h => ?_)
    · skip
      refine bnd_case h (fun j1 _ h => ?_)
      refine r_case h (fun _ h => ?_) (fun _ h => ?_)
      · skip
        rw [fin_w h]
        exact Fm.rf
      · skip
        refine bnd_case h (fun j2 _ h => ?_)
        refine r_case h (fun _ h => ?_) (fun _ h => ?_)
        · skip
          refine bnd_case h (fun j3 _ h => ?_)
          refine bnd_case h (fun j4 _ h => ?_)
          refine r_case h (fun _ h => ?_) (fun _ h => ?_)
          · skip
            refine r_case h (fun _ h => ?_) (fun _ h => ?_)
            · skip
              rw [fin_w h]
              exact Fm.rf
            · skip
              refine r_case h (fun _ h => ?_) (fun _ h => ?_)
              · skip
                rw [fin_w h]
                exact Fm.rf
              · skip
                refine r_case h (fun _ h => ?_) (fun _ h => ?_)
                · skip
                  rw [fin_w h]
                  exact Fm.rf
                · skip
                  refine bnd_case h (fun j5 _ h => ?_)
                  refine r_case h (fun _ h => ?_) (fun _ h => ?_)
                  · skip
                    rw [fin_w h]
                    exact Fm.rf
                  · skip
                    refine bnd_case h (fun j6 _ h => ?_)
                    refine r_case h (fun _ h => ?_) (fun _ h => ?_)
                    · skip
                      refine Fm.trans Fm.rf (lf_X8_copy_113 (fun σ_1 h => ?_) _ _ _ h)
                      refine Fm.trans Fm.rf (lf_X8_copy_150 (fun σ_2 h => ?_) _ _ _ h)
                      rw [fin_w h]
                      exact Fm.rf
                    · skip
                      rw [fin_w h]
                      exact Fm.rf
          · skip
            rw [fin_w h]
            exact Fm.rf
        · skip
          rw [fin_w h]
          exact Fm.rf
    · skip
      rw [fin_w h]
      exact Fm.rf
set_option maxRecDepth 100000 in
theorem lf_X8_lay_150 {p1 : Int32} {p3 : Int32} {p5 : Int32}   {r0 : Int32} {σ2 : Mem} {k : Mem → Option (Int32 × Mem)}  (hk : ∀ (σ1 : Mem), k  σ1 = some (r0, σ2) → Fm RgM σ1 σ2) : ∀ (n : Nat) (v6 : Int32) (σ : Mem), f_X8_lay_150 p1 p3 p5 n v6 σ k = some (r0, σ2) → Fm RgM σ σ2 := by
  intro n
  induction n with
  | zero =>
    intro v6 σ h
    cases h
  | succ n ih =>
    intro v6 σ h
    rw [f_X8_lay_150.eq_2] at h
    refine r_case h (fun _ h => ?_) (fun _ h => ?_)
    · skip
      exact Fm.trans Fm.rf (hk _ h)
    · skip
      refine bnd_case h (fun j1 _ h => ?_)
      refine bnd_case h (fun j2 _ h => ?_)
      exact Fm.trans (Fm.put Fm.rf (by unfold RgM; omega)) (ih _ _ h)
set_option maxRecDepth 100000 in
theorem fr_X8_lay {p1 : Int32} {p2 : Int32} {p3 : Int32} {σ : Mem} {res : (Int32 × Mem)}  (h : f_X8_lay p1 p2 p3 σ = some res) : Fm RgM σ res.2 := by
  obtain ⟨r0, σ2⟩ := res
  show Fm RgM σ σ2
  unfold f_X8_lay at h
  refine r_case h (fun _ h => ?_) (fun _ h => ?_)
  · skip
    refine bnd_case h (fun a1 ea1 h => ?_)
    refine r_case h (fun _ h => ?_) (fun _ h => ?_)
    · skip
      rw [fin_w h]
      exact Fm.rf
    · skip
      refine r_esac h (fun _ h => ?_) (fun _ h => ?_)
      · skip
        refine bnd_case h (fun j1 _ h => ?_)
        refine bnd_case h (fun j2 _ h => ?_)
        refine r_esac h (fun _ h => ?_) (fun _ h => ?_)
        · skip
          refine bnd_case h (fun j3 _ h => ?_)
          refine r_esac h (fun _ h => ?_) (fun _ h => ?_)
          · skip
            refine bnd_case h (fun j4 _ h => ?_)
            refine r_esac h (fun _ h => ?_) (fun _ h => ?_)
            · skip
              rw [fin_w h]
              exact (Fm.put (Fm.put (Fm.put Fm.rf (by unfold RgM; omega)) (by unfold RgM; omega)) (by unfold RgM; omega))
            · skip
              refine bnd_case h (fun j5 _ h => ?_)
              refine bnd_case h (fun j6 _ h => ?_)
              refine bnd_case h (fun s1 es1 h => ?_)
              cases es1
              refine Fm.trans (Fm.put (Fm.put (Fm.put (Fm.put Fm.rf (by unfold RgM; omega)) (by unfold RgM; omega)) (by unfold RgM; omega)) (by unfold RgM; omega)) (lf_X8_lay_150 (fun σ_1 h => ?_) _ _ _ h)
              rw [fin_w h]
              exact Fm.rf
          · skip
            refine bnd_case h (fun a2 ea2 h => ?_)
            refine bnd_case h (fun j7 _ h => ?_)
            refine r_esac h (fun _ h => ?_) (fun _ h => ?_)
            · skip
              rw [fin_w h]
              exact (Fm.put (Fm.put (Fm.put Fm.rf (by unfold RgM; omega)) (by unfold RgM; omega)) (by unfold RgM; omega))
            · skip
              refine bnd_case h (fun j8 _ h => ?_)
              refine bnd_case h (fun j9 _ h => ?_)
              refine bnd_case h (fun s2 es2 h => ?_)
              cases es2
              refine Fm.trans (Fm.put (Fm.put (Fm.put (Fm.put Fm.rf (by unfold RgM; omega)) (by unfold RgM; omega)) (by unfold RgM; omega)) (by unfold RgM; omega)) (lf_X8_lay_150 (fun σ_2 h => ?_) _ _ _ h)
              rw [fin_w h]
              exact Fm.rf
        · skip
          refine bnd_case h (fun a3 ea3 h => ?_)
          refine bnd_case h (fun j10 _ h => ?_)
          refine r_esac h (fun _ h => ?_) (fun _ h => ?_)
          · skip
            refine bnd_case h (fun j11 _ h => ?_)
            refine r_esac h (fun _ h => ?_) (fun _ h => ?_)
            · skip
              rw [fin_w h]
              exact (Fm.put (Fm.put (Fm.put Fm.rf (by unfold RgM; omega)) (by unfold RgM; omega)) (by unfold RgM; omega))
            · skip
              refine bnd_case h (fun j12 _ h => ?_)
              refine bnd_case h (fun j13 _ h => ?_)
              refine bnd_case h (fun s3 es3 h => ?_)
              cases es3
              refine Fm.trans (Fm.put (Fm.put (Fm.put (Fm.put Fm.rf (by unfold RgM; omega)) (by unfold RgM; omega)) (by unfold RgM; omega)) (by unfold RgM; omega)) (lf_X8_lay_150 (fun σ_3 h => ?_) _ _ _ h)
              rw [fin_w h]
              exact Fm.rf
          · skip
            refine bnd_case h (fun a4 ea4 h => ?_)
            refine bnd_case h (fun j14 _ h => ?_)
            refine r_esac h (fun _ h => ?_) (fun _ h => ?_)
            · skip
              rw [fin_w h]
              exact (Fm.put (Fm.put (Fm.put Fm.rf (by unfold RgM; omega)) (by unfold RgM; omega)) (by unfold RgM; omega))
            · skip
              refine bnd_case h (fun j15 _ h => ?_)
              refine bnd_case h (fun j16 _ h => ?_)
              refine bnd_case h (fun s4 es4 h => ?_)
              cases es4
              refine Fm.trans (Fm.put (Fm.put (Fm.put (Fm.put Fm.rf (by unfold RgM; omega)) (by unfold RgM; omega)) (by unfold RgM; omega)) (by unfold RgM; omega)) (lf_X8_lay_150 (fun σ_4 h => ?_) _ _ _ h)
              rw [fin_w h]
              exact Fm.rf
      · skip
        refine bnd_case h (fun j17 _ h => ?_)
        refine r_case h (fun _ h => ?_) (fun _ h => ?_)
        · skip
          refine bnd_case h (fun j18 _ h => ?_)
          refine bnd_case h (fun j19 _ h => ?_)
          refine r_esac h (fun _ h => ?_) (fun _ h => ?_)
          · skip
            refine bnd_case h (fun j20 _ h => ?_)
            refine r_esac h (fun _ h => ?_) (fun _ h => ?_)
            · skip
              refine bnd_case h (fun j21 _ h => ?_)
              refine r_esac h (fun _ h => ?_) (fun _ h => ?_)
              · skip
                rw [fin_w h]
                exact (Fm.put (Fm.put (Fm.put Fm.rf (by unfold RgM; omega)) (by unfold RgM; omega)) (by unfold RgM; omega))
              · skip
                refine bnd_case h (fun j22 _ h => ?_)
                refine bnd_case h (fun j23 _ h => ?_)
                refine bnd_case h (fun s5 es5 h => ?_)
                cases es5
                refine Fm.trans (Fm.put (Fm.put (Fm.put (Fm.put Fm.rf (by unfold RgM; omega)) (by unfold RgM; omega)) (by unfold RgM; omega)) (by unfold RgM; omega)) (lf_X8_lay_150 (fun σ_5 h => ?_) _ _ _ h)
                rw [fin_w h]
                exact Fm.rf
            · skip
              refine bnd_case h (fun a5 ea5 h => ?_)
              refine bnd_case h (fun j24 _ h => ?_)
              refine r_esac h (fun _ h => ?_) (fun _ h => ?_)
              · skip
                rw [fin_w h]
                exact (Fm.put (Fm.put (Fm.put Fm.rf (by unfold RgM; omega)) (by unfold RgM; omega)) (by unfold RgM; omega))
              · skip
                refine bnd_case h (fun j25 _ h => ?_)
                refine bnd_case h (fun j26 _ h => ?_)
                refine bnd_case h (fun s6 es6 h => ?_)
                cases es6
                refine Fm.trans (Fm.put (Fm.put (Fm.put (Fm.put Fm.rf (by unfold RgM; omega)) (by unfold RgM; omega)) (by unfold RgM; omega)) (by unfold RgM; omega)) (lf_X8_lay_150 (fun σ_6 h => ?_) _ _ _ h)
                rw [fin_w h]
                exact Fm.rf
          · skip
            refine bnd_case h (fun a6 ea6 h => ?_)
            refine bnd_case h (fun j27 _ h => ?_)
            refine r_esac h (fun _ h => ?_) (fun _ h => ?_)
            · skip
              refine bnd_case h (fun j28 _ h => ?_)
              refine r_esac h (fun _ h => ?_) (fun _ h => ?_)
              · skip
                rw [fin_w h]
                exact (Fm.put (Fm.put (Fm.put Fm.rf (by unfold RgM; omega)) (by unfold RgM; omega)) (by unfold RgM; omega))
              · skip
                refine bnd_case h (fun j29 _ h => ?_)
                refine bnd_case h (fun j30 _ h => ?_)
                refine bnd_case h (fun s7 es7 h => ?_)
                cases es7
                refine Fm.trans (Fm.put (Fm.put (Fm.put (Fm.put Fm.rf (by unfold RgM; omega)) (by unfold RgM; omega)) (by unfold RgM; omega)) (by unfold RgM; omega)) (lf_X8_lay_150 (fun σ_7 h => ?_) _ _ _ h)
                rw [fin_w h]
                exact Fm.rf
            · skip
              refine bnd_case h (fun a7 ea7 h => ?_)
              refine bnd_case h (fun j31 _ h => ?_)
              refine r_esac h (fun _ h => ?_) (fun _ h => ?_)
              · skip
                rw [fin_w h]
                exact (Fm.put (Fm.put (Fm.put Fm.rf (by unfold RgM; omega)) (by unfold RgM; omega)) (by unfold RgM; omega))
              · skip
                refine bnd_case h (fun j32 _ h => ?_)
                refine bnd_case h (fun j33 _ h => ?_)
                refine bnd_case h (fun s8 es8 h => ?_)
                cases es8
                refine Fm.trans (Fm.put (Fm.put (Fm.put (Fm.put Fm.rf (by unfold RgM; omega)) (by unfold RgM; omega)) (by unfold RgM; omega)) (by unfold RgM; omega)) (lf_X8_lay_150 (fun σ_8 h => ?_) _ _ _ h)
                rw [fin_w h]
                exact Fm.rf
        · skip
          rw [fin_w h]
          exact Fm.rf
  · skip
    refine r_case h (fun _ h => ?_) (fun _ h => ?_)
    · skip
      refine bnd_case h (fun a8 ea8 h => ?_)
      refine r_case h (fun _ h => ?_) (fun _ h => ?_)
      · skip
        rw [fin_w h]
        exact Fm.rf
      · skip
        refine r_esac h (fun _ h => ?_) (fun _ h => ?_)
        · skip
          refine bnd_case h (fun j34 _ h => ?_)
          refine bnd_case h (fun j35 _ h => ?_)
          refine r_esac h (fun _ h => ?_) (fun _ h => ?_)
          · skip
            refine bnd_case h (fun j36 _ h => ?_)
            refine r_esac h (fun _ h => ?_) (fun _ h => ?_)
            · skip
              refine bnd_case h (fun j37 _ h => ?_)
              refine r_esac h (fun _ h => ?_) (fun _ h => ?_)
              · skip
                rw [fin_w h]
                exact (Fm.put (Fm.put (Fm.put Fm.rf (by unfold RgM; omega)) (by unfold RgM; omega)) (by unfold RgM; omega))
              · skip
                refine bnd_case h (fun j38 _ h => ?_)
                refine bnd_case h (fun j39 _ h => ?_)
                refine bnd_case h (fun s9 es9 h => ?_)
                cases es9
                refine Fm.trans (Fm.put (Fm.put (Fm.put (Fm.put Fm.rf (by unfold RgM; omega)) (by unfold RgM; omega)) (by unfold RgM; omega)) (by unfold RgM; omega)) (lf_X8_lay_150 (fun σ_9 h => ?_) _ _ _ h)
                rw [fin_w h]
                exact Fm.rf
            · skip
              refine bnd_case h (fun a9 ea9 h => ?_)
              refine bnd_case h (fun j40 _ h => ?_)
              refine r_esac h (fun _ h => ?_) (fun _ h => ?_)
              · skip
                rw [fin_w h]
                exact (Fm.put (Fm.put (Fm.put Fm.rf (by unfold RgM; omega)) (by unfold RgM; omega)) (by unfold RgM; omega))
              · skip
                refine bnd_case h (fun j41 _ h => ?_)
                refine bnd_case h (fun j42 _ h => ?_)
                refine bnd_case h (fun s10 es10 h => ?_)
                cases es10
                refine Fm.trans (Fm.put (Fm.put (Fm.put (Fm.put Fm.rf (by unfold RgM; omega)) (by unfold RgM; omega)) (by unfold RgM; omega)) (by unfold RgM; omega)) (lf_X8_lay_150 (fun σ_10 h => ?_) _ _ _ h)
                rw [fin_w h]
                exact Fm.rf
          · skip
            refine bnd_case h (fun a10 ea10 h => ?_)
            refine bnd_case h (fun j43 _ h => ?_)
            refine r_esac h (fun _ h => ?_) (fun _ h => ?_)
            · skip
              refine bnd_case h (fun j44 _ h => ?_)
              refine r_esac h (fun _ h => ?_) (fun _ h => ?_)
              · skip
                rw [fin_w h]
                exact (Fm.put (Fm.put (Fm.put Fm.rf (by unfold RgM; omega)) (by unfold RgM; omega)) (by unfold RgM; omega))
              · skip
                refine bnd_case h (fun j45 _ h => ?_)
                refine bnd_case h (fun j46 _ h => ?_)
                refine bnd_case h (fun s11 es11 h => ?_)
                cases es11
                refine Fm.trans (Fm.put (Fm.put (Fm.put (Fm.put Fm.rf (by unfold RgM; omega)) (by unfold RgM; omega)) (by unfold RgM; omega)) (by unfold RgM; omega)) (lf_X8_lay_150 (fun σ_11 h => ?_) _ _ _ h)
                rw [fin_w h]
                exact Fm.rf
            · skip
              refine bnd_case h (fun a11 ea11 h => ?_)
              refine bnd_case h (fun j47 _ h => ?_)
              refine r_esac h (fun _ h => ?_) (fun _ h => ?_)
              · skip
                rw [fin_w h]
                exact (Fm.put (Fm.put (Fm.put Fm.rf (by unfold RgM; omega)) (by unfold RgM; omega)) (by unfold RgM; omega))
              · skip
                refine bnd_case h (fun j48 _ h => ?_)
                refine bnd_case h (fun j49 _ h => ?_)
                refine bnd_case h (fun s12 es12 h => ?_)
                cases es12
                refine Fm.trans (Fm.put (Fm.put (Fm.put (Fm.put Fm.rf (by unfold RgM; omega)) (by unfold RgM; omega)) (by unfold RgM; omega)) (by unfold RgM; omega)) (lf_X8_lay_150 (fun σ_12 h => ?_) _ _ _ h)
                rw [fin_w h]
                exact Fm.rf
        · skip
          refine bnd_case h (fun j50 _ h => ?_)
          refine r_case h (fun _ h => ?_) (fun _ h => ?_)
          · skip
            refine bnd_case h (fun j51 _ h => ?_)
            refine bnd_case h (fun j52 _ h => ?_)
            refine r_esac h (fun _ h => ?_) (fun _ h => ?_)
            · skip
              refine bnd_case h (fun j53 _ h => ?_)
              refine r_esac h (fun _ h => ?_) (fun _ h => ?_)
              · skip
                refine bnd_case h (fun j54 _ h => ?_)
                refine r_esac h (fun _ h => ?_) (fun _ h => ?_)
                · skip
                  rw [fin_w h]
                  exact (Fm.put (Fm.put (Fm.put Fm.rf (by unfold RgM; omega)) (by unfold RgM; omega)) (by unfold RgM; omega))
                · skip
                  refine bnd_case h (fun j55 _ h => ?_)
                  refine bnd_case h (fun j56 _ h => ?_)
                  refine bnd_case h (fun s13 es13 h => ?_)
                  cases es13
                  refine Fm.trans (Fm.put (Fm.put (Fm.put (Fm.put Fm.rf (by unfold RgM; omega)) (by unfold RgM; omega)) (by unfold RgM; omega)) (by unfold RgM; omega)) (lf_X8_lay_150 (fun σ_13 h => ?_) _ _ _ h)
                  rw [fin_w h]
                  exact Fm.rf
              · skip
                refine bnd_case h (fun a12 ea12 h => ?_)
                refine bnd_case h (fun j57 _ h => ?_)
                refine r_esac h (fun _ h => ?_) (fun _ h => ?_)
                · skip
                  rw [fin_w h]
                  exact (Fm.put (Fm.put (Fm.put Fm.rf (by unfold RgM; omega)) (by unfold RgM; omega)) (by unfold RgM; omega))
                · skip
                  refine bnd_case h (fun j58 _ h => ?_)
                  refine bnd_case h (fun j59 _ h => ?_)
                  refine bnd_case h (fun s14 es14 h => ?_)
                  cases es14
                  refine Fm.trans (Fm.put (Fm.put (Fm.put (Fm.put Fm.rf (by unfold RgM; omega)) (by unfold RgM; omega)) (by unfold RgM; omega)) (by unfold RgM; omega)) (lf_X8_lay_150 (fun σ_14 h => ?_) _ _ _ h)
                  rw [fin_w h]
                  exact Fm.rf
            · skip
              refine bnd_case h (fun a13 ea13 h => ?_)
              refine bnd_case h (fun j60 _ h => ?_)
              refine r_esac h (fun _ h => ?_) (fun _ h => ?_)
              · skip
                refine bnd_case h (fun j61 _ h => ?_)
                refine r_esac h (fun _ h => ?_) (fun _ h => ?_)
                · skip
                  rw [fin_w h]
                  exact (Fm.put (Fm.put (Fm.put Fm.rf (by unfold RgM; omega)) (by unfold RgM; omega)) (by unfold RgM; omega))
                · skip
                  refine bnd_case h (fun j62 _ h => ?_)
                  refine bnd_case h (fun j63 _ h => ?_)
                  refine bnd_case h (fun s15 es15 h => ?_)
                  cases es15
                  refine Fm.trans (Fm.put (Fm.put (Fm.put (Fm.put Fm.rf (by unfold RgM; omega)) (by unfold RgM; omega)) (by unfold RgM; omega)) (by unfold RgM; omega)) (lf_X8_lay_150 (fun σ_15 h => ?_) _ _ _ h)
                  rw [fin_w h]
                  exact Fm.rf
              · skip
                refine bnd_case h (fun a14 ea14 h => ?_)
                refine bnd_case h (fun j64 _ h => ?_)
                refine r_esac h (fun _ h => ?_) (fun _ h => ?_)
                · skip
                  rw [fin_w h]
                  exact (Fm.put (Fm.put (Fm.put Fm.rf (by unfold RgM; omega)) (by unfold RgM; omega)) (by unfold RgM; omega))
                · skip
                  refine bnd_case h (fun j65 _ h => ?_)
                  refine bnd_case h (fun j66 _ h => ?_)
                  refine bnd_case h (fun s16 es16 h => ?_)
                  cases es16
                  refine Fm.trans (Fm.put (Fm.put (Fm.put (Fm.put Fm.rf (by unfold RgM; omega)) (by unfold RgM; omega)) (by unfold RgM; omega)) (by unfold RgM; omega)) (lf_X8_lay_150 (fun σ_16 h => ?_) _ _ _ h)
                  rw [fin_w h]
                  exact Fm.rf
          · skip
            rw [fin_w h]
            exact Fm.rf
    · skip
      refine r_esac h (fun _ h => ?_) (fun _ h => ?_)
      · skip
        refine r_esac h (fun _ h => ?_) (fun _ h => ?_)
        · skip
          refine bnd_case h (fun a15 ea15 h => ?_)
          refine r_case h (fun _ h => ?_) (fun _ h => ?_)
          · skip
            rw [fin_w h]
            exact Fm.rf
          · skip
            rw [fin_w h]
            exact Fm.rf
        · skip
          refine bnd_case h (fun a16 ea16 h => ?_)
          refine r_case h (fun _ h => ?_) (fun _ h => ?_)
          · skip
            refine bnd_case h (fun a17 ea17 h => ?_)
            refine r_case h (fun _ h => ?_) (fun _ h => ?_)
            · skip
              rw [fin_w h]
              exact Fm.rf
            · skip
              rw [fin_w h]
              exact Fm.rf
          · skip
            refine bnd_case h (fun a18 ea18 h => ?_)
            refine r_case h (fun _ h => ?_) (fun _ h => ?_)
            · skip
              rw [fin_w h]
              exact Fm.rf
            · skip
              refine r_esac h (fun _ h => ?_) (fun _ h => ?_)
              · skip
                refine bnd_case h (fun j67 _ h => ?_)
                refine bnd_case h (fun j68 _ h => ?_)
                refine r_esac h (fun _ h => ?_) (fun _ h => ?_)
                · skip
                  refine bnd_case h (fun j69 _ h => ?_)
                  refine r_esac h (fun _ h => ?_) (fun _ h => ?_)
                  · skip
                    refine bnd_case h (fun j70 _ h => ?_)
                    refine r_esac h (fun _ h => ?_) (fun _ h => ?_)
                    · skip
                      rw [fin_w h]
                      exact (Fm.put (Fm.put (Fm.put Fm.rf (by unfold RgM; omega)) (by unfold RgM; omega)) (by unfold RgM; omega))
                    · skip
                      refine bnd_case h (fun j71 _ h => ?_)
                      refine bnd_case h (fun j72 _ h => ?_)
                      refine bnd_case h (fun s17 es17 h => ?_)
                      cases es17
                      refine Fm.trans (Fm.put (Fm.put (Fm.put (Fm.put Fm.rf (by unfold RgM; omega)) (by unfold RgM; omega)) (by unfold RgM; omega)) (by unfold RgM; omega)) (lf_X8_lay_150 (fun σ_17 h => ?_) _ _ _ h)
                      rw [fin_w h]
                      exact Fm.rf
                  · skip
                    refine bnd_case h (fun a19 ea19 h => ?_)
                    refine bnd_case h (fun j73 _ h => ?_)
                    refine r_esac h (fun _ h => ?_) (fun _ h => ?_)
                    · skip
                      rw [fin_w h]
                      exact (Fm.put (Fm.put (Fm.put Fm.rf (by unfold RgM; omega)) (by unfold RgM; omega)) (by unfold RgM; omega))
                    · skip
                      refine bnd_case h (fun j74 _ h => ?_)
                      refine bnd_case h (fun j75 _ h => ?_)
                      refine bnd_case h (fun s18 es18 h => ?_)
                      cases es18
                      refine Fm.trans (Fm.put (Fm.put (Fm.put (Fm.put Fm.rf (by unfold RgM; omega)) (by unfold RgM; omega)) (by unfold RgM; omega)) (by unfold RgM; omega)) (lf_X8_lay_150 (fun σ_18 h => ?_) _ _ _ h)
                      rw [fin_w h]
                      exact Fm.rf
                · skip
                  refine bnd_case h (fun a20 ea20 h => ?_)
                  refine bnd_case h (fun j76 _ h => ?_)
                  refine r_esac h (fun _ h => ?_) (fun _ h => ?_)
                  · skip
                    refine bnd_case h (fun j77 _ h => ?_)
                    refine r_esac h (fun _ h => ?_) (fun _ h => ?_)
                    · skip
                      rw [fin_w h]
                      exact (Fm.put (Fm.put (Fm.put Fm.rf (by unfold RgM; omega)) (by unfold RgM; omega)) (by unfold RgM; omega))
                    · skip
                      refine bnd_case h (fun j78 _ h => ?_)
                      refine bnd_case h (fun j79 _ h => ?_)
                      refine bnd_case h (fun s19 es19 h => ?_)
                      cases es19
                      refine Fm.trans (Fm.put (Fm.put (Fm.put (Fm.put Fm.rf (by unfold RgM; omega)) (by unfold RgM; omega)) (by unfold RgM; omega)) (by unfold RgM; omega)) (lf_X8_lay_150 (fun σ_19 h => ?_) _ _ _ h)
                      rw [fin_w h]
                      exact Fm.rf
                  · skip
                    refine bnd_case h (fun a21 ea21 h => ?_)
                    refine bnd_case h (fun j80 _ h => ?_)
                    refine r_esac h (fun _ h => ?_) (fun _ h => ?_)
                    · skip
                      rw [fin_w h]
                      exact (Fm.put (Fm.put (Fm.put Fm.rf (by unfold RgM; omega)) (by unfold RgM; omega)) (by unfold RgM; omega))
                    · skip
                      refine bnd_case h (fun j81 _ h => ?_)
                      refine bnd_case h (fun j82 _ h => ?_)
                      refine bnd_case h (fun s20 es20 h => ?_)
                      cases es20
                      refine Fm.trans (Fm.put (Fm.put (Fm.put (Fm.put Fm.rf (by unfold RgM; omega)) (by unfold RgM; omega)) (by unfold RgM; omega)) (by unfold RgM; omega)) (lf_X8_lay_150 (fun σ_20 h => ?_) _ _ _ h)
                      rw [fin_w h]
                      exact Fm.rf
              · skip
                refine bnd_case h (fun j83 _ h => ?_)
                refine r_case h (fun _ h => ?_) (fun _ h => ?_)
                · skip
                  refine bnd_case h (fun j84 _ h => ?_)
                  refine bnd_case h (fun j85 _ h => ?_)
                  refine r_esac h (fun _ h => ?_) (fun _ h => ?_)
                  · skip
                    refine bnd_case h (fun j86 _ h => ?_)
                    refine r_esac h (fun _ h => ?_) (fun _ h => ?_)
                    · skip
                      refine bnd_case h (fun j87 _ h => ?_)
                      refine r_esac h (fun _ h => ?_) (fun _ h => ?_)
                      · skip
                        rw [fin_w h]
                        exact (Fm.put (Fm.put (Fm.put Fm.rf (by unfold RgM; omega)) (by unfold RgM; omega)) (by unfold RgM; omega))
                      · skip
                        refine bnd_case h (fun j88 _ h => ?_)
                        refine bnd_case h (fun j89 _ h => ?_)
                        refine bnd_case h (fun s21 es21 h => ?_)
                        cases es21
                        refine Fm.trans (Fm.put (Fm.put (Fm.put (Fm.put Fm.rf (by unfold RgM; omega)) (by unfold RgM; omega)) (by unfold RgM; omega)) (by unfold RgM; omega)) (lf_X8_lay_150 (fun σ_21 h => ?_) _ _ _ h)
                        rw [fin_w h]
                        exact Fm.rf
                    · skip
                      refine bnd_case h (fun a22 ea22 h => ?_)
                      refine bnd_case h (fun j90 _ h => ?_)
                      refine r_esac h (fun _ h => ?_) (fun _ h => ?_)
                      · skip
                        rw [fin_w h]
                        exact (Fm.put (Fm.put (Fm.put Fm.rf (by unfold RgM; omega)) (by unfold RgM; omega)) (by unfold RgM; omega))
                      · skip
                        refine bnd_case h (fun j91 _ h => ?_)
                        refine bnd_case h (fun j92 _ h => ?_)
                        refine bnd_case h (fun s22 es22 h => ?_)
                        cases es22
                        refine Fm.trans (Fm.put (Fm.put (Fm.put (Fm.put Fm.rf (by unfold RgM; omega)) (by unfold RgM; omega)) (by unfold RgM; omega)) (by unfold RgM; omega)) (lf_X8_lay_150 (fun σ_22 h => ?_) _ _ _ h)
                        rw [fin_w h]
                        exact Fm.rf
                  · skip
                    refine bnd_case h (fun a23 ea23 h => ?_)
                    refine bnd_case h (fun j93 _ h => ?_)
                    refine r_esac h (fun _ h => ?_) (fun _ h => ?_)
                    · skip
                      refine bnd_case h (fun j94 _ h => ?_)
                      refine r_esac h (fun _ h => ?_) (fun _ h => ?_)
                      · skip
                        rw [fin_w h]
                        exact (Fm.put (Fm.put (Fm.put Fm.rf (by unfold RgM; omega)) (by unfold RgM; omega)) (by unfold RgM; omega))
                      · skip
                        refine bnd_case h (fun j95 _ h => ?_)
                        refine bnd_case h (fun j96 _ h => ?_)
                        refine bnd_case h (fun s23 es23 h => ?_)
                        cases es23
                        refine Fm.trans (Fm.put (Fm.put (Fm.put (Fm.put Fm.rf (by unfold RgM; omega)) (by unfold RgM; omega)) (by unfold RgM; omega)) (by unfold RgM; omega)) (lf_X8_lay_150 (fun σ_23 h => ?_) _ _ _ h)
                        rw [fin_w h]
                        exact Fm.rf
                    · skip
                      refine bnd_case h (fun a24 ea24 h => ?_)
                      refine bnd_case h (fun j97 _ h => ?_)
                      refine r_esac h (fun _ h => ?_) (fun _ h => ?_)
                      · skip
                        rw [fin_w h]
                        exact (Fm.put (Fm.put (Fm.put Fm.rf (by unfold RgM; omega)) (by unfold RgM; omega)) (by unfold RgM; omega))
                      · skip
                        refine bnd_case h (fun j98 _ h => ?_)
                        refine bnd_case h (fun j99 _ h => ?_)
                        refine bnd_case h (fun s24 es24 h => ?_)
                        cases es24
                        refine Fm.trans (Fm.put (Fm.put (Fm.put (Fm.put Fm.rf (by unfold RgM; omega)) (by unfold RgM; omega)) (by unfold RgM; omega)) (by unfold RgM; omega)) (lf_X8_lay_150 (fun σ_24 h => ?_) _ _ _ h)
                        rw [fin_w h]
                        exact Fm.rf
                · skip
                  rw [fin_w h]
                  exact Fm.rf
      · skip
        refine bnd_case h (fun a25 ea25 h => ?_)
        refine r_esac h (fun _ h => ?_) (fun _ h => ?_)
        · skip
          refine bnd_case h (fun a26 ea26 h => ?_)
          refine r_case h (fun _ h => ?_) (fun _ h => ?_)
          · skip
            rw [fin_w h]
            exact Fm.rf
          · skip
            refine r_esac h (fun _ h => ?_) (fun _ h => ?_)
            · skip
              refine bnd_case h (fun j100 _ h => ?_)
              refine bnd_case h (fun j101 _ h => ?_)
              refine r_esac h (fun _ h => ?_) (fun _ h => ?_)
              · skip
                refine bnd_case h (fun j102 _ h => ?_)
                refine r_esac h (fun _ h => ?_) (fun _ h => ?_)
                · skip
                  refine bnd_case h (fun j103 _ h => ?_)
                  refine r_esac h (fun _ h => ?_) (fun _ h => ?_)
                  · skip
                    rw [fin_w h]
                    exact (Fm.put (Fm.put (Fm.put Fm.rf (by unfold RgM; omega)) (by unfold RgM; omega)) (by unfold RgM; omega))
                  · skip
                    refine bnd_case h (fun j104 _ h => ?_)
                    refine bnd_case h (fun j105 _ h => ?_)
                    refine bnd_case h (fun s25 es25 h => ?_)
                    cases es25
                    refine Fm.trans (Fm.put (Fm.put (Fm.put (Fm.put Fm.rf (by unfold RgM; omega)) (by unfold RgM; omega)) (by unfold RgM; omega)) (by unfold RgM; omega)) (lf_X8_lay_150 (fun σ_25 h => ?_) _ _ _ h)
                    rw [fin_w h]
                    exact Fm.rf
                · skip
                  refine bnd_case h (fun a27 ea27 h => ?_)
                  refine bnd_case h (fun j106 _ h => ?_)
                  refine r_esac h (fun _ h => ?_) (fun _ h => ?_)
                  · skip
                    rw [fin_w h]
                    exact (Fm.put (Fm.put (Fm.put Fm.rf (by unfold RgM; omega)) (by unfold RgM; omega)) (by unfold RgM; omega))
                  · skip
                    refine bnd_case h (fun j107 _ h => ?_)
                    refine bnd_case h (fun j108 _ h => ?_)
                    refine bnd_case h (fun s26 es26 h => ?_)
                    cases es26
                    refine Fm.trans (Fm.put (Fm.put (Fm.put (Fm.put Fm.rf (by unfold RgM; omega)) (by unfold RgM; omega)) (by unfold RgM; omega)) (by unfold RgM; omega)) (lf_X8_lay_150 (fun σ_26 h => ?_) _ _ _ h)
                    rw [fin_w h]
                    exact Fm.rf
              · skip
                refine bnd_case h (fun a28 ea28 h => ?_)
                refine bnd_case h (fun j109 _ h => ?_)
                refine r_esac h (fun _ h => ?_) (fun _ h => ?_)
                · skip
                  refine bnd_case h (fun j110 _ h => ?_)
                  refine r_esac h (fun _ h => ?_) (fun _ h => ?_)
                  · skip
                    rw [fin_w h]
                    exact (Fm.put (Fm.put (Fm.put Fm.rf (by unfold RgM; omega)) (by unfold RgM; omega)) (by unfold RgM; omega))
                  · skip
                    refine bnd_case h (fun j111 _ h => ?_)
                    refine bnd_case h (fun j112 _ h => ?_)
                    refine bnd_case h (fun s27 es27 h => ?_)
                    cases es27
                    refine Fm.trans (Fm.put (Fm.put (Fm.put (Fm.put Fm.rf (by unfold RgM; omega)) (by unfold RgM; omega)) (by unfold RgM; omega)) (by unfold RgM; omega)) (lf_X8_lay_150 (fun σ_27 h => ?_) _ _ _ h)
                    rw [fin_w h]
                    exact Fm.rf
                · skip
                  refine bnd_case h (fun a29 ea29 h => ?_)
                  refine bnd_case h (fun j113 _ h => ?_)
                  refine r_esac h (fun _ h => ?_) (fun _ h => ?_)
                  · skip
                    rw [fin_w h]
                    exact (Fm.put (Fm.put (Fm.put Fm.rf (by unfold RgM; omega)) (by unfold RgM; omega)) (by unfold RgM; omega))
                  · skip
                    refine bnd_case h (fun j114 _ h => ?_)
                    refine bnd_case h (fun j115 _ h => ?_)
                    refine bnd_case h (fun s28 es28 h => ?_)
                    cases es28
                    refine Fm.trans (Fm.put (Fm.put (Fm.put (Fm.put Fm.rf (by unfold RgM; omega)) (by unfold RgM; omega)) (by unfold RgM; omega)) (by unfold RgM; omega)) (lf_X8_lay_150 (fun σ_28 h => ?_) _ _ _ h)
                    rw [fin_w h]
                    exact Fm.rf
            · skip
              refine bnd_case h (fun j116 _ h => ?_)
              refine r_case h (fun _ h => ?_) (fun _ h => ?_)
              · skip
                refine bnd_case h (fun j117 _ h => ?_)
                refine bnd_case h (fun j118 _ h => ?_)
                refine r_esac h (fun _ h => ?_) (fun _ h => ?_)
                · skip
                  refine bnd_case h (fun j119 _ h => ?_)
                  refine r_esac h (fun _ h => ?_) (fun _ h => ?_)
                  · skip
                    refine bnd_case h (fun j120 _ h => ?_)
                    refine r_esac h (fun _ h => ?_) (fun _ h => ?_)
                    · skip
                      rw [fin_w h]
                      exact (Fm.put (Fm.put (Fm.put Fm.rf (by unfold RgM; omega)) (by unfold RgM; omega)) (by unfold RgM; omega))
                    · skip
                      refine bnd_case h (fun j121 _ h => ?_)
                      refine bnd_case h (fun j122 _ h => ?_)
                      refine bnd_case h (fun s29 es29 h => ?_)
                      cases es29
                      refine Fm.trans (Fm.put (Fm.put (Fm.put (Fm.put Fm.rf (by unfold RgM; omega)) (by unfold RgM; omega)) (by unfold RgM; omega)) (by unfold RgM; omega)) (lf_X8_lay_150 (fun σ_29 h => ?_) _ _ _ h)
                      rw [fin_w h]
                      exact Fm.rf
                  · skip
                    refine bnd_case h (fun a30 ea30 h => ?_)
                    refine bnd_case h (fun j123 _ h => ?_)
                    refine r_esac h (fun _ h => ?_) (fun _ h => ?_)
                    · skip
                      rw [fin_w h]
                      exact (Fm.put (Fm.put (Fm.put Fm.rf (by unfold RgM; omega)) (by unfold RgM; omega)) (by unfold RgM; omega))
                    · skip
                      refine bnd_case h (fun j124 _ h => ?_)
                      refine bnd_case h (fun j125 _ h => ?_)
                      refine bnd_case h (fun s30 es30 h => ?_)
                      cases es30
                      refine Fm.trans (Fm.put (Fm.put (Fm.put (Fm.put Fm.rf (by unfold RgM; omega)) (by unfold RgM; omega)) (by unfold RgM; omega)) (by unfold RgM; omega)) (lf_X8_lay_150 (fun σ_30 h => ?_) _ _ _ h)
                      rw [fin_w h]
                      exact Fm.rf
                · skip
                  refine bnd_case h (fun a31 ea31 h => ?_)
                  refine bnd_case h (fun j126 _ h => ?_)
                  refine r_esac h (fun _ h => ?_) (fun _ h => ?_)
                  · skip
                    refine bnd_case h (fun j127 _ h => ?_)
                    refine r_esac h (fun _ h => ?_) (fun _ h => ?_)
                    · skip
                      rw [fin_w h]
                      exact (Fm.put (Fm.put (Fm.put Fm.rf (by unfold RgM; omega)) (by unfold RgM; omega)) (by unfold RgM; omega))
                    · skip
                      refine bnd_case h (fun j128 _ h => ?_)
                      refine bnd_case h (fun j129 _ h => ?_)
                      refine bnd_case h (fun s31 es31 h => ?_)
                      cases es31
                      refine Fm.trans (Fm.put (Fm.put (Fm.put (Fm.put Fm.rf (by unfold RgM; omega)) (by unfold RgM; omega)) (by unfold RgM; omega)) (by unfold RgM; omega)) (lf_X8_lay_150 (fun σ_31 h => ?_) _ _ _ h)
                      rw [fin_w h]
                      exact Fm.rf
                  · skip
                    refine bnd_case h (fun a32 ea32 h => ?_)
                    refine bnd_case h (fun j130 _ h => ?_)
                    refine r_esac h (fun _ h => ?_) (fun _ h => ?_)
                    · skip
                      rw [fin_w h]
                      exact (Fm.put (Fm.put (Fm.put Fm.rf (by unfold RgM; omega)) (by unfold RgM; omega)) (by unfold RgM; omega))
                    · skip
                      refine bnd_case h (fun j131 _ h => ?_)
                      refine bnd_case h (fun j132 _ h => ?_)
                      refine bnd_case h (fun s32 es32 h => ?_)
                      cases es32
                      refine Fm.trans (Fm.put (Fm.put (Fm.put (Fm.put Fm.rf (by unfold RgM; omega)) (by unfold RgM; omega)) (by unfold RgM; omega)) (by unfold RgM; omega)) (lf_X8_lay_150 (fun σ_32 h => ?_) _ _ _ h)
                      rw [fin_w h]
                      exact Fm.rf
              · skip
                rw [fin_w h]
                exact Fm.rf
        · skip
          refine r_esac h (fun _ h => ?_) (fun _ h => ?_)
          · skip
            refine bnd_case h (fun a33 ea33 h => ?_)
            refine r_case h (fun _ h => ?_) (fun _ h => ?_)
            · skip
              rw [fin_w h]
              exact Fm.rf
            · skip
              rw [fin_w h]
              exact Fm.rf
          · skip
            refine bnd_case h (fun a34 ea34 h => ?_)
            refine r_case h (fun _ h => ?_) (fun _ h => ?_)
            · skip
              refine bnd_case h (fun a35 ea35 h => ?_)
              refine r_case h (fun _ h => ?_) (fun _ h => ?_)
              · skip
                rw [fin_w h]
                exact Fm.rf
              · skip
                rw [fin_w h]
                exact Fm.rf
            · skip
              refine bnd_case h (fun a36 ea36 h => ?_)
              refine r_case h (fun _ h => ?_) (fun _ h => ?_)
              · skip
                rw [fin_w h]
                exact Fm.rf
              · skip
                refine r_esac h (fun _ h => ?_) (fun _ h => ?_)
                · skip
                  refine bnd_case h (fun j133 _ h => ?_)
                  refine bnd_case h (fun j134 _ h => ?_)
                  refine r_esac h (fun _ h => ?_) (fun _ h => ?_)
                  · skip
                    refine bnd_case h (fun j135 _ h => ?_)
                    refine r_esac h (fun _ h => ?_) (fun _ h => ?_)
                    · skip
                      refine bnd_case h (fun j136 _ h => ?_)
                      refine r_esac h (fun _ h => ?_) (fun _ h => ?_)
                      · skip
                        rw [fin_w h]
                        exact (Fm.put (Fm.put (Fm.put Fm.rf (by unfold RgM; omega)) (by unfold RgM; omega)) (by unfold RgM; omega))
                      · skip
                        refine bnd_case h (fun j137 _ h => ?_)
                        refine bnd_case h (fun j138 _ h => ?_)
                        refine bnd_case h (fun s33 es33 h => ?_)
                        cases es33
                        refine Fm.trans (Fm.put (Fm.put (Fm.put (Fm.put Fm.rf (by unfold RgM; omega)) (by unfold RgM; omega)) (by unfold RgM; omega)) (by unfold RgM; omega)) (lf_X8_lay_150 (fun σ_33 h => ?_) _ _ _ h)
                        rw [fin_w h]
                        exact Fm.rf
                    · skip
                      refine bnd_case h (fun a37 ea37 h => ?_)
                      refine bnd_case h (fun j139 _ h => ?_)
                      refine r_esac h (fun _ h => ?_) (fun _ h => ?_)
                      · skip
                        rw [fin_w h]
                        exact (Fm.put (Fm.put (Fm.put Fm.rf (by unfold RgM; omega)) (by unfold RgM; omega)) (by unfold RgM; omega))
                      · skip
                        refine bnd_case h (fun j140 _ h => ?_)
                        refine bnd_case h (fun j141 _ h => ?_)
                        refine bnd_case h (fun s34 es34 h => ?_)
                        cases es34
                        refine Fm.trans (Fm.put (Fm.put (Fm.put (Fm.put Fm.rf (by unfold RgM; omega)) (by unfold RgM; omega)) (by unfold RgM; omega)) (by unfold RgM; omega)) (lf_X8_lay_150 (fun σ_34 h => ?_) _ _ _ h)
                        rw [fin_w h]
                        exact Fm.rf
                  · skip
                    refine bnd_case h (fun a38 ea38 h => ?_)
                    refine bnd_case h (fun j142 _ h => ?_)
                    refine r_esac h (fun _ h => ?_) (fun _ h => ?_)
                    · skip
                      refine bnd_case h (fun j143 _ h => ?_)
                      refine r_esac h (fun _ h => ?_) (fun _ h => ?_)
                      · skip
                        rw [fin_w h]
                        exact (Fm.put (Fm.put (Fm.put Fm.rf (by unfold RgM; omega)) (by unfold RgM; omega)) (by unfold RgM; omega))
                      · skip
                        refine bnd_case h (fun j144 _ h => ?_)
                        refine bnd_case h (fun j145 _ h => ?_)
                        refine bnd_case h (fun s35 es35 h => ?_)
                        cases es35
                        refine Fm.trans (Fm.put (Fm.put (Fm.put (Fm.put Fm.rf (by unfold RgM; omega)) (by unfold RgM; omega)) (by unfold RgM; omega)) (by unfold RgM; omega)) (lf_X8_lay_150 (fun σ_35 h => ?_) _ _ _ h)
                        rw [fin_w h]
                        exact Fm.rf
                    · skip
                      refine bnd_case h (fun a39 ea39 h => ?_)
                      refine bnd_case h (fun j146 _ h => ?_)
                      refine r_esac h (fun _ h => ?_) (fun _ h => ?_)
                      · skip
                        rw [fin_w h]
                        exact (Fm.put (Fm.put (Fm.put Fm.rf (by unfold RgM; omega)) (by unfold RgM; omega)) (by unfold RgM; omega))
                      · skip
                        refine bnd_case h (fun j147 _ h => ?_)
                        refine bnd_case h (fun j148 _ h => ?_)
                        refine bnd_case h (fun s36 es36 h => ?_)
                        cases es36
                        refine Fm.trans (Fm.put (Fm.put (Fm.put (Fm.put Fm.rf (by unfold RgM; omega)) (by unfold RgM; omega)) (by unfold RgM; omega)) (by unfold RgM; omega)) (lf_X8_lay_150 (fun σ_36 h => ?_) _ _ _ h)
                        rw [fin_w h]
                        exact Fm.rf
                · skip
                  refine bnd_case h (fun j149 _ h => ?_)
                  refine r_case h (fun _ h => ?_) (fun _ h => ?_)
                  · skip
                    refine bnd_case h (fun j150 _ h => ?_)
                    refine bnd_case h (fun j151 _ h => ?_)
                    refine r_esac h (fun _ h => ?_) (fun _ h => ?_)
                    · skip
                      refine bnd_case h (fun j152 _ h => ?_)
                      refine r_esac h (fun _ h => ?_) (fun _ h => ?_)
                      · skip
                        refine bnd_case h (fun j153 _ h => ?_)
                        refine r_esac h (fun _ h => ?_) (fun _ h => ?_)
                        · skip
                          rw [fin_w h]
                          exact (Fm.put (Fm.put (Fm.put Fm.rf (by unfold RgM; omega)) (by unfold RgM; omega)) (by unfold RgM; omega))
                        · skip
                          refine bnd_case h (fun j154 _ h => ?_)
                          refine bnd_case h (fun j155 _ h => ?_)
                          refine bnd_case h (fun s37 es37 h => ?_)
                          cases es37
                          refine Fm.trans (Fm.put (Fm.put (Fm.put (Fm.put Fm.rf (by unfold RgM; omega)) (by unfold RgM; omega)) (by unfold RgM; omega)) (by unfold RgM; omega)) (lf_X8_lay_150 (fun σ_37 h => ?_) _ _ _ h)
                          rw [fin_w h]
                          exact Fm.rf
                      · skip
                        refine bnd_case h (fun a40 ea40 h => ?_)
                        refine bnd_case h (fun j156 _ h => ?_)
                        refine r_esac h (fun _ h => ?_) (fun _ h => ?_)
                        · skip
                          rw [fin_w h]
                          exact (Fm.put (Fm.put (Fm.put Fm.rf (by unfold RgM; omega)) (by unfold RgM; omega)) (by unfold RgM; omega))
                        · skip
                          refine bnd_case h (fun j157 _ h => ?_)
                          refine bnd_case h (fun j158 _ h => ?_)
                          refine bnd_case h (fun s38 es38 h => ?_)
                          cases es38
                          refine Fm.trans (Fm.put (Fm.put (Fm.put (Fm.put Fm.rf (by unfold RgM; omega)) (by unfold RgM; omega)) (by unfold RgM; omega)) (by unfold RgM; omega)) (lf_X8_lay_150 (fun σ_38 h => ?_) _ _ _ h)
                          rw [fin_w h]
                          exact Fm.rf
                    · skip
                      refine bnd_case h (fun a41 ea41 h => ?_)
                      refine bnd_case h (fun j159 _ h => ?_)
                      refine r_esac h (fun _ h => ?_) (fun _ h => ?_)
                      · skip
                        refine bnd_case h (fun j160 _ h => ?_)
                        refine r_esac h (fun _ h => ?_) (fun _ h => ?_)
                        · skip
                          rw [fin_w h]
                          exact (Fm.put (Fm.put (Fm.put Fm.rf (by unfold RgM; omega)) (by unfold RgM; omega)) (by unfold RgM; omega))
                        · skip
                          refine bnd_case h (fun j161 _ h => ?_)
                          refine bnd_case h (fun j162 _ h => ?_)
                          refine bnd_case h (fun s39 es39 h => ?_)
                          cases es39
                          refine Fm.trans (Fm.put (Fm.put (Fm.put (Fm.put Fm.rf (by unfold RgM; omega)) (by unfold RgM; omega)) (by unfold RgM; omega)) (by unfold RgM; omega)) (lf_X8_lay_150 (fun σ_39 h => ?_) _ _ _ h)
                          rw [fin_w h]
                          exact Fm.rf
                      · skip
                        refine bnd_case h (fun a42 ea42 h => ?_)
                        refine bnd_case h (fun j163 _ h => ?_)
                        refine r_esac h (fun _ h => ?_) (fun _ h => ?_)
                        · skip
                          rw [fin_w h]
                          exact (Fm.put (Fm.put (Fm.put Fm.rf (by unfold RgM; omega)) (by unfold RgM; omega)) (by unfold RgM; omega))
                        · skip
                          refine bnd_case h (fun j164 _ h => ?_)
                          refine bnd_case h (fun j165 _ h => ?_)
                          refine bnd_case h (fun s40 es40 h => ?_)
                          cases es40
                          refine Fm.trans (Fm.put (Fm.put (Fm.put (Fm.put Fm.rf (by unfold RgM; omega)) (by unfold RgM; omega)) (by unfold RgM; omega)) (by unfold RgM; omega)) (lf_X8_lay_150 (fun σ_40 h => ?_) _ _ _ h)
                          rw [fin_w h]
                          exact Fm.rf
                  · skip
                    rw [fin_w h]
                    exact Fm.rf
set_option maxRecDepth 100000 in
theorem fr_X8_tell {p1 : Int32} {σ : Mem} {res : (Int32 × Mem)}  (h : f_X8_tell p1 σ = some res) : Fm RgM σ res.2 := by
  obtain ⟨r0, σ2⟩ := res
  show Fm RgM σ σ2
  unfold f_X8_tell at h
  refine r_esac h (fun _ h => ?_) (fun _ h => ?_)
  · skip
    refine bnd_case h (fun j1 _ h => ?_)
    rw [fin_w h]
    exact (Fm.put (Fm.put Fm.rf (by unfold RgM; omega)) (by unfold RgM; omega))
  · skip
    rw [fin_w h]
    exact Fm.rf
set_option maxRecDepth 100000 in
theorem lf_X8_setAside_2 {p1g : Nat} {p1i : Nat} {p2g : Nat} {p2i : Nat}  {σ2 : Mem} {k : Mem → Option Mem} (hq : 22 ≤ p2g) (hk : ∀ (σ1 : Mem), k  σ1 = some σ2 → Fm RgM σ1 σ2) : ∀ (n : Nat) (v3 : Int32) (σ : Mem), f_X8_setAside_2 p1g p1i p2g p2i n v3 σ k = some σ2 → Fm RgM σ σ2 := by
  intro n
  induction n with
  | zero =>
    intro v3 σ h
    cases h
  | succ n ih =>
    intro v3 σ h
    rw [f_X8_setAside_2.eq_2] at h
    refine r_case h (fun _ h => ?_) (fun _ h => ?_)
    · skip
      exact Fm.trans Fm.rf (hk _ h)
    · skip
      refine bnd_case h (fun j1 _ h => ?_)
      refine bnd_case h (fun j2 _ h => ?_)
      exact Fm.trans (Fm.put Fm.rf (by unfold RgM; omega)) (ih _ _ h)
set_option maxRecDepth 100000 in
theorem fr_X8_setAside {p1g : Nat} {p1i : Nat} {p2g : Nat} {p2i : Nat} {σ : Mem} {res : Mem} (hq : 22 ≤ p2g) (h : f_X8_setAside p1g p1i p2g p2i σ = some res) : Fm RgM σ res := by
  unfold f_X8_setAside at h
  refine Fm.trans Fm.rf (lf_X8_setAside_2 hq (fun σ_1 h => ?_) _ _ _ h)
  rw [fin_v h]
  exact Fm.rf
set_option maxRecDepth 100000 in
theorem lf_X8_check_64 {p1 : Int32} {p2 : Int32}   {r0 : Int32} {σ2 : Mem} {k : Int32 → Mem → Option (Int32 × Mem)}  (hk : ∀ (x3 : Int32) (σ1 : Mem), k x3 σ1 = some (r0, σ2) → Fm RgM σ1 σ2) : ∀ (n : Nat) (v3 : Int32) (v4 : Int32) (σ : Mem), f_X8_check_64 p1 p2 n v3 v4 σ k = some (r0, σ2) → Fm RgM σ σ2 := by
  intro n
  induction n with
  | zero =>
    intro v3 v4 σ h
    cases h
  | succ n ih =>
    intro v3 v4 σ h
    rw [f_X8_check_64.eq_2] at h
    refine r_case h (fun _ h => ?_) (fun _ h => ?_)
    · skip
      exact Fm.trans Fm.rf (hk _ _ h)
    · skip
      refine bnd_case h (fun j1 _ h => ?_)
      refine r_case h (fun _ h => ?_) (fun _ h => ?_)
      · skip
        exact Fm.trans Fm.rf (hk _ _ h)
      · skip
        refine bnd_case h (fun a1 ea1 h => ?_)
        refine bnd_case h (fun j2 _ h => ?_)
        refine bnd_case h (fun j3 _ h => ?_)
        refine bnd_case h (fun j4 _ h => ?_)
        refine bnd_case h (fun j5 _ h => ?_)
        exact Fm.trans (Fm.put (Fm.put (Fm.trans Fm.rf (fr_X8_goesOn ea1)) (by unfold RgM; omega)) (by unfold RgM; omega)) (ih _ _ _ h)
set_option maxRecDepth 100000 in
theorem lf_X8_check_136 {p2 : Int32} {p3 : Int32} {σ : Mem}   {r0 : Int32} {σ2 : Mem} {k : Int32 → Option (Int32 × Mem)}  (hk : ∀ (x4 : Int32), k x4 = some (r0, σ2) → Fm RgM σ σ2) : ∀ (n : Nat) (v4 : Int32), f_X8_check_136 p2 p3 σ n v4 k = some (r0, σ2) → Fm RgM σ σ2 := by
  intro n
  induction n with
  | zero =>
    intro v4 h
    cases h
  | succ n ih =>
    intro v4 h
    rw [f_X8_check_136.eq_2] at h
    refine r_case h (fun _ h => ?_) (fun _ h => ?_)
    · skip
      exact Fm.trans Fm.rf (hk _ h)
    · skip
      refine r_case h (fun _ h => ?_) (fun _ h => ?_)
      · skip
        exact Fm.trans Fm.rf (hk _ h)
      · skip
        refine bnd_case h (fun j1 _ h => ?_)
        refine bnd_case h (fun j2 _ h => ?_)
        refine r_esac h (fun _ h => ?_) (fun _ h => ?_)
        · skip
          exact Fm.trans Fm.rf (hk _ h)
        · skip
          exact Fm.trans Fm.rf (ih _ h)
set_option maxRecDepth 100000 in
theorem fr_X8_check {p1 : Int32} {σ : Mem} {res : (Int32 × Mem)}  (h : f_X8_check p1 σ = some res) : Fm RgM σ res.2 := by
  obtain ⟨r0, σ2⟩ := res
  show Fm RgM σ σ2
  unfold f_X8_check at h
  refine bnd_case h (fun a1 ea1 h => ?_)
  refine r_esac h (fun _ h => ?_) (fun _ h => ?_)
  · skip
    refine r_esac h (fun _ h => ?_) (fun _ h => ?_)
    · skip
      refine bnd_case h (fun a2 ea2 h => ?_)
      refine bnd_case h (fun a3 ea3 h => ?_)
      refine Fm.trans (Fm.trans (Fm.trans (Fm.put Fm.rf (by unfold RgM; omega)) (fr_X8_setAside (by decide) ea2)) (fr_X8_setAside (by decide) ea3)) (lf_X8_check_64 (fun e1 σ_1 h => ?_) _ _ _ _ h)
      refine bnd_case h (fun a4 ea4 h => ?_)
      refine Fm.trans (Fm.trans Fm.rf (fr_X8_setAside (by decide) ea4)) (lf_X8_check_136 (fun e2 h => ?_) _ _ h)
      refine r_esac h (fun _ h => ?_) (fun _ h => ?_)
      · skip
        rw [fin_w h]
        exact Fm.rf
      · skip
        refine r_esac h (fun _ h => ?_) (fun _ h => ?_)
        · skip
          rw [fin_w h]
          exact Fm.rf
        · skip
          rw [fin_w h]
          exact Fm.rf
    · skip
      rw [fin_w h]
      exact (Fm.put Fm.rf (by unfold RgM; omega))
  · skip
    rw [fin_w h]
    exact (Fm.put Fm.rf (by unfold RgM; omega))
set_option maxRecDepth 100000 in
theorem fr_X8_keep  {σ : Mem} {res : (Int32 × Mem)}  (h : f_X8_keep σ = some res) : Fm RgM σ res.2 := by
  obtain ⟨r0, σ2⟩ := res
  show Fm RgM σ σ2
  unfold f_X8_keep at h
  refine bnd_case h (fun a1 ea1 h => ?_)
  refine bnd_case h (fun j1 _ h => ?_)
  rw [fin_w h]
  exact (Fm.trans (Fm.put Fm.rf (by unfold RgM; omega)) (fr_X8_setAside (by decide) ea1))
set_option maxRecDepth 100000 in
theorem fr_X8_back  {σ : Mem} {res : (Int32 × Mem)}  (h : f_X8_back σ = some res) : Fm RgM σ res.2 := by
  obtain ⟨r0, σ2⟩ := res
  show Fm RgM σ σ2
  unfold f_X8_back at h
  refine r_esac h (fun _ h => ?_) (fun _ h => ?_)
  · skip
    refine bnd_case h (fun a1 ea1 h => ?_)
    refine bnd_case h (fun j1 _ h => ?_)
    rw [fin_w h]
    exact (Fm.trans Fm.rf (fr_X8_setAside (by decide) ea1))
  · skip
    rw [fin_w h]
    exact Fm.rf
set_option maxRecDepth 100000 in
theorem fr_X8_part0 {rec : Nat → Int32 → Mem → Option (Int32 × Mem)} {p1 : Int32} {σ : Mem} {res : (Int32 × Mem)} (hrec : ∀ t p1 σ a, rec t p1 σ = some a → Fm RgM σ a.2) (h : f_X8_part0 rec p1 σ = some res) : Fm RgM σ res.2 := by
  obtain ⟨r0, σ2⟩ := res
  show Fm RgM σ σ2
  unfold f_X8_part0 at h
  refine r_esac h (fun _ h => ?_) (fun _ h => ?_)
  · skip
    refine r_esac h (fun _ h => ?_) (fun _ h => ?_)
    · skip
      refine bnd_case h (fun a1 ea1 h => ?_)
      refine r_case h (fun _ h => ?_) (fun _ h => ?_)
      · skip
        refine bnd_case h (fun a2 ea2 h => ?_)
        refine r_case h (fun _ h => ?_) (fun _ h => ?_)
        · skip
          rw [fin_w h]
          exact Fm.rf
        · skip
          refine r_esac h (fun _ h => ?_) (fun _ h => ?_)
          · skip
            refine bnd_case h (fun a3 ea3 h => ?_)
            refine bnd_case h (fun a4 ea4 h => ?_)
            refine r_case h (fun _ h => ?_) (fun _ h => ?_)
            · skip
              rw [fin_w h]
              exact (Fm.trans (Fm.trans (Fm.put Fm.rf (by unfold RgM; omega)) (fr_X8_nextToken ea3)) (hrec _ _ _ _ ea4))
            · skip
              refine bnd_case h (fun a5 ea5 h => ?_)
              refine r_esac h (fun _ h => ?_) (fun _ h => ?_)
              · skip
                refine bnd_case h (fun a6 ea6 h => ?_)
                rw [fin_w h]
                exact (Fm.trans (Fm.put (Fm.trans (Fm.trans (Fm.put Fm.rf (by unfold RgM; omega)) (fr_X8_nextToken ea3)) (hrec _ _ _ _ ea4)) (by unfold RgM; omega)) (fr_X8_nextToken ea6))
              · skip
                rw [fin_w h]
                exact (Fm.trans (Fm.trans (Fm.put Fm.rf (by unfold RgM; omega)) (fr_X8_nextToken ea3)) (hrec _ _ _ _ ea4))
          · skip
            rw [fin_w h]
            exact Fm.rf
      · skip
        refine r_case h (fun _ h => ?_) (fun _ h => ?_)
        · skip
          refine bnd_case h (fun a7 ea7 h => ?_)
          refine r_case h (fun _ h => ?_) (fun _ h => ?_)
          · skip
            rw [fin_w h]
            exact Fm.rf
          · skip
            refine r_esac h (fun _ h => ?_) (fun _ h => ?_)
            · skip
              refine bnd_case h (fun a8 ea8 h => ?_)
              refine bnd_case h (fun a9 ea9 h => ?_)
              refine r_case h (fun _ h => ?_) (fun _ h => ?_)
              · skip
                rw [fin_w h]
                exact (Fm.trans (Fm.trans (Fm.put Fm.rf (by unfold RgM; omega)) (fr_X8_nextToken ea8)) (hrec _ _ _ _ ea9))
              · skip
                refine bnd_case h (fun a10 ea10 h => ?_)
                refine r_esac h (fun _ h => ?_) (fun _ h => ?_)
                · skip
                  refine bnd_case h (fun a11 ea11 h => ?_)
                  rw [fin_w h]
                  exact (Fm.trans (Fm.put (Fm.trans (Fm.trans (Fm.put Fm.rf (by unfold RgM; omega)) (fr_X8_nextToken ea8)) (hrec _ _ _ _ ea9)) (by unfold RgM; omega)) (fr_X8_nextToken ea11))
                · skip
                  rw [fin_w h]
                  exact (Fm.trans (Fm.trans (Fm.put Fm.rf (by unfold RgM; omega)) (fr_X8_nextToken ea8)) (hrec _ _ _ _ ea9))
            · skip
              rw [fin_w h]
              exact Fm.rf
        · skip
          refine bnd_case h (fun a12 ea12 h => ?_)
          refine bnd_case h (fun a13 ea13 h => ?_)
          refine r_esac h (fun _ h => ?_) (fun _ h => ?_)
          · skip
            refine bnd_case h (fun a14 ea14 h => ?_)
            rw [fin_w h]
            exact (Fm.trans (Fm.put (Fm.trans (Fm.trans (Fm.put Fm.rf (by unfold RgM; omega)) (fr_X8_nextToken ea12)) (hrec _ _ _ _ ea13)) (by unfold RgM; omega)) (fr_X8_step ea14))
          · skip
            rw [fin_w h]
            exact (Fm.trans (Fm.trans (Fm.put Fm.rf (by unfold RgM; omega)) (fr_X8_nextToken ea12)) (hrec _ _ _ _ ea13))
    · skip
      refine r_case h (fun _ h => ?_) (fun _ h => ?_)
      · skip
        refine bnd_case h (fun a15 ea15 h => ?_)
        refine r_case h (fun _ h => ?_) (fun _ h => ?_)
        · skip
          refine bnd_case h (fun a16 ea16 h => ?_)
          refine r_case h (fun _ h => ?_) (fun _ h => ?_)
          · skip
            rw [fin_w h]
            exact Fm.rf
          · skip
            refine r_esac h (fun _ h => ?_) (fun _ h => ?_)
            · skip
              refine bnd_case h (fun a17 ea17 h => ?_)
              refine bnd_case h (fun a18 ea18 h => ?_)
              refine r_case h (fun _ h => ?_) (fun _ h => ?_)
              · skip
                rw [fin_w h]
                exact (Fm.trans (Fm.trans (Fm.put Fm.rf (by unfold RgM; omega)) (fr_X8_nextToken ea17)) (hrec _ _ _ _ ea18))
              · skip
                refine bnd_case h (fun a19 ea19 h => ?_)
                refine r_esac h (fun _ h => ?_) (fun _ h => ?_)
                · skip
                  refine bnd_case h (fun a20 ea20 h => ?_)
                  rw [fin_w h]
                  exact (Fm.trans (Fm.put (Fm.trans (Fm.trans (Fm.put Fm.rf (by unfold RgM; omega)) (fr_X8_nextToken ea17)) (hrec _ _ _ _ ea18)) (by unfold RgM; omega)) (fr_X8_nextToken ea20))
                · skip
                  rw [fin_w h]
                  exact (Fm.trans (Fm.trans (Fm.put Fm.rf (by unfold RgM; omega)) (fr_X8_nextToken ea17)) (hrec _ _ _ _ ea18))
            · skip
              rw [fin_w h]
              exact Fm.rf
        · skip
          refine r_case h (fun _ h => ?_) (fun _ h => ?_)
          · skip
            refine bnd_case h (fun a21 ea21 h => ?_)
            refine r_case h (fun _ h => ?_) (fun _ h => ?_)
            · skip
              rw [fin_w h]
              exact Fm.rf
            · skip
              refine r_esac h (fun _ h => ?_) (fun _ h => ?_)
              · skip
                refine bnd_case h (fun a22 ea22 h => ?_)
                refine bnd_case h (fun a23 ea23 h => ?_)
                refine r_case h (fun _ h => ?_) (fun _ h => ?_)
                · skip
                  rw [fin_w h]
                  exact (Fm.trans (Fm.trans (Fm.put Fm.rf (by unfold RgM; omega)) (fr_X8_nextToken ea22)) (hrec _ _ _ _ ea23))
                · skip
                  refine bnd_case h (fun a24 ea24 h => ?_)
                  refine r_esac h (fun _ h => ?_) (fun _ h => ?_)
                  · skip
                    refine bnd_case h (fun a25 ea25 h => ?_)
                    rw [fin_w h]
                    exact (Fm.trans (Fm.put (Fm.trans (Fm.trans (Fm.put Fm.rf (by unfold RgM; omega)) (fr_X8_nextToken ea22)) (hrec _ _ _ _ ea23)) (by unfold RgM; omega)) (fr_X8_nextToken ea25))
                  · skip
                    rw [fin_w h]
                    exact (Fm.trans (Fm.trans (Fm.put Fm.rf (by unfold RgM; omega)) (fr_X8_nextToken ea22)) (hrec _ _ _ _ ea23))
              · skip
                rw [fin_w h]
                exact Fm.rf
          · skip
            refine bnd_case h (fun a26 ea26 h => ?_)
            refine bnd_case h (fun a27 ea27 h => ?_)
            refine r_esac h (fun _ h => ?_) (fun _ h => ?_)
            · skip
              refine bnd_case h (fun a28 ea28 h => ?_)
              rw [fin_w h]
              exact (Fm.trans (Fm.put (Fm.trans (Fm.trans (Fm.put Fm.rf (by unfold RgM; omega)) (fr_X8_nextToken ea26)) (hrec _ _ _ _ ea27)) (by unfold RgM; omega)) (fr_X8_step ea28))
            · skip
              rw [fin_w h]
              exact (Fm.trans (Fm.trans (Fm.put Fm.rf (by unfold RgM; omega)) (fr_X8_nextToken ea26)) (hrec _ _ _ _ ea27))
      · skip
        refine bnd_case h (fun a29 ea29 h => ?_)
        refine r_case h (fun _ h => ?_) (fun _ h => ?_)
        · skip
          refine bnd_case h (fun a30 ea30 h => ?_)
          refine r_case h (fun _ h => ?_) (fun _ h => ?_)
          · skip
            refine bnd_case h (fun a31 ea31 h => ?_)
            refine r_case h (fun _ h => ?_) (fun _ h => ?_)
            · skip
              rw [fin_w h]
              exact Fm.rf
            · skip
              refine r_esac h (fun _ h => ?_) (fun _ h => ?_)
              · skip
                refine bnd_case h (fun a32 ea32 h => ?_)
                refine bnd_case h (fun a33 ea33 h => ?_)
                refine r_case h (fun _ h => ?_) (fun _ h => ?_)
                · skip
                  rw [fin_w h]
                  exact (Fm.trans (Fm.trans (Fm.put Fm.rf (by unfold RgM; omega)) (fr_X8_nextToken ea32)) (hrec _ _ _ _ ea33))
                · skip
                  refine bnd_case h (fun a34 ea34 h => ?_)
                  refine r_esac h (fun _ h => ?_) (fun _ h => ?_)
                  · skip
                    refine bnd_case h (fun a35 ea35 h => ?_)
                    rw [fin_w h]
                    exact (Fm.trans (Fm.put (Fm.trans (Fm.trans (Fm.put Fm.rf (by unfold RgM; omega)) (fr_X8_nextToken ea32)) (hrec _ _ _ _ ea33)) (by unfold RgM; omega)) (fr_X8_nextToken ea35))
                  · skip
                    rw [fin_w h]
                    exact (Fm.trans (Fm.trans (Fm.put Fm.rf (by unfold RgM; omega)) (fr_X8_nextToken ea32)) (hrec _ _ _ _ ea33))
              · skip
                rw [fin_w h]
                exact Fm.rf
          · skip
            refine r_case h (fun _ h => ?_) (fun _ h => ?_)
            · skip
              refine bnd_case h (fun a36 ea36 h => ?_)
              refine r_case h (fun _ h => ?_) (fun _ h => ?_)
              · skip
                rw [fin_w h]
                exact Fm.rf
              · skip
                refine r_esac h (fun _ h => ?_) (fun _ h => ?_)
                · skip
                  refine bnd_case h (fun a37 ea37 h => ?_)
                  refine bnd_case h (fun a38 ea38 h => ?_)
                  refine r_case h (fun _ h => ?_) (fun _ h => ?_)
                  · skip
                    rw [fin_w h]
                    exact (Fm.trans (Fm.trans (Fm.put Fm.rf (by unfold RgM; omega)) (fr_X8_nextToken ea37)) (hrec _ _ _ _ ea38))
                  · skip
                    refine bnd_case h (fun a39 ea39 h => ?_)
                    refine r_esac h (fun _ h => ?_) (fun _ h => ?_)
                    · skip
                      refine bnd_case h (fun a40 ea40 h => ?_)
                      rw [fin_w h]
                      exact (Fm.trans (Fm.put (Fm.trans (Fm.trans (Fm.put Fm.rf (by unfold RgM; omega)) (fr_X8_nextToken ea37)) (hrec _ _ _ _ ea38)) (by unfold RgM; omega)) (fr_X8_nextToken ea40))
                    · skip
                      rw [fin_w h]
                      exact (Fm.trans (Fm.trans (Fm.put Fm.rf (by unfold RgM; omega)) (fr_X8_nextToken ea37)) (hrec _ _ _ _ ea38))
                · skip
                  rw [fin_w h]
                  exact Fm.rf
            · skip
              refine bnd_case h (fun a41 ea41 h => ?_)
              refine bnd_case h (fun a42 ea42 h => ?_)
              refine r_esac h (fun _ h => ?_) (fun _ h => ?_)
              · skip
                refine bnd_case h (fun a43 ea43 h => ?_)
                rw [fin_w h]
                exact (Fm.trans (Fm.put (Fm.trans (Fm.trans (Fm.put Fm.rf (by unfold RgM; omega)) (fr_X8_nextToken ea41)) (hrec _ _ _ _ ea42)) (by unfold RgM; omega)) (fr_X8_step ea43))
              · skip
                rw [fin_w h]
                exact (Fm.trans (Fm.trans (Fm.put Fm.rf (by unfold RgM; omega)) (fr_X8_nextToken ea41)) (hrec _ _ _ _ ea42))
        · skip
          refine bnd_case h (fun a44 ea44 h => ?_)
          refine bnd_case h (fun a45 ea45 h => ?_)
          rw [fin_w h]
          exact (Fm.trans (Fm.put (Fm.trans Fm.rf (fr_X8_step ea44)) (by unfold RgM; omega)) (fr_X8_nextToken ea45))
  · skip
    refine bnd_case h (fun a46 ea46 h => ?_)
    refine bnd_case h (fun a47 ea47 h => ?_)
    rw [fin_w h]
    exact (Fm.trans (Fm.put (Fm.trans Fm.rf (fr_X8_step ea46)) (by unfold RgM; omega)) (fr_X8_nextToken ea47))
set_option maxRecDepth 100000 in
theorem lf_X8_term_10 {rec : Nat → Int32 → Mem → Option (Int32 × Mem)} {p1 : Int32}   {r0 : Int32} {σ2 : Mem} {k : Mem → Option (Int32 × Mem)} (hrec : ∀ t p1 σ a, rec t p1 σ = some a → Fm RgM σ a.2) (hk : ∀ (σ1 : Mem), k  σ1 = some (r0, σ2) → Fm RgM σ1 σ2) : ∀ (n : Nat) (σ : Mem), f_X8_term_10 rec p1 n  σ k = some (r0, σ2) → Fm RgM σ σ2 := by
  intro n
  induction n with
  | zero =>
    intro σ h
    cases h
  | succ n ih =>
    intro σ h
    rw [f_X8_term_10.eq_2] at h
    refine bnd_case h (fun a1 ea1 h => ?_)
    refine r_esac h (fun _ h => ?_) (fun _ h => ?_)
    · skip
      refine bnd_case h (fun a2 ea2 h => ?_)
      refine bnd_case h (fun a3 ea3 h => ?_)
      refine r_esac h (fun _ h => ?_) (fun _ h => ?_)
      · skip
        refine bnd_case h (fun a4 ea4 h => ?_)
        exact Fm.trans (Fm.trans (Fm.trans (Fm.trans Fm.rf (fr_X8_nextToken ea2)) (hrec _ _ _ _ ea3)) (fr_X8_step ea4)) (ih _ h)
      · skip
        rw [fin_w h]
        exact (Fm.trans (Fm.trans Fm.rf (fr_X8_nextToken ea2)) (hrec _ _ _ _ ea3))
    · skip
      refine bnd_case h (fun a5 ea5 h => ?_)
      refine r_case h (fun _ h => ?_) (fun _ h => ?_)
      · skip
        exact Fm.trans Fm.rf (hk _ h)
      · skip
        refine bnd_case h (fun a6 ea6 h => ?_)
        refine bnd_case h (fun a7 ea7 h => ?_)
        refine r_esac h (fun _ h => ?_) (fun _ h => ?_)
        · skip
          refine bnd_case h (fun a8 ea8 h => ?_)
          exact Fm.trans (Fm.trans (Fm.trans (Fm.trans Fm.rf (fr_X8_nextToken ea6)) (hrec _ _ _ _ ea7)) (fr_X8_step ea8)) (ih _ h)
        · skip
          rw [fin_w h]
          exact (Fm.trans (Fm.trans Fm.rf (fr_X8_nextToken ea6)) (hrec _ _ _ _ ea7))
set_option maxRecDepth 100000 in
theorem fr_X8_term {rec : Nat → Int32 → Mem → Option (Int32 × Mem)} {p1 : Int32} {σ : Mem} {res : (Int32 × Mem)} (hrec : ∀ t p1 σ a, rec t p1 σ = some a → Fm RgM σ a.2) (h : f_X8_term rec p1 σ = some res) : Fm RgM σ res.2 := by
  obtain ⟨r0, σ2⟩ := res
  show Fm RgM σ σ2
  unfold f_X8_term at h
  refine bnd_case h (fun a1 ea1 h => ?_)
  refine r_esac h (fun _ h => ?_) (fun _ h => ?_)
  · refine Fm.trans (Fm.trans Fm.rf (hrec _ _ _ _ ea1)) (lf_X8_term_10 hrec (fun σ_1 h => ?_) _ _ h)
    rw [fin_w h]
    exact Fm.rf
  · skip
    rw [fin_w h]
    exact (Fm.trans Fm.rf (hrec _ _ _ _ ea1))
set_option maxRecDepth 100000 in
theorem lf_X8_sum_10 {rec : Nat → Int32 → Mem → Option (Int32 × Mem)} {p1 : Int32}   {r0 : Int32} {σ2 : Mem} {k : Mem → Option (Int32 × Mem)} (hrec : ∀ t p1 σ a, rec t p1 σ = some a → Fm RgM σ a.2) (hk : ∀ (σ1 : Mem), k  σ1 = some (r0, σ2) → Fm RgM σ1 σ2) : ∀ (n : Nat) (σ : Mem), f_X8_sum_10 rec p1 n  σ k = some (r0, σ2) → Fm RgM σ σ2 := by
  intro n
  induction n with
  | zero =>
    intro σ h
    cases h
  | succ n ih =>
    intro σ h
    rw [f_X8_sum_10.eq_2] at h
    refine bnd_case h (fun a1 ea1 h => ?_)
    refine r_esac h (fun _ h => ?_) (fun _ h => ?_)
    · skip
      refine bnd_case h (fun a2 ea2 h => ?_)
      refine bnd_case h (fun a3 ea3 h => ?_)
      refine r_esac h (fun _ h => ?_) (fun _ h => ?_)
      · skip
        refine bnd_case h (fun a4 ea4 h => ?_)
        exact Fm.trans (Fm.trans (Fm.trans (Fm.trans Fm.rf (fr_X8_nextToken ea2)) (hrec _ _ _ _ ea3)) (fr_X8_step ea4)) (ih _ h)
      · skip
        rw [fin_w h]
        exact (Fm.trans (Fm.trans Fm.rf (fr_X8_nextToken ea2)) (hrec _ _ _ _ ea3))
    · skip
      refine bnd_case h (fun a5 ea5 h => ?_)
      refine r_case h (fun _ h => ?_) (fun _ h => ?_)
      · skip
        exact Fm.trans Fm.rf (hk _ h)
      · skip
        refine bnd_case h (fun a6 ea6 h => ?_)
        refine bnd_case h (fun a7 ea7 h => ?_)
        refine r_esac h (fun _ h => ?_) (fun _ h => ?_)
        · skip
          refine bnd_case h (fun a8 ea8 h => ?_)
          exact Fm.trans (Fm.trans (Fm.trans (Fm.trans Fm.rf (fr_X8_nextToken ea6)) (hrec _ _ _ _ ea7)) (fr_X8_step ea8)) (ih _ h)
        · skip
          rw [fin_w h]
          exact (Fm.trans (Fm.trans Fm.rf (fr_X8_nextToken ea6)) (hrec _ _ _ _ ea7))
set_option maxRecDepth 100000 in
theorem fr_X8_sum {rec : Nat → Int32 → Mem → Option (Int32 × Mem)} {p1 : Int32} {σ : Mem} {res : (Int32 × Mem)} (hrec : ∀ t p1 σ a, rec t p1 σ = some a → Fm RgM σ a.2) (h : f_X8_sum rec p1 σ = some res) : Fm RgM σ res.2 := by
  obtain ⟨r0, σ2⟩ := res
  show Fm RgM σ σ2
  unfold f_X8_sum at h
  refine bnd_case h (fun a1 ea1 h => ?_)
  refine r_esac h (fun _ h => ?_) (fun _ h => ?_)
  · refine Fm.trans (Fm.trans Fm.rf (hrec _ _ _ _ ea1)) (lf_X8_sum_10 hrec (fun σ_1 h => ?_) _ _ h)
    rw [fin_w h]
    exact Fm.rf
  · skip
    rw [fin_w h]
    exact (Fm.trans Fm.rf (hrec _ _ _ _ ea1))
set_option maxRecDepth 100000 in
theorem fr_X8_test {rec : Nat → Int32 → Mem → Option (Int32 × Mem)} {p1 : Int32} {σ : Mem} {res : (Int32 × Mem)} (hrec : ∀ t p1 σ a, rec t p1 σ = some a → Fm RgM σ a.2) (h : f_X8_test rec p1 σ = some res) : Fm RgM σ res.2 := by
  obtain ⟨r0, σ2⟩ := res
  show Fm RgM σ σ2
  unfold f_X8_test at h
  refine bnd_case h (fun a1 ea1 h => ?_)
  refine r_esac h (fun _ h => ?_) (fun _ h => ?_)
  · skip
    refine bnd_case h (fun a2 ea2 h => ?_)
    refine r_esac h (fun _ h => ?_) (fun _ h => ?_)
    · skip
      refine bnd_case h (fun a3 ea3 h => ?_)
      refine bnd_case h (fun a4 ea4 h => ?_)
      refine r_esac h (fun _ h => ?_) (fun _ h => ?_)
      · skip
        refine bnd_case h (fun a5 ea5 h => ?_)
        rw [fin_w h]
        exact (Fm.trans (Fm.trans (Fm.trans (Fm.trans Fm.rf (hrec _ _ _ _ ea1)) (fr_X8_nextToken ea3)) (hrec _ _ _ _ ea4)) (fr_X8_step ea5))
      · skip
        rw [fin_w h]
        exact (Fm.trans (Fm.trans (Fm.trans Fm.rf (hrec _ _ _ _ ea1)) (fr_X8_nextToken ea3)) (hrec _ _ _ _ ea4))
    · skip
      refine bnd_case h (fun a6 ea6 h => ?_)
      refine r_esac h (fun _ h => ?_) (fun _ h => ?_)
      · skip
        refine bnd_case h (fun a7 ea7 h => ?_)
        refine bnd_case h (fun a8 ea8 h => ?_)
        refine r_esac h (fun _ h => ?_) (fun _ h => ?_)
        · skip
          refine bnd_case h (fun a9 ea9 h => ?_)
          rw [fin_w h]
          exact (Fm.trans (Fm.trans (Fm.trans (Fm.trans Fm.rf (hrec _ _ _ _ ea1)) (fr_X8_nextToken ea7)) (hrec _ _ _ _ ea8)) (fr_X8_step ea9))
        · skip
          rw [fin_w h]
          exact (Fm.trans (Fm.trans (Fm.trans Fm.rf (hrec _ _ _ _ ea1)) (fr_X8_nextToken ea7)) (hrec _ _ _ _ ea8))
      · skip
        refine bnd_case h (fun a10 ea10 h => ?_)
        refine r_case h (fun _ h => ?_) (fun _ h => ?_)
        · skip
          rw [fin_w h]
          exact (Fm.trans Fm.rf (hrec _ _ _ _ ea1))
        · skip
          refine bnd_case h (fun a11 ea11 h => ?_)
          refine bnd_case h (fun a12 ea12 h => ?_)
          refine r_esac h (fun _ h => ?_) (fun _ h => ?_)
          · skip
            refine bnd_case h (fun a13 ea13 h => ?_)
            rw [fin_w h]
            exact (Fm.trans (Fm.trans (Fm.trans (Fm.trans Fm.rf (hrec _ _ _ _ ea1)) (fr_X8_nextToken ea11)) (hrec _ _ _ _ ea12)) (fr_X8_step ea13))
          · skip
            rw [fin_w h]
            exact (Fm.trans (Fm.trans (Fm.trans Fm.rf (hrec _ _ _ _ ea1)) (fr_X8_nextToken ea11)) (hrec _ _ _ _ ea12))
  · skip
    rw [fin_w h]
    exact (Fm.trans Fm.rf (hrec _ _ _ _ ea1))
set_option maxRecDepth 100000 in
theorem lf_X8_both_10 {rec : Nat → Int32 → Mem → Option (Int32 × Mem)} {p1 : Int32}   {r0 : Int32} {σ2 : Mem} {k : Mem → Option (Int32 × Mem)} (hrec : ∀ t p1 σ a, rec t p1 σ = some a → Fm RgM σ a.2) (hk : ∀ (σ1 : Mem), k  σ1 = some (r0, σ2) → Fm RgM σ1 σ2) : ∀ (n : Nat) (σ : Mem), f_X8_both_10 rec p1 n  σ k = some (r0, σ2) → Fm RgM σ σ2 := by
  intro n
  induction n with
  | zero =>
    intro σ h
    cases h
  | succ n ih =>
    intro σ h
    rw [f_X8_both_10.eq_2] at h
    refine bnd_case h (fun a1 ea1 h => ?_)
    refine r_case h (fun _ h => ?_) (fun _ h => ?_)
    · skip
      exact Fm.trans Fm.rf (hk _ h)
    · skip
      refine bnd_case h (fun a2 ea2 h => ?_)
      refine bnd_case h (fun a3 ea3 h => ?_)
      refine r_esac h (fun _ h => ?_) (fun _ h => ?_)
      · skip
        refine bnd_case h (fun a4 ea4 h => ?_)
        exact Fm.trans (Fm.trans (Fm.trans (Fm.trans Fm.rf (fr_X8_nextToken ea2)) (hrec _ _ _ _ ea3)) (fr_X8_step ea4)) (ih _ h)
      · skip
        rw [fin_w h]
        exact (Fm.trans (Fm.trans Fm.rf (fr_X8_nextToken ea2)) (hrec _ _ _ _ ea3))
set_option maxRecDepth 100000 in
theorem fr_X8_both {rec : Nat → Int32 → Mem → Option (Int32 × Mem)} {p1 : Int32} {σ : Mem} {res : (Int32 × Mem)} (hrec : ∀ t p1 σ a, rec t p1 σ = some a → Fm RgM σ a.2) (h : f_X8_both rec p1 σ = some res) : Fm RgM σ res.2 := by
  obtain ⟨r0, σ2⟩ := res
  show Fm RgM σ σ2
  unfold f_X8_both at h
  refine bnd_case h (fun a1 ea1 h => ?_)
  refine r_esac h (fun _ h => ?_) (fun _ h => ?_)
  · refine Fm.trans (Fm.trans Fm.rf (hrec _ _ _ _ ea1)) (lf_X8_both_10 hrec (fun σ_1 h => ?_) _ _ h)
    rw [fin_w h]
    exact Fm.rf
  · skip
    rw [fin_w h]
    exact (Fm.trans Fm.rf (hrec _ _ _ _ ea1))
set_option maxRecDepth 100000 in
theorem lf_X8_either_10 {rec : Nat → Int32 → Mem → Option (Int32 × Mem)} {p1 : Int32}   {r0 : Int32} {σ2 : Mem} {k : Mem → Option (Int32 × Mem)} (hrec : ∀ t p1 σ a, rec t p1 σ = some a → Fm RgM σ a.2) (hk : ∀ (σ1 : Mem), k  σ1 = some (r0, σ2) → Fm RgM σ1 σ2) : ∀ (n : Nat) (σ : Mem), f_X8_either_10 rec p1 n  σ k = some (r0, σ2) → Fm RgM σ σ2 := by
  intro n
  induction n with
  | zero =>
    intro σ h
    cases h
  | succ n ih =>
    intro σ h
    rw [f_X8_either_10.eq_2] at h
    refine bnd_case h (fun a1 ea1 h => ?_)
    refine r_case h (fun _ h => ?_) (fun _ h => ?_)
    · skip
      exact Fm.trans Fm.rf (hk _ h)
    · skip
      refine bnd_case h (fun a2 ea2 h => ?_)
      refine bnd_case h (fun a3 ea3 h => ?_)
      refine r_esac h (fun _ h => ?_) (fun _ h => ?_)
      · skip
        refine bnd_case h (fun a4 ea4 h => ?_)
        exact Fm.trans (Fm.trans (Fm.trans (Fm.trans Fm.rf (fr_X8_nextToken ea2)) (hrec _ _ _ _ ea3)) (fr_X8_step ea4)) (ih _ h)
      · skip
        rw [fin_w h]
        exact (Fm.trans (Fm.trans Fm.rf (fr_X8_nextToken ea2)) (hrec _ _ _ _ ea3))
set_option maxRecDepth 100000 in
theorem fr_X8_either {rec : Nat → Int32 → Mem → Option (Int32 × Mem)} {p1 : Int32} {σ : Mem} {res : (Int32 × Mem)} (hrec : ∀ t p1 σ a, rec t p1 σ = some a → Fm RgM σ a.2) (h : f_X8_either rec p1 σ = some res) : Fm RgM σ res.2 := by
  obtain ⟨r0, σ2⟩ := res
  show Fm RgM σ σ2
  unfold f_X8_either at h
  refine bnd_case h (fun a1 ea1 h => ?_)
  refine r_esac h (fun _ h => ?_) (fun _ h => ?_)
  · refine Fm.trans (Fm.trans Fm.rf (hrec _ _ _ _ ea1)) (lf_X8_either_10 hrec (fun σ_1 h => ?_) _ _ h)
    rw [fin_w h]
    exact Fm.rf
  · skip
    rw [fin_w h]
    exact (Fm.trans Fm.rf (hrec _ _ _ _ ea1))
theorem fr_S_m : ∀ (n t : Nat) (k : Int32) (σ : Mem) (a : Int32 × Mem), S_m n t k σ = some a → Fm RgM σ a.2 := by
  intro n
  induction n with
  | zero => intro t k σ a h; cases h
  | succ n ih =>
    intro t k σ a h
    match t, h with
    | 0, h => exact fr_X8_either ih h
    | 1, h => exact fr_X8_both ih h
    | 2, h => exact fr_X8_test ih h
    | 3, h => exact fr_X8_sum ih h
    | 4, h => exact fr_X8_term ih h
    | t + 5, h => exact fr_X8_part0 ih h
set_option maxRecDepth 100000 in
theorem fr_X8_parse  {σ : Mem} {res : (Int32 × Mem)}  (h : f_X8_parse σ = some res) : Fm RgM σ res.2 := by
  obtain ⟨r0, σ2⟩ := res
  show Fm RgM σ σ2
  unfold f_X8_parse at h
  refine bnd_case h (fun s1 es1 h => ?_)
  cases es1
  refine bnd_case h (fun j1 _ h => ?_)
  refine r_case h (fun _ h => ?_) (fun _ h => ?_)
  · skip
    refine bnd_case h (fun a1 ea1 h => ?_)
    refine bnd_case h (fun a2 ea2 h => ?_)
    refine r_case h (fun _ h => ?_) (fun _ h => ?_)
    · skip
      rw [fin_w h]
      exact (Fm.put (Fm.trans (Fm.put (Fm.put (Fm.put (Fm.put (Fm.put (Fm.put (Fm.put Fm.rf (by unfold RgM; omega)) (by unfold RgM; omega)) (by unfold RgM; omega)) (by unfold RgM; omega)) (by unfold RgM; omega)) (by unfold RgM; omega)) (by unfold RgM; omega)) (fr_X8_nextToken ea1)) (by unfold RgM; omega))
    · skip
      refine bnd_case h (fun a3 ea3 h => ?_)
      refine bnd_case h (fun a4 ea4 h => ?_)
      refine r_case h (fun _ h => ?_) (fun _ h => ?_)
      · skip
        rw [fin_w h]
        exact (Fm.put (Fm.trans (Fm.trans (Fm.trans (Fm.put (Fm.put (Fm.put (Fm.put (Fm.put (Fm.put (Fm.put Fm.rf (by unfold RgM; omega)) (by unfold RgM; omega)) (by unfold RgM; omega)) (by unfold RgM; omega)) (by unfold RgM; omega)) (by unfold RgM; omega)) (by unfold RgM; omega)) (fr_X8_nextToken ea1)) (fr_X8_nextToken ea3)) (fr_S_m _ _ _ _ _ ea4)) (by unfold RgM; omega))
      · skip
        refine r_esac h (fun _ h => ?_) (fun _ h => ?_)
        · skip
          rw [fin_w h]
          exact (Fm.put (Fm.trans (Fm.trans (Fm.trans (Fm.put (Fm.put (Fm.put (Fm.put (Fm.put (Fm.put (Fm.put Fm.rf (by unfold RgM; omega)) (by unfold RgM; omega)) (by unfold RgM; omega)) (by unfold RgM; omega)) (by unfold RgM; omega)) (by unfold RgM; omega)) (by unfold RgM; omega)) (fr_X8_nextToken ea1)) (fr_X8_nextToken ea3)) (fr_S_m _ _ _ _ _ ea4)) (by unfold RgM; omega))
        · skip
          rw [fin_w h]
          exact (Fm.put (Fm.trans (Fm.trans (Fm.trans (Fm.put (Fm.put (Fm.put (Fm.put (Fm.put (Fm.put (Fm.put Fm.rf (by unfold RgM; omega)) (by unfold RgM; omega)) (by unfold RgM; omega)) (by unfold RgM; omega)) (by unfold RgM; omega)) (by unfold RgM; omega)) (by unfold RgM; omega)) (fr_X8_nextToken ea1)) (fr_X8_nextToken ea3)) (fr_S_m _ _ _ _ _ ea4)) (by unfold RgM; omega))
  · skip
    refine bnd_case h (fun j2 _ h => ?_)
    refine bnd_case h (fun a5 ea5 h => ?_)
    refine bnd_case h (fun a6 ea6 h => ?_)
    refine bnd_case h (fun a7 ea7 h => ?_)
    refine r_case h (fun _ h => ?_) (fun _ h => ?_)
    · skip
      rw [fin_w h]
      exact (Fm.put (Fm.trans (Fm.put (Fm.put (Fm.put (Fm.put (Fm.put (Fm.put (Fm.put Fm.rf (by unfold RgM; omega)) (by unfold RgM; omega)) (by unfold RgM; omega)) (by unfold RgM; omega)) (by unfold RgM; omega)) (by unfold RgM; omega)) (by unfold RgM; omega)) (fr_X8_nextToken ea6)) (by unfold RgM; omega))
    · skip
      refine bnd_case h (fun a8 ea8 h => ?_)
      refine bnd_case h (fun a9 ea9 h => ?_)
      refine r_case h (fun _ h => ?_) (fun _ h => ?_)
      · skip
        rw [fin_w h]
        exact (Fm.put (Fm.trans (Fm.trans (Fm.trans (Fm.put (Fm.put (Fm.put (Fm.put (Fm.put (Fm.put (Fm.put Fm.rf (by unfold RgM; omega)) (by unfold RgM; omega)) (by unfold RgM; omega)) (by unfold RgM; omega)) (by unfold RgM; omega)) (by unfold RgM; omega)) (by unfold RgM; omega)) (fr_X8_nextToken ea6)) (fr_X8_nextToken ea8)) (fr_S_m _ _ _ _ _ ea9)) (by unfold RgM; omega))
      · skip
        refine r_esac h (fun _ h => ?_) (fun _ h => ?_)
        · skip
          rw [fin_w h]
          exact (Fm.put (Fm.trans (Fm.trans (Fm.trans (Fm.put (Fm.put (Fm.put (Fm.put (Fm.put (Fm.put (Fm.put Fm.rf (by unfold RgM; omega)) (by unfold RgM; omega)) (by unfold RgM; omega)) (by unfold RgM; omega)) (by unfold RgM; omega)) (by unfold RgM; omega)) (by unfold RgM; omega)) (fr_X8_nextToken ea6)) (fr_X8_nextToken ea8)) (fr_S_m _ _ _ _ _ ea9)) (by unfold RgM; omega))
        · skip
          rw [fin_w h]
          exact (Fm.put (Fm.trans (Fm.trans (Fm.trans (Fm.put (Fm.put (Fm.put (Fm.put (Fm.put (Fm.put (Fm.put Fm.rf (by unfold RgM; omega)) (by unfold RgM; omega)) (by unfold RgM; omega)) (by unfold RgM; omega)) (by unfold RgM; omega)) (by unfold RgM; omega)) (by unfold RgM; omega)) (fr_X8_nextToken ea6)) (fr_X8_nextToken ea8)) (fr_S_m _ _ _ _ _ ea9)) (by unfold RgM; omega))
set_option maxRecDepth 100000 in
theorem fr_X8_text  {σ : Mem} {res : (Int32 × Mem)}  (h : f_X8_text σ = some res) : Fm RgM σ res.2 := by
  obtain ⟨r0, σ2⟩ := res
  show Fm RgM σ σ2
  unfold f_X8_text at h
  refine bnd_case h (fun a1 ea1 h => ?_)
  refine r_case h (fun _ h => ?_) (fun _ h => ?_)
  · skip
    refine bnd_case h (fun j1 _ h => ?_)
    refine r_esac h (fun _ h => ?_) (fun _ h => ?_)
    · skip
      refine bnd_case h (fun j2 _ h => ?_)
      refine bnd_case h (fun a2 ea2 h => ?_)
      refine bnd_case h (fun j3 _ h => ?_)
      refine bnd_case h (fun j4 _ h => ?_)
      refine bnd_case h (fun j5 _ h => ?_)
      refine bnd_case h (fun s1 es1 h => ?_)
      cases es1
      refine bnd_case h (fun j6 _ h => ?_)
      refine bnd_case h (fun j7 _ h => ?_)
      refine bnd_case h (fun j8 _ h => ?_)
      rw [fin_w h]
      exact (Fm.put (Fm.put (Fm.put (Fm.put (Fm.trans Fm.rf (fr_X8_parse ea1)) (by unfold RgM; omega)) (by unfold RgM; omega)) (by unfold RgM; omega)) (by unfold RgM; omega))
    · skip
      rw [fin_w h]
      exact (Fm.trans Fm.rf (fr_X8_parse ea1))
  · skip
    rw [fin_w h]
    exact (Fm.trans Fm.rf (fr_X8_parse ea1))
