set_option maxRecDepth 100000 in
theorem fr_X8_becomes {p1 : Int32} {p2 : Int32} {σ : Mem} {res : (Int32 × Mem)}  (h : f_X8_becomes p1 p2 σ = some res) : Fm RgM σ res.2 := by
  obtain ⟨r0, σ2⟩ := res
  unfold f_X8_becomes at h
  repeat' first
    | refine r_case h (fun _ h => ?_) (fun _ h => ?_)
    | (refine bnd_case h (fun a e h => ?_); first | skip)
    | exact Fm.rf
    | refine Fm.put ?_ (by unfold RgM; omega)
    | refine Fm.cpy ?_ (by unfold RgM; omega)
    | refine Fm.trans ?_ (by assumption)
    | (cases h; done)
    | cases h
set_option maxRecDepth 100000 in
theorem fr_X8_sets {p1 : Int32} {p2 : Int32} {p3 : Int32} {σ : Mem} {res : Mem}  (h : f_X8_sets p1 p2 p3 σ = some res) : Fm RgM σ res := by
  unfold f_X8_sets at h
  repeat' first
    | refine r_case h (fun _ h => ?_) (fun _ h => ?_)
    | (refine bnd_case h (fun a e h => ?_); first | skip)
    | exact Fm.rf
    | refine Fm.put ?_ (by unfold RgM; omega)
    | refine Fm.cpy ?_ (by unfold RgM; omega)
    | refine Fm.trans ?_ (by assumption)
    | (cases h; done)
    | cases h
set_option maxRecDepth 100000 in
theorem fr_X8_drawn  {σ : Mem} {res : (Int32 × Mem)}  (h : f_X8_drawn σ = some res) : Fm RgM σ res.2 := by
  obtain ⟨r0, σ2⟩ := res
  unfold f_X8_drawn at h
  repeat' first
    | refine r_case h (fun _ h => ?_) (fun _ h => ?_)
    | (refine bnd_case h (fun a e h => ?_); first | skip)
    | exact Fm.rf
    | refine Fm.put ?_ (by unfold RgM; omega)
    | refine Fm.cpy ?_ (by unfold RgM; omega)
    | refine Fm.trans ?_ (by assumption)
    | (cases h; done)
    | cases h
set_option maxRecDepth 100000 in
theorem fr_X8_comes {p1 : Int32} {p2 : Int32} {p3 : Int32} {σ : Mem} {res : Mem}  (h : f_X8_comes p1 p2 p3 σ = some res) : Fm RgM σ res := by
  unfold f_X8_comes at h
  repeat' first
    | refine r_case h (fun _ h => ?_) (fun _ h => ?_)
    | (refine bnd_case h (fun a e h => ?_); first | (have fe := fr_X8_sets e) | skip)
    | exact Fm.rf
    | refine Fm.put ?_ (by unfold RgM; omega)
    | refine Fm.cpy ?_ (by unfold RgM; omega)
    | refine Fm.trans ?_ (by assumption)
    | (cases h; done)
    | cases h
set_option maxRecDepth 100000 in
theorem fr_X8_person {p1 : Int32} {p2 : Int32} {p3 : Int32} {σ : Mem} {res : (Int32 × Mem)}  (h : f_X8_person p1 p2 p3 σ = some res) : Fm RgM σ res.2 := by
  obtain ⟨r0, σ2⟩ := res
  unfold f_X8_person at h
  repeat' first
    | refine r_case h (fun _ h => ?_) (fun _ h => ?_)
    | (refine bnd_case h (fun a e h => ?_); first | (have fe := fr_X8_comes e) | skip)
    | exact Fm.rf
    | refine Fm.put ?_ (by unfold RgM; omega)
    | refine Fm.cpy ?_ (by unfold RgM; omega)
    | refine Fm.trans ?_ (by assumption)
    | (cases h; done)
    | cases h
set_option maxRecDepth 100000 in
theorem lf_X8_worked_4 {p1 : Int32}   {r0 : Int32} {σ2 : Mem} {k : Mem → Option (Int32 × Mem)}  (hk : ∀ (σ1 : Mem), k  σ1 = some (r0, σ2) → Fm RgM σ1 σ2) : ∀ (n : Nat) (v2 : Int32) (v3 : Int32) (σ : Mem), f_X8_worked_4 p1 n v2 v3 σ k = some (r0, σ2) → Fm RgM σ σ2 := by
  intro n
  induction n with
  | zero =>
    intro v2 v3 σ h
    cases h
  | succ n ih =>
    intro v2 v3 σ h
    rw [f_X8_worked_4.eq_2] at h
    repeat' first
      | refine Fm.trans ?_ (ih _ _ _ h)
      | refine Fm.trans ?_ (hk _ h)
      | refine r_case h (fun _ h => ?_) (fun _ h => ?_)
      | (refine bnd_case h (fun a e h => ?_); first | skip)
      | exact Fm.rf
      | refine Fm.put ?_ (by unfold RgM; omega)
      | refine Fm.cpy ?_ (by unfold RgM; omega)
      | refine Fm.trans ?_ (by assumption)
      | (cases h; done)
      | cases h
set_option maxRecDepth 100000 in
theorem fr_X8_worked {p1 : Int32} {σ : Mem} {res : (Int32 × Mem)}  (h : f_X8_worked p1 σ = some res) : Fm RgM σ res.2 := by
  obtain ⟨r0, σ2⟩ := res
  unfold f_X8_worked at h
  repeat' first
    | refine Fm.trans ?_ (lf_X8_worked_4 (fun σ1 h => ?_) _ _ _ _ h)
    | refine r_case h (fun _ h => ?_) (fun _ h => ?_)
    | (refine bnd_case h (fun a e h => ?_); first | skip)
    | exact Fm.rf
    | refine Fm.put ?_ (by unfold RgM; omega)
    | refine Fm.cpy ?_ (by unfold RgM; omega)
    | refine Fm.trans ?_ (by assumption)
    | (cases h; done)
    | cases h
set_option maxRecDepth 100000 in
theorem fr_X8_keeps {p1 : Int32} {σ : Mem} {res : (Int32 × Mem)}  (h : f_X8_keeps p1 σ = some res) : Fm RgM σ res.2 := by
  obtain ⟨r0, σ2⟩ := res
  unfold f_X8_keeps at h
  repeat' first
    | refine r_case h (fun _ h => ?_) (fun _ h => ?_)
    | (refine bnd_case h (fun a e h => ?_); first | (have fe := fr_X8_worked e) | skip)
    | exact Fm.rf
    | refine Fm.put ?_ (by unfold RgM; omega)
    | refine Fm.cpy ?_ (by unfold RgM; omega)
    | refine Fm.trans ?_ (by assumption)
    | (cases h; done)
    | cases h
set_option maxRecDepth 100000 in
theorem fr_X8_turns {p1 : Int32} {p2 : Int32} {σ : Mem} {res : (Int32 × Mem)}  (h : f_X8_turns p1 p2 σ = some res) : Fm RgM σ res.2 := by
  obtain ⟨r0, σ2⟩ := res
  unfold f_X8_turns at h
  repeat' first
    | refine r_case h (fun _ h => ?_) (fun _ h => ?_)
    | (refine bnd_case h (fun a e h => ?_); first | (have fe := fr_X8_becomes e) | skip)
    | exact Fm.rf
    | refine Fm.put ?_ (by unfold RgM; omega)
    | refine Fm.cpy ?_ (by unfold RgM; omega)
    | refine Fm.trans ?_ (by assumption)
    | (cases h; done)
    | cases h
set_option maxRecDepth 100000 in
theorem fr_X8_set {p1 : Int32} {p2 : Int32} {p3 : Int32} {σ : Mem} {res : (Int32 × Mem)}  (h : f_X8_set p1 p2 p3 σ = some res) : Fm RgM σ res.2 := by
  obtain ⟨r0, σ2⟩ := res
  unfold f_X8_set at h
  repeat' first
    | refine r_case h (fun _ h => ?_) (fun _ h => ?_)
    | (refine bnd_case h (fun a e h => ?_); first | (have fe := fr_X8_becomes e) | skip)
    | exact Fm.rf
    | refine Fm.put ?_ (by unfold RgM; omega)
    | refine Fm.cpy ?_ (by unfold RgM; omega)
    | refine Fm.trans ?_ (by assumption)
    | (cases h; done)
    | cases h
set_option maxRecDepth 100000 in
theorem fr_X8_gives {p1 : Int32} {p2 : Int32} {p3 : Int32} {σ : Mem} {res : Mem}  (h : f_X8_gives p1 p2 p3 σ = some res) : Fm RgM σ res := by
  unfold f_X8_gives at h
  repeat' first
    | refine r_case h (fun _ h => ?_) (fun _ h => ?_)
    | (refine bnd_case h (fun a e h => ?_); first | skip)
    | exact Fm.rf
    | refine Fm.put ?_ (by unfold RgM; omega)
    | refine Fm.cpy ?_ (by unfold RgM; omega)
    | refine Fm.trans ?_ (by assumption)
    | (cases h; done)
    | cases h
set_option maxRecDepth 100000 in
theorem lf_X8_goes_21 {p2 : Int32}  {σ2 : Mem} {k : Mem → Option Mem}  (hk : ∀ (σ1 : Mem), k  σ1 = some σ2 → Fm RgM σ1 σ2) : ∀ (n : Nat) (v3 : Int32) (σ : Mem), f_X8_goes_21 p2 n v3 σ k = some σ2 → Fm RgM σ σ2 := by
  intro n
  induction n with
  | zero =>
    intro v3 σ h
    cases h
  | succ n ih =>
    intro v3 σ h
    rw [f_X8_goes_21.eq_2] at h
    repeat' first
      | refine Fm.trans ?_ (ih _ _ h)
      | refine Fm.trans ?_ (hk _ h)
      | refine r_case h (fun _ h => ?_) (fun _ h => ?_)
      | (refine bnd_case h (fun a e h => ?_); first | skip)
      | exact Fm.rf
      | refine Fm.put ?_ (by unfold RgM; omega)
      | refine Fm.cpy ?_ (by unfold RgM; omega)
      | refine Fm.trans ?_ (by assumption)
      | (cases h; done)
      | cases h
set_option maxRecDepth 100000 in
theorem fr_X8_goes {p1 : Int32} {σ : Mem} {res : Mem}  (h : f_X8_goes p1 σ = some res) : Fm RgM σ res := by
  unfold f_X8_goes at h
  repeat' first
    | refine Fm.trans ?_ (lf_X8_goes_21 (fun σ1 h => ?_) _ _ _ h)
    | refine r_case h (fun _ h => ?_) (fun _ h => ?_)
    | (refine bnd_case h (fun a e h => ?_); first | skip)
    | exact Fm.rf
    | refine Fm.put ?_ (by unfold RgM; omega)
    | refine Fm.cpy ?_ (by unfold RgM; omega)
    | refine Fm.trans ?_ (by assumption)
    | (cases h; done)
    | cases h
set_option maxRecDepth 100000 in
theorem lf_X8_strikes_16 {p1 : Int32}  {σ2 : Mem} {k : Mem → Option Mem}  (hk : ∀ (σ1 : Mem), k  σ1 = some σ2 → Fm RgM σ1 σ2) : ∀ (n : Nat) (v2 : Int32) (σ : Mem), f_X8_strikes_16 p1 n v2 σ k = some σ2 → Fm RgM σ σ2 := by
  intro n
  induction n with
  | zero =>
    intro v2 σ h
    cases h
  | succ n ih =>
    intro v2 σ h
    rw [f_X8_strikes_16.eq_2] at h
    repeat' first
      | refine Fm.trans ?_ (ih _ _ h)
      | refine Fm.trans ?_ (hk _ h)
      | refine r_case h (fun _ h => ?_) (fun _ h => ?_)
      | (refine bnd_case h (fun a e h => ?_); first | (have fe := fr_X8_sets e) | (have fe := fr_X8_goes e) | skip)
      | exact Fm.rf
      | refine Fm.put ?_ (by unfold RgM; omega)
      | refine Fm.cpy ?_ (by unfold RgM; omega)
      | refine Fm.trans ?_ (by assumption)
      | (cases h; done)
      | cases h
set_option maxRecDepth 100000 in
theorem fr_X8_strikes {p1 : Int32} {σ : Mem} {res : Mem}  (h : f_X8_strikes p1 σ = some res) : Fm RgM σ res := by
  unfold f_X8_strikes at h
  repeat' first
    | refine Fm.trans ?_ (lf_X8_strikes_16 (fun σ1 h => ?_) _ _ _ h)
    | refine r_case h (fun _ h => ?_) (fun _ h => ?_)
    | (refine bnd_case h (fun a e h => ?_); first | (have fe := fr_X8_sets e) | (have fe := fr_X8_goes e) | skip)
    | exact Fm.rf
    | refine Fm.put ?_ (by unfold RgM; omega)
    | refine Fm.cpy ?_ (by unfold RgM; omega)
    | refine Fm.trans ?_ (by assumption)
    | (cases h; done)
    | cases h
set_option maxRecDepth 100000 in
theorem fr_X8_vow {p1 : Int32} {p2 : Int32} {p3 : Int32} {σ : Mem} {res : (Int32 × Mem)}  (h : f_X8_vow p1 p2 p3 σ = some res) : Fm RgM σ res.2 := by
  obtain ⟨r0, σ2⟩ := res
  unfold f_X8_vow at h
  repeat' first
    | refine r_case h (fun _ h => ?_) (fun _ h => ?_)
    | (refine bnd_case h (fun a e h => ?_); first | (have fe := fr_X8_strikes e) | (have fe := fr_X8_gives e) | (have fe := fr_X8_sets e) | skip)
    | exact Fm.rf
    | refine Fm.put ?_ (by unfold RgM; omega)
    | refine Fm.cpy ?_ (by unfold RgM; omega)
    | refine Fm.trans ?_ (by assumption)
    | (cases h; done)
    | cases h
set_option maxRecDepth 100000 in
theorem fr_X8_vowOf {p1 : Int32} {p2 : Int32} {σ : Mem} {res : (Int32 × Mem)}  (h : f_X8_vowOf p1 p2 σ = some res) : Fm RgM σ res.2 := by
  obtain ⟨r0, σ2⟩ := res
  unfold f_X8_vowOf at h
  repeat' first
    | refine r_case h (fun _ h => ?_) (fun _ h => ?_)
    | (refine bnd_case h (fun a e h => ?_); first | (have fe := fr_X8_keeps e) | skip)
    | exact Fm.rf
    | refine Fm.put ?_ (by unfold RgM; omega)
    | refine Fm.cpy ?_ (by unfold RgM; omega)
    | refine Fm.trans ?_ (by assumption)
    | (cases h; done)
    | cases h
set_option maxRecDepth 100000 in
theorem fr_X8_breaks {p1 : Int32} {σ : Mem} {res : (Int32 × Mem)}  (h : f_X8_breaks p1 σ = some res) : Fm RgM σ res.2 := by
  obtain ⟨r0, σ2⟩ := res
  unfold f_X8_breaks at h
  repeat' first
    | refine r_case h (fun _ h => ?_) (fun _ h => ?_)
    | (refine bnd_case h (fun a e h => ?_); first | (have fe := fr_X8_goes e) | skip)
    | exact Fm.rf
    | refine Fm.put ?_ (by unfold RgM; omega)
    | refine Fm.cpy ?_ (by unfold RgM; omega)
    | refine Fm.trans ?_ (by assumption)
    | (cases h; done)
    | cases h
set_option maxRecDepth 100000 in
theorem fr_X8_eclipse  {σ : Mem} {res : (Int32 × Mem)}  (h : f_X8_eclipse σ = some res) : Fm RgM σ res.2 := by
  obtain ⟨r0, σ2⟩ := res
  unfold f_X8_eclipse at h
  repeat' first
    | refine r_case h (fun _ h => ?_) (fun _ h => ?_)
    | (refine bnd_case h (fun a e h => ?_); first | skip)
    | exact Fm.rf
    | refine Fm.put ?_ (by unfold RgM; omega)
    | refine Fm.cpy ?_ (by unfold RgM; omega)
    | refine Fm.trans ?_ (by assumption)
    | (cases h; done)
    | cases h
set_option maxRecDepth 100000 in
theorem lf_X8_deal_17 {p1 : Int32}   {r0 : Int32} {σ2 : Mem} {k : Int32 → Mem → Option (Int32 × Mem)}  (hk : ∀ (x2 : Int32) (σ1 : Mem), k x2 σ1 = some (r0, σ2) → Fm RgM σ1 σ2) : ∀ (n : Nat) (v2 : Int32) (σ : Mem), f_X8_deal_17 p1 n v2 σ k = some (r0, σ2) → Fm RgM σ σ2 := by
  intro n
  induction n with
  | zero =>
    intro v2 σ h
    cases h
  | succ n ih =>
    intro v2 σ h
    rw [f_X8_deal_17.eq_2] at h
    repeat' first
      | refine Fm.trans ?_ (ih _ _ h)
      | refine Fm.trans ?_ (hk _ _ h)
      | refine r_case h (fun _ h => ?_) (fun _ h => ?_)
      | (refine bnd_case h (fun a e h => ?_); first | (have fe := fr_X8_drawn e) | (have fe := fr_X8_comes e) | skip)
      | exact Fm.rf
      | refine Fm.put ?_ (by unfold RgM; omega)
      | refine Fm.cpy ?_ (by unfold RgM; omega)
      | refine Fm.trans ?_ (by assumption)
      | (cases h; done)
      | cases h
set_option maxRecDepth 100000 in
theorem fr_X8_deal {p1 : Int32} {σ : Mem} {res : (Int32 × Mem)}  (h : f_X8_deal p1 σ = some res) : Fm RgM σ res.2 := by
  obtain ⟨r0, σ2⟩ := res
  unfold f_X8_deal at h
  repeat' first
    | refine Fm.trans ?_ (lf_X8_deal_17 (fun x2 σ1 h => ?_) _ _ _ h)
    | refine r_case h (fun _ h => ?_) (fun _ h => ?_)
    | (refine bnd_case h (fun a e h => ?_); first | (have fe := fr_X8_drawn e) | (have fe := fr_X8_comes e) | skip)
    | exact Fm.rf
    | refine Fm.put ?_ (by unfold RgM; omega)
    | refine Fm.cpy ?_ (by unfold RgM; omega)
    | refine Fm.trans ?_ (by assumption)
    | (cases h; done)
    | cases h
set_option maxRecDepth 100000 in
theorem fr_X8_seed {p1 : Int32} {σ : Mem} {res : (Int32 × Mem)}  (h : f_X8_seed p1 σ = some res) : Fm RgM σ res.2 := by
  obtain ⟨r0, σ2⟩ := res
  unfold f_X8_seed at h
  repeat' first
    | refine r_case h (fun _ h => ?_) (fun _ h => ?_)
    | (refine bnd_case h (fun a e h => ?_); first | (have fe := fr_X8_becomes e) | skip)
    | exact Fm.rf
    | refine Fm.put ?_ (by unfold RgM; omega)
    | refine Fm.cpy ?_ (by unfold RgM; omega)
    | refine Fm.trans ?_ (by assumption)
    | (cases h; done)
    | cases h
set_option maxRecDepth 100000 in
theorem fr_X8_earns {p1 : Int32} {p2 : Int32} {σ : Mem} {res : Mem}  (h : f_X8_earns p1 p2 σ = some res) : Fm RgM σ res := by
  unfold f_X8_earns at h
  repeat' first
    | refine r_case h (fun _ h => ?_) (fun _ h => ?_)
    | (refine bnd_case h (fun a e h => ?_); first | (have fe := fr_X8_sets e) | skip)
    | exact Fm.rf
    | refine Fm.put ?_ (by unfold RgM; omega)
    | refine Fm.cpy ?_ (by unfold RgM; omega)
    | refine Fm.trans ?_ (by assumption)
    | (cases h; done)
    | cases h
set_option maxRecDepth 100000 in
theorem lf_X8_goesOn_12   {σ2 : Mem} {k : Mem → Option Mem}  (hk : ∀ (σ1 : Mem), k  σ1 = some σ2 → Fm RgM σ1 σ2) : ∀ (n : Nat) (v1 : Int32) (σ : Mem), f_X8_goesOn_12  n v1 σ k = some σ2 → Fm RgM σ σ2 := by
  intro n
  induction n with
  | zero =>
    intro v1 σ h
    cases h
  | succ n ih =>
    intro v1 σ h
    rw [f_X8_goesOn_12.eq_2] at h
    repeat' first
      | refine Fm.trans ?_ (ih _ _ h)
      | refine Fm.trans ?_ (hk _ h)
      | refine r_case h (fun _ h => ?_) (fun _ h => ?_)
      | (refine bnd_case h (fun a e h => ?_); first | (have fe := fr_X8_drawn e) | (have fe := fr_X8_keeps e) | (have fe := fr_X8_goes e) | (have fe := fr_X8_earns e) | skip)
      | exact Fm.rf
      | refine Fm.put ?_ (by unfold RgM; omega)
      | refine Fm.cpy ?_ (by unfold RgM; omega)
      | refine Fm.trans ?_ (by assumption)
      | (cases h; done)
      | cases h
set_option maxRecDepth 100000 in
theorem lf_X8_goesOn_103   {σ2 : Mem} {k : Mem → Option Mem}  (hk : ∀ (σ1 : Mem), k  σ1 = some σ2 → Fm RgM σ1 σ2) : ∀ (n : Nat) (v1 : Int32) (σ : Mem), f_X8_goesOn_103  n v1 σ k = some σ2 → Fm RgM σ σ2 := by
  intro n
  induction n with
  | zero =>
    intro v1 σ h
    cases h
  | succ n ih =>
    intro v1 σ h
    rw [f_X8_goesOn_103.eq_2] at h
    repeat' first
      | refine Fm.trans ?_ (lf_X8_goesOn_12 (fun σ1 h => ?_) _ _ _ h)
      | refine Fm.trans ?_ (ih _ _ h)
      | refine Fm.trans ?_ (hk _ h)
      | refine r_case h (fun _ h => ?_) (fun _ h => ?_)
      | (refine bnd_case h (fun a e h => ?_); first | (have fe := fr_X8_drawn e) | (have fe := fr_X8_keeps e) | (have fe := fr_X8_goes e) | (have fe := fr_X8_earns e) | skip)
      | exact Fm.rf
      | refine Fm.put ?_ (by unfold RgM; omega)
      | refine Fm.cpy ?_ (by unfold RgM; omega)
      | refine Fm.trans ?_ (by assumption)
      | (cases h; done)
      | cases h
set_option maxRecDepth 100000 in
theorem fr_X8_goesOn  {σ : Mem} {res : Mem}  (h : f_X8_goesOn σ = some res) : Fm RgM σ res := by
  unfold f_X8_goesOn at h
  repeat' first
    | refine Fm.trans ?_ (lf_X8_goesOn_12 (fun σ1 h => ?_) _ _ _ h)
    | refine Fm.trans ?_ (lf_X8_goesOn_103 (fun σ1 h => ?_) _ _ _ h)
    | refine r_case h (fun _ h => ?_) (fun _ h => ?_)
    | (refine bnd_case h (fun a e h => ?_); first | (have fe := fr_X8_drawn e) | (have fe := fr_X8_keeps e) | (have fe := fr_X8_goes e) | (have fe := fr_X8_earns e) | skip)
    | exact Fm.rf
    | refine Fm.put ?_ (by unfold RgM; omega)
    | refine Fm.cpy ?_ (by unfold RgM; omega)
    | refine Fm.trans ?_ (by assumption)
    | (cases h; done)
    | cases h
set_option maxRecDepth 100000 in
theorem lf_X8_goesOnMany_2 {p1 : Int32}  {σ2 : Mem} {k : Mem → Option Mem}  (hk : ∀ (σ1 : Mem), k  σ1 = some σ2 → Fm RgM σ1 σ2) : ∀ (n : Nat) (v2 : Int32) (σ : Mem), f_X8_goesOnMany_2 p1 n v2 σ k = some σ2 → Fm RgM σ σ2 := by
  intro n
  induction n with
  | zero =>
    intro v2 σ h
    cases h
  | succ n ih =>
    intro v2 σ h
    rw [f_X8_goesOnMany_2.eq_2] at h
    repeat' first
      | refine Fm.trans ?_ (ih _ _ h)
      | refine Fm.trans ?_ (hk _ h)
      | refine r_case h (fun _ h => ?_) (fun _ h => ?_)
      | (refine bnd_case h (fun a e h => ?_); first | (have fe := fr_X8_goesOn e) | skip)
      | exact Fm.rf
      | refine Fm.put ?_ (by unfold RgM; omega)
      | refine Fm.cpy ?_ (by unfold RgM; omega)
      | refine Fm.trans ?_ (by assumption)
      | (cases h; done)
      | cases h
set_option maxRecDepth 100000 in
theorem fr_X8_goesOnMany {p1 : Int32} {σ : Mem} {res : Mem}  (h : f_X8_goesOnMany p1 σ = some res) : Fm RgM σ res := by
  unfold f_X8_goesOnMany at h
  repeat' first
    | refine Fm.trans ?_ (lf_X8_goesOnMany_2 (fun σ1 h => ?_) _ _ _ h)
    | refine r_case h (fun _ h => ?_) (fun _ h => ?_)
    | (refine bnd_case h (fun a e h => ?_); first | (have fe := fr_X8_goesOn e) | skip)
    | exact Fm.rf
    | refine Fm.put ?_ (by unfold RgM; omega)
    | refine Fm.cpy ?_ (by unfold RgM; omega)
    | refine Fm.trans ?_ (by assumption)
    | (cases h; done)
    | cases h
set_option maxRecDepth 100000 in
theorem lf_X8_hours_24 {p1 : Int32} {p2 : Int32}   {r0 : Int32} {σ2 : Mem} {k : Mem → Option (Int32 × Mem)}  (hk : ∀ (σ1 : Mem), k  σ1 = some (r0, σ2) → Fm RgM σ1 σ2) : ∀ (n : Nat) (v3 : Int32) (σ : Mem), f_X8_hours_24 p1 p2 n v3 σ k = some (r0, σ2) → Fm RgM σ σ2 := by
  intro n
  induction n with
  | zero =>
    intro v3 σ h
    cases h
  | succ n ih =>
    intro v3 σ h
    rw [f_X8_hours_24.eq_2] at h
    repeat' first
      | refine Fm.trans ?_ (ih _ _ h)
      | refine Fm.trans ?_ (hk _ h)
      | refine r_case h (fun _ h => ?_) (fun _ h => ?_)
      | (refine bnd_case h (fun a e h => ?_); first | (have fe := fr_X8_goesOn e) | skip)
      | exact Fm.rf
      | refine Fm.put ?_ (by unfold RgM; omega)
      | refine Fm.cpy ?_ (by unfold RgM; omega)
      | refine Fm.trans ?_ (by assumption)
      | (cases h; done)
      | cases h
set_option maxRecDepth 100000 in
theorem fr_X8_hours {p1 : Int32} {σ : Mem} {res : (Int32 × Mem)}  (h : f_X8_hours p1 σ = some res) : Fm RgM σ res.2 := by
  obtain ⟨r0, σ2⟩ := res
  unfold f_X8_hours at h
  repeat' first
    | refine Fm.trans ?_ (lf_X8_hours_24 (fun σ1 h => ?_) _ _ _ h)
    | refine r_case h (fun _ h => ?_) (fun _ h => ?_)
    | (refine bnd_case h (fun a e h => ?_); first | (have fe := fr_X8_goesOn e) | skip)
    | exact Fm.rf
    | refine Fm.put ?_ (by unfold RgM; omega)
    | refine Fm.cpy ?_ (by unfold RgM; omega)
    | refine Fm.trans ?_ (by assumption)
    | (cases h; done)
    | cases h
set_option maxRecDepth 100000 in
theorem lf_X8_findSworn_2   {σ2 : Mem} {k : Mem → Option Mem}  (hk : ∀ (σ1 : Mem), k  σ1 = some σ2 → Fm RgM σ1 σ2) : ∀ (n : Nat) (v1 : Int32) (σ : Mem), f_X8_findSworn_2  n v1 σ k = some σ2 → Fm RgM σ σ2 := by
  intro n
  induction n with
  | zero =>
    intro v1 σ h
    cases h
  | succ n ih =>
    intro v1 σ h
    rw [f_X8_findSworn_2.eq_2] at h
    repeat' first
      | refine Fm.trans ?_ (ih _ _ h)
      | refine Fm.trans ?_ (hk _ h)
      | refine r_case h (fun _ h => ?_) (fun _ h => ?_)
      | (refine bnd_case h (fun a e h => ?_); first | skip)
      | exact Fm.rf
      | refine Fm.put ?_ (by unfold RgM; omega)
      | refine Fm.cpy ?_ (by unfold RgM; omega)
      | refine Fm.trans ?_ (by assumption)
      | (cases h; done)
      | cases h
set_option maxRecDepth 100000 in
theorem lf_X8_findSworn_27   {σ2 : Mem} {k : Mem → Option Mem}  (hk : ∀ (σ1 : Mem), k  σ1 = some σ2 → Fm RgM σ1 σ2) : ∀ (n : Nat) (v1 : Int32) (σ : Mem), f_X8_findSworn_27  n v1 σ k = some σ2 → Fm RgM σ σ2 := by
  intro n
  induction n with
  | zero =>
    intro v1 σ h
    cases h
  | succ n ih =>
    intro v1 σ h
    rw [f_X8_findSworn_27.eq_2] at h
    repeat' first
      | refine Fm.trans ?_ (lf_X8_findSworn_2 (fun σ1 h => ?_) _ _ _ h)
      | refine Fm.trans ?_ (ih _ _ h)
      | refine Fm.trans ?_ (hk _ h)
      | refine r_case h (fun _ h => ?_) (fun _ h => ?_)
      | (refine bnd_case h (fun a e h => ?_); first | skip)
      | exact Fm.rf
      | refine Fm.put ?_ (by unfold RgM; omega)
      | refine Fm.cpy ?_ (by unfold RgM; omega)
      | refine Fm.trans ?_ (by assumption)
      | (cases h; done)
      | cases h
set_option maxRecDepth 100000 in
theorem fr_X8_findSworn  {σ : Mem} {res : Mem}  (h : f_X8_findSworn σ = some res) : Fm RgM σ res := by
  unfold f_X8_findSworn at h
  repeat' first
    | refine Fm.trans ?_ (lf_X8_findSworn_2 (fun σ1 h => ?_) _ _ _ h)
    | refine Fm.trans ?_ (lf_X8_findSworn_27 (fun σ1 h => ?_) _ _ _ h)
    | refine r_case h (fun _ h => ?_) (fun _ h => ?_)
    | (refine bnd_case h (fun a e h => ?_); first | skip)
    | exact Fm.rf
    | refine Fm.put ?_ (by unfold RgM; omega)
    | refine Fm.cpy ?_ (by unfold RgM; omega)
    | refine Fm.trans ?_ (by assumption)
    | (cases h; done)
    | cases h
set_option maxRecDepth 100000 in
theorem lf_X8_chain_15 {p1 : Int32}   {r0 : Int32} {σ2 : Mem} {k : Mem → Option (Int32 × Mem)}  (hk : ∀ (σ1 : Mem), k  σ1 = some (r0, σ2) → Fm RgM σ1 σ2) : ∀ (n : Nat) (v2 : Int32) (σ : Mem), f_X8_chain_15 p1 n v2 σ k = some (r0, σ2) → Fm RgM σ σ2 := by
  intro n
  induction n with
  | zero =>
    intro v2 σ h
    cases h
  | succ n ih =>
    intro v2 σ h
    rw [f_X8_chain_15.eq_2] at h
    repeat' first
      | refine Fm.trans ?_ (ih _ _ h)
      | refine Fm.trans ?_ (hk _ h)
      | refine r_case h (fun _ h => ?_) (fun _ h => ?_)
      | (refine bnd_case h (fun a e h => ?_); first | (have fe := fr_X8_findSworn e) | skip)
      | exact Fm.rf
      | refine Fm.put ?_ (by unfold RgM; omega)
      | refine Fm.cpy ?_ (by unfold RgM; omega)
      | refine Fm.trans ?_ (by assumption)
      | (cases h; done)
      | cases h
set_option maxRecDepth 100000 in
theorem lf_X8_chain_35 {p1 : Int32}   {r0 : Int32} {σ2 : Mem} {k : Mem → Option (Int32 × Mem)}  (hk : ∀ (σ1 : Mem), k  σ1 = some (r0, σ2) → Fm RgM σ1 σ2) : ∀ (n : Nat) (v2 : Int32) (σ : Mem), f_X8_chain_35 p1 n v2 σ k = some (r0, σ2) → Fm RgM σ σ2 := by
  intro n
  induction n with
  | zero =>
    intro v2 σ h
    cases h
  | succ n ih =>
    intro v2 σ h
    rw [f_X8_chain_35.eq_2] at h
    repeat' first
      | refine Fm.trans ?_ (lf_X8_chain_15 (fun σ1 h => ?_) _ _ _ h)
      | refine Fm.trans ?_ (ih _ _ h)
      | refine Fm.trans ?_ (hk _ h)
      | refine r_case h (fun _ h => ?_) (fun _ h => ?_)
      | (refine bnd_case h (fun a e h => ?_); first | (have fe := fr_X8_findSworn e) | skip)
      | exact Fm.rf
      | refine Fm.put ?_ (by unfold RgM; omega)
      | refine Fm.cpy ?_ (by unfold RgM; omega)
      | refine Fm.trans ?_ (by assumption)
      | (cases h; done)
      | cases h
set_option maxRecDepth 100000 in
theorem lf_X8_chain_77 {p1 : Int32} {p2 : Int32} {p3 : Int32} {σ : Mem}   {r0 : Int32} {σ2 : Mem} {k : Int32 → Option (Int32 × Mem)}  (hk : ∀ (x4 : Int32), k x4 = some (r0, σ2) → Fm RgM σ σ2) : ∀ (n : Nat) (v4 : Int32) (v5 : Int32), f_X8_chain_77 p1 p2 p3 σ n v4 v5 k = some (r0, σ2) → Fm RgM σ σ2 := by
  intro n
  induction n with
  | zero =>
    intro v4 v5 h
    cases h
  | succ n ih =>
    intro v4 v5 h
    rw [f_X8_chain_77.eq_2] at h
    repeat' first
      | refine Fm.trans ?_ (ih _ _ h)
      | refine Fm.trans ?_ (hk _ h)
      | refine r_case h (fun _ h => ?_) (fun _ h => ?_)
      | (refine bnd_case h (fun a e h => ?_); first | (have fe := fr_X8_findSworn e) | skip)
      | exact Fm.rf
      | refine Fm.put ?_ (by unfold RgM; omega)
      | refine Fm.cpy ?_ (by unfold RgM; omega)
      | refine Fm.trans ?_ (by assumption)
      | (cases h; done)
      | cases h
set_option maxRecDepth 100000 in
theorem lf_X8_chain_136 {p1 : Int32} {p2 : Int32} {p3 : Int32} {p4 : Int32}   {r0 : Int32} {σ2 : Mem} {k : Mem → Option (Int32 × Mem)}  (hk : ∀ (σ1 : Mem), k  σ1 = some (r0, σ2) → Fm RgM σ1 σ2) : ∀ (n : Nat) (v5 : Int32) (σ : Mem), f_X8_chain_136 p1 p2 p3 p4 n v5 σ k = some (r0, σ2) → Fm RgM σ σ2 := by
  intro n
  induction n with
  | zero =>
    intro v5 σ h
    cases h
  | succ n ih =>
    intro v5 σ h
    rw [f_X8_chain_136.eq_2] at h
    repeat' first
      | refine Fm.trans ?_ (lf_X8_chain_15 (fun σ1 h => ?_) _ _ _ h)
      | refine Fm.trans ?_ (lf_X8_chain_35 (fun σ1 h => ?_) _ _ _ h)
      | refine Fm.trans ?_ (lf_X8_chain_77 (fun x4 h => ?_) _ _ _ h)
      | refine Fm.trans ?_ (ih _ _ h)
      | refine Fm.trans ?_ (hk _ h)
      | refine r_case h (fun _ h => ?_) (fun _ h => ?_)
      | (refine bnd_case h (fun a e h => ?_); first | (have fe := fr_X8_findSworn e) | skip)
      | exact Fm.rf
      | refine Fm.put ?_ (by unfold RgM; omega)
      | refine Fm.cpy ?_ (by unfold RgM; omega)
      | refine Fm.trans ?_ (by assumption)
      | (cases h; done)
      | cases h
set_option maxRecDepth 100000 in
theorem lf_X8_chain_66 {p1 : Int32}   {r0 : Int32} {σ2 : Mem} {k : Int32 → Mem → Option (Int32 × Mem)}  (hk : ∀ (x2 : Int32) (σ1 : Mem), k x2 σ1 = some (r0, σ2) → Fm RgM σ1 σ2) : ∀ (n : Nat) (v2 : Int32) (v3 : Int32) (σ : Mem), f_X8_chain_66 p1 n v2 v3 σ k = some (r0, σ2) → Fm RgM σ σ2 := by
  intro n
  induction n with
  | zero =>
    intro v2 v3 σ h
    cases h
  | succ n ih =>
    intro v2 v3 σ h
    rw [f_X8_chain_66.eq_2] at h
    repeat' first
      | refine Fm.trans ?_ (lf_X8_chain_15 (fun σ1 h => ?_) _ _ _ h)
      | refine Fm.trans ?_ (lf_X8_chain_35 (fun σ1 h => ?_) _ _ _ h)
      | refine Fm.trans ?_ (lf_X8_chain_77 (fun x4 h => ?_) _ _ _ h)
      | refine Fm.trans ?_ (lf_X8_chain_136 (fun σ1 h => ?_) _ _ _ h)
      | refine Fm.trans ?_ (ih _ _ _ h)
      | refine Fm.trans ?_ (hk _ _ h)
      | refine r_case h (fun _ h => ?_) (fun _ h => ?_)
      | (refine bnd_case h (fun a e h => ?_); first | (have fe := fr_X8_findSworn e) | skip)
      | exact Fm.rf
      | refine Fm.put ?_ (by unfold RgM; omega)
      | refine Fm.cpy ?_ (by unfold RgM; omega)
      | refine Fm.trans ?_ (by assumption)
      | (cases h; done)
      | cases h
set_option maxRecDepth 100000 in
theorem fr_X8_chain  {σ : Mem} {res : (Int32 × Mem)}  (h : f_X8_chain σ = some res) : Fm RgM σ res.2 := by
  obtain ⟨r0, σ2⟩ := res
  unfold f_X8_chain at h
  repeat' first
    | refine Fm.trans ?_ (lf_X8_chain_15 (fun σ1 h => ?_) _ _ _ h)
    | refine Fm.trans ?_ (lf_X8_chain_35 (fun σ1 h => ?_) _ _ _ h)
    | refine Fm.trans ?_ (lf_X8_chain_77 (fun x4 h => ?_) _ _ _ h)
    | refine Fm.trans ?_ (lf_X8_chain_136 (fun σ1 h => ?_) _ _ _ h)
    | refine Fm.trans ?_ (lf_X8_chain_66 (fun x2 σ1 h => ?_) _ _ _ _ h)
    | refine r_case h (fun _ h => ?_) (fun _ h => ?_)
    | (refine bnd_case h (fun a e h => ?_); first | (have fe := fr_X8_findSworn e) | skip)
    | exact Fm.rf
    | refine Fm.put ?_ (by unfold RgM; omega)
    | refine Fm.cpy ?_ (by unfold RgM; omega)
    | refine Fm.trans ?_ (by assumption)
    | (cases h; done)
    | cases h
set_option maxRecDepth 100000 in
theorem fr_X8_land {p1 : Int32} {σ : Mem} {res : (Int32 × Mem)}  (h : f_X8_land p1 σ = some res) : Fm RgM σ res.2 := by
  obtain ⟨r0, σ2⟩ := res
  unfold f_X8_land at h
  repeat' first
    | refine r_case h (fun _ h => ?_) (fun _ h => ?_)
    | (refine bnd_case h (fun a e h => ?_); first | (have fe := fr_X8_chain e) | skip)
    | exact Fm.rf
    | refine Fm.put ?_ (by unfold RgM; omega)
    | refine Fm.cpy ?_ (by unfold RgM; omega)
    | refine Fm.trans ?_ (by assumption)
    | (cases h; done)
    | cases h
set_option maxRecDepth 100000 in
theorem lf_X8_reaches_55 {p2 : Int32} {p3 : Int32} {p4 : Int32} {σ : Mem}   {r0 : Int32} {σ2 : Mem} {k : Int32 → Option (Int32 × Mem)}  (hk : ∀ (x5 : Int32), k x5 = some (r0, σ2) → Fm RgM σ σ2) : ∀ (n : Nat) (v5 : Int32) (v6 : Int32), f_X8_reaches_55 p2 p3 p4 σ n v5 v6 k = some (r0, σ2) → Fm RgM σ σ2 := by
  intro n
  induction n with
  | zero =>
    intro v5 v6 h
    cases h
  | succ n ih =>
    intro v5 v6 h
    rw [f_X8_reaches_55.eq_2] at h
    repeat' first
      | refine Fm.trans ?_ (ih _ _ h)
      | refine Fm.trans ?_ (hk _ h)
      | refine r_case h (fun _ h => ?_) (fun _ h => ?_)
      | (refine bnd_case h (fun a e h => ?_); first | (have fe := fr_X8_findSworn e) | skip)
      | exact Fm.rf
      | refine Fm.put ?_ (by unfold RgM; omega)
      | refine Fm.cpy ?_ (by unfold RgM; omega)
      | refine Fm.trans ?_ (by assumption)
      | (cases h; done)
      | cases h
set_option maxRecDepth 100000 in
theorem lf_X8_reaches_30 {p2 : Int32} {σ : Mem}   {r0 : Int32} {σ2 : Mem} {k : Option (Int32 × Mem)}  (hk : k  = some (r0, σ2) → Fm RgM σ σ2) : ∀ (n : Nat) (v3 : Int32) (v4 : Int32), f_X8_reaches_30 p2 σ n v3 v4 k = some (r0, σ2) → Fm RgM σ σ2 := by
  intro n
  induction n with
  | zero =>
    intro v3 v4 h
    cases h
  | succ n ih =>
    intro v3 v4 h
    rw [f_X8_reaches_30.eq_2] at h
    repeat' first
      | refine Fm.trans ?_ (ih _ _ h)
      | refine Fm.trans ?_ (hk  h)
      | refine r_case h (fun _ h => ?_) (fun _ h => ?_)
      | (refine bnd_case h (fun a e h => ?_); first | (have fe := fr_X8_findSworn e) | skip)
      | exact Fm.rf
      | refine Fm.put ?_ (by unfold RgM; omega)
      | refine Fm.cpy ?_ (by unfold RgM; omega)
      | refine Fm.trans ?_ (by assumption)
      | (cases h; done)
      | cases h
set_option maxRecDepth 100000 in
theorem fr_X8_reaches {p1 : Int32} {p2 : Int32} {σ : Mem} {res : (Int32 × Mem)}  (h : f_X8_reaches p1 p2 σ = some res) : Fm RgM σ res.2 := by
  obtain ⟨r0, σ2⟩ := res
  unfold f_X8_reaches at h
  repeat' first
    | refine Fm.trans ?_ (lf_X8_reaches_55 (fun x5 h => ?_) _ _ _ h)
    | refine Fm.trans ?_ (lf_X8_reaches_30 (fun  h => ?_) _ _ _ h)
    | refine r_case h (fun _ h => ?_) (fun _ h => ?_)
    | (refine bnd_case h (fun a e h => ?_); first | (have fe := fr_X8_findSworn e) | skip)
    | exact Fm.rf
    | refine Fm.put ?_ (by unfold RgM; omega)
    | refine Fm.cpy ?_ (by unfold RgM; omega)
    | refine Fm.trans ?_ (by assumption)
    | (cases h; done)
    | cases h
set_option maxRecDepth 100000 in
theorem lf_X8_laysBy_2   {σ2 : Mem} {k : Mem → Option Mem}  (hk : ∀ (σ1 : Mem), k  σ1 = some σ2 → Fm RgM σ1 σ2) : ∀ (n : Nat) (v1 : Int32) (σ : Mem), f_X8_laysBy_2  n v1 σ k = some σ2 → Fm RgM σ σ2 := by
  intro n
  induction n with
  | zero =>
    intro v1 σ h
    cases h
  | succ n ih =>
    intro v1 σ h
    rw [f_X8_laysBy_2.eq_2] at h
    repeat' first
      | refine Fm.trans ?_ (ih _ _ h)
      | refine Fm.trans ?_ (hk _ h)
      | refine r_case h (fun _ h => ?_) (fun _ h => ?_)
      | (refine bnd_case h (fun a e h => ?_); first | skip)
      | exact Fm.rf
      | refine Fm.put ?_ (by unfold RgM; omega)
      | refine Fm.cpy ?_ (by unfold RgM; omega)
      | refine Fm.trans ?_ (by assumption)
      | (cases h; done)
      | cases h
set_option maxRecDepth 100000 in
theorem fr_X8_laysBy  {σ : Mem} {res : Mem}  (h : f_X8_laysBy σ = some res) : Fm RgM σ res := by
  unfold f_X8_laysBy at h
  repeat' first
    | refine Fm.trans ?_ (lf_X8_laysBy_2 (fun σ1 h => ?_) _ _ _ h)
    | refine r_case h (fun _ h => ?_) (fun _ h => ?_)
    | (refine bnd_case h (fun a e h => ?_); first | skip)
    | exact Fm.rf
    | refine Fm.put ?_ (by unfold RgM; omega)
    | refine Fm.cpy ?_ (by unfold RgM; omega)
    | refine Fm.trans ?_ (by assumption)
    | (cases h; done)
    | cases h
set_option maxRecDepth 100000 in
theorem lf_X8_laysBack_2   {σ2 : Mem} {k : Mem → Option Mem}  (hk : ∀ (σ1 : Mem), k  σ1 = some σ2 → Fm RgM σ1 σ2) : ∀ (n : Nat) (v1 : Int32) (σ : Mem), f_X8_laysBack_2  n v1 σ k = some σ2 → Fm RgM σ σ2 := by
  intro n
  induction n with
  | zero =>
    intro v1 σ h
    cases h
  | succ n ih =>
    intro v1 σ h
    rw [f_X8_laysBack_2.eq_2] at h
    repeat' first
      | refine Fm.trans ?_ (ih _ _ h)
      | refine Fm.trans ?_ (hk _ h)
      | refine r_case h (fun _ h => ?_) (fun _ h => ?_)
      | (refine bnd_case h (fun a e h => ?_); first | skip)
      | exact Fm.rf
      | refine Fm.put ?_ (by unfold RgM; omega)
      | refine Fm.cpy ?_ (by unfold RgM; omega)
      | refine Fm.trans ?_ (by assumption)
      | (cases h; done)
      | cases h
set_option maxRecDepth 100000 in
theorem fr_X8_laysBack  {σ : Mem} {res : Mem}  (h : f_X8_laysBack σ = some res) : Fm RgM σ res := by
  unfold f_X8_laysBack at h
  repeat' first
    | refine Fm.trans ?_ (lf_X8_laysBack_2 (fun σ1 h => ?_) _ _ _ h)
    | refine r_case h (fun _ h => ?_) (fun _ h => ?_)
    | (refine bnd_case h (fun a e h => ?_); first | skip)
    | exact Fm.rf
    | refine Fm.put ?_ (by unfold RgM; omega)
    | refine Fm.cpy ?_ (by unfold RgM; omega)
    | refine Fm.trans ?_ (by assumption)
    | (cases h; done)
    | cases h
set_option maxRecDepth 100000 in
theorem fr_X8_behind {p1 : Int32} {p2 : Int32} {σ : Mem} {res : (Int32 × Mem)}  (h : f_X8_behind p1 p2 σ = some res) : Fm RgM σ res.2 := by
  obtain ⟨r0, σ2⟩ := res
  unfold f_X8_behind at h
  repeat' first
    | refine r_case h (fun _ h => ?_) (fun _ h => ?_)
    | (refine bnd_case h (fun a e h => ?_); first | (have fe := fr_X8_laysBy e) | (have fe := fr_X8_goesOnMany e) | (have fe := fr_X8_laysBack e) | skip)
    | exact Fm.rf
    | refine Fm.put ?_ (by unfold RgM; omega)
    | refine Fm.cpy ?_ (by unfold RgM; omega)
    | refine Fm.trans ?_ (by assumption)
    | (cases h; done)
    | cases h
set_option maxRecDepth 100000 in
theorem lf_X8_free_8    {r0 : Int32} {σ2 : Mem} {k : Int32 → Mem → Option (Int32 × Mem)}  (hk : ∀ (x1 : Int32) (σ1 : Mem), k x1 σ1 = some (r0, σ2) → Fm RgM σ1 σ2) : ∀ (n : Nat) (v1 : Int32) (v2 : Int32) (σ : Mem), f_X8_free_8  n v1 v2 σ k = some (r0, σ2) → Fm RgM σ σ2 := by
  intro n
  induction n with
  | zero =>
    intro v1 v2 σ h
    cases h
  | succ n ih =>
    intro v1 v2 σ h
    rw [f_X8_free_8.eq_2] at h
    repeat' first
      | refine Fm.trans ?_ (ih _ _ _ h)
      | refine Fm.trans ?_ (hk _ _ h)
      | refine r_case h (fun _ h => ?_) (fun _ h => ?_)
      | (refine bnd_case h (fun a e h => ?_); first | (have fe := fr_X8_laysBy e) | (have fe := fr_X8_goesOn e) | (have fe := fr_X8_laysBack e) | skip)
      | exact Fm.rf
      | refine Fm.put ?_ (by unfold RgM; omega)
      | refine Fm.cpy ?_ (by unfold RgM; omega)
      | refine Fm.trans ?_ (by assumption)
      | (cases h; done)
      | cases h
set_option maxRecDepth 100000 in
theorem fr_X8_free  {σ : Mem} {res : (Int32 × Mem)}  (h : f_X8_free σ = some res) : Fm RgM σ res.2 := by
  obtain ⟨r0, σ2⟩ := res
  unfold f_X8_free at h
  repeat' first
    | refine Fm.trans ?_ (lf_X8_free_8 (fun x1 σ1 h => ?_) _ _ _ _ h)
    | refine r_case h (fun _ h => ?_) (fun _ h => ?_)
    | (refine bnd_case h (fun a e h => ?_); first | (have fe := fr_X8_laysBy e) | (have fe := fr_X8_goesOn e) | (have fe := fr_X8_laysBack e) | skip)
    | exact Fm.rf
    | refine Fm.put ?_ (by unfold RgM; omega)
    | refine Fm.cpy ?_ (by unfold RgM; omega)
    | refine Fm.trans ?_ (by assumption)
    | (cases h; done)
    | cases h
set_option maxRecDepth 100000 in
theorem lf_X8_sworn_51 {p1 : Int32} {p2 : Int32} {p5 : Int32}   {r0 : Int32} {σ2 : Mem} {k : Int32 → Int32 → Mem → Option (Int32 × Mem)}  (hk : ∀ (x3 : Int32) (x4 : Int32) (σ1 : Mem), k x3 x4 σ1 = some (r0, σ2) → Fm RgM σ1 σ2) : ∀ (n : Nat) (v3 : Int32) (v4 : Int32) (v6 : Int32) (σ : Mem), f_X8_sworn_51 p1 p2 p5 n v3 v4 v6 σ k = some (r0, σ2) → Fm RgM σ σ2 := by
  intro n
  induction n with
  | zero =>
    intro v3 v4 v6 σ h
    cases h
  | succ n ih =>
    intro v3 v4 v6 σ h
    rw [f_X8_sworn_51.eq_2] at h
    repeat' first
      | refine Fm.trans ?_ (ih _ _ _ _ h)
      | refine Fm.trans ?_ (hk _ _ _ h)
      | refine r_case h (fun _ h => ?_) (fun _ h => ?_)
      | (refine bnd_case h (fun a e h => ?_); first | (have fe := fr_X8_laysBy e) | (have fe := fr_X8_gives e) | (have fe := fr_X8_goesOnMany e) | (have fe := fr_X8_laysBack e) | skip)
      | exact Fm.rf
      | refine Fm.put ?_ (by unfold RgM; omega)
      | refine Fm.cpy ?_ (by unfold RgM; omega)
      | refine Fm.trans ?_ (by assumption)
      | (cases h; done)
      | cases h
set_option maxRecDepth 100000 in
theorem lf_X8_sworn_37 {p1 : Int32} {p2 : Int32}   {r0 : Int32} {σ2 : Mem} {k : Int32 → Int32 → Mem → Option (Int32 × Mem)}  (hk : ∀ (x3 : Int32) (x4 : Int32) (σ1 : Mem), k x3 x4 σ1 = some (r0, σ2) → Fm RgM σ1 σ2) : ∀ (n : Nat) (v3 : Int32) (v4 : Int32) (v5 : Int32) (σ : Mem), f_X8_sworn_37 p1 p2 n v3 v4 v5 σ k = some (r0, σ2) → Fm RgM σ σ2 := by
  intro n
  induction n with
  | zero =>
    intro v3 v4 v5 σ h
    cases h
  | succ n ih =>
    intro v3 v4 v5 σ h
    rw [f_X8_sworn_37.eq_2] at h
    repeat' first
      | refine Fm.trans ?_ (lf_X8_sworn_51 (fun x3 x4 σ1 h => ?_) _ _ _ _ _ h)
      | refine Fm.trans ?_ (ih _ _ _ _ h)
      | refine Fm.trans ?_ (hk _ _ _ h)
      | refine r_case h (fun _ h => ?_) (fun _ h => ?_)
      | (refine bnd_case h (fun a e h => ?_); first | (have fe := fr_X8_laysBy e) | (have fe := fr_X8_gives e) | (have fe := fr_X8_goesOnMany e) | (have fe := fr_X8_laysBack e) | skip)
      | exact Fm.rf
      | refine Fm.put ?_ (by unfold RgM; omega)
      | refine Fm.cpy ?_ (by unfold RgM; omega)
      | refine Fm.trans ?_ (by assumption)
      | (cases h; done)
      | cases h
set_option maxRecDepth 100000 in
theorem fr_X8_sworn {p1 : Int32} {p2 : Int32} {σ : Mem} {res : (Int32 × Mem)}  (h : f_X8_sworn p1 p2 σ = some res) : Fm RgM σ res.2 := by
  obtain ⟨r0, σ2⟩ := res
  unfold f_X8_sworn at h
  repeat' first
    | refine Fm.trans ?_ (lf_X8_sworn_51 (fun x3 x4 σ1 h => ?_) _ _ _ _ _ h)
    | refine Fm.trans ?_ (lf_X8_sworn_37 (fun x3 x4 σ1 h => ?_) _ _ _ _ _ h)
    | refine r_case h (fun _ h => ?_) (fun _ h => ?_)
    | (refine bnd_case h (fun a e h => ?_); first | (have fe := fr_X8_laysBy e) | (have fe := fr_X8_gives e) | (have fe := fr_X8_goesOnMany e) | (have fe := fr_X8_laysBack e) | skip)
    | exact Fm.rf
    | refine Fm.put ?_ (by unfold RgM; omega)
    | refine Fm.cpy ?_ (by unfold RgM; omega)
    | refine Fm.trans ?_ (by assumption)
    | (cases h; done)
    | cases h
set_option maxRecDepth 100000 in
theorem lf_X8_trust_37 {p1 : Int32} {p2 : Int32}   {r0 : Int32} {σ2 : Mem} {k : Int32 → Int32 → Mem → Option (Int32 × Mem)}  (hk : ∀ (x3 : Int32) (x4 : Int32) (σ1 : Mem), k x3 x4 σ1 = some (r0, σ2) → Fm RgM σ1 σ2) : ∀ (n : Nat) (v3 : Int32) (v4 : Int32) (v5 : Int32) (σ : Mem), f_X8_trust_37 p1 p2 n v3 v4 v5 σ k = some (r0, σ2) → Fm RgM σ σ2 := by
  intro n
  induction n with
  | zero =>
    intro v3 v4 v5 σ h
    cases h
  | succ n ih =>
    intro v3 v4 v5 σ h
    rw [f_X8_trust_37.eq_2] at h
    repeat' first
      | refine Fm.trans ?_ (ih _ _ _ _ h)
      | refine Fm.trans ?_ (hk _ _ _ h)
      | refine r_case h (fun _ h => ?_) (fun _ h => ?_)
      | (refine bnd_case h (fun a e h => ?_); first | (have fe := fr_X8_laysBy e) | (have fe := fr_X8_sets e) | (have fe := fr_X8_goesOnMany e) | (have fe := fr_X8_laysBack e) | skip)
      | exact Fm.rf
      | refine Fm.put ?_ (by unfold RgM; omega)
      | refine Fm.cpy ?_ (by unfold RgM; omega)
      | refine Fm.trans ?_ (by assumption)
      | (cases h; done)
      | cases h
set_option maxRecDepth 100000 in
theorem fr_X8_trust {p1 : Int32} {p2 : Int32} {σ : Mem} {res : (Int32 × Mem)}  (h : f_X8_trust p1 p2 σ = some res) : Fm RgM σ res.2 := by
  obtain ⟨r0, σ2⟩ := res
  unfold f_X8_trust at h
  repeat' first
    | refine Fm.trans ?_ (lf_X8_trust_37 (fun x3 x4 σ1 h => ?_) _ _ _ _ _ h)
    | refine r_case h (fun _ h => ?_) (fun _ h => ?_)
    | (refine bnd_case h (fun a e h => ?_); first | (have fe := fr_X8_laysBy e) | (have fe := fr_X8_sets e) | (have fe := fr_X8_goesOnMany e) | (have fe := fr_X8_laysBack e) | skip)
    | exact Fm.rf
    | refine Fm.put ?_ (by unfold RgM; omega)
    | refine Fm.cpy ?_ (by unfold RgM; omega)
    | refine Fm.trans ?_ (by assumption)
    | (cases h; done)
    | cases h
set_option maxRecDepth 100000 in
theorem lf_X8_debtor_42 {p2 : Int32} {σ : Mem}   {r0 : Int32} {σ2 : Mem} {k : Int32 → Int32 → Option (Int32 × Mem)}  (hk : ∀ (x3 : Int32) (x4 : Int32), k x3 x4 = some (r0, σ2) → Fm RgM σ σ2) : ∀ (n : Nat) (v3 : Int32) (v4 : Int32) (v5 : Int32), f_X8_debtor_42 p2 σ n v3 v4 v5 k = some (r0, σ2) → Fm RgM σ σ2 := by
  intro n
  induction n with
  | zero =>
    intro v3 v4 v5 h
    cases h
  | succ n ih =>
    intro v3 v4 v5 h
    rw [f_X8_debtor_42.eq_2] at h
    repeat' first
      | refine Fm.trans ?_ (ih _ _ _ h)
      | refine Fm.trans ?_ (hk _ _ h)
      | refine r_case h (fun _ h => ?_) (fun _ h => ?_)
      | (refine bnd_case h (fun a e h => ?_); first | (have fe := fr_X8_laysBy e) | (have fe := fr_X8_goesOnMany e) | (have fe := fr_X8_laysBack e) | skip)
      | exact Fm.rf
      | refine Fm.put ?_ (by unfold RgM; omega)
      | refine Fm.cpy ?_ (by unfold RgM; omega)
      | refine Fm.trans ?_ (by assumption)
      | (cases h; done)
      | cases h
set_option maxRecDepth 100000 in
theorem fr_X8_debtor {p1 : Int32} {p2 : Int32} {σ : Mem} {res : (Int32 × Mem)}  (h : f_X8_debtor p1 p2 σ = some res) : Fm RgM σ res.2 := by
  obtain ⟨r0, σ2⟩ := res
  unfold f_X8_debtor at h
  repeat' first
    | refine Fm.trans ?_ (lf_X8_debtor_42 (fun x3 x4 h => ?_) _ _ _ _ h)
    | refine r_case h (fun _ h => ?_) (fun _ h => ?_)
    | (refine bnd_case h (fun a e h => ?_); first | (have fe := fr_X8_laysBy e) | (have fe := fr_X8_goesOnMany e) | (have fe := fr_X8_laysBack e) | skip)
    | exact Fm.rf
    | refine Fm.put ?_ (by unfold RgM; omega)
    | refine Fm.cpy ?_ (by unfold RgM; omega)
    | refine Fm.trans ?_ (by assumption)
    | (cases h; done)
    | cases h
set_option maxRecDepth 100000 in
theorem fr_X8_fee  {σ : Mem} {res : (Int32 × Mem)}  (h : f_X8_fee σ = some res) : Fm RgM σ res.2 := by
  obtain ⟨r0, σ2⟩ := res
  unfold f_X8_fee at h
  repeat' first
    | refine r_case h (fun _ h => ?_) (fun _ h => ?_)
    | (refine bnd_case h (fun a e h => ?_); first | (have fe := fr_X8_worked e) | skip)
    | exact Fm.rf
    | refine Fm.put ?_ (by unfold RgM; omega)
    | refine Fm.cpy ?_ (by unfold RgM; omega)
    | refine Fm.trans ?_ (by assumption)
    | (cases h; done)
    | cases h
set_option maxRecDepth 100000 in
theorem fr_X8_fine {p1 : Int32} {σ : Mem} {res : (Int32 × Mem)}  (h : f_X8_fine p1 σ = some res) : Fm RgM σ res.2 := by
  obtain ⟨r0, σ2⟩ := res
  unfold f_X8_fine at h
  repeat' first
    | refine r_case h (fun _ h => ?_) (fun _ h => ?_)
    | (refine bnd_case h (fun a e h => ?_); first | (have fe := fr_X8_worked e) | skip)
    | exact Fm.rf
    | refine Fm.put ?_ (by unfold RgM; omega)
    | refine Fm.cpy ?_ (by unfold RgM; omega)
    | refine Fm.trans ?_ (by assumption)
    | (cases h; done)
    | cases h
set_option maxRecDepth 100000 in
theorem lf_X8_feed_18 {p1 : Int32} {p2 : Int32} {p3 : Int32}   {r0 : Int32} {σ2 : Mem} {k : Mem → Option (Int32 × Mem)}  (hk : ∀ (σ1 : Mem), k  σ1 = some (r0, σ2) → Fm RgM σ1 σ2) : ∀ (n : Nat) (v4 : Int32) (σ : Mem), f_X8_feed_18 p1 p2 p3 n v4 σ k = some (r0, σ2) → Fm RgM σ σ2 := by
  intro n
  induction n with
  | zero =>
    intro v4 σ h
    cases h
  | succ n ih =>
    intro v4 σ h
    rw [f_X8_feed_18.eq_2] at h
    repeat' first
      | refine Fm.trans ?_ (ih _ _ h)
      | refine Fm.trans ?_ (hk _ h)
      | refine r_case h (fun _ h => ?_) (fun _ h => ?_)
      | (refine bnd_case h (fun a e h => ?_); first | skip)
      | exact Fm.rf
      | refine Fm.put ?_ (by unfold RgM; omega)
      | refine Fm.cpy ?_ (by unfold RgM; omega)
      | refine Fm.trans ?_ (by assumption)
      | (cases h; done)
      | cases h
set_option maxRecDepth 100000 in
theorem fr_X8_feed {p1 : Int32} {p2 : Int32} {p3 : Int32} {σ : Mem} {res : (Int32 × Mem)}  (h : f_X8_feed p1 p2 p3 σ = some res) : Fm RgM σ res.2 := by
  obtain ⟨r0, σ2⟩ := res
  unfold f_X8_feed at h
  repeat' first
    | refine Fm.trans ?_ (lf_X8_feed_18 (fun σ1 h => ?_) _ _ _ h)
    | refine r_case h (fun _ h => ?_) (fun _ h => ?_)
    | (refine bnd_case h (fun a e h => ?_); first | skip)
    | exact Fm.rf
    | refine Fm.put ?_ (by unfold RgM; omega)
    | refine Fm.cpy ?_ (by unfold RgM; omega)
    | refine Fm.trans ?_ (by assumption)
    | (cases h; done)
    | cases h
set_option maxRecDepth 100000 in
theorem fr_X8_trim {p1 : Int32} {σ : Mem} {res : (Int32 × Mem)}  (h : f_X8_trim p1 σ = some res) : Fm RgM σ res.2 := by
  obtain ⟨r0, σ2⟩ := res
  unfold f_X8_trim at h
  repeat' first
    | refine r_case h (fun _ h => ?_) (fun _ h => ?_)
    | (refine bnd_case h (fun a e h => ?_); first | skip)
    | exact Fm.rf
    | refine Fm.put ?_ (by unfold RgM; omega)
    | refine Fm.cpy ?_ (by unfold RgM; omega)
    | refine Fm.trans ?_ (by assumption)
    | (cases h; done)
    | cases h
set_option maxRecDepth 100000 in
theorem lf_X8_nextToken_34 {p1 : Int32} {p2 : Int32}  {σ2 : Mem} {k : Mem → Option Mem}  (hk : ∀ (σ1 : Mem), k  σ1 = some σ2 → Fm RgM σ1 σ2) : ∀ (n : Nat) (σ : Mem), f_X8_nextToken_34 p1 p2 n  σ k = some σ2 → Fm RgM σ σ2 := by
  intro n
  induction n with
  | zero =>
    intro σ h
    cases h
  | succ n ih =>
    intro σ h
    rw [f_X8_nextToken_34.eq_2] at h
    repeat' first
      | refine Fm.trans ?_ (ih _ h)
      | refine Fm.trans ?_ (hk _ h)
      | refine r_case h (fun _ h => ?_) (fun _ h => ?_)
      | (refine bnd_case h (fun a e h => ?_); first | skip)
      | exact Fm.rf
      | refine Fm.put ?_ (by unfold RgM; omega)
      | refine Fm.cpy ?_ (by unfold RgM; omega)
      | refine Fm.trans ?_ (by assumption)
      | (cases h; done)
      | cases h
set_option maxRecDepth 100000 in
theorem lf_X8_nextToken_214 {p1 : Int32}  {σ2 : Mem} {k : Mem → Option Mem}  (hk : ∀ (σ1 : Mem), k  σ1 = some σ2 → Fm RgM σ1 σ2) : ∀ (n : Nat) (σ : Mem), f_X8_nextToken_214 p1 n  σ k = some σ2 → Fm RgM σ σ2 := by
  intro n
  induction n with
  | zero =>
    intro σ h
    cases h
  | succ n ih =>
    intro σ h
    rw [f_X8_nextToken_214.eq_2] at h
    repeat' first
      | refine Fm.trans ?_ (lf_X8_nextToken_34 (fun σ1 h => ?_) _ _ h)
      | refine Fm.trans ?_ (ih _ h)
      | refine Fm.trans ?_ (hk _ h)
      | refine r_case h (fun _ h => ?_) (fun _ h => ?_)
      | (refine bnd_case h (fun a e h => ?_); first | skip)
      | exact Fm.rf
      | refine Fm.put ?_ (by unfold RgM; omega)
      | refine Fm.cpy ?_ (by unfold RgM; omega)
      | refine Fm.trans ?_ (by assumption)
      | (cases h; done)
      | cases h
set_option maxRecDepth 100000 in
theorem lf_X8_nextToken_128 {p1 : Int32}  {σ2 : Mem} {k : Mem → Option Mem}  (hk : ∀ (σ1 : Mem), k  σ1 = some σ2 → Fm RgM σ1 σ2) : ∀ (n : Nat) (σ : Mem), f_X8_nextToken_128 p1 n  σ k = some σ2 → Fm RgM σ σ2 := by
  intro n
  induction n with
  | zero =>
    intro σ h
    cases h
  | succ n ih =>
    intro σ h
    rw [f_X8_nextToken_128.eq_2] at h
    repeat' first
      | refine Fm.trans ?_ (lf_X8_nextToken_34 (fun σ1 h => ?_) _ _ h)
      | refine Fm.trans ?_ (lf_X8_nextToken_214 (fun σ1 h => ?_) _ _ h)
      | refine Fm.trans ?_ (ih _ h)
      | refine Fm.trans ?_ (hk _ h)
      | refine r_case h (fun _ h => ?_) (fun _ h => ?_)
      | (refine bnd_case h (fun a e h => ?_); first | skip)
      | exact Fm.rf
      | refine Fm.put ?_ (by unfold RgM; omega)
      | refine Fm.cpy ?_ (by unfold RgM; omega)
      | refine Fm.trans ?_ (by assumption)
      | (cases h; done)
      | cases h
set_option maxRecDepth 100000 in
theorem fr_X8_nextToken  {σ : Mem} {res : Mem}  (h : f_X8_nextToken σ = some res) : Fm RgM σ res := by
  unfold f_X8_nextToken at h
  repeat' first
    | refine Fm.trans ?_ (lf_X8_nextToken_34 (fun σ1 h => ?_) _ _ h)
    | refine Fm.trans ?_ (lf_X8_nextToken_214 (fun σ1 h => ?_) _ _ h)
    | refine Fm.trans ?_ (lf_X8_nextToken_128 (fun σ1 h => ?_) _ _ h)
    | refine r_case h (fun _ h => ?_) (fun _ h => ?_)
    | (refine bnd_case h (fun a e h => ?_); first | skip)
    | exact Fm.rf
    | refine Fm.put ?_ (by unfold RgM; omega)
    | refine Fm.cpy ?_ (by unfold RgM; omega)
    | refine Fm.trans ?_ (by assumption)
    | (cases h; done)
    | cases h
set_option maxRecDepth 100000 in
theorem fr_X8_step {p1 : Int32} {p2 : Int32} {σ : Mem} {res : Mem}  (h : f_X8_step p1 p2 σ = some res) : Fm RgM σ res := by
  unfold f_X8_step at h
  repeat' first
    | refine r_case h (fun _ h => ?_) (fun _ h => ?_)
    | (refine bnd_case h (fun a e h => ?_); first | skip)
    | exact Fm.rf
    | refine Fm.put ?_ (by unfold RgM; omega)
    | refine Fm.cpy ?_ (by unfold RgM; omega)
    | refine Fm.trans ?_ (by assumption)
    | (cases h; done)
    | cases h
set_option maxRecDepth 100000 in
theorem lf_X8_sheet_69 {p1 : Int32}   {r0 : Int32} {σ2 : Mem} {k : Mem → Option (Int32 × Mem)}  (hk : ∀ (σ1 : Mem), k  σ1 = some (r0, σ2) → Fm RgM σ1 σ2) : ∀ (n : Nat) (v4 : Int32) (σ : Mem), f_X8_sheet_69 p1 n v4 σ k = some (r0, σ2) → Fm RgM σ σ2 := by
  intro n
  induction n with
  | zero =>
    intro v4 σ h
    cases h
  | succ n ih =>
    intro v4 σ h
    rw [f_X8_sheet_69.eq_2] at h
    repeat' first
      | refine Fm.trans ?_ (ih _ _ h)
      | refine Fm.trans ?_ (hk _ h)
      | refine r_case h (fun _ h => ?_) (fun _ h => ?_)
      | (refine bnd_case h (fun a e h => ?_); first | skip)
      | exact Fm.rf
      | refine Fm.put ?_ (by unfold RgM; omega)
      | refine Fm.cpy ?_ (by unfold RgM; omega)
      | refine Fm.trans ?_ (by assumption)
      | (cases h; done)
      | cases h
set_option maxRecDepth 100000 in
theorem fr_X8_sheet {p1 : Int32} {p2 : Int32} {p3 : Int32} {σ : Mem} {res : (Int32 × Mem)}  (h : f_X8_sheet p1 p2 p3 σ = some res) : Fm RgM σ res.2 := by
  obtain ⟨r0, σ2⟩ := res
  unfold f_X8_sheet at h
  repeat' first
    | refine Fm.trans ?_ (lf_X8_sheet_69 (fun σ1 h => ?_) _ _ _ h)
    | refine r_case h (fun _ h => ?_) (fun _ h => ?_)
    | (refine bnd_case h (fun a e h => ?_); first | skip)
    | exact Fm.rf
    | refine Fm.put ?_ (by unfold RgM; omega)
    | refine Fm.cpy ?_ (by unfold RgM; omega)
    | refine Fm.trans ?_ (by assumption)
    | (cases h; done)
    | cases h
set_option maxRecDepth 100000 in
theorem fr_X8_mark {p1 : Int32} {p2 : Int32} {p3 : Int32} {σ : Mem} {res : (Int32 × Mem)}  (h : f_X8_mark p1 p2 p3 σ = some res) : Fm RgM σ res.2 := by
  obtain ⟨r0, σ2⟩ := res
  unfold f_X8_mark at h
  repeat' first
    | refine r_case h (fun _ h => ?_) (fun _ h => ?_)
    | (refine bnd_case h (fun a e h => ?_); first | skip)
    | exact Fm.rf
    | refine Fm.put ?_ (by unfold RgM; omega)
    | refine Fm.cpy ?_ (by unfold RgM; omega)
    | refine Fm.trans ?_ (by assumption)
    | (cases h; done)
    | cases h
set_option maxRecDepth 100000 in
theorem lf_X8_pour_27 {p1 : Int32}   {r0 : Int32} {σ2 : Mem} {k : Int32 → Mem → Option (Int32 × Mem)}  (hk : ∀ (x2 : Int32) (σ1 : Mem), k x2 σ1 = some (r0, σ2) → Fm RgM σ1 σ2) : ∀ (n : Nat) (v2 : Int32) (v3 : Int32) (σ : Mem), f_X8_pour_27 p1 n v2 v3 σ k = some (r0, σ2) → Fm RgM σ σ2 := by
  intro n
  induction n with
  | zero =>
    intro v2 v3 σ h
    cases h
  | succ n ih =>
    intro v2 v3 σ h
    rw [f_X8_pour_27.eq_2] at h
    repeat' first
      | refine Fm.trans ?_ (ih _ _ _ h)
      | refine Fm.trans ?_ (hk _ _ h)
      | refine r_case h (fun _ h => ?_) (fun _ h => ?_)
      | (refine bnd_case h (fun a e h => ?_); first | (have fe := fr_X8_becomes e) | skip)
      | exact Fm.rf
      | refine Fm.put ?_ (by unfold RgM; omega)
      | refine Fm.cpy ?_ (by unfold RgM; omega)
      | refine Fm.trans ?_ (by assumption)
      | (cases h; done)
      | cases h
set_option maxRecDepth 100000 in
theorem fr_X8_pour {p1 : Int32} {σ : Mem} {res : (Int32 × Mem)}  (h : f_X8_pour p1 σ = some res) : Fm RgM σ res.2 := by
  obtain ⟨r0, σ2⟩ := res
  unfold f_X8_pour at h
  repeat' first
    | refine Fm.trans ?_ (lf_X8_pour_27 (fun x2 σ1 h => ?_) _ _ _ _ h)
    | refine r_case h (fun _ h => ?_) (fun _ h => ?_)
    | (refine bnd_case h (fun a e h => ?_); first | (have fe := fr_X8_becomes e) | skip)
    | exact Fm.rf
    | refine Fm.put ?_ (by unfold RgM; omega)
    | refine Fm.cpy ?_ (by unfold RgM; omega)
    | refine Fm.trans ?_ (by assumption)
    | (cases h; done)
    | cases h
set_option maxRecDepth 100000 in
theorem lf_X8_clock_75 {p1 : Int32} {p2 : Int32} {p3 : Int32} {p4 : Int32} {p5 : Int32} {p6 : Int32}   {r0 : Int32} {σ2 : Mem} {k : Int32 → Mem → Option (Int32 × Mem)}  (hk : ∀ (x7 : Int32) (σ1 : Mem), k x7 σ1 = some (r0, σ2) → Fm RgM σ1 σ2) : ∀ (n : Nat) (v7 : Int32) (v8 : Int32) (σ : Mem), f_X8_clock_75 p1 p2 p3 p4 p5 p6 n v7 v8 σ k = some (r0, σ2) → Fm RgM σ σ2 := by
  intro n
  induction n with
  | zero =>
    intro v7 v8 σ h
    cases h
  | succ n ih =>
    intro v7 v8 σ h
    rw [f_X8_clock_75.eq_2] at h
    repeat' first
      | refine Fm.trans ?_ (ih _ _ _ h)
      | refine Fm.trans ?_ (hk _ _ h)
      | refine r_case h (fun _ h => ?_) (fun _ h => ?_)
      | (refine bnd_case h (fun a e h => ?_); first | (have fe := fr_X8_laysBy e) | (have fe := fr_X8_sets e) | (have fe := fr_X8_goesOn e) | (have fe := fr_X8_laysBack e) | skip)
      | exact Fm.rf
      | refine Fm.put ?_ (by unfold RgM; omega)
      | refine Fm.cpy ?_ (by unfold RgM; omega)
      | refine Fm.trans ?_ (by assumption)
      | (cases h; done)
      | cases h
set_option maxRecDepth 100000 in
theorem lf_X8_clock_54 {p1 : Int32} {p2 : Int32} {p3 : Int32}   {r0 : Int32} {σ2 : Mem} {k : Int32 → Int32 → Mem → Option (Int32 × Mem)}  (hk : ∀ (x4 : Int32) (x5 : Int32) (σ1 : Mem), k x4 x5 σ1 = some (r0, σ2) → Fm RgM σ1 σ2) : ∀ (n : Nat) (v4 : Int32) (v5 : Int32) (v6 : Int32) (σ : Mem), f_X8_clock_54 p1 p2 p3 n v4 v5 v6 σ k = some (r0, σ2) → Fm RgM σ σ2 := by
  intro n
  induction n with
  | zero =>
    intro v4 v5 v6 σ h
    cases h
  | succ n ih =>
    intro v4 v5 v6 σ h
    rw [f_X8_clock_54.eq_2] at h
    repeat' first
      | refine Fm.trans ?_ (lf_X8_clock_75 (fun x7 σ1 h => ?_) _ _ _ _ h)
      | refine Fm.trans ?_ (ih _ _ _ _ h)
      | refine Fm.trans ?_ (hk _ _ _ h)
      | refine r_case h (fun _ h => ?_) (fun _ h => ?_)
      | (refine bnd_case h (fun a e h => ?_); first | (have fe := fr_X8_laysBy e) | (have fe := fr_X8_sets e) | (have fe := fr_X8_goesOn e) | (have fe := fr_X8_laysBack e) | skip)
      | exact Fm.rf
      | refine Fm.put ?_ (by unfold RgM; omega)
      | refine Fm.cpy ?_ (by unfold RgM; omega)
      | refine Fm.trans ?_ (by assumption)
      | (cases h; done)
      | cases h
set_option maxRecDepth 100000 in
theorem fr_X8_clock {p1 : Int32} {p2 : Int32} {p3 : Int32} {σ : Mem} {res : (Int32 × Mem)}  (h : f_X8_clock p1 p2 p3 σ = some res) : Fm RgM σ res.2 := by
  obtain ⟨r0, σ2⟩ := res
  unfold f_X8_clock at h
  repeat' first
    | refine Fm.trans ?_ (lf_X8_clock_75 (fun x7 σ1 h => ?_) _ _ _ _ h)
    | refine Fm.trans ?_ (lf_X8_clock_54 (fun x4 x5 σ1 h => ?_) _ _ _ _ _ h)
    | refine r_case h (fun _ h => ?_) (fun _ h => ?_)
    | (refine bnd_case h (fun a e h => ?_); first | (have fe := fr_X8_laysBy e) | (have fe := fr_X8_sets e) | (have fe := fr_X8_goesOn e) | (have fe := fr_X8_laysBack e) | skip)
    | exact Fm.rf
    | refine Fm.put ?_ (by unfold RgM; omega)
    | refine Fm.cpy ?_ (by unfold RgM; omega)
    | refine Fm.trans ?_ (by assumption)
    | (cases h; done)
    | cases h
set_option maxRecDepth 100000 in
theorem lf_X8_copy_113 {p1 : Int32} {p2 : Int32} {p3 : Int32} {p4 : Int32} {p5 : Int32}   {r0 : Int32} {σ2 : Mem} {k : Mem → Option (Int32 × Mem)}  (hk : ∀ (σ1 : Mem), k  σ1 = some (r0, σ2) → Fm RgM σ1 σ2) : ∀ (n : Nat) (v6 : Int32) (σ : Mem), f_X8_copy_113 p1 p2 p3 p4 p5 n v6 σ k = some (r0, σ2) → Fm RgM σ σ2 := by
  intro n
  induction n with
  | zero =>
    intro v6 σ h
    cases h
  | succ n ih =>
    intro v6 σ h
    rw [f_X8_copy_113.eq_2] at h
    repeat' first
      | refine Fm.trans ?_ (ih _ _ h)
      | refine Fm.trans ?_ (hk _ h)
      | refine r_case h (fun _ h => ?_) (fun _ h => ?_)
      | (refine bnd_case h (fun a e h => ?_); first | skip)
      | exact Fm.rf
      | refine Fm.put ?_ (by unfold RgM; omega)
      | refine Fm.cpy ?_ (by unfold RgM; omega)
      | refine Fm.trans ?_ (by assumption)
      | (cases h; done)
      | cases h
set_option maxRecDepth 100000 in
theorem lf_X8_copy_150 {p3 : Int32} {p4 : Int32} {p5 : Int32}   {r0 : Int32} {σ2 : Mem} {k : Mem → Option (Int32 × Mem)}  (hk : ∀ (σ1 : Mem), k  σ1 = some (r0, σ2) → Fm RgM σ1 σ2) : ∀ (n : Nat) (v6 : Int32) (σ : Mem), f_X8_copy_150 p3 p4 p5 n v6 σ k = some (r0, σ2) → Fm RgM σ σ2 := by
  intro n
  induction n with
  | zero =>
    intro v6 σ h
    cases h
  | succ n ih =>
    intro v6 σ h
    rw [f_X8_copy_150.eq_2] at h
    repeat' first
      | refine Fm.trans ?_ (lf_X8_copy_113 (fun σ1 h => ?_) _ _ _ h)
      | refine Fm.trans ?_ (ih _ _ h)
      | refine Fm.trans ?_ (hk _ h)
      | refine r_case h (fun _ h => ?_) (fun _ h => ?_)
      | (refine bnd_case h (fun a e h => ?_); first | skip)
      | exact Fm.rf
      | refine Fm.put ?_ (by unfold RgM; omega)
      | refine Fm.cpy ?_ (by unfold RgM; omega)
      | refine Fm.trans ?_ (by assumption)
      | (cases h; done)
      | cases h
set_option maxRecDepth 100000 in
theorem fr_X8_copy {p1 : Int32} {p2 : Int32} {p3 : Int32} {p4 : Int32} {p5 : Int32} {σ : Mem} {res : (Int32 × Mem)}  (h : f_X8_copy p1 p2 p3 p4 p5 σ = some res) : Fm RgM σ res.2 := by
  obtain ⟨r0, σ2⟩ := res
  unfold f_X8_copy at h
  repeat' first
    | refine Fm.trans ?_ (lf_X8_copy_113 (fun σ1 h => ?_) _ _ _ h)
    | refine Fm.trans ?_ (lf_X8_copy_150 (fun σ1 h => ?_) _ _ _ h)
    | refine r_case h (fun _ h => ?_) (fun _ h => ?_)
    | (refine bnd_case h (fun a e h => ?_); first | skip)
    | exact Fm.rf
    | refine Fm.put ?_ (by unfold RgM; omega)
    | refine Fm.cpy ?_ (by unfold RgM; omega)
    | refine Fm.trans ?_ (by assumption)
    | (cases h; done)
    | cases h
set_option maxRecDepth 100000 in
theorem lf_X8_lay_150 {p1 : Int32} {p3 : Int32} {p5 : Int32}   {r0 : Int32} {σ2 : Mem} {k : Mem → Option (Int32 × Mem)}  (hk : ∀ (σ1 : Mem), k  σ1 = some (r0, σ2) → Fm RgM σ1 σ2) : ∀ (n : Nat) (v6 : Int32) (σ : Mem), f_X8_lay_150 p1 p3 p5 n v6 σ k = some (r0, σ2) → Fm RgM σ σ2 := by
  intro n
  induction n with
  | zero =>
    intro v6 σ h
    cases h
  | succ n ih =>
    intro v6 σ h
    rw [f_X8_lay_150.eq_2] at h
    repeat' first
      | refine Fm.trans ?_ (ih _ _ h)
      | refine Fm.trans ?_ (hk _ h)
      | refine r_case h (fun _ h => ?_) (fun _ h => ?_)
      | (refine bnd_case h (fun a e h => ?_); first | skip)
      | exact Fm.rf
      | refine Fm.put ?_ (by unfold RgM; omega)
      | refine Fm.cpy ?_ (by unfold RgM; omega)
      | refine Fm.trans ?_ (by assumption)
      | (cases h; done)
      | cases h
set_option maxRecDepth 100000 in
theorem fr_X8_lay {p1 : Int32} {p2 : Int32} {p3 : Int32} {σ : Mem} {res : (Int32 × Mem)}  (h : f_X8_lay p1 p2 p3 σ = some res) : Fm RgM σ res.2 := by
  obtain ⟨r0, σ2⟩ := res
  unfold f_X8_lay at h
  repeat' first
    | refine Fm.trans ?_ (lf_X8_lay_150 (fun σ1 h => ?_) _ _ _ h)
    | refine r_case h (fun _ h => ?_) (fun _ h => ?_)
    | (refine bnd_case h (fun a e h => ?_); first | skip)
    | exact Fm.rf
    | refine Fm.put ?_ (by unfold RgM; omega)
    | refine Fm.cpy ?_ (by unfold RgM; omega)
    | refine Fm.trans ?_ (by assumption)
    | (cases h; done)
    | cases h
set_option maxRecDepth 100000 in
theorem fr_X8_tell {p1 : Int32} {σ : Mem} {res : (Int32 × Mem)}  (h : f_X8_tell p1 σ = some res) : Fm RgM σ res.2 := by
  obtain ⟨r0, σ2⟩ := res
  unfold f_X8_tell at h
  repeat' first
    | refine r_case h (fun _ h => ?_) (fun _ h => ?_)
    | (refine bnd_case h (fun a e h => ?_); first | skip)
    | exact Fm.rf
    | refine Fm.put ?_ (by unfold RgM; omega)
    | refine Fm.cpy ?_ (by unfold RgM; omega)
    | refine Fm.trans ?_ (by assumption)
    | (cases h; done)
    | cases h
set_option maxRecDepth 100000 in
theorem lf_X8_setAside_2 {p1g : Nat} {p1i : Nat} {p2g : Nat} {p2i : Nat}  {σ2 : Mem} {k : Mem → Option Mem} (hq : 22 ≤ p2g) (hk : ∀ (σ1 : Mem), k  σ1 = some σ2 → Fm RgM σ1 σ2) : ∀ (n : Nat) (v3 : Int32) (σ : Mem), f_X8_setAside_2 p1g p1i p2g p2i n v3 σ k = some σ2 → Fm RgM σ σ2 := by
  intro n
  induction n with
  | zero =>
    intro v3 σ h
    cases h
  | succ n ih =>
    intro v3 σ h
    rw [f_X8_setAside_2.eq_2] at h
    repeat' first
      | refine Fm.trans ?_ (ih _ _ h)
      | refine Fm.trans ?_ (hk _ h)
      | refine r_case h (fun _ h => ?_) (fun _ h => ?_)
      | (refine bnd_case h (fun a e h => ?_); first | skip)
      | exact Fm.rf
      | refine Fm.put ?_ (by unfold RgM; omega)
      | refine Fm.cpy ?_ (by unfold RgM; omega)
      | refine Fm.trans ?_ (by assumption)
      | (cases h; done)
      | cases h
set_option maxRecDepth 100000 in
theorem fr_X8_setAside {p1g : Nat} {p1i : Nat} {p2g : Nat} {p2i : Nat} {σ : Mem} {res : Mem} (hq : 22 ≤ p2g) (h : f_X8_setAside p1g p1i p2g p2i σ = some res) : Fm RgM σ res := by
  unfold f_X8_setAside at h
  repeat' first
    | refine Fm.trans ?_ (lf_X8_setAside_2 hq (fun σ1 h => ?_) _ _ _ h)
    | refine r_case h (fun _ h => ?_) (fun _ h => ?_)
    | (refine bnd_case h (fun a e h => ?_); first | skip)
    | exact Fm.rf
    | refine Fm.put ?_ (by unfold RgM; omega)
    | refine Fm.cpy ?_ (by unfold RgM; omega)
    | refine Fm.trans ?_ (by assumption)
    | (cases h; done)
    | cases h
set_option maxRecDepth 100000 in
theorem lf_X8_check_64 {p1 : Int32} {p2 : Int32}   {r0 : Int32} {σ2 : Mem} {k : Int32 → Mem → Option (Int32 × Mem)}  (hk : ∀ (x3 : Int32) (σ1 : Mem), k x3 σ1 = some (r0, σ2) → Fm RgM σ1 σ2) : ∀ (n : Nat) (v3 : Int32) (v4 : Int32) (σ : Mem), f_X8_check_64 p1 p2 n v3 v4 σ k = some (r0, σ2) → Fm RgM σ σ2 := by
  intro n
  induction n with
  | zero =>
    intro v3 v4 σ h
    cases h
  | succ n ih =>
    intro v3 v4 σ h
    rw [f_X8_check_64.eq_2] at h
    repeat' first
      | refine Fm.trans ?_ (ih _ _ _ h)
      | refine Fm.trans ?_ (hk _ _ h)
      | refine r_case h (fun _ h => ?_) (fun _ h => ?_)
      | (refine bnd_case h (fun a e h => ?_); first | (have fe := fr_X8_setAside e) | (have fe := fr_X8_goesOn e) | skip)
      | exact Fm.rf
      | refine Fm.put ?_ (by unfold RgM; omega)
      | refine Fm.cpy ?_ (by unfold RgM; omega)
      | refine Fm.trans ?_ (by assumption)
      | (cases h; done)
      | cases h
set_option maxRecDepth 100000 in
theorem lf_X8_check_136 {p2 : Int32} {p3 : Int32} {σ : Mem}   {r0 : Int32} {σ2 : Mem} {k : Int32 → Option (Int32 × Mem)}  (hk : ∀ (x4 : Int32), k x4 = some (r0, σ2) → Fm RgM σ σ2) : ∀ (n : Nat) (v4 : Int32), f_X8_check_136 p2 p3 σ n v4 k = some (r0, σ2) → Fm RgM σ σ2 := by
  intro n
  induction n with
  | zero =>
    intro v4 h
    cases h
  | succ n ih =>
    intro v4 h
    rw [f_X8_check_136.eq_2] at h
    repeat' first
      | refine Fm.trans ?_ (ih _ h)
      | refine Fm.trans ?_ (hk _ h)
      | refine r_case h (fun _ h => ?_) (fun _ h => ?_)
      | (refine bnd_case h (fun a e h => ?_); first | (have fe := fr_X8_setAside e) | (have fe := fr_X8_goesOn e) | skip)
      | exact Fm.rf
      | refine Fm.put ?_ (by unfold RgM; omega)
      | refine Fm.cpy ?_ (by unfold RgM; omega)
      | refine Fm.trans ?_ (by assumption)
      | (cases h; done)
      | cases h
set_option maxRecDepth 100000 in
theorem fr_X8_check {p1 : Int32} {σ : Mem} {res : (Int32 × Mem)}  (h : f_X8_check p1 σ = some res) : Fm RgM σ res.2 := by
  obtain ⟨r0, σ2⟩ := res
  unfold f_X8_check at h
  repeat' first
    | refine Fm.trans ?_ (lf_X8_check_64 (fun x3 σ1 h => ?_) _ _ _ _ h)
    | refine Fm.trans ?_ (lf_X8_check_136 (fun x4 h => ?_) _ _ h)
    | refine r_case h (fun _ h => ?_) (fun _ h => ?_)
    | (refine bnd_case h (fun a e h => ?_); first | (have fe := fr_X8_setAside e) | (have fe := fr_X8_goesOn e) | skip)
    | exact Fm.rf
    | refine Fm.put ?_ (by unfold RgM; omega)
    | refine Fm.cpy ?_ (by unfold RgM; omega)
    | refine Fm.trans ?_ (by assumption)
    | (cases h; done)
    | cases h
set_option maxRecDepth 100000 in
theorem fr_X8_keep  {σ : Mem} {res : (Int32 × Mem)}  (h : f_X8_keep σ = some res) : Fm RgM σ res.2 := by
  obtain ⟨r0, σ2⟩ := res
  unfold f_X8_keep at h
  repeat' first
    | refine r_case h (fun _ h => ?_) (fun _ h => ?_)
    | (refine bnd_case h (fun a e h => ?_); first | (have fe := fr_X8_setAside e) | skip)
    | exact Fm.rf
    | refine Fm.put ?_ (by unfold RgM; omega)
    | refine Fm.cpy ?_ (by unfold RgM; omega)
    | refine Fm.trans ?_ (by assumption)
    | (cases h; done)
    | cases h
set_option maxRecDepth 100000 in
theorem fr_X8_back  {σ : Mem} {res : (Int32 × Mem)}  (h : f_X8_back σ = some res) : Fm RgM σ res.2 := by
  obtain ⟨r0, σ2⟩ := res
  unfold f_X8_back at h
  repeat' first
    | refine r_case h (fun _ h => ?_) (fun _ h => ?_)
    | (refine bnd_case h (fun a e h => ?_); first | (have fe := fr_X8_setAside e) | skip)
    | exact Fm.rf
    | refine Fm.put ?_ (by unfold RgM; omega)
    | refine Fm.cpy ?_ (by unfold RgM; omega)
    | refine Fm.trans ?_ (by assumption)
    | (cases h; done)
    | cases h
set_option maxRecDepth 100000 in
theorem fr_X8_part0 {rec : Nat → Int32 → Mem → Option (Int32 × Mem)} {p1 : Int32} {σ : Mem} {res : (Int32 × Mem)} (hrec : ∀ t p1 σ a, rec t p1 σ = some a → Fm RgM σ a.2) (h : f_X8_part0 rec p1 σ = some res) : Fm RgM σ res.2 := by
  obtain ⟨r0, σ2⟩ := res
  unfold f_X8_part0 at h
  repeat' first
    | refine r_case h (fun _ h => ?_) (fun _ h => ?_)
    | (refine bnd_case h (fun a e h => ?_); first | (have fe := fr_X8_step e) | (have fe := fr_X8_nextToken e) | (have fe := hrec _ _ _ _ e) | skip)
    | exact Fm.rf
    | refine Fm.put ?_ (by unfold RgM; omega)
    | refine Fm.cpy ?_ (by unfold RgM; omega)
    | refine Fm.trans ?_ (by assumption)
    | (cases h; done)
    | cases h
set_option maxRecDepth 100000 in
theorem lf_X8_term_10 {rec : Nat → Int32 → Mem → Option (Int32 × Mem)} {p1 : Int32}   {r0 : Int32} {σ2 : Mem} {k : Mem → Option (Int32 × Mem)} (hrec : ∀ t p1 σ a, rec t p1 σ = some a → Fm RgM σ a.2) (hk : ∀ (σ1 : Mem), k  σ1 = some (r0, σ2) → Fm RgM σ1 σ2) : ∀ (n : Nat) (σ : Mem), f_X8_term_10 rec p1 n  σ k = some (r0, σ2) → Fm RgM σ σ2 := by
  intro n
  induction n with
  | zero =>
    intro σ h
    cases h
  | succ n ih =>
    intro σ h
    rw [f_X8_term_10.eq_2] at h
    repeat' first
      | refine Fm.trans ?_ (ih _ h)
      | refine Fm.trans ?_ (hk _ h)
      | refine r_case h (fun _ h => ?_) (fun _ h => ?_)
      | (refine bnd_case h (fun a e h => ?_); first | (have fe := fr_X8_nextToken e) | (have fe := fr_X8_step e) | (have fe := hrec _ _ _ _ e) | skip)
      | exact Fm.rf
      | refine Fm.put ?_ (by unfold RgM; omega)
      | refine Fm.cpy ?_ (by unfold RgM; omega)
      | refine Fm.trans ?_ (by assumption)
      | (cases h; done)
      | cases h
set_option maxRecDepth 100000 in
theorem fr_X8_term {rec : Nat → Int32 → Mem → Option (Int32 × Mem)} {p1 : Int32} {σ : Mem} {res : (Int32 × Mem)} (hrec : ∀ t p1 σ a, rec t p1 σ = some a → Fm RgM σ a.2) (h : f_X8_term rec p1 σ = some res) : Fm RgM σ res.2 := by
  obtain ⟨r0, σ2⟩ := res
  unfold f_X8_term at h
  repeat' first
    | refine Fm.trans ?_ (lf_X8_term_10 hrec (fun σ1 h => ?_) _ _ h)
    | refine r_case h (fun _ h => ?_) (fun _ h => ?_)
    | (refine bnd_case h (fun a e h => ?_); first | (have fe := fr_X8_nextToken e) | (have fe := fr_X8_step e) | (have fe := hrec _ _ _ _ e) | skip)
    | exact Fm.rf
    | refine Fm.put ?_ (by unfold RgM; omega)
    | refine Fm.cpy ?_ (by unfold RgM; omega)
    | refine Fm.trans ?_ (by assumption)
    | (cases h; done)
    | cases h
set_option maxRecDepth 100000 in
theorem lf_X8_sum_10 {rec : Nat → Int32 → Mem → Option (Int32 × Mem)} {p1 : Int32}   {r0 : Int32} {σ2 : Mem} {k : Mem → Option (Int32 × Mem)} (hrec : ∀ t p1 σ a, rec t p1 σ = some a → Fm RgM σ a.2) (hk : ∀ (σ1 : Mem), k  σ1 = some (r0, σ2) → Fm RgM σ1 σ2) : ∀ (n : Nat) (σ : Mem), f_X8_sum_10 rec p1 n  σ k = some (r0, σ2) → Fm RgM σ σ2 := by
  intro n
  induction n with
  | zero =>
    intro σ h
    cases h
  | succ n ih =>
    intro σ h
    rw [f_X8_sum_10.eq_2] at h
    repeat' first
      | refine Fm.trans ?_ (ih _ h)
      | refine Fm.trans ?_ (hk _ h)
      | refine r_case h (fun _ h => ?_) (fun _ h => ?_)
      | (refine bnd_case h (fun a e h => ?_); first | (have fe := fr_X8_nextToken e) | (have fe := fr_X8_step e) | (have fe := hrec _ _ _ _ e) | skip)
      | exact Fm.rf
      | refine Fm.put ?_ (by unfold RgM; omega)
      | refine Fm.cpy ?_ (by unfold RgM; omega)
      | refine Fm.trans ?_ (by assumption)
      | (cases h; done)
      | cases h
set_option maxRecDepth 100000 in
theorem fr_X8_sum {rec : Nat → Int32 → Mem → Option (Int32 × Mem)} {p1 : Int32} {σ : Mem} {res : (Int32 × Mem)} (hrec : ∀ t p1 σ a, rec t p1 σ = some a → Fm RgM σ a.2) (h : f_X8_sum rec p1 σ = some res) : Fm RgM σ res.2 := by
  obtain ⟨r0, σ2⟩ := res
  unfold f_X8_sum at h
  repeat' first
    | refine Fm.trans ?_ (lf_X8_sum_10 hrec (fun σ1 h => ?_) _ _ h)
    | refine r_case h (fun _ h => ?_) (fun _ h => ?_)
    | (refine bnd_case h (fun a e h => ?_); first | (have fe := fr_X8_nextToken e) | (have fe := fr_X8_step e) | (have fe := hrec _ _ _ _ e) | skip)
    | exact Fm.rf
    | refine Fm.put ?_ (by unfold RgM; omega)
    | refine Fm.cpy ?_ (by unfold RgM; omega)
    | refine Fm.trans ?_ (by assumption)
    | (cases h; done)
    | cases h
set_option maxRecDepth 100000 in
theorem fr_X8_test {rec : Nat → Int32 → Mem → Option (Int32 × Mem)} {p1 : Int32} {σ : Mem} {res : (Int32 × Mem)} (hrec : ∀ t p1 σ a, rec t p1 σ = some a → Fm RgM σ a.2) (h : f_X8_test rec p1 σ = some res) : Fm RgM σ res.2 := by
  obtain ⟨r0, σ2⟩ := res
  unfold f_X8_test at h
  repeat' first
    | refine r_case h (fun _ h => ?_) (fun _ h => ?_)
    | (refine bnd_case h (fun a e h => ?_); first | (have fe := fr_X8_nextToken e) | (have fe := fr_X8_step e) | (have fe := hrec _ _ _ _ e) | skip)
    | exact Fm.rf
    | refine Fm.put ?_ (by unfold RgM; omega)
    | refine Fm.cpy ?_ (by unfold RgM; omega)
    | refine Fm.trans ?_ (by assumption)
    | (cases h; done)
    | cases h
set_option maxRecDepth 100000 in
theorem lf_X8_both_10 {rec : Nat → Int32 → Mem → Option (Int32 × Mem)} {p1 : Int32}   {r0 : Int32} {σ2 : Mem} {k : Mem → Option (Int32 × Mem)} (hrec : ∀ t p1 σ a, rec t p1 σ = some a → Fm RgM σ a.2) (hk : ∀ (σ1 : Mem), k  σ1 = some (r0, σ2) → Fm RgM σ1 σ2) : ∀ (n : Nat) (σ : Mem), f_X8_both_10 rec p1 n  σ k = some (r0, σ2) → Fm RgM σ σ2 := by
  intro n
  induction n with
  | zero =>
    intro σ h
    cases h
  | succ n ih =>
    intro σ h
    rw [f_X8_both_10.eq_2] at h
    repeat' first
      | refine Fm.trans ?_ (ih _ h)
      | refine Fm.trans ?_ (hk _ h)
      | refine r_case h (fun _ h => ?_) (fun _ h => ?_)
      | (refine bnd_case h (fun a e h => ?_); first | (have fe := fr_X8_nextToken e) | (have fe := fr_X8_step e) | (have fe := hrec _ _ _ _ e) | skip)
      | exact Fm.rf
      | refine Fm.put ?_ (by unfold RgM; omega)
      | refine Fm.cpy ?_ (by unfold RgM; omega)
      | refine Fm.trans ?_ (by assumption)
      | (cases h; done)
      | cases h
set_option maxRecDepth 100000 in
theorem fr_X8_both {rec : Nat → Int32 → Mem → Option (Int32 × Mem)} {p1 : Int32} {σ : Mem} {res : (Int32 × Mem)} (hrec : ∀ t p1 σ a, rec t p1 σ = some a → Fm RgM σ a.2) (h : f_X8_both rec p1 σ = some res) : Fm RgM σ res.2 := by
  obtain ⟨r0, σ2⟩ := res
  unfold f_X8_both at h
  repeat' first
    | refine Fm.trans ?_ (lf_X8_both_10 hrec (fun σ1 h => ?_) _ _ h)
    | refine r_case h (fun _ h => ?_) (fun _ h => ?_)
    | (refine bnd_case h (fun a e h => ?_); first | (have fe := fr_X8_nextToken e) | (have fe := fr_X8_step e) | (have fe := hrec _ _ _ _ e) | skip)
    | exact Fm.rf
    | refine Fm.put ?_ (by unfold RgM; omega)
    | refine Fm.cpy ?_ (by unfold RgM; omega)
    | refine Fm.trans ?_ (by assumption)
    | (cases h; done)
    | cases h
set_option maxRecDepth 100000 in
theorem lf_X8_either_10 {rec : Nat → Int32 → Mem → Option (Int32 × Mem)} {p1 : Int32}   {r0 : Int32} {σ2 : Mem} {k : Mem → Option (Int32 × Mem)} (hrec : ∀ t p1 σ a, rec t p1 σ = some a → Fm RgM σ a.2) (hk : ∀ (σ1 : Mem), k  σ1 = some (r0, σ2) → Fm RgM σ1 σ2) : ∀ (n : Nat) (σ : Mem), f_X8_either_10 rec p1 n  σ k = some (r0, σ2) → Fm RgM σ σ2 := by
  intro n
  induction n with
  | zero =>
    intro σ h
    cases h
  | succ n ih =>
    intro σ h
    rw [f_X8_either_10.eq_2] at h
    repeat' first
      | refine Fm.trans ?_ (ih _ h)
      | refine Fm.trans ?_ (hk _ h)
      | refine r_case h (fun _ h => ?_) (fun _ h => ?_)
      | (refine bnd_case h (fun a e h => ?_); first | (have fe := fr_X8_nextToken e) | (have fe := fr_X8_step e) | (have fe := hrec _ _ _ _ e) | skip)
      | exact Fm.rf
      | refine Fm.put ?_ (by unfold RgM; omega)
      | refine Fm.cpy ?_ (by unfold RgM; omega)
      | refine Fm.trans ?_ (by assumption)
      | (cases h; done)
      | cases h
set_option maxRecDepth 100000 in
theorem fr_X8_either {rec : Nat → Int32 → Mem → Option (Int32 × Mem)} {p1 : Int32} {σ : Mem} {res : (Int32 × Mem)} (hrec : ∀ t p1 σ a, rec t p1 σ = some a → Fm RgM σ a.2) (h : f_X8_either rec p1 σ = some res) : Fm RgM σ res.2 := by
  obtain ⟨r0, σ2⟩ := res
  unfold f_X8_either at h
  repeat' first
    | refine Fm.trans ?_ (lf_X8_either_10 hrec (fun σ1 h => ?_) _ _ h)
    | refine r_case h (fun _ h => ?_) (fun _ h => ?_)
    | (refine bnd_case h (fun a e h => ?_); first | (have fe := fr_X8_nextToken e) | (have fe := fr_X8_step e) | (have fe := hrec _ _ _ _ e) | skip)
    | exact Fm.rf
    | refine Fm.put ?_ (by unfold RgM; omega)
    | refine Fm.cpy ?_ (by unfold RgM; omega)
    | refine Fm.trans ?_ (by assumption)
    | (cases h; done)
    | cases h
theorem fr_S_m : ∀ (n t : Nat) (k : Int32) (σ : Mem) (a : Int32 × Mem), S_m n t k σ = some a → Fm RgM σ a.2 := by
  intro n
  induction n with
  | zero => intro t k σ a h; cases h
  | succ n ih =>
    intro t k σ a h
    match t, h with
    | 0, h => exact fr_X8_either ih h
    | 1, h => exact fr_X8_both ih h
    | 2, h => exact fr_X8_test ih h
    | 3, h => exact fr_X8_sum ih h
    | 4, h => exact fr_X8_term ih h
    | t + 5, h => exact fr_X8_part0 ih h
set_option maxRecDepth 100000 in
theorem fr_X8_parse  {σ : Mem} {res : (Int32 × Mem)}  (h : f_X8_parse σ = some res) : Fm RgM σ res.2 := by
  obtain ⟨r0, σ2⟩ := res
  unfold f_X8_parse at h
  repeat' first
    | refine r_case h (fun _ h => ?_) (fun _ h => ?_)
    | (refine bnd_case h (fun a e h => ?_); first | (have fe := fr_X8_nextToken e) | (have fe := fr_S_m _ _ _ _ _ e) | skip)
    | exact Fm.rf
    | refine Fm.put ?_ (by unfold RgM; omega)
    | refine Fm.cpy ?_ (by unfold RgM; omega)
    | refine Fm.trans ?_ (by assumption)
    | (cases h; done)
    | cases h
set_option maxRecDepth 100000 in
theorem fr_X8_text  {σ : Mem} {res : (Int32 × Mem)}  (h : f_X8_text σ = some res) : Fm RgM σ res.2 := by
  obtain ⟨r0, σ2⟩ := res
  unfold f_X8_text at h
  repeat' first
    | refine r_case h (fun _ h => ?_) (fun _ h => ?_)
    | (refine bnd_case h (fun a e h => ?_); first | (have fe := fr_X8_parse e) | skip)
    | exact Fm.rf
    | refine Fm.put ?_ (by unfold RgM; omega)
    | refine Fm.cpy ?_ (by unfold RgM; omega)
    | refine Fm.trans ?_ (by assumption)
    | (cases h; done)
    | cases h
