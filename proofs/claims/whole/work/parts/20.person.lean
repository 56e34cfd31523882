noncomputable section
def f_X7_isWithin  (p0 : Int32) (p1 : Int32) (p2 : Int32) (σ : Mem) : Option Int32 :=
  (if p0 < p1 then (some (0 : Int32)) else (if p2 < p0 then (some (0 : Int32)) else (some (1 : Int32))))
set_option maxRecDepth 100000 in
set_option maxHeartbeats 4000000 in
theorem F_X7_isWithin {X : Cx} {p0 : Int32} {p1 : Int32} {p2 : Int32} {σ : Mem} {res : Int32}  (h : f_X7_isWithin p0 p1 p2 σ = some res) : Tri X 1 mX7_isWithin [.int p0, .int p1, .int p2] σ (some (.int res)) σ := by
  unfold f_X7_isWithin at h
  refine Tri.of (ls := [some (.int p0), some (.int p1), some (.int p2)]) (by decide) (Nat.le_of_ble_eq_true rfl) rfl ?_
  refine i_iload_n dX7_isWithin_0 rfl ?_
  refine i_iload_n dX7_isWithin_1 rfl ?_
  refine r_icmp_lt (tgt := 14) dX7_isWithin_2 (by decide) h (fun c1 h => ?_) (fun c1 h => ?_)
  · refine i_iconst (v := 0) dX7_isWithin_14 (by decide) ?_
    exact e_zr rfl (by decide) dX7_isWithin_15 h
  · refine i_iload_n dX7_isWithin_5 rfl ?_
    refine i_iload_n dX7_isWithin_6 rfl ?_
    refine r_icmp_gt (tgt := 14) dX7_isWithin_7 (by decide) h (fun c2 h => ?_) (fun c2 h => ?_)
    · refine i_iconst (v := 0) dX7_isWithin_14 (by decide) ?_
      exact e_zr rfl (by decide) dX7_isWithin_15 h
    · refine i_iconst (v := 1) dX7_isWithin_10 (by decide) ?_
      refine i_goto (tgt := 15) dX7_isWithin_11 (by decide) ?_
      exact e_zr rfl (by decide) dX7_isWithin_15 h
def f_X7_heldWithin  (p0 : Int32) (p1 : Int32) (p2 : Int32) (σ : Mem) : Option Int32 :=
  (some (if p1 < (if p0 < p2 then p0 else p2) then (if p0 < p2 then p0 else p2) else p1))
set_option maxRecDepth 100000 in
set_option maxHeartbeats 4000000 in
theorem F_X7_heldWithin {X : Cx} {p0 : Int32} {p1 : Int32} {p2 : Int32} {σ : Mem} {res : Int32}  (h : f_X7_heldWithin p0 p1 p2 σ = some res) : Tri X 1 mX7_heldWithin [.int p0, .int p1, .int p2] σ (some (.int res)) σ := by
  unfold f_X7_heldWithin at h
  refine Tri.of (ls := [some (.int p0), some (.int p1), some (.int p2)]) (by decide) (Nat.le_of_ble_eq_true rfl) rfl ?_
  refine i_iload_n dX7_heldWithin_0 rfl ?_
  refine i_iload_n dX7_heldWithin_1 rfl ?_
  refine i_iload_n dX7_heldWithin_2 rfl ?_
  refine i_mmin dX7_heldWithin_3 k_X7_167 (by omega) (Nat.le_of_ble_eq_true rfl) ?_
  refine i_mmax dX7_heldWithin_6 k_X7_318 (by omega) (Nat.le_of_ble_eq_true rfl) ?_
  exact e_ir rfl dX7_heldWithin_9 h
def f_X3_comes  (p0 : Nat) (p1 : Int32) (p2 : Int32) (p3 : Int32) (σ : Mem) : Option Mem :=
  (bnd (some (mput (mput (mput (mput (mput σ 3 p0 0 p1) 3 p0 1 p2) 3 p0 2 p3) 3 p0 3 (0 : Int32)) 3 p0 4 (-1 : Int32))) (fun s1 => (some s1)))
set_option maxRecDepth 100000 in
set_option maxHeartbeats 4000000 in
theorem F_X3_comes {X : Cx} {p0 : Nat} {p1 : Int32} {p2 : Int32} {p3 : Int32} {σ : Mem} {res : Mem} (h0 : p0 < 35) (h : f_X3_comes p0 p1 p2 p3 σ = some res) : Tri X 1 mX3_comes [rf X 3 p0, .int p1, .int p2, .int p3] σ none res := by
  unfold f_X3_comes at h
  refine Tri.of (ls := [some (rf X 3 p0), some (.int p1), some (.int p2), some (.int p3)]) (by decide) (Nat.le_of_ble_eq_true rfl) rfl ?_
  refine i_aload_n dX3_comes_0 rfl ?_
  refine i_iload_n dX3_comes_1 rfl ?_
  refine pf_X3_9 rfl (by omega) dX3_comes_2 ?_
  refine i_aload_n dX3_comes_5 rfl ?_
  refine i_iload_n dX3_comes_6 rfl ?_
  refine pf_X3_15 rfl (by omega) dX3_comes_7 ?_
  refine i_aload_n dX3_comes_10 rfl ?_
  refine i_iload_n dX3_comes_11 rfl ?_
  refine pf_X3_18 rfl (by omega) dX3_comes_12 ?_
  refine i_aload_n dX3_comes_15 rfl ?_
  refine i_iconst (v := 0) dX3_comes_16 (by decide) ?_
  refine pf_X3_21 rfl (by omega) dX3_comes_17 ?_
  refine i_aload_n dX3_comes_20 rfl ?_
  refine i_iconst (v := (-1)) dX3_comes_21 (by decide) ?_
  refine pf_X3_24 rfl (by omega) dX3_comes_22 ?_
  refine r_mem h (fun s1 _ h => ?_)
  exact e_vw rfl dX3_comes_25 h
def f_X3_becomes  (p0 : Nat) (p1 : Nat) (σ : Mem) : Option Mem :=
  (bnd (some (mput (mput (mput σ 3 p0 0 (σ 3 p1 0)) 3 p0 1 ((mput σ 3 p0 0 (σ 3 p1 0)) 3 p1 1)) 3 p0 2 ((mput (mput σ 3 p0 0 (σ 3 p1 0)) 3 p0 1 ((mput σ 3 p0 0 (σ 3 p1 0)) 3 p1 1)) 3 p1 2))) (fun s1 => (some (mput (mput s1 3 p0 3 (s1 3 p1 3)) 3 p0 4 ((mput s1 3 p0 3 (s1 3 p1 3)) 3 p1 4)))))
set_option maxRecDepth 100000 in
set_option maxHeartbeats 4000000 in
theorem F_X3_becomes {X : Cx} {p0 : Nat} {p1 : Nat} {σ : Mem} {res : Mem} (h0 : p0 < 35) (h1 : p1 < 35) (h : f_X3_becomes p0 p1 σ = some res) : Tri X 1 mX3_becomes [rf X 3 p0, rf X 3 p1] σ none res := by
  unfold f_X3_becomes at h
  refine Tri.of (ls := [some (rf X 3 p0), some (rf X 3 p1)]) (by decide) (Nat.le_of_ble_eq_true rfl) rfl ?_
  refine i_aload_n dX3_becomes_0 rfl ?_
  refine i_aload_n dX3_becomes_1 rfl ?_
  refine gf_X3_9 rfl (by omega) dX3_becomes_2 ?_
  refine pf_X3_9 rfl (by omega) dX3_becomes_5 ?_
  refine i_aload_n dX3_becomes_8 rfl ?_
  refine i_aload_n dX3_becomes_9 rfl ?_
  refine gf_X3_15 rfl (by omega) dX3_becomes_10 ?_
  refine pf_X3_15 rfl (by omega) dX3_becomes_13 ?_
  refine i_aload_n dX3_becomes_16 rfl ?_
  refine i_aload_n dX3_becomes_17 rfl ?_
  refine gf_X3_18 rfl (by omega) dX3_becomes_18 ?_
  refine pf_X3_18 rfl (by omega) dX3_becomes_21 ?_
  refine r_mem h (fun s1 _ h => ?_)
  refine i_aload_n dX3_becomes_24 rfl ?_
  refine i_aload_n dX3_becomes_25 rfl ?_
  refine gf_X3_21 rfl (by omega) dX3_becomes_26 ?_
  refine pf_X3_21 rfl (by omega) dX3_becomes_29 ?_
  refine i_aload_n dX3_becomes_32 rfl ?_
  refine i_aload_n dX3_becomes_33 rfl ?_
  refine gf_X3_24 rfl (by omega) dX3_becomes_34 ?_
  refine pf_X3_24 rfl (by omega) dX3_becomes_37 ?_
  exact e_vw rfl dX3_becomes_40 h
def f_X3_changeEast  (p0 : Nat) (p1 : Int32) (σ : Mem) : Option (Int32 × Mem) :=
  (some ((σ 3 p0 1), (mput σ 3 p0 1 p1)))
set_option maxRecDepth 100000 in
set_option maxHeartbeats 4000000 in
theorem F_X3_changeEast {X : Cx} {p0 : Nat} {p1 : Int32} {σ : Mem} {res : (Int32 × Mem)} (h0 : p0 < 35) (h : f_X3_changeEast p0 p1 σ = some res) : Tri X 1 mX3_changeEast [rf X 3 p0, .int p1] σ (some (.int res.1)) res.2 := by
  obtain ⟨r0, σ2⟩ := res
  unfold f_X3_changeEast at h
  refine Tri.of (ls := [some (rf X 3 p0), some (.int p1), none]) (by decide) (Nat.le_of_ble_eq_true rfl) rfl ?_
  refine i_aload_n dX3_changeEast_0 rfl ?_
  refine gf_X3_15 rfl (by omega) dX3_changeEast_1 ?_
  refine i_istore_n (ls' := [some (rf X 3 p0), some (.int p1), some (.int (σ 3 p0 1))]) dX3_changeEast_4 (by decide) (okp_at rfl) rfl ?_
  refine i_aload_n dX3_changeEast_5 rfl ?_
  refine i_iload_n dX3_changeEast_6 rfl ?_
  refine pf_X3_15 rfl (by omega) dX3_changeEast_7 ?_
  refine i_iload_n dX3_changeEast_10 rfl ?_
  exact e_iw rfl dX3_changeEast_11 h
def f_X3_changeFaith  (p0 : Nat) (p1 : Int32) (σ : Mem) : Option (Int32 × Mem) :=
  (some ((σ 3 p0 2), (mput σ 3 p0 2 p1)))
set_option maxRecDepth 100000 in
set_option maxHeartbeats 4000000 in
theorem F_X3_changeFaith {X : Cx} {p0 : Nat} {p1 : Int32} {σ : Mem} {res : (Int32 × Mem)} (h0 : p0 < 35) (h : f_X3_changeFaith p0 p1 σ = some res) : Tri X 1 mX3_changeFaith [rf X 3 p0, .int p1] σ (some (.int res.1)) res.2 := by
  obtain ⟨r0, σ2⟩ := res
  unfold f_X3_changeFaith at h
  refine Tri.of (ls := [some (rf X 3 p0), some (.int p1), none]) (by decide) (Nat.le_of_ble_eq_true rfl) rfl ?_
  refine i_aload_n dX3_changeFaith_0 rfl ?_
  refine gf_X3_18 rfl (by omega) dX3_changeFaith_1 ?_
  refine i_istore_n (ls' := [some (rf X 3 p0), some (.int p1), some (.int (σ 3 p0 2))]) dX3_changeFaith_4 (by decide) (okp_at rfl) rfl ?_
  refine i_aload_n dX3_changeFaith_5 rfl ?_
  refine i_iload_n dX3_changeFaith_6 rfl ?_
  refine pf_X3_18 rfl (by omega) dX3_changeFaith_7 ?_
  refine i_iload_n dX3_changeFaith_10 rfl ?_
  exact e_iw rfl dX3_changeFaith_11 h
def f_X3_changePurse  (p0 : Nat) (p1 : Int32) (σ : Mem) : Option (Int32 × Mem) :=
  (some ((σ 3 p0 3), (mput σ 3 p0 3 p1)))
set_option maxRecDepth 100000 in
set_option maxHeartbeats 4000000 in
theorem F_X3_changePurse {X : Cx} {p0 : Nat} {p1 : Int32} {σ : Mem} {res : (Int32 × Mem)} (h0 : p0 < 35) (h : f_X3_changePurse p0 p1 σ = some res) : Tri X 1 mX3_changePurse [rf X 3 p0, .int p1] σ (some (.int res.1)) res.2 := by
  obtain ⟨r0, σ2⟩ := res
  unfold f_X3_changePurse at h
  refine Tri.of (ls := [some (rf X 3 p0), some (.int p1), none]) (by decide) (Nat.le_of_ble_eq_true rfl) rfl ?_
  refine i_aload_n dX3_changePurse_0 rfl ?_
  refine gf_X3_21 rfl (by omega) dX3_changePurse_1 ?_
  refine i_istore_n (ls' := [some (rf X 3 p0), some (.int p1), some (.int (σ 3 p0 3))]) dX3_changePurse_4 (by decide) (okp_at rfl) rfl ?_
  refine i_aload_n dX3_changePurse_5 rfl ?_
  refine i_iload_n dX3_changePurse_6 rfl ?_
  refine pf_X3_21 rfl (by omega) dX3_changePurse_7 ?_
  refine i_iload_n dX3_changePurse_10 rfl ?_
  exact e_iw rfl dX3_changePurse_11 h
def f_X3_receive  (p0 : Nat) (p1 : Int32) (σ : Mem) : Option Mem :=
  (bnd (f_X7_heldWithin ((σ 3 p0 3) + p1) (-9999 : Int32) (9999 : Int32) σ) (fun a1 => (some (mput σ 3 p0 3 a1))))
set_option maxRecDepth 100000 in
set_option maxHeartbeats 4000000 in
theorem F_X3_receive {X : Cx} {p0 : Nat} {p1 : Int32} {σ : Mem} {res : Mem} (h0 : p0 < 35) (h : f_X3_receive p0 p1 σ = some res) : Tri X 2 mX3_receive [rf X 3 p0, .int p1] σ none res := by
  unfold f_X3_receive at h
  refine Tri.of (ls := [some (rf X 3 p0), some (.int p1)]) (by decide) (Nat.le_of_ble_eq_true rfl) rfl ?_
  refine i_aload_n dX3_receive_0 rfl ?_
  refine i_aload_n dX3_receive_1 rfl ?_
  refine gf_X3_21 rfl (by omega) dX3_receive_2 ?_
  refine i_iload_n dX3_receive_5 rfl ?_
  refine i_iadd dX3_receive_6 ?_
  refine i_sipush (v := (-9999)) dX3_receive_7 (by decide) ?_
  refine i_sipush (v := 9999) dX3_receive_10 (by decide) ?_
  refine cSN_ir dX3_receive_13 cw_X3_27 ci_X7_heldWithin h (fun a1 e => F_X7_heldWithin  e) (Nat.le_of_ble_eq_true rfl) rfl rfl (Nat.le_of_ble_eq_true rfl) (fun a1 ea1 h => ?_)
  refine pf_X3_21 rfl (by omega) dX3_receive_16 ?_
  exact e_vw rfl dX3_receive_19 h
def f_X3_isOf_7 (p1 : Int32) (σ : Mem) : Nat → Int32 → Int32 → (Option Int32) → Option Int32
  | 0, _, _, _ => none
  | n + 1, v2, v3, k =>
    (if (6 : Int32) ≤ v3 then (k) else (if v2 < 0 then (k) else (if v2 = p1 then (some (1 : Int32)) else (bnd (ix 6 v2) (fun j1 => (f_X3_isOf_7 p1 σ n ((stR 0).getD j1 0) (v3 + (1 : Int32)) k))))))
set_option maxRecDepth 100000 in
set_option maxHeartbeats 4000000 in
theorem L_X3_isOf_7 {X : Cx} {p1 : Int32} {σ : Mem} {r0 : Int32} {k : Option Int32}  : ∀ (n : Nat) (v2 : Int32) (v3 : Int32), f_X3_isOf_7 p1 σ n v2 v3 k = some r0 → (k = some r0 → At X 1 mX3_isOf 36 [none, none, none, none] [] σ (some (.int r0)) σ) → At X 1 mX3_isOf 7 [none, some (.int p1), some (.int v2), some (.int v3)] [] σ (some (.int r0)) σ := by
  intro n
  induction n with
  | zero =>
    intro v2 v3 h
    cases h
  | succ n ih =>
    intro v2 v3 h hk
    rw [f_X3_isOf_7.eq_2] at h
    refine i_iload_n dX3_isOf_7 rfl ?_
    refine i_bipush (v := 6) dX3_isOf_8 (by decide) ?_
    refine r_icmp_ge (tgt := 36) dX3_isOf_10 (by decide) h (fun c1 h => ?_) (fun c1 h => ?_)
    · refine At.fewer (ls' := [none, none, none, none]) trivial ?_
      exact hk h
    · refine i_iload_n dX3_isOf_13 rfl ?_
      refine r_if_lt (tgt := 36) dX3_isOf_14 (by decide) h (fun c2 h => ?_) (fun c2 h => ?_)
      · refine At.fewer (ls' := [none, none, none, none]) trivial ?_
        exact hk h
      · refine i_iload_n dX3_isOf_17 rfl ?_
        refine i_iload_n dX3_isOf_18 rfl ?_
        refine r_icmp_ne (tgt := 24) dX3_isOf_19 (by decide) h (fun c3 h => ?_) (fun c3 h => ?_)
        · refine gs_X3_31 rfl dX3_isOf_24 ?_
          refine i_iload_n dX3_isOf_27 rfl ?_
          refine r_tld 0 (by decide) dX3_isOf_28 h (fun j1 lj1 h => ?_)
          refine i_istore_n (ls' := [none, some (.int p1), some (.int ((stR 0).getD j1 0)), some (.int v3)]) dX3_isOf_29 (by decide) (okp_at rfl) rfl ?_
          refine i_iinc (v := (v3 + (1 : Int32))) (ls' := [none, some (.int p1), some (.int ((stR 0).getD j1 0)), some (.int (v3 + (1 : Int32)))]) dX3_isOf_30 rfl (by rfl) (by decide) (okp_at rfl) rfl ?_
          refine i_goto (tgt := 7) dX3_isOf_33 (by decide) ?_
          exact ih _ _ h hk
        · refine i_iconst (v := 1) dX3_isOf_22 (by decide) ?_
          exact e_zr rfl (by decide) dX3_isOf_23 h
def f_X3_isOf  (p0 : Nat) (p1 : Int32) (σ : Mem) : Option Int32 :=
  (f_X3_isOf_7 p1 σ FU (σ 3 p0 0) (0 : Int32) ((some (0 : Int32))))
set_option maxRecDepth 100000 in
set_option maxHeartbeats 4000000 in
theorem F_X3_isOf {X : Cx} {p0 : Nat} {p1 : Int32} {σ : Mem} {res : Int32} (h0 : p0 < 35) (h : f_X3_isOf p0 p1 σ = some res) : Tri X 1 mX3_isOf [rf X 3 p0, .int p1] σ (some (.int res)) σ := by
  unfold f_X3_isOf at h
  refine Tri.of (ls := [some (rf X 3 p0), some (.int p1), none, none]) (by decide) (Nat.le_of_ble_eq_true rfl) rfl ?_
  refine i_aload_n dX3_isOf_0 rfl ?_
  refine gf_X3_9 rfl (by omega) dX3_isOf_1 ?_
  refine i_istore_n (ls' := [some (rf X 3 p0), some (.int p1), some (.int (σ 3 p0 0)), none]) dX3_isOf_4 (by decide) (okp_at rfl) rfl ?_
  refine i_iconst (v := 0) dX3_isOf_5 (by decide) ?_
  refine i_istore_n (ls' := [some (rf X 3 p0), some (.int p1), some (.int (σ 3 p0 0)), some (.int (0 : Int32))]) dX3_isOf_6 (by decide) (okp_at rfl) rfl ?_
  refine At.fewer (ls' := [none, some (.int p1), some (.int (σ 3 p0 0)), some (.int (0 : Int32))]) (And.intro rfl (And.intro rfl (And.intro rfl trivial))) ?_
  refine L_X3_isOf_7  FU _ _ h (fun  h => ?_)
  refine i_iconst (v := 0) dX3_isOf_36 (by decide) ?_
  exact e_zr rfl (by decide) dX3_isOf_37 h
def f_X3_noon  (p0 : Nat) (σ : Mem) : Option Int32 :=
  (bnd (ix 6 (σ 3 p0 0)) (fun j1 => (some ((((12 : Int32) + (σ 3 p0 1)) + ((stR 1).getD j1 0)) - (((12 : Int32) + (σ 3 p0 1)) + ((stR 1).getD j1 0)) / (24 : Int32) * (24 : Int32)))))
set_option maxRecDepth 100000 in
set_option maxHeartbeats 4000000 in
theorem F_X3_noon {X : Cx} {p0 : Nat} {σ : Mem} {res : Int32} (h0 : p0 < 35) (h : f_X3_noon p0 σ = some res) : Tri X 1 mX3_noon [rf X 3 p0] σ (some (.int res)) σ := by
  unfold f_X3_noon at h
  refine Tri.of (ls := [some (rf X 3 p0)]) (by decide) (Nat.le_of_ble_eq_true rfl) rfl ?_
  refine i_bipush (v := 12) dX3_noon_0 (by decide) ?_
  refine i_aload_n dX3_noon_2 rfl ?_
  refine gf_X3_15 rfl (by omega) dX3_noon_3 ?_
  refine i_iadd dX3_noon_6 ?_
  refine gs_X3_35 rfl dX3_noon_7 ?_
  refine i_aload_n dX3_noon_10 rfl ?_
  refine gf_X3_9 rfl (by omega) dX3_noon_11 ?_
  refine r_tld 1 (by decide) dX3_noon_14 h (fun j1 lj1 h => ?_)
  refine i_iadd dX3_noon_15 ?_
  refine i_bipush (v := 24) dX3_noon_16 (by decide) ?_
  refine i_irem dX3_noon_18 (by decide) ?_
  exact e_ir rfl dX3_noon_19 h
def f_X3_pays  (p0 : Nat) (σ : Mem) : Option Int32 :=
  (bnd (ix 6 (σ 3 p0 0)) (fun j1 => (some ((stR 2).getD j1 0))))
set_option maxRecDepth 100000 in
set_option maxHeartbeats 4000000 in
theorem F_X3_pays {X : Cx} {p0 : Nat} {σ : Mem} {res : Int32} (h0 : p0 < 35) (h : f_X3_pays p0 σ = some res) : Tri X 1 mX3_pays [rf X 3 p0] σ (some (.int res)) σ := by
  unfold f_X3_pays at h
  refine Tri.of (ls := [some (rf X 3 p0)]) (by decide) (Nat.le_of_ble_eq_true rfl) rfl ?_
  refine gs_X3_38 rfl dX3_pays_0 ?_
  refine i_aload_n dX3_pays_3 rfl ?_
  refine gf_X3_9 rfl (by omega) dX3_pays_4 ?_
  refine r_tld 2 (by decide) dX3_pays_7 h (fun j1 lj1 h => ?_)
  exact e_ir rfl dX3_pays_8 h
def f_X3_worth  (p0 : Nat) (σ : Mem) : Option Int32 :=
  (if (σ 3 p0 0) = (1 : Int32) then (some ((σ 3 p0 2) + (6 : Int32))) else (if (σ 3 p0 0) = (2 : Int32) then (some ((99 : Int32) - (σ 3 p0 2))) else (if (σ 3 p0 0) = (3 : Int32) then (some ((2 : Int32) * ((σ 3 p0 2) + (6 : Int32)))) else (if (σ 3 p0 0) = (4 : Int32) then (some (((99 : Int32) - (σ 3 p0 2)) - (5 : Int32))) else (if (σ 3 p0 0) = (5 : Int32) then (some (1 : Int32)) else (some (σ 3 p0 2)))))))
set_option maxRecDepth 100000 in
set_option maxHeartbeats 4000000 in
theorem F_X3_worth {X : Cx} {p0 : Nat} {σ : Mem} {res : Int32} (h0 : p0 < 35) (h : f_X3_worth p0 σ = some res) : Tri X 1 mX3_worth [rf X 3 p0] σ (some (.int res)) σ := by
  unfold f_X3_worth at h
  refine Tri.of (ls := [some (rf X 3 p0)]) (by decide) (Nat.le_of_ble_eq_true rfl) rfl ?_
  refine i_aload_n dX3_worth_0 rfl ?_
  refine gf_X3_9 rfl (by omega) dX3_worth_1 ?_
  refine r_case (c := (σ 3 p0 0) = (1 : Int32)) h (fun c1 h => ?_) (fun c1 h => ?_)
  · refine i_tin (tgt := 40) (off := 36) dX3_worth_4 (1 : Int32) c1 (by decide) (by decide) (by decide) (by decide) ?_
    refine i_aload_n dX3_worth_40 rfl ?_
    refine gf_X3_18 rfl (by omega) dX3_worth_41 ?_
    refine i_bipush (v := 6) dX3_worth_44 (by decide) ?_
    refine i_iadd dX3_worth_46 ?_
    exact e_ir rfl dX3_worth_47 h
  · refine r_case (c := (σ 3 p0 0) = (2 : Int32)) h (fun c2 h => ?_) (fun c2 h => ?_)
    · refine i_tin (tgt := 58) (off := 54) dX3_worth_4 (2 : Int32) c2 (by decide) (by decide) (by decide) (by decide) ?_
      refine i_bipush (v := 99) dX3_worth_58 (by decide) ?_
      refine i_aload_n dX3_worth_60 rfl ?_
      refine gf_X3_18 rfl (by omega) dX3_worth_61 ?_
      refine i_isub dX3_worth_64 ?_
      exact e_ir rfl dX3_worth_65 h
    · refine r_case (c := (σ 3 p0 0) = (3 : Int32)) h (fun c3 h => ?_) (fun c3 h => ?_)
      · refine i_tin (tgt := 48) (off := 44) dX3_worth_4 (3 : Int32) c3 (by decide) (by decide) (by decide) (by decide) ?_
        refine i_iconst (v := 2) dX3_worth_48 (by decide) ?_
        refine i_aload_n dX3_worth_49 rfl ?_
        refine gf_X3_18 rfl (by omega) dX3_worth_50 ?_
        refine i_bipush (v := 6) dX3_worth_53 (by decide) ?_
        refine i_iadd dX3_worth_55 ?_
        refine i_imul dX3_worth_56 ?_
        exact e_ir rfl dX3_worth_57 h
      · refine r_case (c := (σ 3 p0 0) = (4 : Int32)) h (fun c4 h => ?_) (fun c4 h => ?_)
        · refine i_tin (tgt := 66) (off := 62) dX3_worth_4 (4 : Int32) c4 (by decide) (by decide) (by decide) (by decide) ?_
          refine i_bipush (v := 99) dX3_worth_66 (by decide) ?_
          refine i_aload_n dX3_worth_68 rfl ?_
          refine gf_X3_18 rfl (by omega) dX3_worth_69 ?_
          refine i_isub dX3_worth_72 ?_
          refine i_iconst (v := 5) dX3_worth_73 (by decide) ?_
          refine i_isub dX3_worth_74 ?_
          exact e_ir rfl dX3_worth_75 h
        · refine r_case (c := (σ 3 p0 0) = (5 : Int32)) h (fun c5 h => ?_) (fun c5 h => ?_)
          · refine i_tin (tgt := 76) (off := 72) dX3_worth_4 (5 : Int32) c5 (by decide) (by decide) (by decide) (by decide) ?_
            refine i_iconst (v := 1) dX3_worth_76 (by decide) ?_
            exact e_ir rfl dX3_worth_77 h
          · refine i_tout (tgt := 78) dX3_worth_4 (tsw_1_5 c1 c2 c3 c4 c5) (by decide) ?_
            refine i_aload_n dX3_worth_78 rfl ?_
            refine gf_X3_18 rfl (by omega) dX3_worth_79 ?_
            exact e_ir rfl dX3_worth_82 h
def f_X3_keepsFrom  (p0 : Nat) (p1 : Int32) (σ : Mem) : Option Int32 :=
  (if (σ 3 p0 0) = (1 : Int32) then (some (if (p1 + (10 : Int32)) < (100 : Int32) then (p1 + (10 : Int32)) else (100 : Int32))) else (if (σ 3 p0 0) = (2 : Int32) then (some (if (0 : Int32) < (p1 - (20 : Int32)) then (p1 - (20 : Int32)) else (0 : Int32))) else (if (σ 3 p0 0) = (3 : Int32) then (some ((if (p1 + (10 : Int32)) < (100 : Int32) then (p1 + (10 : Int32)) else (100 : Int32)) / (2 : Int32))) else (if (σ 3 p0 0) = (4 : Int32) then (some (if ((if (0 : Int32) < (p1 - (20 : Int32)) then (p1 - (20 : Int32)) else (0 : Int32)) + (30 : Int32)) < (100 : Int32) then ((if (0 : Int32) < (p1 - (20 : Int32)) then (p1 - (20 : Int32)) else (0 : Int32)) + (30 : Int32)) else (100 : Int32))) else (if (σ 3 p0 0) = (5 : Int32) then (some (0 : Int32)) else (some p1))))))
set_option maxRecDepth 100000 in
set_option maxHeartbeats 4000000 in
theorem F_X3_keepsFrom {X : Cx} {p0 : Nat} {p1 : Int32} {σ : Mem} {res : Int32} (h0 : p0 < 35) (h : f_X3_keepsFrom p0 p1 σ = some res) : Tri X 1 mX3_keepsFrom [rf X 3 p0, .int p1] σ (some (.int res)) σ := by
  unfold f_X3_keepsFrom at h
  refine Tri.of (ls := [some (rf X 3 p0), some (.int p1), none, none]) (by decide) (Nat.le_of_ble_eq_true rfl) rfl ?_
  refine i_bipush (v := 100) dX3_keepsFrom_0 (by decide) ?_
  refine i_iload_n dX3_keepsFrom_2 rfl ?_
  refine i_bipush (v := 10) dX3_keepsFrom_3 (by decide) ?_
  refine i_iadd dX3_keepsFrom_5 ?_
  refine i_mmin dX3_keepsFrom_6 k_X3_41 (by omega) (Nat.le_of_ble_eq_true rfl) ?_
  refine i_istore_n (ls' := [some (rf X 3 p0), some (.int p1), some (.int (if (p1 + (10 : Int32)) < (100 : Int32) then (p1 + (10 : Int32)) else (100 : Int32))), none]) dX3_keepsFrom_9 (by decide) (okp_at rfl) rfl ?_
  refine i_iconst (v := 0) dX3_keepsFrom_10 (by decide) ?_
  refine i_iload_n dX3_keepsFrom_11 rfl ?_
  refine i_bipush (v := 20) dX3_keepsFrom_12 (by decide) ?_
  refine i_isub dX3_keepsFrom_14 ?_
  refine i_mmax dX3_keepsFrom_15 k_X3_47 (by omega) (Nat.le_of_ble_eq_true rfl) ?_
  refine i_istore_n (ls' := [some (rf X 3 p0), some (.int p1), some (.int (if (p1 + (10 : Int32)) < (100 : Int32) then (p1 + (10 : Int32)) else (100 : Int32))), some (.int (if (0 : Int32) < (p1 - (20 : Int32)) then (p1 - (20 : Int32)) else (0 : Int32)))]) dX3_keepsFrom_18 (by decide) (okp_at rfl) rfl ?_
  refine i_aload_n dX3_keepsFrom_19 rfl ?_
  refine gf_X3_9 rfl (by omega) dX3_keepsFrom_20 ?_
  refine r_case (c := (σ 3 p0 0) = (1 : Int32)) h (fun c1 h => ?_) (fun c1 h => ?_)
  · refine i_tin (tgt := 56) (off := 33) dX3_keepsFrom_23 (1 : Int32) c1 (by decide) (by decide) (by decide) (by decide) ?_
    refine i_iload_n dX3_keepsFrom_56 rfl ?_
    exact e_ir rfl dX3_keepsFrom_57 h
  · refine r_case (c := (σ 3 p0 0) = (2 : Int32)) h (fun c2 h => ?_) (fun c2 h => ?_)
    · refine i_tin (tgt := 62) (off := 39) dX3_keepsFrom_23 (2 : Int32) c2 (by decide) (by decide) (by decide) (by decide) ?_
      refine i_iload_n dX3_keepsFrom_62 rfl ?_
      exact e_ir rfl dX3_keepsFrom_63 h
    · refine r_case (c := (σ 3 p0 0) = (3 : Int32)) h (fun c3 h => ?_) (fun c3 h => ?_)
      · refine i_tin (tgt := 58) (off := 35) dX3_keepsFrom_23 (3 : Int32) c3 (by decide) (by decide) (by decide) (by decide) ?_
        refine i_iload_n dX3_keepsFrom_58 rfl ?_
        refine i_iconst (v := 2) dX3_keepsFrom_59 (by decide) ?_
        refine i_idiv dX3_keepsFrom_60 (by decide) ?_
        exact e_ir rfl dX3_keepsFrom_61 h
      · refine r_case (c := (σ 3 p0 0) = (4 : Int32)) h (fun c4 h => ?_) (fun c4 h => ?_)
        · refine i_tin (tgt := 64) (off := 41) dX3_keepsFrom_23 (4 : Int32) c4 (by decide) (by decide) (by decide) (by decide) ?_
          refine i_bipush (v := 100) dX3_keepsFrom_64 (by decide) ?_
          refine i_iload_n dX3_keepsFrom_66 rfl ?_
          refine i_bipush (v := 30) dX3_keepsFrom_67 (by decide) ?_
          refine i_iadd dX3_keepsFrom_69 ?_
          refine i_mmin dX3_keepsFrom_70 k_X3_41 (by omega) (Nat.le_of_ble_eq_true rfl) ?_
          exact e_ir rfl dX3_keepsFrom_73 h
        · refine r_case (c := (σ 3 p0 0) = (5 : Int32)) h (fun c5 h => ?_) (fun c5 h => ?_)
          · refine i_tin (tgt := 74) (off := 51) dX3_keepsFrom_23 (5 : Int32) c5 (by decide) (by decide) (by decide) (by decide) ?_
            refine i_iconst (v := 0) dX3_keepsFrom_74 (by decide) ?_
            exact e_ir rfl dX3_keepsFrom_75 h
          · refine i_tout (tgt := 76) dX3_keepsFrom_23 (tsw_1_5 c1 c2 c3 c4 c5) (by decide) ?_
            refine i_iload_n dX3_keepsFrom_76 rfl ?_
            exact e_ir rfl dX3_keepsFrom_77 h
end
