noncomputable section
def f_X4_isLetter  (p1 : Int32) (σ : Mem) : Option Int32 :=
  (bnd (ix 96 p1) (fun j1 => (if (σ 17 0 j1) < (97 : Int32) then (some (0 : Int32)) else (bnd (ix 96 p1) (fun j2 => (if (122 : Int32) < (σ 17 0 j2) then (some (0 : Int32)) else (some (1 : Int32))))))))
set_option maxRecDepth 100000 in
set_option maxHeartbeats 4000000 in
theorem F_X4_isLetter {X : Cx} {p1 : Int32} {σ : Mem} {res : Int32}  (h : f_X4_isLetter p1 σ = some res) : Tri X 1 mX4_isLetter [rf X 4 0, .int p1] σ (some (.int res)) σ := by
  unfold f_X4_isLetter at h
  refine Tri.of (ls := [some (rf X 4 0), some (.int p1)]) (by decide) (Nat.le_of_ble_eq_true rfl) rfl ?_
  refine i_aload_n dX4_isLetter_0 rfl ?_
  refine gf_X4_9 rfl (by omega) dX4_isLetter_1 ?_
  refine i_iload_n dX4_isLetter_4 rfl ?_
  refine al_17 dX4_isLetter_5 (by omega) h (fun j1 lj1 h => ?_)
  refine i_bipush (v := 97) dX4_isLetter_6 (by decide) ?_
  refine r_icmp_lt (tgt := 26) dX4_isLetter_8 (by decide) h (fun c1 h => ?_) (fun c1 h => ?_)
  · refine i_iconst (v := 0) dX4_isLetter_26 (by decide) ?_
    exact e_zr rfl (by decide) dX4_isLetter_27 h
  · refine i_aload_n dX4_isLetter_11 rfl ?_
    refine gf_X4_9 rfl (by omega) dX4_isLetter_12 ?_
    refine i_iload_n dX4_isLetter_15 rfl ?_
    refine al_17 dX4_isLetter_16 (by omega) h (fun j2 lj2 h => ?_)
    refine i_bipush (v := 122) dX4_isLetter_17 (by decide) ?_
    refine r_icmp_gt (tgt := 26) dX4_isLetter_19 (by decide) h (fun c2 h => ?_) (fun c2 h => ?_)
    · refine i_iconst (v := 0) dX4_isLetter_26 (by decide) ?_
      exact e_zr rfl (by decide) dX4_isLetter_27 h
    · refine i_iconst (v := 1) dX4_isLetter_22 (by decide) ?_
      refine i_goto (tgt := 27) dX4_isLetter_23 (by decide) ?_
      exact e_zr rfl (by decide) dX4_isLetter_27 h
def f_X4_isDigit  (p1 : Int32) (σ : Mem) : Option Int32 :=
  (bnd (ix 96 p1) (fun j1 => (if (σ 17 0 j1) < (48 : Int32) then (some (0 : Int32)) else (bnd (ix 96 p1) (fun j2 => (if (57 : Int32) < (σ 17 0 j2) then (some (0 : Int32)) else (some (1 : Int32))))))))
set_option maxRecDepth 100000 in
set_option maxHeartbeats 4000000 in
theorem F_X4_isDigit {X : Cx} {p1 : Int32} {σ : Mem} {res : Int32}  (h : f_X4_isDigit p1 σ = some res) : Tri X 1 mX4_isDigit [rf X 4 0, .int p1] σ (some (.int res)) σ := by
  unfold f_X4_isDigit at h
  refine Tri.of (ls := [some (rf X 4 0), some (.int p1)]) (by decide) (Nat.le_of_ble_eq_true rfl) rfl ?_
  refine i_aload_n dX4_isDigit_0 rfl ?_
  refine gf_X4_9 rfl (by omega) dX4_isDigit_1 ?_
  refine i_iload_n dX4_isDigit_4 rfl ?_
  refine al_17 dX4_isDigit_5 (by omega) h (fun j1 lj1 h => ?_)
  refine i_bipush (v := 48) dX4_isDigit_6 (by decide) ?_
  refine r_icmp_lt (tgt := 26) dX4_isDigit_8 (by decide) h (fun c1 h => ?_) (fun c1 h => ?_)
  · refine i_iconst (v := 0) dX4_isDigit_26 (by decide) ?_
    exact e_zr rfl (by decide) dX4_isDigit_27 h
  · refine i_aload_n dX4_isDigit_11 rfl ?_
    refine gf_X4_9 rfl (by omega) dX4_isDigit_12 ?_
    refine i_iload_n dX4_isDigit_15 rfl ?_
    refine al_17 dX4_isDigit_16 (by omega) h (fun j2 lj2 h => ?_)
    refine i_bipush (v := 57) dX4_isDigit_17 (by decide) ?_
    refine r_icmp_gt (tgt := 26) dX4_isDigit_19 (by decide) h (fun c2 h => ?_) (fun c2 h => ?_)
    · refine i_iconst (v := 0) dX4_isDigit_26 (by decide) ?_
      exact e_zr rfl (by decide) dX4_isDigit_27 h
    · refine i_iconst (v := 1) dX4_isDigit_22 (by decide) ?_
      refine i_goto (tgt := 27) dX4_isDigit_23 (by decide) ?_
      exact e_zr rfl (by decide) dX4_isDigit_27 h
def f_X4_goOn_35 (p1 : Int32) (p2 : Int32) : Nat → Mem → (Mem → Option Mem) → Option Mem
  | 0, _, _ => none
  | n + 1, σ, k =>
    (if (σ 4 0 1) ≤ (σ 4 0 4) then (k σ) else (bnd (ix 96 (σ 4 0 4)) (fun j1 => (if (σ 17 0 j1) = (32 : Int32) then (f_X4_goOn_35 p1 p2 n (mput σ 4 0 4 ((σ 4 0 4) + (1 : Int32))) k) else (k σ)))))
set_option maxRecDepth 100000 in
set_option maxHeartbeats 4000000 in
theorem L_X4_goOn_35 {X : Cx} {p1 : Int32} {p2 : Int32} {σ2 : Mem} {k : Mem → Option Mem}  : ∀ (n : Nat) (σ : Mem), f_X4_goOn_35 p1 p2 n  σ k = some σ2 → (∀ (σ1 : Mem), k σ1 = some σ2 → At X 2 mX4_goOn 73 [some (rf X 4 0), some (.int p1), some (.int p2), none] [] σ1 none σ2) → At X 2 mX4_goOn 35 [some (rf X 4 0), some (.int p1), some (.int p2), none] [] σ none σ2 := by
  intro n
  induction n with
  | zero =>
    intro  σ h
    cases h
  | succ n ih =>
    intro  σ h hk
    rw [f_X4_goOn_35.eq_2] at h
    refine i_aload_n dX4_goOn_35 rfl ?_
    refine gf_X4_58 rfl (by omega) dX4_goOn_36 ?_
    refine i_aload_n dX4_goOn_39 rfl ?_
    refine gf_X4_15 rfl (by omega) dX4_goOn_40 ?_
    refine r_icmp_ge (tgt := 73) dX4_goOn_43 (by decide) h (fun c1 h => ?_) (fun c1 h => ?_)
    · exact hk _ h
    · refine i_aload_n dX4_goOn_46 rfl ?_
      refine gf_X4_9 rfl (by omega) dX4_goOn_47 ?_
      refine i_aload_n dX4_goOn_50 rfl ?_
      refine gf_X4_58 rfl (by omega) dX4_goOn_51 ?_
      refine al_17 dX4_goOn_54 (by omega) h (fun j1 lj1 h => ?_)
      refine i_bipush (v := 32) dX4_goOn_55 (by decide) ?_
      refine r_icmp_ne (tgt := 73) dX4_goOn_57 (by decide) h (fun c2 h => ?_) (fun c2 h => ?_)
      · exact hk _ h
      · refine i_aload_n dX4_goOn_60 rfl ?_
        refine i_dup dX4_goOn_61 rfl ?_
        refine gf_X4_58 rfl (by omega) dX4_goOn_62 ?_
        refine i_iconst (v := 1) dX4_goOn_65 (by decide) ?_
        refine i_iadd dX4_goOn_66 ?_
        refine pf_X4_58 rfl (by omega) dX4_goOn_67 ?_
        refine i_goto (tgt := 35) dX4_goOn_70 (by decide) ?_
        exact ih _ h hk
def f_X4_goOn_165 (p1 : Int32) (p2 : Int32) : Nat → Mem → (Mem → Option Mem) → Option Mem
  | 0, _, _ => none
  | n + 1, σ, k =>
    (if (σ 4 0 1) ≤ (σ 4 0 5) then (k σ) else (bnd (f_X4_isDigit (σ 4 0 5) σ) (fun a1 => (if a1 = 0 then (k σ) else (f_X4_goOn_165 p1 p2 n (mput σ 4 0 5 ((σ 4 0 5) + (1 : Int32))) k)))))
set_option maxRecDepth 100000 in
set_option maxHeartbeats 4000000 in
theorem L_X4_goOn_165 {X : Cx} {p1 : Int32} {p2 : Int32} {σ2 : Mem} {k : Mem → Option Mem}  : ∀ (n : Nat) (σ : Mem), f_X4_goOn_165 p1 p2 n  σ k = some σ2 → (∀ (σ1 : Mem), k σ1 = some σ2 → At X 2 mX4_goOn 215 [some (rf X 4 0), some (.int p1), some (.int p2), none] [] σ1 none σ2) → At X 2 mX4_goOn 165 [some (rf X 4 0), some (.int p1), some (.int p2), none] [] σ none σ2 := by
  intro n
  induction n with
  | zero =>
    intro  σ h
    cases h
  | succ n ih =>
    intro  σ h hk
    rw [f_X4_goOn_165.eq_2] at h
    refine i_aload_n dX4_goOn_165 rfl ?_
    refine gf_X4_31 rfl (by omega) dX4_goOn_166 ?_
    refine i_aload_n dX4_goOn_169 rfl ?_
    refine gf_X4_15 rfl (by omega) dX4_goOn_170 ?_
    refine r_icmp_ge (tgt := 215) dX4_goOn_173 (by decide) h (fun c1 h => ?_) (fun c1 h => ?_)
    · exact hk _ h
    · refine i_aload_n dX4_goOn_176 rfl ?_
      refine i_aload_n dX4_goOn_177 rfl ?_
      refine gf_X4_31 rfl (by omega) dX4_goOn_178 ?_
      refine cV_ir dX4_goOn_181 cw_X4_129 ci_X4_isDigit rfl rfl (by decide) (show 0 < 1 by omega) h (fun a1 e => F_X4_isDigit  e) (Nat.le_of_ble_eq_true rfl) rfl rfl (Nat.le_of_ble_eq_true rfl) (fun a1 ea1 h => ?_)
      refine r_if_eq (tgt := 215) dX4_goOn_184 (by decide) h (fun c2 h => ?_) (fun c2 h => ?_)
      · exact hk _ h
      · refine i_aload_n dX4_goOn_187 rfl ?_
        refine i_dup dX4_goOn_188 rfl ?_
        refine gf_X4_31 rfl (by omega) dX4_goOn_189 ?_
        refine i_iconst (v := 1) dX4_goOn_192 (by decide) ?_
        refine i_iadd dX4_goOn_193 ?_
        refine pf_X4_31 rfl (by omega) dX4_goOn_194 ?_
        refine i_goto (tgt := 165) dX4_goOn_197 (by decide) ?_
        exact ih _ h hk
def f_X4_goOn_114 (p1 : Int32) (p2 : Int32) : Nat → Mem → (Mem → Option Mem) → Option Mem
  | 0, _, _ => none
  | n + 1, σ, k =>
    (if (σ 4 0 1) ≤ (σ 4 0 5) then (k σ) else (bnd (f_X4_isLetter (σ 4 0 5) σ) (fun a1 => (if a1 = 0 then (k σ) else (f_X4_goOn_114 p1 p2 n (mput σ 4 0 5 ((σ 4 0 5) + (1 : Int32))) k)))))
set_option maxRecDepth 100000 in
set_option maxHeartbeats 4000000 in
theorem L_X4_goOn_114 {X : Cx} {p1 : Int32} {p2 : Int32} {σ2 : Mem} {k : Mem → Option Mem}  : ∀ (n : Nat) (σ : Mem), f_X4_goOn_114 p1 p2 n  σ k = some σ2 → (∀ (σ1 : Mem), k σ1 = some σ2 → At X 2 mX4_goOn 215 [some (rf X 4 0), some (.int p1), some (.int p2), none] [] σ1 none σ2) → At X 2 mX4_goOn 114 [some (rf X 4 0), some (.int p1), some (.int p2), none] [] σ none σ2 := by
  intro n
  induction n with
  | zero =>
    intro  σ h
    cases h
  | succ n ih =>
    intro  σ h hk
    rw [f_X4_goOn_114.eq_2] at h
    refine i_aload_n dX4_goOn_114 rfl ?_
    refine gf_X4_31 rfl (by omega) dX4_goOn_115 ?_
    refine i_aload_n dX4_goOn_118 rfl ?_
    refine gf_X4_15 rfl (by omega) dX4_goOn_119 ?_
    refine r_icmp_ge (tgt := 215) dX4_goOn_122 (by decide) h (fun c1 h => ?_) (fun c1 h => ?_)
    · exact hk _ h
    · refine i_aload_n dX4_goOn_125 rfl ?_
      refine i_aload_n dX4_goOn_126 rfl ?_
      refine gf_X4_31 rfl (by omega) dX4_goOn_127 ?_
      refine cV_ir dX4_goOn_130 cw_X4_125 ci_X4_isLetter rfl rfl (by decide) (show 0 < 1 by omega) h (fun a1 e => F_X4_isLetter  e) (Nat.le_of_ble_eq_true rfl) rfl rfl (Nat.le_of_ble_eq_true rfl) (fun a1 ea1 h => ?_)
      refine r_if_eq (tgt := 215) dX4_goOn_133 (by decide) h (fun c2 h => ?_) (fun c2 h => ?_)
      · exact hk _ h
      · refine i_aload_n dX4_goOn_136 rfl ?_
        refine i_dup dX4_goOn_137 rfl ?_
        refine gf_X4_31 rfl (by omega) dX4_goOn_138 ?_
        refine i_iconst (v := 1) dX4_goOn_141 (by decide) ?_
        refine i_iadd dX4_goOn_142 ?_
        refine pf_X4_31 rfl (by omega) dX4_goOn_143 ?_
        refine i_goto (tgt := 114) dX4_goOn_146 (by decide) ?_
        exact ih _ h hk
def f_X4_goOn   (σ : Mem) : Option Mem :=
  (if (σ 4 0 3) = (1 : Int32) then (f_X4_goOn_35 (σ 4 0 5) (1 : Int32) FU (mput σ 4 0 4 (σ 4 0 5)) (fun σ_1 => (if ((mput σ_1 4 0 5 (σ_1 4 0 4)) 4 0 4) < ((mput σ_1 4 0 5 (σ_1 4 0 4)) 4 0 1) then (bnd (f_X4_isLetter ((mput σ_1 4 0 5 (σ_1 4 0 4)) 4 0 4) (mput σ_1 4 0 5 (σ_1 4 0 4))) (fun a1 => (if a1 = 0 then (bnd (f_X4_isDigit ((mput σ_1 4 0 5 (σ_1 4 0 4)) 4 0 4) (mput σ_1 4 0 5 (σ_1 4 0 4))) (fun a2 => (if a2 = 0 then (bnd (some (mput (mput (mput σ_1 4 0 5 (σ_1 4 0 4)) 4 0 3 (3 : Int32)) 4 0 5 (((mput (mput σ_1 4 0 5 (σ_1 4 0 4)) 4 0 3 (3 : Int32)) 4 0 5) + (1 : Int32)))) (fun s1 => (if (s1 4 0 3) = (3 : Int32) then (if (s1 4 0 3) = (2 : Int32) then (if ((s1 4 0 5) - (s1 4 0 4)) ≤ (4 : Int32) then (some s1) else (some (mput s1 4 0 3 (4 : Int32)))) else (some s1)) else (if (s1 4 0 4) = (σ 4 0 5) then (some (mput s1 4 0 3 (4 : Int32))) else (if (s1 4 0 3) = (2 : Int32) then (if ((s1 4 0 5) - (s1 4 0 4)) ≤ (4 : Int32) then (some s1) else (some (mput s1 4 0 3 (4 : Int32)))) else (some s1)))))) else (f_X4_goOn_165 (σ 4 0 5) (1 : Int32) FU (mput (mput σ_1 4 0 5 (σ_1 4 0 4)) 4 0 3 (2 : Int32)) (fun σ_2 => (if (σ_2 4 0 3) = (3 : Int32) then (if (σ_2 4 0 3) = (2 : Int32) then (if ((σ_2 4 0 5) - (σ_2 4 0 4)) ≤ (4 : Int32) then (some σ_2) else (some (mput σ_2 4 0 3 (4 : Int32)))) else (some σ_2)) else (if (σ_2 4 0 4) = (σ 4 0 5) then (some (mput σ_2 4 0 3 (4 : Int32))) else (if (σ_2 4 0 3) = (2 : Int32) then (if ((σ_2 4 0 5) - (σ_2 4 0 4)) ≤ (4 : Int32) then (some σ_2) else (some (mput σ_2 4 0 3 (4 : Int32)))) else (some σ_2))))))))) else (f_X4_goOn_114 (σ 4 0 5) (1 : Int32) FU (mput (mput σ_1 4 0 5 (σ_1 4 0 4)) 4 0 3 (1 : Int32)) (fun σ_3 => (if (σ_3 4 0 3) = (3 : Int32) then (if (σ_3 4 0 3) = (2 : Int32) then (if ((σ_3 4 0 5) - (σ_3 4 0 4)) ≤ (4 : Int32) then (some σ_3) else (some (mput σ_3 4 0 3 (4 : Int32)))) else (some σ_3)) else (if (σ_3 4 0 4) = (σ 4 0 5) then (some (mput σ_3 4 0 3 (4 : Int32))) else (if (σ_3 4 0 3) = (2 : Int32) then (if ((σ_3 4 0 5) - (σ_3 4 0 4)) ≤ (4 : Int32) then (some σ_3) else (some (mput σ_3 4 0 3 (4 : Int32)))) else (some σ_3))))))))) else (some (mput (mput σ_1 4 0 5 (σ_1 4 0 4)) 4 0 3 (0 : Int32)))))) else (if (σ 4 0 3) = (2 : Int32) then (f_X4_goOn_35 (σ 4 0 5) (1 : Int32) FU (mput σ 4 0 4 (σ 4 0 5)) (fun σ_7 => (if ((mput σ_7 4 0 5 (σ_7 4 0 4)) 4 0 4) < ((mput σ_7 4 0 5 (σ_7 4 0 4)) 4 0 1) then (bnd (f_X4_isLetter ((mput σ_7 4 0 5 (σ_7 4 0 4)) 4 0 4) (mput σ_7 4 0 5 (σ_7 4 0 4))) (fun a5 => (if a5 = 0 then (bnd (f_X4_isDigit ((mput σ_7 4 0 5 (σ_7 4 0 4)) 4 0 4) (mput σ_7 4 0 5 (σ_7 4 0 4))) (fun a6 => (if a6 = 0 then (bnd (some (mput (mput (mput σ_7 4 0 5 (σ_7 4 0 4)) 4 0 3 (3 : Int32)) 4 0 5 (((mput (mput σ_7 4 0 5 (σ_7 4 0 4)) 4 0 3 (3 : Int32)) 4 0 5) + (1 : Int32)))) (fun s3 => (if (s3 4 0 3) = (3 : Int32) then (if (s3 4 0 3) = (2 : Int32) then (if ((s3 4 0 5) - (s3 4 0 4)) ≤ (4 : Int32) then (some s3) else (some (mput s3 4 0 3 (4 : Int32)))) else (some s3)) else (if (s3 4 0 4) = (σ 4 0 5) then (some (mput s3 4 0 3 (4 : Int32))) else (if (s3 4 0 3) = (2 : Int32) then (if ((s3 4 0 5) - (s3 4 0 4)) ≤ (4 : Int32) then (some s3) else (some (mput s3 4 0 3 (4 : Int32)))) else (some s3)))))) else (f_X4_goOn_165 (σ 4 0 5) (1 : Int32) FU (mput (mput σ_7 4 0 5 (σ_7 4 0 4)) 4 0 3 (2 : Int32)) (fun σ_8 => (if (σ_8 4 0 3) = (3 : Int32) then (if (σ_8 4 0 3) = (2 : Int32) then (if ((σ_8 4 0 5) - (σ_8 4 0 4)) ≤ (4 : Int32) then (some σ_8) else (some (mput σ_8 4 0 3 (4 : Int32)))) else (some σ_8)) else (if (σ_8 4 0 4) = (σ 4 0 5) then (some (mput σ_8 4 0 3 (4 : Int32))) else (if (σ_8 4 0 3) = (2 : Int32) then (if ((σ_8 4 0 5) - (σ_8 4 0 4)) ≤ (4 : Int32) then (some σ_8) else (some (mput σ_8 4 0 3 (4 : Int32)))) else (some σ_8))))))))) else (f_X4_goOn_114 (σ 4 0 5) (1 : Int32) FU (mput (mput σ_7 4 0 5 (σ_7 4 0 4)) 4 0 3 (1 : Int32)) (fun σ_9 => (if (σ_9 4 0 3) = (3 : Int32) then (if (σ_9 4 0 3) = (2 : Int32) then (if ((σ_9 4 0 5) - (σ_9 4 0 4)) ≤ (4 : Int32) then (some σ_9) else (some (mput σ_9 4 0 3 (4 : Int32)))) else (some σ_9)) else (if (σ_9 4 0 4) = (σ 4 0 5) then (some (mput σ_9 4 0 3 (4 : Int32))) else (if (σ_9 4 0 3) = (2 : Int32) then (if ((σ_9 4 0 5) - (σ_9 4 0 4)) ≤ (4 : Int32) then (some σ_9) else (some (mput σ_9 4 0 3 (4 : Int32)))) else (some σ_9))))))))) else (some (mput (mput σ_7 4 0 5 (σ_7 4 0 4)) 4 0 3 (0 : Int32)))))) else (f_X4_goOn_35 (σ 4 0 5) (0 : Int32) FU (mput σ 4 0 4 (σ 4 0 5)) (fun σ_4 => (if ((mput σ_4 4 0 5 (σ_4 4 0 4)) 4 0 4) < ((mput σ_4 4 0 5 (σ_4 4 0 4)) 4 0 1) then (bnd (f_X4_isLetter ((mput σ_4 4 0 5 (σ_4 4 0 4)) 4 0 4) (mput σ_4 4 0 5 (σ_4 4 0 4))) (fun a3 => (if a3 = 0 then (bnd (f_X4_isDigit ((mput σ_4 4 0 5 (σ_4 4 0 4)) 4 0 4) (mput σ_4 4 0 5 (σ_4 4 0 4))) (fun a4 => (if a4 = 0 then (bnd (some (mput (mput (mput σ_4 4 0 5 (σ_4 4 0 4)) 4 0 3 (3 : Int32)) 4 0 5 (((mput (mput σ_4 4 0 5 (σ_4 4 0 4)) 4 0 3 (3 : Int32)) 4 0 5) + (1 : Int32)))) (fun s2 => (if (s2 4 0 3) = (2 : Int32) then (if ((s2 4 0 5) - (s2 4 0 4)) ≤ (4 : Int32) then (some s2) else (some (mput s2 4 0 3 (4 : Int32)))) else (some s2)))) else (f_X4_goOn_165 (σ 4 0 5) (0 : Int32) FU (mput (mput σ_4 4 0 5 (σ_4 4 0 4)) 4 0 3 (2 : Int32)) (fun σ_5 => (if (σ_5 4 0 3) = (2 : Int32) then (if ((σ_5 4 0 5) - (σ_5 4 0 4)) ≤ (4 : Int32) then (some σ_5) else (some (mput σ_5 4 0 3 (4 : Int32)))) else (some σ_5))))))) else (f_X4_goOn_114 (σ 4 0 5) (0 : Int32) FU (mput (mput σ_4 4 0 5 (σ_4 4 0 4)) 4 0 3 (1 : Int32)) (fun σ_6 => (if (σ_6 4 0 3) = (2 : Int32) then (if ((σ_6 4 0 5) - (σ_6 4 0 4)) ≤ (4 : Int32) then (some σ_6) else (some (mput σ_6 4 0 3 (4 : Int32)))) else (some σ_6))))))) else (some (mput (mput σ_4 4 0 5 (σ_4 4 0 4)) 4 0 3 (0 : Int32))))))))
set_option maxRecDepth 100000 in
set_option maxHeartbeats 4000000 in
theorem F_X4_goOn {X : Cx}  {σ : Mem} {res : Mem}  (h : f_X4_goOn σ = some res) : Tri X 2 mX4_goOn [rf X 4 0] σ none res := by
  unfold f_X4_goOn at h
  refine Tri.of (ls := [some (rf X 4 0), none, none, none]) (by decide) (Nat.le_of_ble_eq_true rfl) rfl ?_
  refine i_aload_n dX4_goOn_0 rfl ?_
  refine gf_X4_31 rfl (by omega) dX4_goOn_1 ?_
  refine i_istore_n (ls' := [some (rf X 4 0), some (.int (σ 4 0 5)), none, none]) dX4_goOn_4 (by decide) (okp_at rfl) rfl ?_
  refine i_aload_n dX4_goOn_5 rfl ?_
  refine gf_X4_28 rfl (by omega) dX4_goOn_6 ?_
  refine i_iconst (v := 1) dX4_goOn_9 (by decide) ?_
  refine r_icmp_eq (tgt := 21) dX4_goOn_10 (by decide) h (fun c1 h => ?_) (fun c1 h => ?_)
  · refine i_iconst (v := 1) dX4_goOn_21 (by decide) ?_
    refine i_goto (tgt := 26) dX4_goOn_22 (by decide) ?_
    refine i_istore_n (ls' := [some (rf X 4 0), some (.int (σ 4 0 5)), some (.int (1 : Int32)), none]) dX4_goOn_26 (by decide) (okp_at rfl) rfl ?_
    refine i_aload_n dX4_goOn_27 rfl ?_
    refine i_aload_n dX4_goOn_28 rfl ?_
    refine gf_X4_31 rfl (by omega) dX4_goOn_29 ?_
    refine pf_X4_58 rfl (by omega) dX4_goOn_32 ?_
    refine L_X4_goOn_35  FU _ h (fun σ_1 h => ?_)
    refine i_aload_n dX4_goOn_73 rfl ?_
    refine i_aload_n dX4_goOn_74 rfl ?_
    refine gf_X4_58 rfl (by omega) dX4_goOn_75 ?_
    refine pf_X4_31 rfl (by omega) dX4_goOn_78 ?_
    refine i_aload_n dX4_goOn_81 rfl ?_
    refine gf_X4_58 rfl (by omega) dX4_goOn_82 ?_
    refine i_aload_n dX4_goOn_85 rfl ?_
    refine gf_X4_15 rfl (by omega) dX4_goOn_86 ?_
    refine r_icmp_lt (tgt := 98) dX4_goOn_89 (by decide) h (fun c2 h => ?_) (fun c2 h => ?_)
    · refine i_aload_n dX4_goOn_98 rfl ?_
      refine i_aload_n dX4_goOn_99 rfl ?_
      refine gf_X4_58 rfl (by omega) dX4_goOn_100 ?_
      refine cV_ir dX4_goOn_103 cw_X4_125 ci_X4_isLetter rfl rfl (by decide) (show 0 < 1 by omega) h (fun a1 e => F_X4_isLetter  e) (Nat.le_of_ble_eq_true rfl) rfl rfl (Nat.le_of_ble_eq_true rfl) (fun a1 ea1 h => ?_)
      refine r_if_eq (tgt := 149) dX4_goOn_106 (by decide) h (fun c3 h => ?_) (fun c3 h => ?_)
      · refine i_aload_n dX4_goOn_149 rfl ?_
        refine i_aload_n dX4_goOn_150 rfl ?_
        refine gf_X4_58 rfl (by omega) dX4_goOn_151 ?_
        refine cV_ir dX4_goOn_154 cw_X4_129 ci_X4_isDigit rfl rfl (by decide) (show 0 < 1 by omega) h (fun a2 e => F_X4_isDigit  e) (Nat.le_of_ble_eq_true rfl) rfl rfl (Nat.le_of_ble_eq_true rfl) (fun a2 ea2 h => ?_)
        refine r_if_eq (tgt := 200) dX4_goOn_157 (by decide) h (fun c4 h => ?_) (fun c4 h => ?_)
        · refine i_aload_n dX4_goOn_200 rfl ?_
          refine i_iconst (v := 3) dX4_goOn_201 (by decide) ?_
          refine pf_X4_28 rfl (by omega) dX4_goOn_202 ?_
          refine i_aload_n dX4_goOn_205 rfl ?_
          refine i_dup dX4_goOn_206 rfl ?_
          refine gf_X4_31 rfl (by omega) dX4_goOn_207 ?_
          refine i_iconst (v := 1) dX4_goOn_210 (by decide) ?_
          refine i_iadd dX4_goOn_211 ?_
          refine pf_X4_31 rfl (by omega) dX4_goOn_212 ?_
          refine r_mem h (fun s1 _ h => ?_)
          refine i_iload_n dX4_goOn_215 rfl ?_
          refine i_if_eq (tgt := 239) dX4_goOn_216 (by decide) (fun c => absurd c (by decide)) (fun _ => ?_)
          refine i_aload_n dX4_goOn_219 rfl ?_
          refine gf_X4_28 rfl (by omega) dX4_goOn_220 ?_
          refine i_iconst (v := 3) dX4_goOn_223 (by decide) ?_
          refine r_icmp_eq (tgt := 239) dX4_goOn_224 (by decide) h (fun c5 h => ?_) (fun c5 h => ?_)
          · refine i_iconst (v := 0) dX4_goOn_239 (by decide) ?_
            refine i_istore_n (ls' := [some (rf X 4 0), some (.int (σ 4 0 5)), some (.int (1 : Int32)), some (.int (0 : Int32))]) dX4_goOn_240 (by decide) (okp_at rfl) rfl ?_
            refine i_iload_n dX4_goOn_241 rfl ?_
            refine i_if_ne (tgt := 266) dX4_goOn_242 (by decide) (fun c => absurd c (by decide)) (fun _ => ?_)
            refine i_aload_n dX4_goOn_245 rfl ?_
            refine gf_X4_28 rfl (by omega) dX4_goOn_246 ?_
            refine i_iconst (v := 2) dX4_goOn_249 (by decide) ?_
            refine r_icmp_ne (tgt := 271) dX4_goOn_250 (by decide) h (fun c6 h => ?_) (fun c6 h => ?_)
            · exact e_vw rfl dX4_goOn_271 h
            · refine i_aload_n dX4_goOn_253 rfl ?_
              refine gf_X4_31 rfl (by omega) dX4_goOn_254 ?_
              refine i_aload_n dX4_goOn_257 rfl ?_
              refine gf_X4_58 rfl (by omega) dX4_goOn_258 ?_
              refine i_isub dX4_goOn_261 ?_
              refine i_iconst (v := 4) dX4_goOn_262 (by decide) ?_
              refine r_icmp_le (tgt := 271) dX4_goOn_263 (by decide) h (fun c7 h => ?_) (fun c7 h => ?_)
              · exact e_vw rfl dX4_goOn_271 h
              · refine i_aload_n dX4_goOn_266 rfl ?_
                refine i_iconst (v := 4) dX4_goOn_267 (by decide) ?_
                refine pf_X4_28 rfl (by omega) dX4_goOn_268 ?_
                exact e_vw rfl dX4_goOn_271 h
          · refine i_aload_n dX4_goOn_227 rfl ?_
            refine gf_X4_58 rfl (by omega) dX4_goOn_228 ?_
            refine i_iload_n dX4_goOn_231 rfl ?_
            refine r_icmp_ne (tgt := 239) dX4_goOn_232 (by decide) h (fun c8 h => ?_) (fun c8 h => ?_)
            · refine i_iconst (v := 0) dX4_goOn_239 (by decide) ?_
              refine i_istore_n (ls' := [some (rf X 4 0), some (.int (σ 4 0 5)), some (.int (1 : Int32)), some (.int (0 : Int32))]) dX4_goOn_240 (by decide) (okp_at rfl) rfl ?_
              refine i_iload_n dX4_goOn_241 rfl ?_
              refine i_if_ne (tgt := 266) dX4_goOn_242 (by decide) (fun c => absurd c (by decide)) (fun _ => ?_)
              refine i_aload_n dX4_goOn_245 rfl ?_
              refine gf_X4_28 rfl (by omega) dX4_goOn_246 ?_
              refine i_iconst (v := 2) dX4_goOn_249 (by decide) ?_
              refine r_icmp_ne (tgt := 271) dX4_goOn_250 (by decide) h (fun c9 h => ?_) (fun c9 h => ?_)
              · exact e_vw rfl dX4_goOn_271 h
              · refine i_aload_n dX4_goOn_253 rfl ?_
                refine gf_X4_31 rfl (by omega) dX4_goOn_254 ?_
                refine i_aload_n dX4_goOn_257 rfl ?_
                refine gf_X4_58 rfl (by omega) dX4_goOn_258 ?_
                refine i_isub dX4_goOn_261 ?_
                refine i_iconst (v := 4) dX4_goOn_262 (by decide) ?_
                refine r_icmp_le (tgt := 271) dX4_goOn_263 (by decide) h (fun c10 h => ?_) (fun c10 h => ?_)
                · exact e_vw rfl dX4_goOn_271 h
                · refine i_aload_n dX4_goOn_266 rfl ?_
                  refine i_iconst (v := 4) dX4_goOn_267 (by decide) ?_
                  refine pf_X4_28 rfl (by omega) dX4_goOn_268 ?_
                  exact e_vw rfl dX4_goOn_271 h
            · refine i_iconst (v := 1) dX4_goOn_235 (by decide) ?_
              refine i_goto (tgt := 240) dX4_goOn_236 (by decide) ?_
              refine i_istore_n (ls' := [some (rf X 4 0), some (.int (σ 4 0 5)), some (.int (1 : Int32)), some (.int (1 : Int32))]) dX4_goOn_240 (by decide) (okp_at rfl) rfl ?_
              refine i_iload_n dX4_goOn_241 rfl ?_
              refine i_if_ne (tgt := 266) dX4_goOn_242 (by decide) (fun _ => ?_) (fun c => absurd c (by decide))
              refine i_aload_n dX4_goOn_266 rfl ?_
              refine i_iconst (v := 4) dX4_goOn_267 (by decide) ?_
              refine pf_X4_28 rfl (by omega) dX4_goOn_268 ?_
              exact e_vw rfl dX4_goOn_271 h
        · refine i_aload_n dX4_goOn_160 rfl ?_
          refine i_iconst (v := 2) dX4_goOn_161 (by decide) ?_
          refine pf_X4_28 rfl (by omega) dX4_goOn_162 ?_
          refine L_X4_goOn_165  FU _ h (fun σ_2 h => ?_)
          refine i_iload_n dX4_goOn_215 rfl ?_
          refine i_if_eq (tgt := 239) dX4_goOn_216 (by decide) (fun c => absurd c (by decide)) (fun _ => ?_)
          refine i_aload_n dX4_goOn_219 rfl ?_
          refine gf_X4_28 rfl (by omega) dX4_goOn_220 ?_
          refine i_iconst (v := 3) dX4_goOn_223 (by decide) ?_
          refine r_icmp_eq (tgt := 239) dX4_goOn_224 (by decide) h (fun c11 h => ?_) (fun c11 h => ?_)
          · refine i_iconst (v := 0) dX4_goOn_239 (by decide) ?_
            refine i_istore_n (ls' := [some (rf X 4 0), some (.int (σ 4 0 5)), some (.int (1 : Int32)), some (.int (0 : Int32))]) dX4_goOn_240 (by decide) (okp_at rfl) rfl ?_
            refine i_iload_n dX4_goOn_241 rfl ?_
            refine i_if_ne (tgt := 266) dX4_goOn_242 (by decide) (fun c => absurd c (by decide)) (fun _ => ?_)
            refine i_aload_n dX4_goOn_245 rfl ?_
            refine gf_X4_28 rfl (by omega) dX4_goOn_246 ?_
            refine i_iconst (v := 2) dX4_goOn_249 (by decide) ?_
            refine r_icmp_ne (tgt := 271) dX4_goOn_250 (by decide) h (fun c12 h => ?_) (fun c12 h => ?_)
            · exact e_vw rfl dX4_goOn_271 h
            · refine i_aload_n dX4_goOn_253 rfl ?_
              refine gf_X4_31 rfl (by omega) dX4_goOn_254 ?_
              refine i_aload_n dX4_goOn_257 rfl ?_
              refine gf_X4_58 rfl (by omega) dX4_goOn_258 ?_
              refine i_isub dX4_goOn_261 ?_
              refine i_iconst (v := 4) dX4_goOn_262 (by decide) ?_
              refine r_icmp_le (tgt := 271) dX4_goOn_263 (by decide) h (fun c13 h => ?_) (fun c13 h => ?_)
              · exact e_vw rfl dX4_goOn_271 h
              · refine i_aload_n dX4_goOn_266 rfl ?_
                refine i_iconst (v := 4) dX4_goOn_267 (by decide) ?_
                refine pf_X4_28 rfl (by omega) dX4_goOn_268 ?_
                exact e_vw rfl dX4_goOn_271 h
          · refine i_aload_n dX4_goOn_227 rfl ?_
            refine gf_X4_58 rfl (by omega) dX4_goOn_228 ?_
            refine i_iload_n dX4_goOn_231 rfl ?_
            refine r_icmp_ne (tgt := 239) dX4_goOn_232 (by decide) h (fun c14 h => ?_) (fun c14 h => ?_)
            · refine i_iconst (v := 0) dX4_goOn_239 (by decide) ?_
              refine i_istore_n (ls' := [some (rf X 4 0), some (.int (σ 4 0 5)), some (.int (1 : Int32)), some (.int (0 : Int32))]) dX4_goOn_240 (by decide) (okp_at rfl) rfl ?_
              refine i_iload_n dX4_goOn_241 rfl ?_
              refine i_if_ne (tgt := 266) dX4_goOn_242 (by decide) (fun c => absurd c (by decide)) (fun _ => ?_)
              refine i_aload_n dX4_goOn_245 rfl ?_
              refine gf_X4_28 rfl (by omega) dX4_goOn_246 ?_
              refine i_iconst (v := 2) dX4_goOn_249 (by decide) ?_
              refine r_icmp_ne (tgt := 271) dX4_goOn_250 (by decide) h (fun c15 h => ?_) (fun c15 h => ?_)
              · exact e_vw rfl dX4_goOn_271 h
              · refine i_aload_n dX4_goOn_253 rfl ?_
                refine gf_X4_31 rfl (by omega) dX4_goOn_254 ?_
                refine i_aload_n dX4_goOn_257 rfl ?_
                refine gf_X4_58 rfl (by omega) dX4_goOn_258 ?_
                refine i_isub dX4_goOn_261 ?_
                refine i_iconst (v := 4) dX4_goOn_262 (by decide) ?_
                refine r_icmp_le (tgt := 271) dX4_goOn_263 (by decide) h (fun c16 h => ?_) (fun c16 h => ?_)
                · exact e_vw rfl dX4_goOn_271 h
                · refine i_aload_n dX4_goOn_266 rfl ?_
                  refine i_iconst (v := 4) dX4_goOn_267 (by decide) ?_
                  refine pf_X4_28 rfl (by omega) dX4_goOn_268 ?_
                  exact e_vw rfl dX4_goOn_271 h
            · refine i_iconst (v := 1) dX4_goOn_235 (by decide) ?_
              refine i_goto (tgt := 240) dX4_goOn_236 (by decide) ?_
              refine i_istore_n (ls' := [some (rf X 4 0), some (.int (σ 4 0 5)), some (.int (1 : Int32)), some (.int (1 : Int32))]) dX4_goOn_240 (by decide) (okp_at rfl) rfl ?_
              refine i_iload_n dX4_goOn_241 rfl ?_
              refine i_if_ne (tgt := 266) dX4_goOn_242 (by decide) (fun _ => ?_) (fun c => absurd c (by decide))
              refine i_aload_n dX4_goOn_266 rfl ?_
              refine i_iconst (v := 4) dX4_goOn_267 (by decide) ?_
              refine pf_X4_28 rfl (by omega) dX4_goOn_268 ?_
              exact e_vw rfl dX4_goOn_271 h
      · refine i_aload_n dX4_goOn_109 rfl ?_
        refine i_iconst (v := 1) dX4_goOn_110 (by decide) ?_
        refine pf_X4_28 rfl (by omega) dX4_goOn_111 ?_
        refine L_X4_goOn_114  FU _ h (fun σ_3 h => ?_)
        refine i_iload_n dX4_goOn_215 rfl ?_
        refine i_if_eq (tgt := 239) dX4_goOn_216 (by decide) (fun c => absurd c (by decide)) (fun _ => ?_)
        refine i_aload_n dX4_goOn_219 rfl ?_
        refine gf_X4_28 rfl (by omega) dX4_goOn_220 ?_
        refine i_iconst (v := 3) dX4_goOn_223 (by decide) ?_
        refine r_icmp_eq (tgt := 239) dX4_goOn_224 (by decide) h (fun c17 h => ?_) (fun c17 h => ?_)
        · refine i_iconst (v := 0) dX4_goOn_239 (by decide) ?_
          refine i_istore_n (ls' := [some (rf X 4 0), some (.int (σ 4 0 5)), some (.int (1 : Int32)), some (.int (0 : Int32))]) dX4_goOn_240 (by decide) (okp_at rfl) rfl ?_
          refine i_iload_n dX4_goOn_241 rfl ?_
          refine i_if_ne (tgt := 266) dX4_goOn_242 (by decide) (fun c => absurd c (by decide)) (fun _ => ?_)
          refine i_aload_n dX4_goOn_245 rfl ?_
          refine gf_X4_28 rfl (by omega) dX4_goOn_246 ?_
          refine i_iconst (v := 2) dX4_goOn_249 (by decide) ?_
          refine r_icmp_ne (tgt := 271) dX4_goOn_250 (by decide) h (fun c18 h => ?_) (fun c18 h => ?_)
          · exact e_vw rfl dX4_goOn_271 h
          · refine i_aload_n dX4_goOn_253 rfl ?_
            refine gf_X4_31 rfl (by omega) dX4_goOn_254 ?_
            refine i_aload_n dX4_goOn_257 rfl ?_
            refine gf_X4_58 rfl (by omega) dX4_goOn_258 ?_
            refine i_isub dX4_goOn_261 ?_
            refine i_iconst (v := 4) dX4_goOn_262 (by decide) ?_
            refine r_icmp_le (tgt := 271) dX4_goOn_263 (by decide) h (fun c19 h => ?_) (fun c19 h => ?_)
            · exact e_vw rfl dX4_goOn_271 h
            · refine i_aload_n dX4_goOn_266 rfl ?_
              refine i_iconst (v := 4) dX4_goOn_267 (by decide) ?_
              refine pf_X4_28 rfl (by omega) dX4_goOn_268 ?_
              exact e_vw rfl dX4_goOn_271 h
        · refine i_aload_n dX4_goOn_227 rfl ?_
          refine gf_X4_58 rfl (by omega) dX4_goOn_228 ?_
          refine i_iload_n dX4_goOn_231 rfl ?_
          refine r_icmp_ne (tgt := 239) dX4_goOn_232 (by decide) h (fun c20 h => ?_) (fun c20 h => ?_)
          · refine i_iconst (v := 0) dX4_goOn_239 (by decide) ?_
            refine i_istore_n (ls' := [some (rf X 4 0), some (.int (σ 4 0 5)), some (.int (1 : Int32)), some (.int (0 : Int32))]) dX4_goOn_240 (by decide) (okp_at rfl) rfl ?_
            refine i_iload_n dX4_goOn_241 rfl ?_
            refine i_if_ne (tgt := 266) dX4_goOn_242 (by decide) (fun c => absurd c (by decide)) (fun _ => ?_)
            refine i_aload_n dX4_goOn_245 rfl ?_
            refine gf_X4_28 rfl (by omega) dX4_goOn_246 ?_
            refine i_iconst (v := 2) dX4_goOn_249 (by decide) ?_
            refine r_icmp_ne (tgt := 271) dX4_goOn_250 (by decide) h (fun c21 h => ?_) (fun c21 h => ?_)
            · exact e_vw rfl dX4_goOn_271 h
            · refine i_aload_n dX4_goOn_253 rfl ?_
              refine gf_X4_31 rfl (by omega) dX4_goOn_254 ?_
              refine i_aload_n dX4_goOn_257 rfl ?_
              refine gf_X4_58 rfl (by omega) dX4_goOn_258 ?_
              refine i_isub dX4_goOn_261 ?_
              refine i_iconst (v := 4) dX4_goOn_262 (by decide) ?_
              refine r_icmp_le (tgt := 271) dX4_goOn_263 (by decide) h (fun c22 h => ?_) (fun c22 h => ?_)
              · exact e_vw rfl dX4_goOn_271 h
              · refine i_aload_n dX4_goOn_266 rfl ?_
                refine i_iconst (v := 4) dX4_goOn_267 (by decide) ?_
                refine pf_X4_28 rfl (by omega) dX4_goOn_268 ?_
                exact e_vw rfl dX4_goOn_271 h
          · refine i_iconst (v := 1) dX4_goOn_235 (by decide) ?_
            refine i_goto (tgt := 240) dX4_goOn_236 (by decide) ?_
            refine i_istore_n (ls' := [some (rf X 4 0), some (.int (σ 4 0 5)), some (.int (1 : Int32)), some (.int (1 : Int32))]) dX4_goOn_240 (by decide) (okp_at rfl) rfl ?_
            refine i_iload_n dX4_goOn_241 rfl ?_
            refine i_if_ne (tgt := 266) dX4_goOn_242 (by decide) (fun _ => ?_) (fun c => absurd c (by decide))
            refine i_aload_n dX4_goOn_266 rfl ?_
            refine i_iconst (v := 4) dX4_goOn_267 (by decide) ?_
            refine pf_X4_28 rfl (by omega) dX4_goOn_268 ?_
            exact e_vw rfl dX4_goOn_271 h
    · refine i_aload_n dX4_goOn_92 rfl ?_
      refine i_iconst (v := 0) dX4_goOn_93 (by decide) ?_
      refine pf_X4_28 rfl (by omega) dX4_goOn_94 ?_
      exact e_vw rfl dX4_goOn_97 h
  · refine i_aload_n dX4_goOn_13 rfl ?_
    refine gf_X4_28 rfl (by omega) dX4_goOn_14 ?_
    refine i_iconst (v := 2) dX4_goOn_17 (by decide) ?_
    refine r_icmp_ne (tgt := 25) dX4_goOn_18 (by decide) h (fun c23 h => ?_) (fun c23 h => ?_)
    · refine i_iconst (v := 0) dX4_goOn_25 (by decide) ?_
      refine i_istore_n (ls' := [some (rf X 4 0), some (.int (σ 4 0 5)), some (.int (0 : Int32)), none]) dX4_goOn_26 (by decide) (okp_at rfl) rfl ?_
      refine i_aload_n dX4_goOn_27 rfl ?_
      refine i_aload_n dX4_goOn_28 rfl ?_
      refine gf_X4_31 rfl (by omega) dX4_goOn_29 ?_
      refine pf_X4_58 rfl (by omega) dX4_goOn_32 ?_
      refine L_X4_goOn_35  FU _ h (fun σ_4 h => ?_)
      refine i_aload_n dX4_goOn_73 rfl ?_
      refine i_aload_n dX4_goOn_74 rfl ?_
      refine gf_X4_58 rfl (by omega) dX4_goOn_75 ?_
      refine pf_X4_31 rfl (by omega) dX4_goOn_78 ?_
      refine i_aload_n dX4_goOn_81 rfl ?_
      refine gf_X4_58 rfl (by omega) dX4_goOn_82 ?_
      refine i_aload_n dX4_goOn_85 rfl ?_
      refine gf_X4_15 rfl (by omega) dX4_goOn_86 ?_
      refine r_icmp_lt (tgt := 98) dX4_goOn_89 (by decide) h (fun c24 h => ?_) (fun c24 h => ?_)
      · refine i_aload_n dX4_goOn_98 rfl ?_
        refine i_aload_n dX4_goOn_99 rfl ?_
        refine gf_X4_58 rfl (by omega) dX4_goOn_100 ?_
        refine cV_ir dX4_goOn_103 cw_X4_125 ci_X4_isLetter rfl rfl (by decide) (show 0 < 1 by omega) h (fun a3 e => F_X4_isLetter  e) (Nat.le_of_ble_eq_true rfl) rfl rfl (Nat.le_of_ble_eq_true rfl) (fun a3 ea3 h => ?_)
        refine r_if_eq (tgt := 149) dX4_goOn_106 (by decide) h (fun c25 h => ?_) (fun c25 h => ?_)
        · refine i_aload_n dX4_goOn_149 rfl ?_
          refine i_aload_n dX4_goOn_150 rfl ?_
          refine gf_X4_58 rfl (by omega) dX4_goOn_151 ?_
          refine cV_ir dX4_goOn_154 cw_X4_129 ci_X4_isDigit rfl rfl (by decide) (show 0 < 1 by omega) h (fun a4 e => F_X4_isDigit  e) (Nat.le_of_ble_eq_true rfl) rfl rfl (Nat.le_of_ble_eq_true rfl) (fun a4 ea4 h => ?_)
          refine r_if_eq (tgt := 200) dX4_goOn_157 (by decide) h (fun c26 h => ?_) (fun c26 h => ?_)
          · refine i_aload_n dX4_goOn_200 rfl ?_
            refine i_iconst (v := 3) dX4_goOn_201 (by decide) ?_
            refine pf_X4_28 rfl (by omega) dX4_goOn_202 ?_
            refine i_aload_n dX4_goOn_205 rfl ?_
            refine i_dup dX4_goOn_206 rfl ?_
            refine gf_X4_31 rfl (by omega) dX4_goOn_207 ?_
            refine i_iconst (v := 1) dX4_goOn_210 (by decide) ?_
            refine i_iadd dX4_goOn_211 ?_
            refine pf_X4_31 rfl (by omega) dX4_goOn_212 ?_
            refine r_mem h (fun s2 _ h => ?_)
            refine i_iload_n dX4_goOn_215 rfl ?_
            refine i_if_eq (tgt := 239) dX4_goOn_216 (by decide) (fun _ => ?_) (fun c => absurd c (by decide))
            refine i_iconst (v := 0) dX4_goOn_239 (by decide) ?_
            refine i_istore_n (ls' := [some (rf X 4 0), some (.int (σ 4 0 5)), some (.int (0 : Int32)), some (.int (0 : Int32))]) dX4_goOn_240 (by decide) (okp_at rfl) rfl ?_
            refine i_iload_n dX4_goOn_241 rfl ?_
            refine i_if_ne (tgt := 266) dX4_goOn_242 (by decide) (fun c => absurd c (by decide)) (fun _ => ?_)
            refine i_aload_n dX4_goOn_245 rfl ?_
            refine gf_X4_28 rfl (by omega) dX4_goOn_246 ?_
            refine i_iconst (v := 2) dX4_goOn_249 (by decide) ?_
            refine r_icmp_ne (tgt := 271) dX4_goOn_250 (by decide) h (fun c27 h => ?_) (fun c27 h => ?_)
            · exact e_vw rfl dX4_goOn_271 h
            · refine i_aload_n dX4_goOn_253 rfl ?_
              refine gf_X4_31 rfl (by omega) dX4_goOn_254 ?_
              refine i_aload_n dX4_goOn_257 rfl ?_
              refine gf_X4_58 rfl (by omega) dX4_goOn_258 ?_
              refine i_isub dX4_goOn_261 ?_
              refine i_iconst (v := 4) dX4_goOn_262 (by decide) ?_
              refine r_icmp_le (tgt := 271) dX4_goOn_263 (by decide) h (fun c28 h => ?_) (fun c28 h => ?_)
              · exact e_vw rfl dX4_goOn_271 h
              · refine i_aload_n dX4_goOn_266 rfl ?_
                refine i_iconst (v := 4) dX4_goOn_267 (by decide) ?_
                refine pf_X4_28 rfl (by omega) dX4_goOn_268 ?_
                exact e_vw rfl dX4_goOn_271 h
          · refine i_aload_n dX4_goOn_160 rfl ?_
            refine i_iconst (v := 2) dX4_goOn_161 (by decide) ?_
            refine pf_X4_28 rfl (by omega) dX4_goOn_162 ?_
            refine L_X4_goOn_165  FU _ h (fun σ_5 h => ?_)
            refine i_iload_n dX4_goOn_215 rfl ?_
            refine i_if_eq (tgt := 239) dX4_goOn_216 (by decide) (fun _ => ?_) (fun c => absurd c (by decide))
            refine i_iconst (v := 0) dX4_goOn_239 (by decide) ?_
            refine i_istore_n (ls' := [some (rf X 4 0), some (.int (σ 4 0 5)), some (.int (0 : Int32)), some (.int (0 : Int32))]) dX4_goOn_240 (by decide) (okp_at rfl) rfl ?_
            refine i_iload_n dX4_goOn_241 rfl ?_
            refine i_if_ne (tgt := 266) dX4_goOn_242 (by decide) (fun c => absurd c (by decide)) (fun _ => ?_)
            refine i_aload_n dX4_goOn_245 rfl ?_
            refine gf_X4_28 rfl (by omega) dX4_goOn_246 ?_
            refine i_iconst (v := 2) dX4_goOn_249 (by decide) ?_
            refine r_icmp_ne (tgt := 271) dX4_goOn_250 (by decide) h (fun c29 h => ?_) (fun c29 h => ?_)
            · exact e_vw rfl dX4_goOn_271 h
            · refine i_aload_n dX4_goOn_253 rfl ?_
              refine gf_X4_31 rfl (by omega) dX4_goOn_254 ?_
              refine i_aload_n dX4_goOn_257 rfl ?_
              refine gf_X4_58 rfl (by omega) dX4_goOn_258 ?_
              refine i_isub dX4_goOn_261 ?_
              refine i_iconst (v := 4) dX4_goOn_262 (by decide) ?_
              refine r_icmp_le (tgt := 271) dX4_goOn_263 (by decide) h (fun c30 h => ?_) (fun c30 h => ?_)
              · exact e_vw rfl dX4_goOn_271 h
              · refine i_aload_n dX4_goOn_266 rfl ?_
                refine i_iconst (v := 4) dX4_goOn_267 (by decide) ?_
                refine pf_X4_28 rfl (by omega) dX4_goOn_268 ?_
                exact e_vw rfl dX4_goOn_271 h
        · refine i_aload_n dX4_goOn_109 rfl ?_
          refine i_iconst (v := 1) dX4_goOn_110 (by decide) ?_
          refine pf_X4_28 rfl (by omega) dX4_goOn_111 ?_
          refine L_X4_goOn_114  FU _ h (fun σ_6 h => ?_)
          refine i_iload_n dX4_goOn_215 rfl ?_
          refine i_if_eq (tgt := 239) dX4_goOn_216 (by decide) (fun _ => ?_) (fun c => absurd c (by decide))
          refine i_iconst (v := 0) dX4_goOn_239 (by decide) ?_
          refine i_istore_n (ls' := [some (rf X 4 0), some (.int (σ 4 0 5)), some (.int (0 : Int32)), some (.int (0 : Int32))]) dX4_goOn_240 (by decide) (okp_at rfl) rfl ?_
          refine i_iload_n dX4_goOn_241 rfl ?_
          refine i_if_ne (tgt := 266) dX4_goOn_242 (by decide) (fun c => absurd c (by decide)) (fun _ => ?_)
          refine i_aload_n dX4_goOn_245 rfl ?_
          refine gf_X4_28 rfl (by omega) dX4_goOn_246 ?_
          refine i_iconst (v := 2) dX4_goOn_249 (by decide) ?_
          refine r_icmp_ne (tgt := 271) dX4_goOn_250 (by decide) h (fun c31 h => ?_) (fun c31 h => ?_)
          · exact e_vw rfl dX4_goOn_271 h
          · refine i_aload_n dX4_goOn_253 rfl ?_
            refine gf_X4_31 rfl (by omega) dX4_goOn_254 ?_
            refine i_aload_n dX4_goOn_257 rfl ?_
            refine gf_X4_58 rfl (by omega) dX4_goOn_258 ?_
            refine i_isub dX4_goOn_261 ?_
            refine i_iconst (v := 4) dX4_goOn_262 (by decide) ?_
            refine r_icmp_le (tgt := 271) dX4_goOn_263 (by decide) h (fun c32 h => ?_) (fun c32 h => ?_)
            · exact e_vw rfl dX4_goOn_271 h
            · refine i_aload_n dX4_goOn_266 rfl ?_
              refine i_iconst (v := 4) dX4_goOn_267 (by decide) ?_
              refine pf_X4_28 rfl (by omega) dX4_goOn_268 ?_
              exact e_vw rfl dX4_goOn_271 h
      · refine i_aload_n dX4_goOn_92 rfl ?_
        refine i_iconst (v := 0) dX4_goOn_93 (by decide) ?_
        refine pf_X4_28 rfl (by omega) dX4_goOn_94 ?_
        exact e_vw rfl dX4_goOn_97 h
    · refine i_iconst (v := 1) dX4_goOn_21 (by decide) ?_
      refine i_goto (tgt := 26) dX4_goOn_22 (by decide) ?_
      refine i_istore_n (ls' := [some (rf X 4 0), some (.int (σ 4 0 5)), some (.int (1 : Int32)), none]) dX4_goOn_26 (by decide) (okp_at rfl) rfl ?_
      refine i_aload_n dX4_goOn_27 rfl ?_
      refine i_aload_n dX4_goOn_28 rfl ?_
      refine gf_X4_31 rfl (by omega) dX4_goOn_29 ?_
      refine pf_X4_58 rfl (by omega) dX4_goOn_32 ?_
      refine L_X4_goOn_35  FU _ h (fun σ_7 h => ?_)
      refine i_aload_n dX4_goOn_73 rfl ?_
      refine i_aload_n dX4_goOn_74 rfl ?_
      refine gf_X4_58 rfl (by omega) dX4_goOn_75 ?_
      refine pf_X4_31 rfl (by omega) dX4_goOn_78 ?_
      refine i_aload_n dX4_goOn_81 rfl ?_
      refine gf_X4_58 rfl (by omega) dX4_goOn_82 ?_
      refine i_aload_n dX4_goOn_85 rfl ?_
      refine gf_X4_15 rfl (by omega) dX4_goOn_86 ?_
      refine r_icmp_lt (tgt := 98) dX4_goOn_89 (by decide) h (fun c33 h => ?_) (fun c33 h => ?_)
      · refine i_aload_n dX4_goOn_98 rfl ?_
        refine i_aload_n dX4_goOn_99 rfl ?_
        refine gf_X4_58 rfl (by omega) dX4_goOn_100 ?_
        refine cV_ir dX4_goOn_103 cw_X4_125 ci_X4_isLetter rfl rfl (by decide) (show 0 < 1 by omega) h (fun a5 e => F_X4_isLetter  e) (Nat.le_of_ble_eq_true rfl) rfl rfl (Nat.le_of_ble_eq_true rfl) (fun a5 ea5 h => ?_)
        refine r_if_eq (tgt := 149) dX4_goOn_106 (by decide) h (fun c34 h => ?_) (fun c34 h => ?_)
        · refine i_aload_n dX4_goOn_149 rfl ?_
          refine i_aload_n dX4_goOn_150 rfl ?_
          refine gf_X4_58 rfl (by omega) dX4_goOn_151 ?_
          refine cV_ir dX4_goOn_154 cw_X4_129 ci_X4_isDigit rfl rfl (by decide) (show 0 < 1 by omega) h (fun a6 e => F_X4_isDigit  e) (Nat.le_of_ble_eq_true rfl) rfl rfl (Nat.le_of_ble_eq_true rfl) (fun a6 ea6 h => ?_)
          refine r_if_eq (tgt := 200) dX4_goOn_157 (by decide) h (fun c35 h => ?_) (fun c35 h => ?_)
          · refine i_aload_n dX4_goOn_200 rfl ?_
            refine i_iconst (v := 3) dX4_goOn_201 (by decide) ?_
            refine pf_X4_28 rfl (by omega) dX4_goOn_202 ?_
            refine i_aload_n dX4_goOn_205 rfl ?_
            refine i_dup dX4_goOn_206 rfl ?_
            refine gf_X4_31 rfl (by omega) dX4_goOn_207 ?_
            refine i_iconst (v := 1) dX4_goOn_210 (by decide) ?_
            refine i_iadd dX4_goOn_211 ?_
            refine pf_X4_31 rfl (by omega) dX4_goOn_212 ?_
            refine r_mem h (fun s3 _ h => ?_)
            refine i_iload_n dX4_goOn_215 rfl ?_
            refine i_if_eq (tgt := 239) dX4_goOn_216 (by decide) (fun c => absurd c (by decide)) (fun _ => ?_)
            refine i_aload_n dX4_goOn_219 rfl ?_
            refine gf_X4_28 rfl (by omega) dX4_goOn_220 ?_
            refine i_iconst (v := 3) dX4_goOn_223 (by decide) ?_
            refine r_icmp_eq (tgt := 239) dX4_goOn_224 (by decide) h (fun c36 h => ?_) (fun c36 h => ?_)
            · refine i_iconst (v := 0) dX4_goOn_239 (by decide) ?_
              refine i_istore_n (ls' := [some (rf X 4 0), some (.int (σ 4 0 5)), some (.int (1 : Int32)), some (.int (0 : Int32))]) dX4_goOn_240 (by decide) (okp_at rfl) rfl ?_
              refine i_iload_n dX4_goOn_241 rfl ?_
              refine i_if_ne (tgt := 266) dX4_goOn_242 (by decide) (fun c => absurd c (by decide)) (fun _ => ?_)
              refine i_aload_n dX4_goOn_245 rfl ?_
              refine gf_X4_28 rfl (by omega) dX4_goOn_246 ?_
              refine i_iconst (v := 2) dX4_goOn_249 (by decide) ?_
              refine r_icmp_ne (tgt := 271) dX4_goOn_250 (by decide) h (fun c37 h => ?_) (fun c37 h => ?_)
              · exact e_vw rfl dX4_goOn_271 h
              · refine i_aload_n dX4_goOn_253 rfl ?_
                refine gf_X4_31 rfl (by omega) dX4_goOn_254 ?_
                refine i_aload_n dX4_goOn_257 rfl ?_
                refine gf_X4_58 rfl (by omega) dX4_goOn_258 ?_
                refine i_isub dX4_goOn_261 ?_
                refine i_iconst (v := 4) dX4_goOn_262 (by decide) ?_
                refine r_icmp_le (tgt := 271) dX4_goOn_263 (by decide) h (fun c38 h => ?_) (fun c38 h => ?_)
                · exact e_vw rfl dX4_goOn_271 h
                · refine i_aload_n dX4_goOn_266 rfl ?_
                  refine i_iconst (v := 4) dX4_goOn_267 (by decide) ?_
                  refine pf_X4_28 rfl (by omega) dX4_goOn_268 ?_
                  exact e_vw rfl dX4_goOn_271 h
            · refine i_aload_n dX4_goOn_227 rfl ?_
              refine gf_X4_58 rfl (by omega) dX4_goOn_228 ?_
              refine i_iload_n dX4_goOn_231 rfl ?_
              refine r_icmp_ne (tgt := 239) dX4_goOn_232 (by decide) h (fun c39 h => ?_) (fun c39 h => ?_)
              · refine i_iconst (v := 0) dX4_goOn_239 (by decide) ?_
                refine i_istore_n (ls' := [some (rf X 4 0), some (.int (σ 4 0 5)), some (.int (1 : Int32)), some (.int (0 : Int32))]) dX4_goOn_240 (by decide) (okp_at rfl) rfl ?_
                refine i_iload_n dX4_goOn_241 rfl ?_
                refine i_if_ne (tgt := 266) dX4_goOn_242 (by decide) (fun c => absurd c (by decide)) (fun _ => ?_)
                refine i_aload_n dX4_goOn_245 rfl ?_
                refine gf_X4_28 rfl (by omega) dX4_goOn_246 ?_
                refine i_iconst (v := 2) dX4_goOn_249 (by decide) ?_
                refine r_icmp_ne (tgt := 271) dX4_goOn_250 (by decide) h (fun c40 h => ?_) (fun c40 h => ?_)
                · exact e_vw rfl dX4_goOn_271 h
                · refine i_aload_n dX4_goOn_253 rfl ?_
                  refine gf_X4_31 rfl (by omega) dX4_goOn_254 ?_
                  refine i_aload_n dX4_goOn_257 rfl ?_
                  refine gf_X4_58 rfl (by omega) dX4_goOn_258 ?_
                  refine i_isub dX4_goOn_261 ?_
                  refine i_iconst (v := 4) dX4_goOn_262 (by decide) ?_
                  refine r_icmp_le (tgt := 271) dX4_goOn_263 (by decide) h (fun c41 h => ?_) (fun c41 h => ?_)
                  · exact e_vw rfl dX4_goOn_271 h
                  · refine i_aload_n dX4_goOn_266 rfl ?_
                    refine i_iconst (v := 4) dX4_goOn_267 (by decide) ?_
                    refine pf_X4_28 rfl (by omega) dX4_goOn_268 ?_
                    exact e_vw rfl dX4_goOn_271 h
              · refine i_iconst (v := 1) dX4_goOn_235 (by decide) ?_
                refine i_goto (tgt := 240) dX4_goOn_236 (by decide) ?_
                refine i_istore_n (ls' := [some (rf X 4 0), some (.int (σ 4 0 5)), some (.int (1 : Int32)), some (.int (1 : Int32))]) dX4_goOn_240 (by decide) (okp_at rfl) rfl ?_
                refine i_iload_n dX4_goOn_241 rfl ?_
                refine i_if_ne (tgt := 266) dX4_goOn_242 (by decide) (fun _ => ?_) (fun c => absurd c (by decide))
                refine i_aload_n dX4_goOn_266 rfl ?_
                refine i_iconst (v := 4) dX4_goOn_267 (by decide) ?_
                refine pf_X4_28 rfl (by omega) dX4_goOn_268 ?_
                exact e_vw rfl dX4_goOn_271 h
          · refine i_aload_n dX4_goOn_160 rfl ?_
            refine i_iconst (v := 2) dX4_goOn_161 (by decide) ?_
            refine pf_X4_28 rfl (by omega) dX4_goOn_162 ?_
            refine L_X4_goOn_165  FU _ h (fun σ_8 h => ?_)
            refine i_iload_n dX4_goOn_215 rfl ?_
            refine i_if_eq (tgt := 239) dX4_goOn_216 (by decide) (fun c => absurd c (by decide)) (fun _ => ?_)
            refine i_aload_n dX4_goOn_219 rfl ?_
            refine gf_X4_28 rfl (by omega) dX4_goOn_220 ?_
            refine i_iconst (v := 3) dX4_goOn_223 (by decide) ?_
            refine r_icmp_eq (tgt := 239) dX4_goOn_224 (by decide) h (fun c42 h => ?_) (fun c42 h => ?_)
            · refine i_iconst (v := 0) dX4_goOn_239 (by decide) ?_
              refine i_istore_n (ls' := [some (rf X 4 0), some (.int (σ 4 0 5)), some (.int (1 : Int32)), some (.int (0 : Int32))]) dX4_goOn_240 (by decide) (okp_at rfl) rfl ?_
              refine i_iload_n dX4_goOn_241 rfl ?_
              refine i_if_ne (tgt := 266) dX4_goOn_242 (by decide) (fun c => absurd c (by decide)) (fun _ => ?_)
              refine i_aload_n dX4_goOn_245 rfl ?_
              refine gf_X4_28 rfl (by omega) dX4_goOn_246 ?_
              refine i_iconst (v := 2) dX4_goOn_249 (by decide) ?_
              refine r_icmp_ne (tgt := 271) dX4_goOn_250 (by decide) h (fun c43 h => ?_) (fun c43 h => ?_)
              · exact e_vw rfl dX4_goOn_271 h
              · refine i_aload_n dX4_goOn_253 rfl ?_
                refine gf_X4_31 rfl (by omega) dX4_goOn_254 ?_
                refine i_aload_n dX4_goOn_257 rfl ?_
                refine gf_X4_58 rfl (by omega) dX4_goOn_258 ?_
                refine i_isub dX4_goOn_261 ?_
                refine i_iconst (v := 4) dX4_goOn_262 (by decide) ?_
                refine r_icmp_le (tgt := 271) dX4_goOn_263 (by decide) h (fun c44 h => ?_) (fun c44 h => ?_)
                · exact e_vw rfl dX4_goOn_271 h
                · refine i_aload_n dX4_goOn_266 rfl ?_
                  refine i_iconst (v := 4) dX4_goOn_267 (by decide) ?_
                  refine pf_X4_28 rfl (by omega) dX4_goOn_268 ?_
                  exact e_vw rfl dX4_goOn_271 h
            · refine i_aload_n dX4_goOn_227 rfl ?_
              refine gf_X4_58 rfl (by omega) dX4_goOn_228 ?_
              refine i_iload_n dX4_goOn_231 rfl ?_
              refine r_icmp_ne (tgt := 239) dX4_goOn_232 (by decide) h (fun c45 h => ?_) (fun c45 h => ?_)
              · refine i_iconst (v := 0) dX4_goOn_239 (by decide) ?_
                refine i_istore_n (ls' := [some (rf X 4 0), some (.int (σ 4 0 5)), some (.int (1 : Int32)), some (.int (0 : Int32))]) dX4_goOn_240 (by decide) (okp_at rfl) rfl ?_
                refine i_iload_n dX4_goOn_241 rfl ?_
                refine i_if_ne (tgt := 266) dX4_goOn_242 (by decide) (fun c => absurd c (by decide)) (fun _ => ?_)
                refine i_aload_n dX4_goOn_245 rfl ?_
                refine gf_X4_28 rfl (by omega) dX4_goOn_246 ?_
                refine i_iconst (v := 2) dX4_goOn_249 (by decide) ?_
                refine r_icmp_ne (tgt := 271) dX4_goOn_250 (by decide) h (fun c46 h => ?_) (fun c46 h => ?_)
                · exact e_vw rfl dX4_goOn_271 h
                · refine i_aload_n dX4_goOn_253 rfl ?_
                  refine gf_X4_31 rfl (by omega) dX4_goOn_254 ?_
                  refine i_aload_n dX4_goOn_257 rfl ?_
                  refine gf_X4_58 rfl (by omega) dX4_goOn_258 ?_
                  refine i_isub dX4_goOn_261 ?_
                  refine i_iconst (v := 4) dX4_goOn_262 (by decide) ?_
                  refine r_icmp_le (tgt := 271) dX4_goOn_263 (by decide) h (fun c47 h => ?_) (fun c47 h => ?_)
                  · exact e_vw rfl dX4_goOn_271 h
                  · refine i_aload_n dX4_goOn_266 rfl ?_
                    refine i_iconst (v := 4) dX4_goOn_267 (by decide) ?_
                    refine pf_X4_28 rfl (by omega) dX4_goOn_268 ?_
                    exact e_vw rfl dX4_goOn_271 h
              · refine i_iconst (v := 1) dX4_goOn_235 (by decide) ?_
                refine i_goto (tgt := 240) dX4_goOn_236 (by decide) ?_
                refine i_istore_n (ls' := [some (rf X 4 0), some (.int (σ 4 0 5)), some (.int (1 : Int32)), some (.int (1 : Int32))]) dX4_goOn_240 (by decide) (okp_at rfl) rfl ?_
                refine i_iload_n dX4_goOn_241 rfl ?_
                refine i_if_ne (tgt := 266) dX4_goOn_242 (by decide) (fun _ => ?_) (fun c => absurd c (by decide))
                refine i_aload_n dX4_goOn_266 rfl ?_
                refine i_iconst (v := 4) dX4_goOn_267 (by decide) ?_
                refine pf_X4_28 rfl (by omega) dX4_goOn_268 ?_
                exact e_vw rfl dX4_goOn_271 h
        · refine i_aload_n dX4_goOn_109 rfl ?_
          refine i_iconst (v := 1) dX4_goOn_110 (by decide) ?_
          refine pf_X4_28 rfl (by omega) dX4_goOn_111 ?_
          refine L_X4_goOn_114  FU _ h (fun σ_9 h => ?_)
          refine i_iload_n dX4_goOn_215 rfl ?_
          refine i_if_eq (tgt := 239) dX4_goOn_216 (by decide) (fun c => absurd c (by decide)) (fun _ => ?_)
          refine i_aload_n dX4_goOn_219 rfl ?_
          refine gf_X4_28 rfl (by omega) dX4_goOn_220 ?_
          refine i_iconst (v := 3) dX4_goOn_223 (by decide) ?_
          refine r_icmp_eq (tgt := 239) dX4_goOn_224 (by decide) h (fun c48 h => ?_) (fun c48 h => ?_)
          · refine i_iconst (v := 0) dX4_goOn_239 (by decide) ?_
            refine i_istore_n (ls' := [some (rf X 4 0), some (.int (σ 4 0 5)), some (.int (1 : Int32)), some (.int (0 : Int32))]) dX4_goOn_240 (by decide) (okp_at rfl) rfl ?_
            refine i_iload_n dX4_goOn_241 rfl ?_
            refine i_if_ne (tgt := 266) dX4_goOn_242 (by decide) (fun c => absurd c (by decide)) (fun _ => ?_)
            refine i_aload_n dX4_goOn_245 rfl ?_
            refine gf_X4_28 rfl (by omega) dX4_goOn_246 ?_
            refine i_iconst (v := 2) dX4_goOn_249 (by decide) ?_
            refine r_icmp_ne (tgt := 271) dX4_goOn_250 (by decide) h (fun c49 h => ?_) (fun c49 h => ?_)
            · exact e_vw rfl dX4_goOn_271 h
            · refine i_aload_n dX4_goOn_253 rfl ?_
              refine gf_X4_31 rfl (by omega) dX4_goOn_254 ?_
              refine i_aload_n dX4_goOn_257 rfl ?_
              refine gf_X4_58 rfl (by omega) dX4_goOn_258 ?_
              refine i_isub dX4_goOn_261 ?_
              refine i_iconst (v := 4) dX4_goOn_262 (by decide) ?_
              refine r_icmp_le (tgt := 271) dX4_goOn_263 (by decide) h (fun c50 h => ?_) (fun c50 h => ?_)
              · exact e_vw rfl dX4_goOn_271 h
              · refine i_aload_n dX4_goOn_266 rfl ?_
                refine i_iconst (v := 4) dX4_goOn_267 (by decide) ?_
                refine pf_X4_28 rfl (by omega) dX4_goOn_268 ?_
                exact e_vw rfl dX4_goOn_271 h
          · refine i_aload_n dX4_goOn_227 rfl ?_
            refine gf_X4_58 rfl (by omega) dX4_goOn_228 ?_
            refine i_iload_n dX4_goOn_231 rfl ?_
            refine r_icmp_ne (tgt := 239) dX4_goOn_232 (by decide) h (fun c51 h => ?_) (fun c51 h => ?_)
            · refine i_iconst (v := 0) dX4_goOn_239 (by decide) ?_
              refine i_istore_n (ls' := [some (rf X 4 0), some (.int (σ 4 0 5)), some (.int (1 : Int32)), some (.int (0 : Int32))]) dX4_goOn_240 (by decide) (okp_at rfl) rfl ?_
              refine i_iload_n dX4_goOn_241 rfl ?_
              refine i_if_ne (tgt := 266) dX4_goOn_242 (by decide) (fun c => absurd c (by decide)) (fun _ => ?_)
              refine i_aload_n dX4_goOn_245 rfl ?_
              refine gf_X4_28 rfl (by omega) dX4_goOn_246 ?_
              refine i_iconst (v := 2) dX4_goOn_249 (by decide) ?_
              refine r_icmp_ne (tgt := 271) dX4_goOn_250 (by decide) h (fun c52 h => ?_) (fun c52 h => ?_)
              · exact e_vw rfl dX4_goOn_271 h
              · refine i_aload_n dX4_goOn_253 rfl ?_
                refine gf_X4_31 rfl (by omega) dX4_goOn_254 ?_
                refine i_aload_n dX4_goOn_257 rfl ?_
                refine gf_X4_58 rfl (by omega) dX4_goOn_258 ?_
                refine i_isub dX4_goOn_261 ?_
                refine i_iconst (v := 4) dX4_goOn_262 (by decide) ?_
                refine r_icmp_le (tgt := 271) dX4_goOn_263 (by decide) h (fun c53 h => ?_) (fun c53 h => ?_)
                · exact e_vw rfl dX4_goOn_271 h
                · refine i_aload_n dX4_goOn_266 rfl ?_
                  refine i_iconst (v := 4) dX4_goOn_267 (by decide) ?_
                  refine pf_X4_28 rfl (by omega) dX4_goOn_268 ?_
                  exact e_vw rfl dX4_goOn_271 h
            · refine i_iconst (v := 1) dX4_goOn_235 (by decide) ?_
              refine i_goto (tgt := 240) dX4_goOn_236 (by decide) ?_
              refine i_istore_n (ls' := [some (rf X 4 0), some (.int (σ 4 0 5)), some (.int (1 : Int32)), some (.int (1 : Int32))]) dX4_goOn_240 (by decide) (okp_at rfl) rfl ?_
              refine i_iload_n dX4_goOn_241 rfl ?_
              refine i_if_ne (tgt := 266) dX4_goOn_242 (by decide) (fun _ => ?_) (fun c => absurd c (by decide))
              refine i_aload_n dX4_goOn_266 rfl ?_
              refine i_iconst (v := 4) dX4_goOn_267 (by decide) ?_
              refine pf_X4_28 rfl (by omega) dX4_goOn_268 ?_
              exact e_vw rfl dX4_goOn_271 h
      · refine i_aload_n dX4_goOn_92 rfl ?_
        refine i_iconst (v := 0) dX4_goOn_93 (by decide) ?_
        refine pf_X4_28 rfl (by omega) dX4_goOn_94 ?_
        exact e_vw rfl dX4_goOn_97 h
def f_X4_isWordHere_28 (p1 : Nat) (σ : Mem) : Nat → Int32 → (Option Int32) → Option Int32
  | 0, _, _ => none
  | n + 1, v2, k =>
    (if (strLen p1) ≤ v2 then (k) else (bnd (ix 96 ((σ 4 0 4) + v2)) (fun j1 => (bnd (ix (txL.getD p1 0) v2) (fun j2 => (if (σ 17 0 j1) = (strAt p1 j2) then (f_X4_isWordHere_28 p1 σ n (v2 + (1 : Int32)) k) else (some (0 : Int32))))))))
set_option maxRecDepth 100000 in
set_option maxHeartbeats 4000000 in
theorem L_X4_isWordHere_28 {X : Cx} {p1 : Nat} {σ : Mem} {r0 : Int32} {k : Option Int32} (h1 : p1 < 11) : ∀ (n : Nat) (v2 : Int32), f_X4_isWordHere_28 p1 σ n v2 k = some r0 → (k = some r0 → At X 6 mX4_isWordHere 63 [none, none, none] [] σ (some (.int r0)) σ) → At X 6 mX4_isWordHere 28 [some (rf X 4 0), some (.ref (xK X p1)), some (.int v2)] [] σ (some (.int r0)) σ := by
  intro n
  induction n with
  | zero =>
    intro v2 h
    cases h
  | succ n ih =>
    intro v2 h hk
    rw [f_X4_isWordHere_28.eq_2] at h
    refine i_iload_n dX4_isWordHere_28 rfl ?_
    refine i_xload_n dX4_isWordHere_29 rfl ?_
    refine b_length rfl dX4_isWordHere_30 (by omega) (by omega) (Nat.le_of_ble_eq_true rfl) ?_
    refine r_icmp_ge (tgt := 63) dX4_isWordHere_33 (by decide) h (fun c1 h => ?_) (fun c1 h => ?_)
    · refine At.fewer (ls' := [none, none, none]) trivial ?_
      exact hk h
    · refine i_aload_n dX4_isWordHere_36 rfl ?_
      refine gf_X4_9 rfl (by omega) dX4_isWordHere_37 ?_
      refine i_aload_n dX4_isWordHere_40 rfl ?_
      refine gf_X4_58 rfl (by omega) dX4_isWordHere_41 ?_
      refine i_iload_n dX4_isWordHere_44 rfl ?_
      refine i_iadd dX4_isWordHere_45 ?_
      refine al_17 dX4_isWordHere_46 (by omega) h (fun j1 lj1 h => ?_)
      refine i_xload_n dX4_isWordHere_47 rfl ?_
      refine i_iload_n dX4_isWordHere_48 rfl ?_
      refine b_charAt rfl dX4_isWordHere_49 (by omega) (by omega) (Nat.le_of_ble_eq_true rfl) h (fun j2 lj2 h => ?_)
      refine r_icmp_eq (tgt := 57) dX4_isWordHere_52 (by decide) h (fun c2 h => ?_) (fun c2 h => ?_)
      · refine i_iinc (v := (v2 + (1 : Int32))) (ls' := [some (rf X 4 0), some (.ref (xK X p1)), some (.int (v2 + (1 : Int32)))]) dX4_isWordHere_57 rfl (by rfl) (by decide) (okp_at rfl) rfl ?_
        refine i_goto (tgt := 28) dX4_isWordHere_60 (by decide) ?_
        exact ih _ h hk
      · refine i_iconst (v := 0) dX4_isWordHere_55 (by decide) ?_
        exact e_zr rfl (by decide) dX4_isWordHere_56 h
def f_X4_isWordHere  (p1 : Nat) (σ : Mem) : Option Int32 :=
  (if (σ 4 0 3) = (1 : Int32) then (if ((σ 4 0 5) - (σ 4 0 4)) = (strLen p1) then (f_X4_isWordHere_28 p1 σ FU (0 : Int32) ((some (1 : Int32)))) else (some (0 : Int32))) else (some (0 : Int32)))
set_option maxRecDepth 100000 in
set_option maxHeartbeats 4000000 in
theorem F_X4_isWordHere {X : Cx} {p1 : Nat} {σ : Mem} {res : Int32} (h1 : p1 < 11) (h : f_X4_isWordHere p1 σ = some res) : Tri X 6 mX4_isWordHere [rf X 4 0, .ref (xK X p1)] σ (some (.int res)) σ := by
  unfold f_X4_isWordHere at h
  refine Tri.of (ls := [some (rf X 4 0), some (.ref (xK X p1)), none]) (by decide) (Nat.le_of_ble_eq_true rfl) rfl ?_
  refine i_aload_n dX4_isWordHere_0 rfl ?_
  refine gf_X4_28 rfl (by omega) dX4_isWordHere_1 ?_
  refine i_iconst (v := 1) dX4_isWordHere_4 (by decide) ?_
  refine r_icmp_ne (tgt := 24) dX4_isWordHere_5 (by decide) h (fun c1 h => ?_) (fun c1 h => ?_)
  · refine i_iconst (v := 0) dX4_isWordHere_24 (by decide) ?_
    exact e_zr rfl (by decide) dX4_isWordHere_25 h
  · refine i_aload_n dX4_isWordHere_8 rfl ?_
    refine gf_X4_31 rfl (by omega) dX4_isWordHere_9 ?_
    refine i_aload_n dX4_isWordHere_12 rfl ?_
    refine gf_X4_58 rfl (by omega) dX4_isWordHere_13 ?_
    refine i_isub dX4_isWordHere_16 ?_
    refine i_xload_n dX4_isWordHere_17 rfl ?_
    refine b_length rfl dX4_isWordHere_18 (by omega) (by omega) (Nat.le_of_ble_eq_true rfl) ?_
    refine r_icmp_eq (tgt := 26) dX4_isWordHere_21 (by decide) h (fun c2 h => ?_) (fun c2 h => ?_)
    · refine i_iconst (v := 0) dX4_isWordHere_26 (by decide) ?_
      refine i_istore_n (ls' := [some (rf X 4 0), some (.ref (xK X p1)), some (.int (0 : Int32))]) dX4_isWordHere_27 (by decide) (okp_at rfl) rfl ?_
      refine L_X4_isWordHere_28 (by omega) FU _ h (fun  h => ?_)
      refine i_iconst (v := 1) dX4_isWordHere_63 (by decide) ?_
      exact e_zr rfl (by decide) dX4_isWordHere_64 h
    · refine i_iconst (v := 0) dX4_isWordHere_24 (by decide) ?_
      exact e_zr rfl (by decide) dX4_isWordHere_25 h
def f_X4_keyHere   (σ : Mem) : Option Int32 :=
  (bnd (f_X4_isWordHere 0 σ) (fun a1 => (if a1 = 0 then (bnd (f_X4_isWordHere 1 σ) (fun a2 => (if a2 = 0 then (bnd (f_X4_isWordHere 2 σ) (fun a3 => (if a3 = 0 then (some (-1 : Int32)) else (some (2 : Int32))))) else (some (1 : Int32))))) else (some (0 : Int32)))))
set_option maxRecDepth 100000 in
set_option maxHeartbeats 4000000 in
theorem F_X4_keyHere {X : Cx}  {σ : Mem} {res : Int32}  (h : f_X4_keyHere σ = some res) : Tri X 7 mX4_keyHere [rf X 4 0] σ (some (.int res)) σ := by
  unfold f_X4_keyHere at h
  refine Tri.of (ls := [some (rf X 4 0)]) (by decide) (Nat.le_of_ble_eq_true rfl) rfl ?_
  refine i_aload_n dX4_keyHere_0 rfl ?_
  refine i_ldcS 0 (by decide) rfl rfl dX4_keyHere_1 ?_
  refine cV_ir dX4_keyHere_3 cw_X4_50 ci_X4_isWordHere rfl rfl (by decide) (show 0 < 1 by omega) h (fun a1 e => F_X4_isWordHere (by omega) e) (Nat.le_of_ble_eq_true rfl) rfl rfl (Nat.le_of_ble_eq_true rfl) (fun a1 ea1 h => ?_)
  refine r_if_eq (tgt := 11) dX4_keyHere_6 (by decide) h (fun c1 h => ?_) (fun c1 h => ?_)
  · refine i_aload_n dX4_keyHere_11 rfl ?_
    refine i_ldcS 1 (by decide) rfl rfl dX4_keyHere_12 ?_
    refine cV_ir dX4_keyHere_14 cw_X4_50 ci_X4_isWordHere rfl rfl (by decide) (show 0 < 1 by omega) h (fun a2 e => F_X4_isWordHere (by omega) e) (Nat.le_of_ble_eq_true rfl) rfl rfl (Nat.le_of_ble_eq_true rfl) (fun a2 ea2 h => ?_)
    refine r_if_eq (tgt := 22) dX4_keyHere_17 (by decide) h (fun c2 h => ?_) (fun c2 h => ?_)
    · refine i_aload_n dX4_keyHere_22 rfl ?_
      refine i_ldcS 2 (by decide) rfl rfl dX4_keyHere_23 ?_
      refine cV_ir dX4_keyHere_25 cw_X4_50 ci_X4_isWordHere rfl rfl (by decide) (show 0 < 1 by omega) h (fun a3 e => F_X4_isWordHere (by omega) e) (Nat.le_of_ble_eq_true rfl) rfl rfl (Nat.le_of_ble_eq_true rfl) (fun a3 ea3 h => ?_)
      refine r_if_eq (tgt := 35) dX4_keyHere_28 (by decide) h (fun c3 h => ?_) (fun c3 h => ?_)
      · refine i_iconst (v := (-1)) dX4_keyHere_35 (by decide) ?_
        exact e_ir rfl dX4_keyHere_36 h
      · refine i_iconst (v := 2) dX4_keyHere_31 (by decide) ?_
        refine i_goto (tgt := 36) dX4_keyHere_32 (by decide) ?_
        exact e_ir rfl dX4_keyHere_36 h
    · refine i_iconst (v := 1) dX4_keyHere_20 (by decide) ?_
      exact e_ir rfl dX4_keyHere_21 h
  · refine i_iconst (v := 0) dX4_keyHere_9 (by decide) ?_
    exact e_ir rfl dX4_keyHere_10 h
def f_X4_numberHere_7 (σ : Mem) : Nat → Int32 → Int32 → (Int32 → Option Int32) → Option Int32
  | 0, _, _, _ => none
  | n + 1, v1, v2, k =>
    (if (σ 4 0 5) ≤ v2 then (k v1) else (bnd (ix 96 v2) (fun j1 => (f_X4_numberHere_7 σ n ((((10 : Int32) * v1) + (σ 17 0 j1)) - (48 : Int32)) (v2 + (1 : Int32)) k))))
set_option maxRecDepth 100000 in
set_option maxHeartbeats 4000000 in
theorem L_X4_numberHere_7 {X : Cx} {σ : Mem} {r0 : Int32} {k : Int32 → Option Int32}  : ∀ (n : Nat) (v1 : Int32) (v2 : Int32), f_X4_numberHere_7 σ n v1 v2 k = some r0 → (∀ (x1 : Int32), k x1 = some r0 → At X 1 mX4_numberHere 36 [none, some (.int x1), none] [] σ (some (.int r0)) σ) → At X 1 mX4_numberHere 7 [some (rf X 4 0), some (.int v1), some (.int v2)] [] σ (some (.int r0)) σ := by
  intro n
  induction n with
  | zero =>
    intro v1 v2 h
    cases h
  | succ n ih =>
    intro v1 v2 h hk
    rw [f_X4_numberHere_7.eq_2] at h
    refine i_iload_n dX4_numberHere_7 rfl ?_
    refine i_aload_n dX4_numberHere_8 rfl ?_
    refine gf_X4_31 rfl (by omega) dX4_numberHere_9 ?_
    refine r_icmp_ge (tgt := 36) dX4_numberHere_12 (by decide) h (fun c1 h => ?_) (fun c1 h => ?_)
    · refine At.fewer (ls' := [none, some (.int v1), none]) (And.intro rfl trivial) ?_
      exact hk _ h
    · refine i_bipush (v := 10) dX4_numberHere_15 (by decide) ?_
      refine i_iload_n dX4_numberHere_17 rfl ?_
      refine i_imul dX4_numberHere_18 ?_
      refine i_aload_n dX4_numberHere_19 rfl ?_
      refine gf_X4_9 rfl (by omega) dX4_numberHere_20 ?_
      refine i_iload_n dX4_numberHere_23 rfl ?_
      refine al_17 dX4_numberHere_24 (by omega) h (fun j1 lj1 h => ?_)
      refine i_iadd dX4_numberHere_25 ?_
      refine i_bipush (v := 48) dX4_numberHere_26 (by decide) ?_
      refine i_isub dX4_numberHere_28 ?_
      refine i_istore_n (ls' := [some (rf X 4 0), some (.int ((((10 : Int32) * v1) + (σ 17 0 j1)) - (48 : Int32))), some (.int v2)]) dX4_numberHere_29 (by decide) (okp_at rfl) rfl ?_
      refine i_iinc (v := (v2 + (1 : Int32))) (ls' := [some (rf X 4 0), some (.int ((((10 : Int32) * v1) + (σ 17 0 j1)) - (48 : Int32))), some (.int (v2 + (1 : Int32)))]) dX4_numberHere_30 rfl (by rfl) (by decide) (okp_at rfl) rfl ?_
      refine i_goto (tgt := 7) dX4_numberHere_33 (by decide) ?_
      exact ih _ _ h hk
def f_X4_numberHere   (σ : Mem) : Option Int32 :=
  (f_X4_numberHere_7 σ FU (0 : Int32) (σ 4 0 4) (fun e1 => (some e1)))
set_option maxRecDepth 100000 in
set_option maxHeartbeats 4000000 in
theorem F_X4_numberHere {X : Cx}  {σ : Mem} {res : Int32}  (h : f_X4_numberHere σ = some res) : Tri X 1 mX4_numberHere [rf X 4 0] σ (some (.int res)) σ := by
  unfold f_X4_numberHere at h
  refine Tri.of (ls := [some (rf X 4 0), none, none]) (by decide) (Nat.le_of_ble_eq_true rfl) rfl ?_
  refine i_iconst (v := 0) dX4_numberHere_0 (by decide) ?_
  refine i_istore_n (ls' := [some (rf X 4 0), some (.int (0 : Int32)), none]) dX4_numberHere_1 (by decide) (okp_at rfl) rfl ?_
  refine i_aload_n dX4_numberHere_2 rfl ?_
  refine gf_X4_58 rfl (by omega) dX4_numberHere_3 ?_
  refine i_istore_n (ls' := [some (rf X 4 0), some (.int (0 : Int32)), some (.int (σ 4 0 4))]) dX4_numberHere_6 (by decide) (okp_at rfl) rfl ?_
  refine L_X4_numberHere_7  FU _ _ h (fun e1 h => ?_)
  refine i_iload_n dX4_numberHere_36 rfl ?_
  exact e_ir rfl dX4_numberHere_37 h
def f_X4_namesOf  (p0 : Int32) (σ : Mem) : Option Nat :=
  (if p0 = (0 : Int32) then (some 3) else (if p0 = (1 : Int32) then (some 4) else (some 5)))
set_option maxRecDepth 100000 in
set_option maxHeartbeats 4000000 in
theorem F_X4_namesOf {X : Cx} {p0 : Int32} {σ : Mem} {res : Nat}  (h : f_X4_namesOf p0 σ = some res) : Tri X 1 mX4_namesOf [.int p0] σ (some (.ref (xK X res))) σ := by
  unfold f_X4_namesOf at h
  refine Tri.of (ls := [some (.int p0)]) (by decide) (Nat.le_of_ble_eq_true rfl) rfl ?_
  refine i_iload_n dX4_namesOf_0 rfl ?_
  refine r_case (c := p0 = (0 : Int32)) h (fun c1 h => ?_) (fun c1 h => ?_)
  · refine i_look (tgt := 28) (off := 27) dX4_namesOf_1 (by decide) (by rw [c1]; decide) (by decide) ?_
    refine i_ldcS 3 (by decide) rfl rfl dX4_namesOf_28 ?_
    exact e_sr rfl dX4_namesOf_30 h
  · refine r_case (c := p0 = (1 : Int32)) h (fun c2 h => ?_) (fun c2 h => ?_)
    · refine i_look (tgt := 31) (off := 30) dX4_namesOf_1 (by decide) (by rw [c2]; decide) (by decide) ?_
      refine i_ldcS 4 (by decide) rfl rfl dX4_namesOf_31 ?_
      exact e_sr rfl dX4_namesOf_33 h
    · refine i_look (tgt := 34) (off := 33) dX4_namesOf_1 (by decide) (by
        show Op.lookupswitch.offset [(0, 27), (1, 30)] _ _ = _
        rw [Op.lookupswitch.offset_cons, if_neg (fun e => ne_toInt c1 (n := 0) (by decide) e.symm), Op.lookupswitch.offset_cons, if_neg (fun e => ne_toInt c2 (n := 1) (by decide) e.symm), Op.lookupswitch.offset_nil]) (by decide) ?_
      refine i_ldcS 5 (by decide) rfl rfl dX4_namesOf_34 ?_
      exact e_sr rfl dX4_namesOf_36 h
theorem B_X4_namesOf {p0 : Int32} {σ : Mem} {a : Nat} (h : f_X4_namesOf p0 σ = some a) : a < 11 := by
  unfold f_X4_namesOf at h
  repeat (split at h; · (cases h; decide))
  cases h
  decide
def f_X4_signHere   (σ : Mem) : Option Int32 :=
  (if (σ 4 0 1) ≤ (σ 4 0 4) then (some (0 : Int32)) else (bnd (ix 96 (σ 4 0 4)) (fun j1 => (some (((((σ 17 0 j1) &&& (255 : Int32))).toUInt32 % 65536).toInt32)))))
set_option maxRecDepth 100000 in
set_option maxHeartbeats 4000000 in
theorem F_X4_signHere {X : Cx}  {σ : Mem} {res : Int32}  (h : f_X4_signHere σ = some res) : Tri X 1 mX4_signHere [rf X 4 0] σ (some (.int res)) σ := by
  unfold f_X4_signHere at h
  refine Tri.of (ls := [some (rf X 4 0)]) (by decide) (Nat.le_of_ble_eq_true rfl) rfl ?_
  refine i_aload_n dX4_signHere_0 rfl ?_
  refine gf_X4_58 rfl (by omega) dX4_signHere_1 ?_
  refine i_aload_n dX4_signHere_4 rfl ?_
  refine gf_X4_15 rfl (by omega) dX4_signHere_5 ?_
  refine r_icmp_ge (tgt := 28) dX4_signHere_8 (by decide) h (fun c1 h => ?_) (fun c1 h => ?_)
  · refine i_iconst (v := 0) dX4_signHere_28 (by decide) ?_
    exact e_zr rfl (by decide) dX4_signHere_29 h
  · refine i_aload_n dX4_signHere_11 rfl ?_
    refine gf_X4_9 rfl (by omega) dX4_signHere_12 ?_
    refine i_aload_n dX4_signHere_15 rfl ?_
    refine gf_X4_58 rfl (by omega) dX4_signHere_16 ?_
    refine al_17 dX4_signHere_19 (by omega) h (fun j1 lj1 h => ?_)
    refine i_sipush (v := 255) dX4_signHere_20 (by decide) ?_
    refine i_iand dX4_signHere_23 ?_
    refine i_i2c dX4_signHere_24 ?_
    refine i_goto (tgt := 29) dX4_signHere_25 (by decide) ?_
    exact e_zr rfl (pk_nc _) dX4_signHere_29 h
def f_X4_readsName   (σ : Mem) : Option (Int32 × Mem) :=
  (if ((σ 4 0 5) - (σ 4 0 4)) = (1 : Int32) then (bnd (dynL (σ 4 0 2)) (fun j1 => (bnd (f_X4_namesOf (σ 1 j1 0) σ) (fun a1 => (bnd (f_X4_signHere σ) (fun a2 => (if 0 ≤ (strIx a1 a2) then (bnd (dynL (σ 4 0 2)) (fun j2 => (bnd (f_X1_addName j2 (strIx a1 a2) σ) (fun a3 => (bnd (f_X4_goOn a3) (fun a4 => (some ((1 : Int32), a4)))))))) else (some ((0 : Int32), σ))))))))) else (some ((0 : Int32), σ)))
set_option maxRecDepth 100000 in
set_option maxHeartbeats 4000000 in
theorem F_X4_readsName {X : Cx}  {σ : Mem} {res : (Int32 × Mem)}  (h : f_X4_readsName σ = some res) : Tri X 6 mX4_readsName [rf X 4 0] σ (some (.int res.1)) res.2 := by
  obtain ⟨r0, σ2⟩ := res
  unfold f_X4_readsName at h
  refine Tri.of (ls := [some (rf X 4 0), none]) (by decide) (Nat.le_of_ble_eq_true rfl) rfl ?_
  refine i_aload_n dX4_readsName_0 rfl ?_
  refine gf_X4_31 rfl (by omega) dX4_readsName_1 ?_
  refine i_aload_n dX4_readsName_4 rfl ?_
  refine gf_X4_58 rfl (by omega) dX4_readsName_5 ?_
  refine i_isub dX4_readsName_8 ?_
  refine i_iconst (v := 1) dX4_readsName_9 (by decide) ?_
  refine r_icmp_ne (tgt := 33) dX4_readsName_10 (by decide) h (fun c1 h => ?_) (fun c1 h => ?_)
  · refine i_iconst (v := (-1)) dX4_readsName_33 (by decide) ?_
    refine i_istore_n (ls' := [some (rf X 4 0), some (.int (-1 : Int32))]) dX4_readsName_34 (by decide) (okp_at rfl) rfl ?_
    refine i_iload_n dX4_readsName_35 rfl ?_
    refine i_if_ge (tgt := 41) dX4_readsName_36 (by decide) (fun c => absurd c (by decide)) (fun _ => ?_)
    refine i_iconst (v := 0) dX4_readsName_39 (by decide) ?_
    exact e_zw rfl (by decide) dX4_readsName_40 h
  · refine i_aload_n dX4_readsName_13 rfl ?_
    refine gf_X4_19 rfl dX4_readsName_14 h (fun j1 lj1 h => ?_)
    refine gf_X4_41 rfl (by omega) dX4_readsName_17 ?_
    refine cS_sr dX4_readsName_20 cw_X4_119 ci_X4_namesOf h (fun a1 e => F_X4_namesOf  e) (Nat.le_of_ble_eq_true rfl) rfl rfl (Nat.le_of_ble_eq_true rfl) (fun a1 ea1 h => ?_)
    have la1 := B_X4_namesOf ea1
    refine i_aload_n dX4_readsName_23 rfl ?_
    refine cV_ir dX4_readsName_24 cw_X4_93 ci_X4_signHere rfl rfl (by decide) (show 0 < 1 by omega) h (fun a2 e => F_X4_signHere  e) (Nat.le_of_ble_eq_true rfl) rfl rfl (Nat.le_of_ble_eq_true rfl) (fun a2 ea2 h => ?_)
    refine b_indexOf rfl dX4_readsName_27 (by omega) (by omega) (Nat.le_of_ble_eq_true rfl) ?_
    refine i_goto (tgt := 34) dX4_readsName_30 (by decide) ?_
    refine i_istore_n (ls' := [some (rf X 4 0), some (.int (strIx a1 a2))]) dX4_readsName_34 (by decide) (okp_at rfl) rfl ?_
    refine i_iload_n dX4_readsName_35 rfl ?_
    refine r_if_ge (tgt := 41) dX4_readsName_36 (by decide) h (fun c2 h => ?_) (fun c2 h => ?_)
    · refine i_aload_n dX4_readsName_41 rfl ?_
      refine gf_X4_19 rfl dX4_readsName_42 h (fun j2 lj2 h => ?_)
      refine i_iload_n dX4_readsName_45 rfl ?_
      refine cVN_vw dX4_readsName_46 cw_X4_122 ci_X1_addName rfl rfl (by decide) (show j2 < 15 by omega) h (fun a3 e => F_X1_addName (by omega) e) (Nat.le_of_ble_eq_true rfl) rfl rfl (Nat.le_of_ble_eq_true rfl) (fun a3 ea3 h => ?_)
      refine i_aload_n dX4_readsName_49 rfl ?_
      refine cV_vw dX4_readsName_50 cw_X4_34 ci_X4_goOn rfl rfl (by decide) (show 0 < 1 by omega) h (fun a4 e => F_X4_goOn  e) (Nat.le_of_ble_eq_true rfl) rfl rfl (Nat.le_of_ble_eq_true rfl) (fun a4 ea4 h => ?_)
      refine i_iconst (v := 1) dX4_readsName_53 (by decide) ?_
      exact e_zw rfl (by decide) dX4_readsName_54 h
    · refine i_iconst (v := 0) dX4_readsName_39 (by decide) ?_
      exact e_zw rfl (by decide) dX4_readsName_40 h
def f_X4_closesBracket   (σ : Mem) : Option (Int32 × Mem) :=
  (if (σ 4 0 3) = (3 : Int32) then (bnd (f_X4_signHere σ) (fun a1 => (if a1 = (41 : Int32) then (bnd (f_X4_goOn σ) (fun a2 => (some ((1 : Int32), a2)))) else (some ((0 : Int32), σ))))) else (some ((0 : Int32), σ)))
set_option maxRecDepth 100000 in
set_option maxHeartbeats 4000000 in
theorem F_X4_closesBracket {X : Cx}  {σ : Mem} {res : (Int32 × Mem)}  (h : f_X4_closesBracket σ = some res) : Tri X 3 mX4_closesBracket [rf X 4 0] σ (some (.int res.1)) res.2 := by
  obtain ⟨r0, σ2⟩ := res
  unfold f_X4_closesBracket at h
  refine Tri.of (ls := [some (rf X 4 0)]) (by decide) (Nat.le_of_ble_eq_true rfl) rfl ?_
  refine i_aload_n dX4_closesBracket_0 rfl ?_
  refine gf_X4_28 rfl (by omega) dX4_closesBracket_1 ?_
  refine i_iconst (v := 3) dX4_closesBracket_4 (by decide) ?_
  refine r_icmp_ne (tgt := 17) dX4_closesBracket_5 (by decide) h (fun c1 h => ?_) (fun c1 h => ?_)
  · refine i_iconst (v := 0) dX4_closesBracket_17 (by decide) ?_
    exact e_zw rfl (by decide) dX4_closesBracket_18 h
  · refine i_aload_n dX4_closesBracket_8 rfl ?_
    refine cV_ir dX4_closesBracket_9 cw_X4_93 ci_X4_signHere rfl rfl (by decide) (show 0 < 1 by omega) h (fun a1 e => F_X4_signHere  e) (Nat.le_of_ble_eq_true rfl) rfl rfl (Nat.le_of_ble_eq_true rfl) (fun a1 ea1 h => ?_)
    refine i_bipush (v := 41) dX4_closesBracket_12 (by decide) ?_
    refine r_icmp_eq (tgt := 19) dX4_closesBracket_14 (by decide) h (fun c2 h => ?_) (fun c2 h => ?_)
    · refine i_aload_n dX4_closesBracket_19 rfl ?_
      refine cV_vw dX4_closesBracket_20 cw_X4_34 ci_X4_goOn rfl rfl (by decide) (show 0 < 1 by omega) h (fun a2 e => F_X4_goOn  e) (Nat.le_of_ble_eq_true rfl) rfl rfl (Nat.le_of_ble_eq_true rfl) (fun a2 ea2 h => ?_)
      refine i_iconst (v := 1) dX4_closesBracket_23 (by decide) ?_
      exact e_zw rfl (by decide) dX4_closesBracket_24 h
    · refine i_iconst (v := 0) dX4_closesBracket_17 (by decide) ?_
      exact e_zw rfl (by decide) dX4_closesBracket_18 h
def f_X4_signsOf  (p0 : Int32) (σ : Mem) : Option Nat :=
  (if p0 = (0 : Int32) then (some 6) else (if p0 = (1 : Int32) then (some 7) else (if p0 = (2 : Int32) then (some 8) else (if p0 = (3 : Int32) then (some 9) else (some 10)))))
set_option maxRecDepth 100000 in
set_option maxHeartbeats 4000000 in
theorem F_X4_signsOf {X : Cx} {p0 : Int32} {σ : Mem} {res : Nat}  (h : f_X4_signsOf p0 σ = some res) : Tri X 1 mX4_signsOf [.int p0] σ (some (.ref (xK X res))) σ := by
  unfold f_X4_signsOf at h
  refine Tri.of (ls := [some (.int p0)]) (by decide) (Nat.le_of_ble_eq_true rfl) rfl ?_
  refine i_iload_n dX4_signsOf_0 rfl ?_
  refine r_case (c := p0 = (0 : Int32)) h (fun c1 h => ?_) (fun c1 h => ?_)
  · refine i_tin (tgt := 32) (off := 31) dX4_signsOf_1 (0 : Int32) c1 (by decide) (by decide) (by decide) (by decide) ?_
    refine i_ldcS 6 (by decide) rfl rfl dX4_signsOf_32 ?_
    exact e_sr rfl dX4_signsOf_34 h
  · refine r_case (c := p0 = (1 : Int32)) h (fun c2 h => ?_) (fun c2 h => ?_)
    · refine i_tin (tgt := 35) (off := 34) dX4_signsOf_1 (1 : Int32) c2 (by decide) (by decide) (by decide) (by decide) ?_
      refine i_ldcS 7 (by decide) rfl rfl dX4_signsOf_35 ?_
      exact e_sr rfl dX4_signsOf_37 h
    · refine r_case (c := p0 = (2 : Int32)) h (fun c3 h => ?_) (fun c3 h => ?_)
      · refine i_tin (tgt := 38) (off := 37) dX4_signsOf_1 (2 : Int32) c3 (by decide) (by decide) (by decide) (by decide) ?_
        refine i_ldcS 8 (by decide) rfl rfl dX4_signsOf_38 ?_
        exact e_sr rfl dX4_signsOf_40 h
      · refine r_case (c := p0 = (3 : Int32)) h (fun c4 h => ?_) (fun c4 h => ?_)
        · refine i_tin (tgt := 41) (off := 40) dX4_signsOf_1 (3 : Int32) c4 (by decide) (by decide) (by decide) (by decide) ?_
          refine i_ldcS 9 (by decide) rfl rfl dX4_signsOf_41 ?_
          exact e_sr rfl dX4_signsOf_43 h
        · refine i_tout (tgt := 44) dX4_signsOf_1 (tsw_0_3 c1 c2 c3 c4) (by decide) ?_
          refine i_ldcS 10 (by decide) rfl rfl dX4_signsOf_44 ?_
          exact e_sr rfl dX4_signsOf_46 h
theorem B_X4_signsOf {p0 : Int32} {σ : Mem} {a : Nat} (h : f_X4_signsOf p0 σ = some a) : a < 11 := by
  unfold f_X4_signsOf at h
  repeat (split at h; · (cases h; decide))
  cases h
  decide
def f_X4_readsPiece (recL : Int32 → Int32 → Int32 → Mem → Option (Int32 × Mem)) (recP : Int32 → Int32 → Mem → Option (Int32 × Mem)) (p1 : Int32) (p2 : Int32) (σ : Mem) : Option (Int32 × Mem) :=
  (if (σ 4 0 3) = (2 : Int32) then (bnd (dynL (σ 4 0 2)) (fun j2 => (bnd (f_X4_numberHere σ) (fun a14 => (bnd (f_X1_addNumber j2 a14 σ) (fun a15 => (bnd (f_X4_goOn a15) (fun a16 => (some ((1 : Int32), a16)))))))))) else (if (σ 4 0 3) = (1 : Int32) then (bnd (f_X4_readsName σ) (fun a13 => (if isB a13.1 = true then (some (a13.1, a13.2)) else none))) else (if (σ 4 0 3) = (3 : Int32) then (bnd (f_X4_signHere σ) (fun a1 => (if a1 = (33 : Int32) then (if (8 : Int32) ≤ p2 then (bnd (f_X4_signHere σ) (fun a6 => (if a6 = (40 : Int32) then (if (8 : Int32) ≤ p1 then (some ((0 : Int32), σ)) else (bnd (f_X4_goOn σ) (fun a7 => (bnd (recL (0 : Int32) (p1 + (1 : Int32)) p2 a7) (fun a8 => (if a8.1 = 0 then (some ((0 : Int32), a8.2)) else (bnd (f_X4_closesBracket a8.2) (fun a9 => (if a9.1 = 0 then (some ((0 : Int32), a9.2)) else (some ((1 : Int32), a9.2))))))))))) else (some ((0 : Int32), σ))))) else (bnd (f_X4_goOn σ) (fun a10 => (bnd (recP p1 (p2 + (1 : Int32)) a10) (fun a11 => (bnd (dynL (a11.2 4 0 2)) (fun j1 => (bnd (f_X1_addSign j1 (33 : Int32) a11.2) (fun a12 => (if isB a11.1 = true then (some (a11.1, a12)) else none)))))))))) else (bnd (f_X4_signHere σ) (fun a2 => (if a2 = (40 : Int32) then (if (8 : Int32) ≤ p1 then (some ((0 : Int32), σ)) else (bnd (f_X4_goOn σ) (fun a3 => (bnd (recL (0 : Int32) (p1 + (1 : Int32)) p2 a3) (fun a4 => (if a4.1 = 0 then (some ((0 : Int32), a4.2)) else (bnd (f_X4_closesBracket a4.2) (fun a5 => (if a5.1 = 0 then (some ((0 : Int32), a5.2)) else (some ((1 : Int32), a5.2))))))))))) else (some ((0 : Int32), σ)))))))) else (some ((0 : Int32), σ)))))
set_option maxRecDepth 100000 in
set_option maxHeartbeats 4000000 in
theorem F_X4_readsPiece {X : Cx} {D : Nat} {recL : Int32 → Int32 → Int32 → Mem → Option (Int32 × Mem)} {recP : Int32 → Int32 → Mem → Option (Int32 × Mem)} {p1 : Int32} {p2 : Int32} {σ : Mem} {res : (Int32 × Mem)} (hD : 6 ≤ D) (hrecL : ∀ p1 p2 p3 σ a, recL p1 p2 p3 σ = some a → Tri X D mX4_readsLevel [rf X 4 0, .int p1, .int p2, .int p3] σ (some (.int a.1)) a.2) (hrecP : ∀ p1 p2 σ a, recP p1 p2 σ = some a → Tri X D mX4_readsPiece [rf X 4 0, .int p1, .int p2] σ (some (.int a.1)) a.2) (h : f_X4_readsPiece recL recP p1 p2 σ = some res) : Tri X (D + 1) mX4_readsPiece [rf X 4 0, .int p1, .int p2] σ (some (.int res.1)) res.2 := by
  obtain ⟨r0, σ2⟩ := res
  unfold f_X4_readsPiece at h
  refine Tri.of (ls := [some (rf X 4 0), some (.int p1), some (.int p2), none]) (by decide) (Nat.le_of_ble_eq_true rfl) rfl ?_
  refine i_aload_n dX4_readsPiece_0 rfl ?_
  refine gf_X4_28 rfl (by omega) dX4_readsPiece_1 ?_
  refine i_iconst (v := 2) dX4_readsPiece_4 (by decide) ?_
  refine r_icmp_ne (tgt := 25) dX4_readsPiece_5 (by decide) h (fun c1 h => ?_) (fun c1 h => ?_)
  · refine i_aload_n dX4_readsPiece_25 rfl ?_
    refine gf_X4_28 rfl (by omega) dX4_readsPiece_26 ?_
    refine i_iconst (v := 1) dX4_readsPiece_29 (by decide) ?_
    refine r_icmp_ne (tgt := 38) dX4_readsPiece_30 (by decide) h (fun c2 h => ?_) (fun c2 h => ?_)
    · refine i_aload_n dX4_readsPiece_38 rfl ?_
      refine gf_X4_28 rfl (by omega) dX4_readsPiece_39 ?_
      refine i_iconst (v := 3) dX4_readsPiece_42 (by decide) ?_
      refine r_icmp_eq (tgt := 48) dX4_readsPiece_43 (by decide) h (fun c3 h => ?_) (fun c3 h => ?_)
      · refine i_aload_n dX4_readsPiece_48 rfl ?_
        refine cV_ir dX4_readsPiece_49 cw_X4_93 ci_X4_signHere rfl rfl (by decide) (show 0 < 1 by omega) h (fun a1 e => F_X4_signHere  e) (by omega) rfl rfl (Nat.le_of_ble_eq_true rfl) (fun a1 ea1 h => ?_)
        refine i_bipush (v := 33) dX4_readsPiece_52 (by decide) ?_
        refine r_icmp_ne (tgt := 87) dX4_readsPiece_54 (by decide) h (fun c4 h => ?_) (fun c4 h => ?_)
        · refine i_aload_n dX4_readsPiece_87 rfl ?_
          refine cV_ir dX4_readsPiece_88 cw_X4_93 ci_X4_signHere rfl rfl (by decide) (show 0 < 1 by omega) h (fun a2 e => F_X4_signHere  e) (by omega) rfl rfl (Nat.le_of_ble_eq_true rfl) (fun a2 ea2 h => ?_)
          refine i_bipush (v := 40) dX4_readsPiece_91 (by decide) ?_
          refine r_icmp_ne (tgt := 131) dX4_readsPiece_93 (by decide) h (fun c5 h => ?_) (fun c5 h => ?_)
          · refine i_iconst (v := 0) dX4_readsPiece_131 (by decide) ?_
            exact e_zw rfl (by decide) dX4_readsPiece_132 h
          · refine i_iload_n dX4_readsPiece_96 rfl ?_
            refine i_bipush (v := 8) dX4_readsPiece_97 (by decide) ?_
            refine r_icmp_ge (tgt := 131) dX4_readsPiece_99 (by decide) h (fun c6 h => ?_) (fun c6 h => ?_)
            · refine i_iconst (v := 0) dX4_readsPiece_131 (by decide) ?_
              exact e_zw rfl (by decide) dX4_readsPiece_132 h
            · refine i_aload_n dX4_readsPiece_102 rfl ?_
              refine cV_vw dX4_readsPiece_103 cw_X4_34 ci_X4_goOn rfl rfl (by decide) (show 0 < 1 by omega) h (fun a3 e => F_X4_goOn  e) (by omega) rfl rfl (Nat.le_of_ble_eq_true rfl) (fun a3 ea3 h => ?_)
              refine i_aload_n dX4_readsPiece_106 rfl ?_
              refine i_iconst (v := 0) dX4_readsPiece_107 (by decide) ?_
              refine i_iload_n dX4_readsPiece_108 rfl ?_
              refine i_iconst (v := 1) dX4_readsPiece_109 (by decide) ?_
              refine i_iadd dX4_readsPiece_110 ?_
              refine i_iload_n dX4_readsPiece_111 rfl ?_
              refine cV_iw dX4_readsPiece_112 cw_X4_44 ci_X4_readsLevel rfl rfl (by decide) (show 0 < 1 by omega) h (fun a4 e => hrecL _ _ _ _ a4 e) (by omega) rfl rfl (Nat.le_of_ble_eq_true rfl) (fun a4 ea4 h => ?_)
              refine r_if_eq (tgt := 129) dX4_readsPiece_115 (by decide) h (fun c7 h => ?_) (fun c7 h => ?_)
              · refine i_iconst (v := 0) dX4_readsPiece_129 (by decide) ?_
                exact e_zw rfl (by decide) dX4_readsPiece_130 h
              · refine i_aload_n dX4_readsPiece_118 rfl ?_
                refine cV_iw dX4_readsPiece_119 cw_X4_116 ci_X4_closesBracket rfl rfl (by decide) (show 0 < 1 by omega) h (fun a5 e => F_X4_closesBracket  e) (by omega) rfl rfl (Nat.le_of_ble_eq_true rfl) (fun a5 ea5 h => ?_)
                refine r_if_eq (tgt := 129) dX4_readsPiece_122 (by decide) h (fun c8 h => ?_) (fun c8 h => ?_)
                · refine i_iconst (v := 0) dX4_readsPiece_129 (by decide) ?_
                  exact e_zw rfl (by decide) dX4_readsPiece_130 h
                · refine i_iconst (v := 1) dX4_readsPiece_125 (by decide) ?_
                  refine i_goto (tgt := 130) dX4_readsPiece_126 (by decide) ?_
                  exact e_zw rfl (by decide) dX4_readsPiece_130 h
        · refine i_iload_n dX4_readsPiece_57 rfl ?_
          refine i_bipush (v := 8) dX4_readsPiece_58 (by decide) ?_
          refine r_icmp_ge (tgt := 87) dX4_readsPiece_60 (by decide) h (fun c9 h => ?_) (fun c9 h => ?_)
          · refine i_aload_n dX4_readsPiece_87 rfl ?_
            refine cV_ir dX4_readsPiece_88 cw_X4_93 ci_X4_signHere rfl rfl (by decide) (show 0 < 1 by omega) h (fun a6 e => F_X4_signHere  e) (by omega) rfl rfl (Nat.le_of_ble_eq_true rfl) (fun a6 ea6 h => ?_)
            refine i_bipush (v := 40) dX4_readsPiece_91 (by decide) ?_
            refine r_icmp_ne (tgt := 131) dX4_readsPiece_93 (by decide) h (fun c10 h => ?_) (fun c10 h => ?_)
            · refine i_iconst (v := 0) dX4_readsPiece_131 (by decide) ?_
              exact e_zw rfl (by decide) dX4_readsPiece_132 h
            · refine i_iload_n dX4_readsPiece_96 rfl ?_
              refine i_bipush (v := 8) dX4_readsPiece_97 (by decide) ?_
              refine r_icmp_ge (tgt := 131) dX4_readsPiece_99 (by decide) h (fun c11 h => ?_) (fun c11 h => ?_)
              · refine i_iconst (v := 0) dX4_readsPiece_131 (by decide) ?_
                exact e_zw rfl (by decide) dX4_readsPiece_132 h
              · refine i_aload_n dX4_readsPiece_102 rfl ?_
                refine cV_vw dX4_readsPiece_103 cw_X4_34 ci_X4_goOn rfl rfl (by decide) (show 0 < 1 by omega) h (fun a7 e => F_X4_goOn  e) (by omega) rfl rfl (Nat.le_of_ble_eq_true rfl) (fun a7 ea7 h => ?_)
                refine i_aload_n dX4_readsPiece_106 rfl ?_
                refine i_iconst (v := 0) dX4_readsPiece_107 (by decide) ?_
                refine i_iload_n dX4_readsPiece_108 rfl ?_
                refine i_iconst (v := 1) dX4_readsPiece_109 (by decide) ?_
                refine i_iadd dX4_readsPiece_110 ?_
                refine i_iload_n dX4_readsPiece_111 rfl ?_
                refine cV_iw dX4_readsPiece_112 cw_X4_44 ci_X4_readsLevel rfl rfl (by decide) (show 0 < 1 by omega) h (fun a8 e => hrecL _ _ _ _ a8 e) (by omega) rfl rfl (Nat.le_of_ble_eq_true rfl) (fun a8 ea8 h => ?_)
                refine r_if_eq (tgt := 129) dX4_readsPiece_115 (by decide) h (fun c12 h => ?_) (fun c12 h => ?_)
                · refine i_iconst (v := 0) dX4_readsPiece_129 (by decide) ?_
                  exact e_zw rfl (by decide) dX4_readsPiece_130 h
                · refine i_aload_n dX4_readsPiece_118 rfl ?_
                  refine cV_iw dX4_readsPiece_119 cw_X4_116 ci_X4_closesBracket rfl rfl (by decide) (show 0 < 1 by omega) h (fun a9 e => F_X4_closesBracket  e) (by omega) rfl rfl (Nat.le_of_ble_eq_true rfl) (fun a9 ea9 h => ?_)
                  refine r_if_eq (tgt := 129) dX4_readsPiece_122 (by decide) h (fun c13 h => ?_) (fun c13 h => ?_)
                  · refine i_iconst (v := 0) dX4_readsPiece_129 (by decide) ?_
                    exact e_zw rfl (by decide) dX4_readsPiece_130 h
                  · refine i_iconst (v := 1) dX4_readsPiece_125 (by decide) ?_
                    refine i_goto (tgt := 130) dX4_readsPiece_126 (by decide) ?_
                    exact e_zw rfl (by decide) dX4_readsPiece_130 h
          · refine i_aload_n dX4_readsPiece_63 rfl ?_
            refine cV_vw dX4_readsPiece_64 cw_X4_34 ci_X4_goOn rfl rfl (by decide) (show 0 < 1 by omega) h (fun a10 e => F_X4_goOn  e) (by omega) rfl rfl (Nat.le_of_ble_eq_true rfl) (fun a10 ea10 h => ?_)
            refine i_aload_n dX4_readsPiece_67 rfl ?_
            refine i_iload_n dX4_readsPiece_68 rfl ?_
            refine i_iload_n dX4_readsPiece_69 rfl ?_
            refine i_iconst (v := 1) dX4_readsPiece_70 (by decide) ?_
            refine i_iadd dX4_readsPiece_71 ?_
            refine cV_iw dX4_readsPiece_72 cw_X4_85 ci_X4_readsPiece rfl rfl (by decide) (show 0 < 1 by omega) h (fun a11 e => hrecP _ _ _ a11 e) (by omega) rfl rfl (Nat.le_of_ble_eq_true rfl) (fun a11 ea11 h => ?_)
            refine i_istore_n (ls' := [some (rf X 4 0), some (.int p1), some (.int p2), some (.int a11.1)]) dX4_readsPiece_75 (by decide) (okp_at rfl) rfl ?_
            refine i_aload_n dX4_readsPiece_76 rfl ?_
            refine gf_X4_19 rfl dX4_readsPiece_77 h (fun j1 lj1 h => ?_)
            refine i_bipush (v := 33) dX4_readsPiece_80 (by decide) ?_
            refine cVN_vw dX4_readsPiece_82 cw_X4_101 ci_X1_addSign rfl rfl (by decide) (show j1 < 15 by omega) h (fun a12 e => F_X1_addSign (by omega) e) (by omega) rfl rfl (Nat.le_of_ble_eq_true rfl) (fun a12 ea12 h => ?_)
            refine i_iload_n dX4_readsPiece_85 rfl ?_
            exact e_bw rfl dX4_readsPiece_86 h
      · refine i_iconst (v := 0) dX4_readsPiece_46 (by decide) ?_
        exact e_zw rfl (by decide) dX4_readsPiece_47 h
    · refine i_aload_n dX4_readsPiece_33 rfl ?_
      refine cV_iw dX4_readsPiece_34 cw_X4_112 ci_X4_readsName rfl rfl (by decide) (show 0 < 1 by omega) h (fun a13 e => F_X4_readsName  e) (by omega) rfl rfl (Nat.le_of_ble_eq_true rfl) (fun a13 ea13 h => ?_)
      exact e_bw rfl dX4_readsPiece_37 h
  · refine i_aload_n dX4_readsPiece_8 rfl ?_
    refine gf_X4_19 rfl dX4_readsPiece_9 h (fun j2 lj2 h => ?_)
    refine i_aload_n dX4_readsPiece_12 rfl ?_
    refine cV_ir dX4_readsPiece_13 cw_X4_105 ci_X4_numberHere rfl rfl (by decide) (show 0 < 1 by omega) h (fun a14 e => F_X4_numberHere  e) (by omega) rfl rfl (Nat.le_of_ble_eq_true rfl) (fun a14 ea14 h => ?_)
    refine cVN_vw dX4_readsPiece_16 cw_X4_108 ci_X1_addNumber rfl rfl (by decide) (show j2 < 15 by omega) h (fun a15 e => F_X1_addNumber (by omega) e) (by omega) rfl rfl (Nat.le_of_ble_eq_true rfl) (fun a15 ea15 h => ?_)
    refine i_aload_n dX4_readsPiece_19 rfl ?_
    refine cV_vw dX4_readsPiece_20 cw_X4_34 ci_X4_goOn rfl rfl (by decide) (show 0 < 1 by omega) h (fun a16 e => F_X4_goOn  e) (by omega) rfl rfl (Nat.le_of_ble_eq_true rfl) (fun a16 ea16 h => ?_)
    refine i_iconst (v := 1) dX4_readsPiece_23 (by decide) ?_
    exact e_zw rfl (by decide) dX4_readsPiece_24 h
def f_X4_readsLevel_42 (recL : Int32 → Int32 → Int32 → Mem → Option (Int32 × Mem)) (recP : Int32 → Int32 → Mem → Option (Int32 × Mem)) (p1 : Int32) (p2 : Int32) (p3 : Int32) (p4 : Int32) : Nat → Int32 → Mem → (Mem → Option (Int32 × Mem)) → Option (Int32 × Mem)
  | 0, _, _, _ => none
  | n + 1, v5, σ, k =>
    (if p4 ≤ v5 then (k σ) else (if (σ 4 0 3) = (3 : Int32) then (bnd (f_X4_signsOf p1 σ) (fun a1 => (bnd (f_X4_signHere σ) (fun a2 => (if (strIx a1 a2) < 0 then (k σ) else (bnd (f_X4_signHere σ) (fun a3 => (bnd (f_X4_goOn σ) (fun a4 => (bnd (recL (p1 + (1 : Int32)) p2 p3 a4) (fun a5 => (if a5.1 = 0 then (some ((0 : Int32), a5.2)) else (bnd (dynL (a5.2 4 0 2)) (fun j1 => (bnd (f_X1_addSign j1 a3 a5.2) (fun a6 => (f_X4_readsLevel_42 recL recP p1 p2 p3 p4 n (v5 + (1 : Int32)) a6 k))))))))))))))))) else (k σ)))
set_option maxRecDepth 100000 in
set_option maxHeartbeats 4000000 in
theorem L_X4_readsLevel_42 {X : Cx} {D : Nat} {recL : Int32 → Int32 → Int32 → Mem → Option (Int32 × Mem)} {recP : Int32 → Int32 → Mem → Option (Int32 × Mem)} {p1 : Int32} {p2 : Int32} {p3 : Int32} {p4 : Int32} {r0 : Int32} {σ2 : Mem} {k : Mem → Option (Int32 × Mem)} (hD : 6 ≤ D) (hrecL : ∀ p1 p2 p3 σ a, recL p1 p2 p3 σ = some a → Tri X D mX4_readsLevel [rf X 4 0, .int p1, .int p2, .int p3] σ (some (.int a.1)) a.2) (hrecP : ∀ p1 p2 σ a, recP p1 p2 σ = some a → Tri X D mX4_readsPiece [rf X 4 0, .int p1, .int p2] σ (some (.int a.1)) a.2) : ∀ (n : Nat) (v5 : Int32) (σ : Mem), f_X4_readsLevel_42 recL recP p1 p2 p3 p4 n v5 σ k = some (r0, σ2) → (∀ (σ1 : Mem), k σ1 = some (r0, σ2) → At X (D + 1) mX4_readsLevel 110 [none, none, none, none, none, none, none] [] σ1 (some (.int r0)) σ2) → At X (D + 1) mX4_readsLevel 42 [some (rf X 4 0), some (.int p1), some (.int p2), some (.int p3), some (.int p4), some (.int v5), none] [] σ (some (.int r0)) σ2 := by
  intro n
  induction n with
  | zero =>
    intro v5 σ h
    cases h
  | succ n ih =>
    intro v5 σ h hk
    rw [f_X4_readsLevel_42.eq_2] at h
    refine i_iload dX4_readsLevel_42 rfl ?_
    refine i_iload dX4_readsLevel_44 rfl ?_
    refine r_icmp_ge (tgt := 110) dX4_readsLevel_46 (by decide) h (fun c1 h => ?_) (fun c1 h => ?_)
    · refine At.fewer (ls' := [none, none, none, none, none, none, none]) trivial ?_
      exact hk _ h
    · refine i_aload_n dX4_readsLevel_49 rfl ?_
      refine gf_X4_28 rfl (by omega) dX4_readsLevel_50 ?_
      refine i_iconst (v := 3) dX4_readsLevel_53 (by decide) ?_
      refine r_icmp_ne (tgt := 110) dX4_readsLevel_54 (by decide) h (fun c2 h => ?_) (fun c2 h => ?_)
      · refine At.fewer (ls' := [none, none, none, none, none, none, none]) trivial ?_
        exact hk _ h
      · refine i_iload_n dX4_readsLevel_57 rfl ?_
        refine cS_sr dX4_readsLevel_58 cw_X4_89 ci_X4_signsOf h (fun a1 e => F_X4_signsOf  e) (by omega) rfl rfl (Nat.le_of_ble_eq_true rfl) (fun a1 ea1 h => ?_)
        have la1 := B_X4_signsOf ea1
        refine i_aload_n dX4_readsLevel_61 rfl ?_
        refine cV_ir dX4_readsLevel_62 cw_X4_93 ci_X4_signHere rfl rfl (by decide) (show 0 < 1 by omega) h (fun a2 e => F_X4_signHere  e) (by omega) rfl rfl (Nat.le_of_ble_eq_true rfl) (fun a2 ea2 h => ?_)
        refine b_indexOf rfl dX4_readsLevel_65 (by omega) (by omega) (Nat.le_of_ble_eq_true rfl) ?_
        refine r_if_lt (tgt := 110) dX4_readsLevel_68 (by decide) h (fun c3 h => ?_) (fun c3 h => ?_)
        · refine At.fewer (ls' := [none, none, none, none, none, none, none]) trivial ?_
          exact hk _ h
        · refine i_aload_n dX4_readsLevel_71 rfl ?_
          refine cV_ir dX4_readsLevel_72 cw_X4_93 ci_X4_signHere rfl rfl (by decide) (show 0 < 1 by omega) h (fun a3 e => F_X4_signHere  e) (by omega) rfl rfl (Nat.le_of_ble_eq_true rfl) (fun a3 ea3 h => ?_)
          refine i_istore (ls' := [some (rf X 4 0), some (.int p1), some (.int p2), some (.int p3), some (.int p4), some (.int v5), some (.int a3)]) dX4_readsLevel_75 (by decide) (okp_at rfl) rfl ?_
          refine i_aload_n dX4_readsLevel_77 rfl ?_
          refine cV_vw dX4_readsLevel_78 cw_X4_34 ci_X4_goOn rfl rfl (by decide) (show 0 < 1 by omega) h (fun a4 e => F_X4_goOn  e) (by omega) rfl rfl (Nat.le_of_ble_eq_true rfl) (fun a4 ea4 h => ?_)
          refine i_aload_n dX4_readsLevel_81 rfl ?_
          refine i_iload_n dX4_readsLevel_82 rfl ?_
          refine i_iconst (v := 1) dX4_readsLevel_83 (by decide) ?_
          refine i_iadd dX4_readsLevel_84 ?_
          refine i_iload_n dX4_readsLevel_85 rfl ?_
          refine i_iload_n dX4_readsLevel_86 rfl ?_
          refine cV_iw dX4_readsLevel_87 cw_X4_44 ci_X4_readsLevel rfl rfl (by decide) (show 0 < 1 by omega) h (fun a5 e => hrecL _ _ _ _ a5 e) (by omega) rfl rfl (Nat.le_of_ble_eq_true rfl) (fun a5 ea5 h => ?_)
          refine r_if_ne (tgt := 95) dX4_readsLevel_90 (by decide) h (fun c4 h => ?_) (fun c4 h => ?_)
          · refine i_aload_n dX4_readsLevel_95 rfl ?_
            refine gf_X4_19 rfl dX4_readsLevel_96 h (fun j1 lj1 h => ?_)
            refine i_iload dX4_readsLevel_99 rfl ?_
            refine cVN_vw dX4_readsLevel_101 cw_X4_101 ci_X1_addSign rfl rfl (by decide) (show j1 < 15 by omega) h (fun a6 e => F_X1_addSign (by omega) e) (by omega) rfl rfl (Nat.le_of_ble_eq_true rfl) (fun a6 ea6 h => ?_)
            refine i_iinc (v := (v5 + (1 : Int32))) (ls' := [some (rf X 4 0), some (.int p1), some (.int p2), some (.int p3), some (.int p4), some (.int (v5 + (1 : Int32))), some (.int a3)]) dX4_readsLevel_104 rfl (by rfl) (by decide) (okp_at rfl) rfl ?_
            refine i_goto (tgt := 42) dX4_readsLevel_107 (by decide) ?_
            refine At.fewer (ls' := [some (rf X 4 0), some (.int p1), some (.int p2), some (.int p3), some (.int p4), some (.int (v5 + (1 : Int32))), none]) (And.intro rfl (And.intro rfl (And.intro rfl (And.intro rfl (And.intro rfl (And.intro rfl trivial)))))) ?_
            exact ih _ _ h hk
          · refine i_iconst (v := 0) dX4_readsLevel_93 (by decide) ?_
            exact e_zw rfl (by decide) dX4_readsLevel_94 h
def f_X4_readsLevel (recL : Int32 → Int32 → Int32 → Mem → Option (Int32 × Mem)) (recP : Int32 → Int32 → Mem → Option (Int32 × Mem)) (p1 : Int32) (p2 : Int32) (p3 : Int32) (σ : Mem) : Option (Int32 × Mem) :=
  (if p1 < (5 : Int32) then (bnd (recL (p1 + (1 : Int32)) p2 p3 σ) (fun a1 => (if a1.1 = 0 then (some ((0 : Int32), a1.2)) else (if p1 = (2 : Int32) then (f_X4_readsLevel_42 recL recP p1 p2 p3 (1 : Int32) FU (0 : Int32) a1.2 (fun σ_2 => (some ((1 : Int32), σ_2)))) else (f_X4_readsLevel_42 recL recP p1 p2 p3 (96 : Int32) FU (0 : Int32) a1.2 (fun σ_1 => (some ((1 : Int32), σ_1)))))))) else (bnd (recP p2 p3 σ) (fun a2 => (if isB a2.1 = true then (some (a2.1, a2.2)) else none))))
set_option maxRecDepth 100000 in
set_option maxHeartbeats 4000000 in
theorem F_X4_readsLevel {X : Cx} {D : Nat} {recL : Int32 → Int32 → Int32 → Mem → Option (Int32 × Mem)} {recP : Int32 → Int32 → Mem → Option (Int32 × Mem)} {p1 : Int32} {p2 : Int32} {p3 : Int32} {σ : Mem} {res : (Int32 × Mem)} (hD : 6 ≤ D) (hrecL : ∀ p1 p2 p3 σ a, recL p1 p2 p3 σ = some a → Tri X D mX4_readsLevel [rf X 4 0, .int p1, .int p2, .int p3] σ (some (.int a.1)) a.2) (hrecP : ∀ p1 p2 σ a, recP p1 p2 σ = some a → Tri X D mX4_readsPiece [rf X 4 0, .int p1, .int p2] σ (some (.int a.1)) a.2) (h : f_X4_readsLevel recL recP p1 p2 p3 σ = some res) : Tri X (D + 1) mX4_readsLevel [rf X 4 0, .int p1, .int p2, .int p3] σ (some (.int res.1)) res.2 := by
  obtain ⟨r0, σ2⟩ := res
  unfold f_X4_readsLevel at h
  refine Tri.of (ls := [some (rf X 4 0), some (.int p1), some (.int p2), some (.int p3), none, none, none]) (by decide) (Nat.le_of_ble_eq_true rfl) rfl ?_
  refine i_iload_n dX4_readsLevel_0 rfl ?_
  refine i_iconst (v := 5) dX4_readsLevel_1 (by decide) ?_
  refine r_icmp_lt (tgt := 12) dX4_readsLevel_2 (by decide) h (fun c1 h => ?_) (fun c1 h => ?_)
  · refine i_aload_n dX4_readsLevel_12 rfl ?_
    refine i_iload_n dX4_readsLevel_13 rfl ?_
    refine i_iconst (v := 1) dX4_readsLevel_14 (by decide) ?_
    refine i_iadd dX4_readsLevel_15 ?_
    refine i_iload_n dX4_readsLevel_16 rfl ?_
    refine i_iload_n dX4_readsLevel_17 rfl ?_
    refine cV_iw dX4_readsLevel_18 cw_X4_44 ci_X4_readsLevel rfl rfl (by decide) (show 0 < 1 by omega) h (fun a1 e => hrecL _ _ _ _ a1 e) (by omega) rfl rfl (Nat.le_of_ble_eq_true rfl) (fun a1 ea1 h => ?_)
    refine r_if_ne (tgt := 26) dX4_readsLevel_21 (by decide) h (fun c2 h => ?_) (fun c2 h => ?_)
    · refine i_iload_n dX4_readsLevel_26 rfl ?_
      refine i_iconst (v := 2) dX4_readsLevel_27 (by decide) ?_
      refine r_icmp_ne (tgt := 35) dX4_readsLevel_28 (by decide) h (fun c3 h => ?_) (fun c3 h => ?_)
      · refine i_bipush (v := 96) dX4_readsLevel_35 (by decide) ?_
        refine i_istore (ls' := [some (rf X 4 0), some (.int p1), some (.int p2), some (.int p3), some (.int (96 : Int32)), none, none]) dX4_readsLevel_37 (by decide) (okp_at rfl) rfl ?_
        refine i_iconst (v := 0) dX4_readsLevel_39 (by decide) ?_
        refine i_istore (ls' := [some (rf X 4 0), some (.int p1), some (.int p2), some (.int p3), some (.int (96 : Int32)), some (.int (0 : Int32)), none]) dX4_readsLevel_40 (by decide) (okp_at rfl) rfl ?_
        refine L_X4_readsLevel_42 hD hrecL hrecP FU _ _ h (fun σ_1 h => ?_)
        refine i_iconst (v := 1) dX4_readsLevel_110 (by decide) ?_
        exact e_zw rfl (by decide) dX4_readsLevel_111 h
      · refine i_iconst (v := 1) dX4_readsLevel_31 (by decide) ?_
        refine i_goto (tgt := 37) dX4_readsLevel_32 (by decide) ?_
        refine i_istore (ls' := [some (rf X 4 0), some (.int p1), some (.int p2), some (.int p3), some (.int (1 : Int32)), none, none]) dX4_readsLevel_37 (by decide) (okp_at rfl) rfl ?_
        refine i_iconst (v := 0) dX4_readsLevel_39 (by decide) ?_
        refine i_istore (ls' := [some (rf X 4 0), some (.int p1), some (.int p2), some (.int p3), some (.int (1 : Int32)), some (.int (0 : Int32)), none]) dX4_readsLevel_40 (by decide) (okp_at rfl) rfl ?_
        refine L_X4_readsLevel_42 hD hrecL hrecP FU _ _ h (fun σ_2 h => ?_)
        refine i_iconst (v := 1) dX4_readsLevel_110 (by decide) ?_
        exact e_zw rfl (by decide) dX4_readsLevel_111 h
    · refine i_iconst (v := 0) dX4_readsLevel_24 (by decide) ?_
      exact e_zw rfl (by decide) dX4_readsLevel_25 h
  · refine i_aload_n dX4_readsLevel_5 rfl ?_
    refine i_iload_n dX4_readsLevel_6 rfl ?_
    refine i_iload_n dX4_readsLevel_7 rfl ?_
    refine cV_iw dX4_readsLevel_8 cw_X4_85 ci_X4_readsPiece rfl rfl (by decide) (show 0 < 1 by omega) h (fun a2 e => hrecP _ _ _ a2 e) (by omega) rfl rfl (Nat.le_of_ble_eq_true rfl) (fun a2 ea2 h => ?_)
    exact e_bw rfl dX4_readsLevel_11 h
def S_r : Nat → (Int32 → Int32 → Int32 → Mem → Option (Int32 × Mem)) × (Int32 → Int32 → Mem → Option (Int32 × Mem))
  | 0 => (fun _ _ _ _ => none, fun _ _ _ => none)
  | n + 1 => (f_X4_readsLevel (S_r n).1 (S_r n).2, f_X4_readsPiece (S_r n).1 (S_r n).2)
theorem FSn_r {X : Cx} : ∀ n : Nat, (∀ p1 p2 p3 σ a, (S_r n).1 p1 p2 p3 σ = some a → Tri X (6 + n) mX4_readsLevel [rf X 4 0, .int p1, .int p2, .int p3] σ (some (.int a.1)) a.2) ∧ (∀ p1 p2 σ a, (S_r n).2 p1 p2 σ = some a → Tri X (6 + n) mX4_readsPiece [rf X 4 0, .int p1, .int p2] σ (some (.int a.1)) a.2) := by
  intro n
  induction n with
  | zero => exact ⟨fun _ _ _ _ _ h => (by cases h), fun _ _ _ _ h => (by cases h)⟩
  | succ n ih => exact ⟨fun _ _ _ _ _ h => F_X4_readsLevel (D := 6 + n) (Nat.le_add_right _ _) ih.1 ih.2 h, fun _ _ _ _ h => F_X4_readsPiece (D := 6 + n) (Nat.le_add_right _ _) ih.1 ih.2 h⟩
theorem FS_X4_readsLevel {X : Cx} {p1 p2 p3 : Int32} {σ : Mem} {a : Int32 × Mem} (h : (S_r 90).1 p1 p2 p3 σ = some a) : Tri X 96 mX4_readsLevel [rf X 4 0, .int p1, .int p2, .int p3] σ (some (.int a.1)) a.2 := (FSn_r 90).1 _ _ _ _ _ h
def f_X4_readsText  (p1 : Int32) (p2 : Nat) (σ : Mem) : Option (Int32 × Mem) :=
  (bnd (dynL ((mput (mput σ 4 0 1 p1) 4 0 2 (nI (p2 + 1))) 4 0 2)) (fun j1 => (bnd (f_X1_startAnew j1 (mput (mput σ 4 0 1 p1) 4 0 2 (nI (p2 + 1)))) (fun a1 => (bnd (f_X4_goOn (mput (mput a1 4 0 3 (0 : Int32)) 4 0 5 (0 : Int32))) (fun a2 => (bnd (dynL (a2 4 0 2)) (fun j2 => (bnd (f_X4_keyHere a2) (fun a3 => (bnd (dynL ((mput a2 1 j2 0 a3) 4 0 2)) (fun j3 => (if 0 ≤ ((mput a2 1 j2 0 a3) 1 j3 0) then (bnd (f_X4_goOn (mput a2 1 j2 0 a3)) (fun a4 => (bnd ((S_r 90).1 (0 : Int32) (0 : Int32) (0 : Int32) a4) (fun a5 => (if a5.1 = 0 then (some ((0 : Int32), a5.2)) else (if (a5.2 4 0 3) = 0 then (some ((1 : Int32), a5.2)) else (some ((0 : Int32), a5.2)))))))) else (some ((0 : Int32), (mput a2 1 j2 0 a3))))))))))))))))
set_option maxRecDepth 100000 in
set_option maxHeartbeats 4000000 in
theorem F_X4_readsText {X : Cx} {p1 : Int32} {p2 : Nat} {σ : Mem} {res : (Int32 × Mem)} (h2 : p2 < 15) (h : f_X4_readsText p1 p2 σ = some res) : Tri X 98 mX4_readsText [rf X 4 0, .int p1, rf X 1 p2] σ (some (.int res.1)) res.2 := by
  obtain ⟨r0, σ2⟩ := res
  unfold f_X4_readsText at h
  refine Tri.of (ls := [some (rf X 4 0), some (.int p1), some (rf X 1 p2)]) (by decide) (Nat.le_of_ble_eq_true rfl) rfl ?_
  refine i_aload_n dX4_readsText_0 rfl ?_
  refine i_iload_n dX4_readsText_1 rfl ?_
  refine pf_X4_15 rfl (by omega) dX4_readsText_2 ?_
  refine i_aload_n dX4_readsText_5 rfl ?_
  refine i_aload_n dX4_readsText_6 rfl ?_
  refine pf_X4_19 rfl (by omega) dX4_readsText_7 ?_
  refine i_aload_n dX4_readsText_10 rfl ?_
  refine gf_X4_19 rfl dX4_readsText_11 h (fun j1 lj1 h => ?_)
  refine cVN_vw dX4_readsText_14 cw_X4_23 ci_X1_startAnew rfl rfl (by decide) (show j1 < 15 by omega) h (fun a1 e => F_X1_startAnew (by omega) e) (Nat.le_of_ble_eq_true rfl) rfl rfl (Nat.le_of_ble_eq_true rfl) (fun a1 ea1 h => ?_)
  refine i_aload_n dX4_readsText_17 rfl ?_
  refine i_iconst (v := 0) dX4_readsText_18 (by decide) ?_
  refine pf_X4_28 rfl (by omega) dX4_readsText_19 ?_
  refine i_aload_n dX4_readsText_22 rfl ?_
  refine i_iconst (v := 0) dX4_readsText_23 (by decide) ?_
  refine pf_X4_31 rfl (by omega) dX4_readsText_24 ?_
  refine i_aload_n dX4_readsText_27 rfl ?_
  refine cV_vw dX4_readsText_28 cw_X4_34 ci_X4_goOn rfl rfl (by decide) (show 0 < 1 by omega) h (fun a2 e => F_X4_goOn  e) (Nat.le_of_ble_eq_true rfl) rfl rfl (Nat.le_of_ble_eq_true rfl) (fun a2 ea2 h => ?_)
  refine i_aload_n dX4_readsText_31 rfl ?_
  refine gf_X4_19 rfl dX4_readsText_32 h (fun j2 lj2 h => ?_)
  refine i_aload_n dX4_readsText_35 rfl ?_
  refine cV_ir dX4_readsText_36 cw_X4_37 ci_X4_keyHere rfl rfl (by decide) (show 0 < 1 by omega) h (fun a3 e => F_X4_keyHere  e) (Nat.le_of_ble_eq_true rfl) rfl rfl (Nat.le_of_ble_eq_true rfl) (fun a3 ea3 h => ?_)
  refine pf_X4_41 rfl (by omega) dX4_readsText_39 ?_
  refine i_aload_n dX4_readsText_42 rfl ?_
  refine gf_X4_19 rfl dX4_readsText_43 h (fun j3 lj3 h => ?_)
  refine gf_X4_41 rfl (by omega) dX4_readsText_46 ?_
  refine r_if_ge (tgt := 54) dX4_readsText_49 (by decide) h (fun c1 h => ?_) (fun c1 h => ?_)
  · refine i_aload_n dX4_readsText_54 rfl ?_
    refine cV_vw dX4_readsText_55 cw_X4_34 ci_X4_goOn rfl rfl (by decide) (show 0 < 1 by omega) h (fun a4 e => F_X4_goOn  e) (Nat.le_of_ble_eq_true rfl) rfl rfl (Nat.le_of_ble_eq_true rfl) (fun a4 ea4 h => ?_)
    refine i_aload_n dX4_readsText_58 rfl ?_
    refine i_iconst (v := 0) dX4_readsText_59 (by decide) ?_
    refine i_iconst (v := 0) dX4_readsText_60 (by decide) ?_
    refine i_iconst (v := 0) dX4_readsText_61 (by decide) ?_
    refine cV_iw dX4_readsText_62 cw_X4_44 ci_X4_readsLevel rfl rfl (by decide) (show 0 < 1 by omega) h (fun a5 e => FS_X4_readsLevel  e) (Nat.le_of_ble_eq_true rfl) rfl rfl (Nat.le_of_ble_eq_true rfl) (fun a5 ea5 h => ?_)
    refine r_if_eq (tgt := 79) dX4_readsText_65 (by decide) h (fun c2 h => ?_) (fun c2 h => ?_)
    · refine i_iconst (v := 0) dX4_readsText_79 (by decide) ?_
      exact e_zw rfl (by decide) dX4_readsText_80 h
    · refine i_aload_n dX4_readsText_68 rfl ?_
      refine gf_X4_28 rfl (by omega) dX4_readsText_69 ?_
      refine r_if_ne (tgt := 79) dX4_readsText_72 (by decide) h (fun c3 h => ?_) (fun c3 h => ?_)
      · refine i_iconst (v := 0) dX4_readsText_79 (by decide) ?_
        exact e_zw rfl (by decide) dX4_readsText_80 h
      · refine i_iconst (v := 1) dX4_readsText_75 (by decide) ?_
        refine i_goto (tgt := 80) dX4_readsText_76 (by decide) ?_
        exact e_zw rfl (by decide) dX4_readsText_80 h
  · refine i_iconst (v := 0) dX4_readsText_52 (by decide) ?_
    exact e_zw rfl (by decide) dX4_readsText_53 h
end
