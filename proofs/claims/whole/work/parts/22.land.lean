noncomputable section
def f_X0_becomes_10 (p0 : Nat) (p1 : Nat) : Nat → Int32 → Mem → (Mem → Option Mem) → Option Mem
  | 0, _, _, _ => none
  | n + 1, v2, σ, k =>
    (if (σ 0 p0 2) ≤ v2 then (k σ) else (bnd (ix 10 v2) (fun j1 => (bnd (ix 10 v2) (fun j2 => (bnd (f_X3_becomes (10 * p0 + j1) (10 * p1 + j2) σ) (fun a1 => (f_X0_becomes_10 p0 p1 n (v2 + (1 : Int32)) a1 k))))))))
set_option maxRecDepth 100000 in
set_option maxHeartbeats 4000000 in
theorem L_X0_becomes_10 {X : Cx} {p0 : Nat} {p1 : Nat} {σ2 : Mem} {k : Mem → Option Mem} (h0 : p0 < 3) (h1 : p1 < 3) : ∀ (n : Nat) (v2 : Int32) (σ : Mem), f_X0_becomes_10 p0 p1 n v2 σ k = some σ2 → (∀ (σ1 : Mem), k σ1 = some σ2 → At X 2 mX0_becomes 39 [some (rf X 0 p0), some (rf X 0 p1), none] [] σ1 none σ2) → At X 2 mX0_becomes 10 [some (rf X 0 p0), some (rf X 0 p1), some (.int v2)] [] σ none σ2 := by
  intro n
  induction n with
  | zero =>
    intro v2 σ h
    cases h
  | succ n ih =>
    intro v2 σ h hk
    rw [f_X0_becomes_10.eq_2] at h
    refine i_iload_n dX0_becomes_10 rfl ?_
    refine i_aload_n dX0_becomes_11 rfl ?_
    refine gf_X0_39 rfl (by omega) dX0_becomes_12 ?_
    refine r_icmp_ge (tgt := 39) dX0_becomes_15 (by decide) h (fun c1 h => ?_) (fun c1 h => ?_)
    · refine At.fewer (ls' := [some (rf X 0 p0), some (rf X 0 p1), none]) (And.intro rfl (And.intro rfl trivial)) ?_
      exact hk _ h
    · refine i_aload_n dX0_becomes_18 rfl ?_
      refine gf_X0_11 rfl (by omega) dX0_becomes_19 ?_
      refine i_iload_n dX0_becomes_22 rfl ?_
      refine aa_12 dX0_becomes_23 (by omega) h (fun j1 lj1 h => ?_)
      refine i_aload_n dX0_becomes_24 rfl ?_
      refine gf_X0_11 rfl (by omega) dX0_becomes_25 ?_
      refine i_iload_n dX0_becomes_28 rfl ?_
      refine aa_12 dX0_becomes_29 (by omega) h (fun j2 lj2 h => ?_)
      refine cVN_vw dX0_becomes_30 cw_X0_42 ci_X3_becomes rfl rfl (by decide) (show (10 * p0 + j1) < 35 by omega) h (fun a1 e => F_X3_becomes (by omega) (by omega) e) (Nat.le_of_ble_eq_true rfl) rfl rfl (Nat.le_of_ble_eq_true rfl) (fun a1 ea1 h => ?_)
      refine i_iinc (v := (v2 + (1 : Int32))) (ls' := [some (rf X 0 p0), some (rf X 0 p1), some (.int (v2 + (1 : Int32)))]) dX0_becomes_33 rfl (by rfl) (by decide) (okp_at rfl) rfl ?_
      refine i_goto (tgt := 10) dX0_becomes_36 (by decide) ?_
      exact ih _ _ h hk
def f_X0_becomes  (p0 : Nat) (p1 : Nat) (σ : Mem) : Option Mem :=
  (f_X0_becomes_10 p0 p1 FU (0 : Int32) (mput σ 0 p0 2 (σ 0 p1 2)) (fun σ_1 => (if cpOK (0 : Int32) (0 : Int32) ((mput σ_1 0 p0 6 (σ_1 0 p1 6)) 0 p0 6) 17 17 = true then (bnd (some (mcopy (mput σ_1 0 p0 6 (σ_1 0 p1 6)) 13 p1 ((0 : Int32)).toNatClampNeg 13 p0 ((0 : Int32)).toNatClampNeg (((mput σ_1 0 p0 6 (σ_1 0 p1 6)) 0 p0 6)).toNatClampNeg)) (fun s1 => (if cpOK (0 : Int32) (0 : Int32) (s1 0 p0 6) 17 17 = true then (bnd (some (mcopy s1 14 p1 ((0 : Int32)).toNatClampNeg 14 p0 ((0 : Int32)).toNatClampNeg ((s1 0 p0 6)).toNatClampNeg)) (fun s2 => (if cpOK (0 : Int32) (0 : Int32) (s2 0 p0 6) 17 17 = true then (bnd (some (mcopy s2 15 p1 ((0 : Int32)).toNatClampNeg 15 p0 ((0 : Int32)).toNatClampNeg ((s2 0 p0 6)).toNatClampNeg)) (fun s3 => (bnd (some (mput (mput (mput s3 0 p0 7 (s3 0 p1 7)) 0 p0 8 ((mput s3 0 p0 7 (s3 0 p1 7)) 0 p1 8)) 0 p0 9 ((mput (mput s3 0 p0 7 (s3 0 p1 7)) 0 p0 8 ((mput s3 0 p0 7 (s3 0 p1 7)) 0 p1 8)) 0 p1 9))) (fun s4 => (if cpOK (0 : Int32) (0 : Int32) (3 : Int32) 3 3 = true then (bnd (some (mcopy (mput (mput s4 0 p0 10 (s4 0 p1 10)) 0 p0 11 ((mput s4 0 p0 10 (s4 0 p1 10)) 0 p1 11)) 16 p1 ((0 : Int32)).toNatClampNeg 16 p0 ((0 : Int32)).toNatClampNeg ((3 : Int32)).toNatClampNeg)) (fun s5 => (some s5))) else none))))) else none))) else none))) else none)))
set_option maxRecDepth 100000 in
set_option maxHeartbeats 4000000 in
theorem F_X0_becomes {X : Cx} {p0 : Nat} {p1 : Nat} {σ : Mem} {res : Mem} (h0 : p0 < 3) (h1 : p1 < 3) (h : f_X0_becomes p0 p1 σ = some res) : Tri X 2 mX0_becomes [rf X 0 p0, rf X 0 p1] σ none res := by
  unfold f_X0_becomes at h
  refine Tri.of (ls := [some (rf X 0 p0), some (rf X 0 p1), none]) (by decide) (Nat.le_of_ble_eq_true rfl) rfl ?_
  refine i_aload_n dX0_becomes_0 rfl ?_
  refine i_aload_n dX0_becomes_1 rfl ?_
  refine gf_X0_39 rfl (by omega) dX0_becomes_2 ?_
  refine pf_X0_39 rfl (by omega) dX0_becomes_5 ?_
  refine i_iconst (v := 0) dX0_becomes_8 (by decide) ?_
  refine i_istore_n (ls' := [some (rf X 0 p0), some (rf X 0 p1), some (.int (0 : Int32))]) dX0_becomes_9 (by decide) (okp_at rfl) rfl ?_
  refine L_X0_becomes_10 (by omega) (by omega) FU _ _ h (fun σ_1 h => ?_)
  refine i_aload_n dX0_becomes_39 rfl ?_
  refine i_aload_n dX0_becomes_40 rfl ?_
  refine gf_X0_46 rfl (by omega) dX0_becomes_41 ?_
  refine pf_X0_46 rfl (by omega) dX0_becomes_44 ?_
  refine i_aload_n dX0_becomes_47 rfl ?_
  refine gf_X0_17 rfl (by omega) dX0_becomes_48 ?_
  refine i_iconst (v := 0) dX0_becomes_51 (by decide) ?_
  refine i_aload_n dX0_becomes_52 rfl ?_
  refine gf_X0_17 rfl (by omega) dX0_becomes_53 ?_
  refine i_iconst (v := 0) dX0_becomes_56 (by decide) ?_
  refine i_aload_n dX0_becomes_57 rfl ?_
  refine gf_X0_46 rfl (by omega) dX0_becomes_58 ?_
  refine r_acopy dX0_becomes_61 k_X0_49 (by decide) (by decide) rfl rfl rfl rfl (show p1 < 3 by omega) (show p0 < 3 by omega) (by omega) (Nat.le_of_ble_eq_true rfl) h (fun h => ?_)
  refine r_mem h (fun s1 _ h => ?_)
  refine i_aload_n dX0_becomes_64 rfl ?_
  refine gf_X0_21 rfl (by omega) dX0_becomes_65 ?_
  refine i_iconst (v := 0) dX0_becomes_68 (by decide) ?_
  refine i_aload_n dX0_becomes_69 rfl ?_
  refine gf_X0_21 rfl (by omega) dX0_becomes_70 ?_
  refine i_iconst (v := 0) dX0_becomes_73 (by decide) ?_
  refine i_aload_n dX0_becomes_74 rfl ?_
  refine gf_X0_46 rfl (by omega) dX0_becomes_75 ?_
  refine r_acopy dX0_becomes_78 k_X0_49 (by decide) (by decide) rfl rfl rfl rfl (show p1 < 3 by omega) (show p0 < 3 by omega) (by omega) (Nat.le_of_ble_eq_true rfl) h (fun h => ?_)
  refine r_mem h (fun s2 _ h => ?_)
  refine i_aload_n dX0_becomes_81 rfl ?_
  refine gf_X0_24 rfl (by omega) dX0_becomes_82 ?_
  refine i_iconst (v := 0) dX0_becomes_85 (by decide) ?_
  refine i_aload_n dX0_becomes_86 rfl ?_
  refine gf_X0_24 rfl (by omega) dX0_becomes_87 ?_
  refine i_iconst (v := 0) dX0_becomes_90 (by decide) ?_
  refine i_aload_n dX0_becomes_91 rfl ?_
  refine gf_X0_46 rfl (by omega) dX0_becomes_92 ?_
  refine r_acopy dX0_becomes_95 k_X0_49 (by decide) (by decide) rfl rfl rfl rfl (show p1 < 3 by omega) (show p0 < 3 by omega) (by omega) (Nat.le_of_ble_eq_true rfl) h (fun h => ?_)
  refine r_mem h (fun s3 _ h => ?_)
  refine i_aload_n dX0_becomes_98 rfl ?_
  refine i_aload_n dX0_becomes_99 rfl ?_
  refine gf_X0_55 rfl (by omega) dX0_becomes_100 ?_
  refine pf_X0_55 rfl (by omega) dX0_becomes_103 ?_
  refine i_aload_n dX0_becomes_106 rfl ?_
  refine i_aload_n dX0_becomes_107 rfl ?_
  refine gf_X0_58 rfl (by omega) dX0_becomes_108 ?_
  refine pf_X0_58 rfl (by omega) dX0_becomes_111 ?_
  refine i_aload_n dX0_becomes_114 rfl ?_
  refine i_aload_n dX0_becomes_115 rfl ?_
  refine gf_X0_61 rfl (by omega) dX0_becomes_116 ?_
  refine pf_X0_61 rfl (by omega) dX0_becomes_119 ?_
  refine r_mem h (fun s4 _ h => ?_)
  refine i_aload_n dX0_becomes_122 rfl ?_
  refine i_aload_n dX0_becomes_123 rfl ?_
  refine gf_X0_27 rfl (by omega) dX0_becomes_124 ?_
  refine pf_X0_27 rfl (by omega) dX0_becomes_127 ?_
  refine i_aload_n dX0_becomes_130 rfl ?_
  refine i_aload_n dX0_becomes_131 rfl ?_
  refine gf_X0_64 rfl (by omega) dX0_becomes_132 ?_
  refine pf_X0_64 rfl (by omega) dX0_becomes_135 ?_
  refine i_aload_n dX0_becomes_138 rfl ?_
  refine gf_X0_31 rfl (by omega) dX0_becomes_139 ?_
  refine i_iconst (v := 0) dX0_becomes_142 (by decide) ?_
  refine i_aload_n dX0_becomes_143 rfl ?_
  refine gf_X0_31 rfl (by omega) dX0_becomes_144 ?_
  refine i_iconst (v := 0) dX0_becomes_147 (by decide) ?_
  refine i_iconst (v := 3) dX0_becomes_148 (by decide) ?_
  refine r_acopy dX0_becomes_149 k_X0_49 (by decide) (by decide) rfl rfl rfl rfl (show p1 < 3 by omega) (show p0 < 3 by omega) (by omega) (Nat.le_of_ble_eq_true rfl) h (fun h => ?_)
  refine r_mem h (fun s5 _ h => ?_)
  exact e_vw rfl dX0_becomes_152 h
def f_X0_hasPerson  (p0 : Nat) (p1 : Int32) (σ : Mem) : Option Int32 :=
  (bnd (f_X7_isWithin p1 (0 : Int32) ((σ 0 p0 2) - (1 : Int32)) σ) (fun a1 => (if isB a1 = true then (some a1) else none)))
set_option maxRecDepth 100000 in
set_option maxHeartbeats 4000000 in
theorem F_X0_hasPerson {X : Cx} {p0 : Nat} {p1 : Int32} {σ : Mem} {res : Int32} (h0 : p0 < 3) (h : f_X0_hasPerson p0 p1 σ = some res) : Tri X 2 mX0_hasPerson [rf X 0 p0, .int p1] σ (some (.int res)) σ := by
  unfold f_X0_hasPerson at h
  refine Tri.of (ls := [some (rf X 0 p0), some (.int p1)]) (by decide) (Nat.le_of_ble_eq_true rfl) rfl ?_
  refine i_iload_n dX0_hasPerson_0 rfl ?_
  refine i_iconst (v := 0) dX0_hasPerson_1 (by decide) ?_
  refine i_aload_n dX0_hasPerson_2 rfl ?_
  refine gf_X0_39 rfl (by omega) dX0_hasPerson_3 ?_
  refine i_iconst (v := 1) dX0_hasPerson_6 (by decide) ?_
  refine i_isub dX0_hasPerson_7 ?_
  refine cSN_ir dX0_hasPerson_8 cw_X0_67 ci_X7_isWithin h (fun a1 e => F_X7_isWithin  e) (Nat.le_of_ble_eq_true rfl) rfl rfl (Nat.le_of_ble_eq_true rfl) (fun a1 ea1 h => ?_)
  exact e_br rfl dX0_hasPerson_11 h
def f_X0_hasVow  (p0 : Nat) (p1 : Int32) (σ : Mem) : Option Int32 :=
  (bnd (f_X7_isWithin p1 (0 : Int32) ((σ 0 p0 6) - (1 : Int32)) σ) (fun a1 => (if isB a1 = true then (some a1) else none)))
set_option maxRecDepth 100000 in
set_option maxHeartbeats 4000000 in
theorem F_X0_hasVow {X : Cx} {p0 : Nat} {p1 : Int32} {σ : Mem} {res : Int32} (h0 : p0 < 3) (h : f_X0_hasVow p0 p1 σ = some res) : Tri X 2 mX0_hasVow [rf X 0 p0, .int p1] σ (some (.int res)) σ := by
  unfold f_X0_hasVow at h
  refine Tri.of (ls := [some (rf X 0 p0), some (.int p1)]) (by decide) (Nat.le_of_ble_eq_true rfl) rfl ?_
  refine i_iload_n dX0_hasVow_0 rfl ?_
  refine i_iconst (v := 0) dX0_hasVow_1 (by decide) ?_
  refine i_aload_n dX0_hasVow_2 rfl ?_
  refine gf_X0_46 rfl (by omega) dX0_hasVow_3 ?_
  refine i_iconst (v := 1) dX0_hasVow_6 (by decide) ?_
  refine i_isub dX0_hasVow_7 ?_
  refine cSN_ir dX0_hasVow_8 cw_X0_67 ci_X7_isWithin h (fun a1 e => F_X7_isWithin  e) (Nat.le_of_ble_eq_true rfl) rfl rfl (Nat.le_of_ble_eq_true rfl) (fun a1 ea1 h => ?_)
  exact e_br rfl dX0_hasVow_11 h
def f_X0_addPerson  (p0 : Nat) (p1 : Int32) (p2 : Int32) (p3 : Int32) (σ : Mem) : Option Mem :=
  (bnd (ix 10 (σ 0 p0 2)) (fun j1 => (bnd (f_X3_comes (10 * p0 + j1) p1 p2 p3 σ) (fun a1 => (some (mput a1 0 p0 2 ((a1 0 p0 2) + (1 : Int32))))))))
set_option maxRecDepth 100000 in
set_option maxHeartbeats 4000000 in
theorem F_X0_addPerson {X : Cx} {p0 : Nat} {p1 : Int32} {p2 : Int32} {p3 : Int32} {σ : Mem} {res : Mem} (h0 : p0 < 3) (h : f_X0_addPerson p0 p1 p2 p3 σ = some res) : Tri X 2 mX0_addPerson [rf X 0 p0, .int p1, .int p2, .int p3] σ none res := by
  unfold f_X0_addPerson at h
  refine Tri.of (ls := [some (rf X 0 p0), some (.int p1), some (.int p2), some (.int p3)]) (by decide) (Nat.le_of_ble_eq_true rfl) rfl ?_
  refine i_aload_n dX0_addPerson_0 rfl ?_
  refine gf_X0_11 rfl (by omega) dX0_addPerson_1 ?_
  refine i_aload_n dX0_addPerson_4 rfl ?_
  refine gf_X0_39 rfl (by omega) dX0_addPerson_5 ?_
  refine aa_12 dX0_addPerson_8 (by omega) h (fun j1 lj1 h => ?_)
  refine i_iload_n dX0_addPerson_9 rfl ?_
  refine i_iload_n dX0_addPerson_10 rfl ?_
  refine i_iload_n dX0_addPerson_11 rfl ?_
  refine cVN_vw dX0_addPerson_12 cw_X0_71 ci_X3_comes rfl rfl (by decide) (show (10 * p0 + j1) < 35 by omega) h (fun a1 e => F_X3_comes (by omega) e) (Nat.le_of_ble_eq_true rfl) rfl rfl (Nat.le_of_ble_eq_true rfl) (fun a1 ea1 h => ?_)
  refine i_aload_n dX0_addPerson_15 rfl ?_
  refine i_dup dX0_addPerson_16 rfl ?_
  refine gf_X0_39 rfl (by omega) dX0_addPerson_17 ?_
  refine i_iconst (v := 1) dX0_addPerson_20 (by decide) ?_
  refine i_iadd dX0_addPerson_21 ?_
  refine pf_X0_39 rfl (by omega) dX0_addPerson_22 ?_
  exact e_vw rfl dX0_addPerson_25 h
def f_X0_draw  (p0 : Nat) (σ : Mem) : Option (Int32 × Mem) :=
  (some ((((((mput σ 0 p0 10 (((σ 0 p0 10) * (1103515245 : Int32)) + (12345 : Int32))) 0 p0 10)).toUInt32 >>> (((8 : Int32)).toUInt32 &&& Int32.toUInt32 31)).toInt32), (mput σ 0 p0 10 (((σ 0 p0 10) * (1103515245 : Int32)) + (12345 : Int32)))))
set_option maxRecDepth 100000 in
set_option maxHeartbeats 4000000 in
theorem F_X0_draw {X : Cx} {p0 : Nat} {σ : Mem} {res : (Int32 × Mem)} (h0 : p0 < 3) (h : f_X0_draw p0 σ = some res) : Tri X 1 mX0_draw [rf X 0 p0] σ (some (.int res.1)) res.2 := by
  obtain ⟨r0, σ2⟩ := res
  unfold f_X0_draw at h
  refine Tri.of (ls := [some (rf X 0 p0)]) (by decide) (Nat.le_of_ble_eq_true rfl) rfl ?_
  refine i_aload_n dX0_draw_0 rfl ?_
  refine i_aload_n dX0_draw_1 rfl ?_
  refine gf_X0_27 rfl (by omega) dX0_draw_2 ?_
  refine i_ldc (v := 1103515245) dX0_draw_5 k_X0_82 ?_
  refine i_imul dX0_draw_7 ?_
  refine i_sipush (v := 12345) dX0_draw_8 (by decide) ?_
  refine i_iadd dX0_draw_11 ?_
  refine pf_X0_27 rfl (by omega) dX0_draw_12 ?_
  refine i_aload_n dX0_draw_15 rfl ?_
  refine gf_X0_27 rfl (by omega) dX0_draw_16 ?_
  refine i_bipush (v := 8) dX0_draw_19 (by decide) ?_
  refine i_iushr dX0_draw_21 ?_
  exact e_iw rfl dX0_draw_22 h
def f_X0_drawPerson  (p0 : Nat) (σ : Mem) : Option Mem :=
  (bnd (f_X0_draw p0 σ) (fun a1 => (bnd (f_X0_draw p0 a1.2) (fun a2 => (bnd (f_X0_draw p0 a2.2) (fun a3 => (bnd (f_X0_addPerson p0 (a1.1 - a1.1 / (6 : Int32) * (6 : Int32)) (a2.1 - a2.1 / (24 : Int32) * (24 : Int32)) (a3.1 - a3.1 / (100 : Int32) * (100 : Int32)) a3.2) (fun a4 => (some a4)))))))))
set_option maxRecDepth 100000 in
set_option maxHeartbeats 4000000 in
theorem F_X0_drawPerson {X : Cx} {p0 : Nat} {σ : Mem} {res : Mem} (h0 : p0 < 3) (h : f_X0_drawPerson p0 σ = some res) : Tri X 3 mX0_drawPerson [rf X 0 p0] σ none res := by
  unfold f_X0_drawPerson at h
  refine Tri.of (ls := [some (rf X 0 p0), none, none, none]) (by decide) (Nat.le_of_ble_eq_true rfl) rfl ?_
  refine i_aload_n dX0_drawPerson_0 rfl ?_
  refine cV_iw dX0_drawPerson_1 cw_X0_75 ci_X0_draw rfl rfl (by decide) (show p0 < 3 by omega) h (fun a1 e => F_X0_draw (by omega) e) (Nat.le_of_ble_eq_true rfl) rfl rfl (Nat.le_of_ble_eq_true rfl) (fun a1 ea1 h => ?_)
  refine i_bipush (v := 6) dX0_drawPerson_4 (by decide) ?_
  refine i_irem dX0_drawPerson_6 (by decide) ?_
  refine i_istore_n (ls' := [some (rf X 0 p0), some (.int (a1.1 - a1.1 / (6 : Int32) * (6 : Int32))), none, none]) dX0_drawPerson_7 (by decide) (okp_at rfl) rfl ?_
  refine i_aload_n dX0_drawPerson_8 rfl ?_
  refine cV_iw dX0_drawPerson_9 cw_X0_75 ci_X0_draw rfl rfl (by decide) (show p0 < 3 by omega) h (fun a2 e => F_X0_draw (by omega) e) (Nat.le_of_ble_eq_true rfl) rfl rfl (Nat.le_of_ble_eq_true rfl) (fun a2 ea2 h => ?_)
  refine i_bipush (v := 24) dX0_drawPerson_12 (by decide) ?_
  refine i_irem dX0_drawPerson_14 (by decide) ?_
  refine i_istore_n (ls' := [some (rf X 0 p0), some (.int (a1.1 - a1.1 / (6 : Int32) * (6 : Int32))), some (.int (a2.1 - a2.1 / (24 : Int32) * (24 : Int32))), none]) dX0_drawPerson_15 (by decide) (okp_at rfl) rfl ?_
  refine i_aload_n dX0_drawPerson_16 rfl ?_
  refine cV_iw dX0_drawPerson_17 cw_X0_75 ci_X0_draw rfl rfl (by decide) (show p0 < 3 by omega) h (fun a3 e => F_X0_draw (by omega) e) (Nat.le_of_ble_eq_true rfl) rfl rfl (Nat.le_of_ble_eq_true rfl) (fun a3 ea3 h => ?_)
  refine i_bipush (v := 100) dX0_drawPerson_20 (by decide) ?_
  refine i_irem dX0_drawPerson_22 (by decide) ?_
  refine i_istore_n (ls' := [some (rf X 0 p0), some (.int (a1.1 - a1.1 / (6 : Int32) * (6 : Int32))), some (.int (a2.1 - a2.1 / (24 : Int32) * (24 : Int32))), some (.int (a3.1 - a3.1 / (100 : Int32) * (100 : Int32)))]) dX0_drawPerson_23 (by decide) (okp_at rfl) rfl ?_
  refine i_aload_n dX0_drawPerson_24 rfl ?_
  refine i_iload_n dX0_drawPerson_25 rfl ?_
  refine i_iload_n dX0_drawPerson_26 rfl ?_
  refine i_iload_n dX0_drawPerson_27 rfl ?_
  refine cV_vw dX0_drawPerson_28 cw_X0_79 ci_X0_addPerson rfl rfl (by decide) (show p0 < 3 by omega) h (fun a4 e => F_X0_addPerson (by omega) e) (Nat.le_of_ble_eq_true rfl) rfl rfl (Nat.le_of_ble_eq_true rfl) (fun a4 ea4 h => ?_)
  exact e_vw rfl dX0_drawPerson_31 h
def f_X0_struckCount_4 (p0 : Nat) (σ : Mem) : Nat → Int32 → Int32 → (Int32 → Option Int32) → Option Int32
  | 0, _, _, _ => none
  | n + 1, v1, v2, k =>
    (if (σ 0 p0 2) ≤ v2 then (k v1) else (bnd (ix 10 v2) (fun j1 => (if (σ 3 (10 * p0 + j1) 0) = (5 : Int32) then (f_X0_struckCount_4 p0 σ n (v1 + (1 : Int32)) (v2 + (1 : Int32)) k) else (f_X0_struckCount_4 p0 σ n v1 (v2 + (1 : Int32)) k)))))
set_option maxRecDepth 100000 in
set_option maxHeartbeats 4000000 in
theorem L_X0_struckCount_4 {X : Cx} {p0 : Nat} {σ : Mem} {r0 : Int32} {k : Int32 → Option Int32} (h0 : p0 < 3) : ∀ (n : Nat) (v1 : Int32) (v2 : Int32), f_X0_struckCount_4 p0 σ n v1 v2 k = some r0 → (∀ (x1 : Int32), k x1 = some r0 → At X 1 mX0_struckCount 34 [none, some (.int x1), none] [] σ (some (.int r0)) σ) → At X 1 mX0_struckCount 4 [some (rf X 0 p0), some (.int v1), some (.int v2)] [] σ (some (.int r0)) σ := by
  intro n
  induction n with
  | zero =>
    intro v1 v2 h
    cases h
  | succ n ih =>
    intro v1 v2 h hk
    rw [f_X0_struckCount_4.eq_2] at h
    refine i_iload_n dX0_struckCount_4 rfl ?_
    refine i_aload_n dX0_struckCount_5 rfl ?_
    refine gf_X0_39 rfl (by omega) dX0_struckCount_6 ?_
    refine r_icmp_ge (tgt := 34) dX0_struckCount_9 (by decide) h (fun c1 h => ?_) (fun c1 h => ?_)
    · refine At.fewer (ls' := [none, some (.int v1), none]) (And.intro rfl trivial) ?_
      exact hk _ h
    · refine i_aload_n dX0_struckCount_12 rfl ?_
      refine gf_X0_11 rfl (by omega) dX0_struckCount_13 ?_
      refine i_iload_n dX0_struckCount_16 rfl ?_
      refine aa_12 dX0_struckCount_17 (by omega) h (fun j1 lj1 h => ?_)
      refine gf_X0_83 rfl (by omega) dX0_struckCount_18 ?_
      refine i_iconst (v := 5) dX0_struckCount_21 (by decide) ?_
      refine r_icmp_ne (tgt := 28) dX0_struckCount_22 (by decide) h (fun c2 h => ?_) (fun c2 h => ?_)
      · refine i_iinc (v := (v2 + (1 : Int32))) (ls' := [some (rf X 0 p0), some (.int v1), some (.int (v2 + (1 : Int32)))]) dX0_struckCount_28 rfl (by rfl) (by decide) (okp_at rfl) rfl ?_
        refine i_goto (tgt := 4) dX0_struckCount_31 (by decide) ?_
        exact ih _ _ h hk
      · refine i_iinc (v := (v1 + (1 : Int32))) (ls' := [some (rf X 0 p0), some (.int (v1 + (1 : Int32))), some (.int v2)]) dX0_struckCount_25 rfl (by rfl) (by decide) (okp_at rfl) rfl ?_
        refine i_iinc (v := (v2 + (1 : Int32))) (ls' := [some (rf X 0 p0), some (.int (v1 + (1 : Int32))), some (.int (v2 + (1 : Int32)))]) dX0_struckCount_28 rfl (by rfl) (by decide) (okp_at rfl) rfl ?_
        refine i_goto (tgt := 4) dX0_struckCount_31 (by decide) ?_
        exact ih _ _ h hk
def f_X0_struckCount  (p0 : Nat) (σ : Mem) : Option Int32 :=
  (f_X0_struckCount_4 p0 σ FU (0 : Int32) (0 : Int32) (fun e1 => (some e1)))
set_option maxRecDepth 100000 in
set_option maxHeartbeats 4000000 in
theorem F_X0_struckCount {X : Cx} {p0 : Nat} {σ : Mem} {res : Int32} (h0 : p0 < 3) (h : f_X0_struckCount p0 σ = some res) : Tri X 1 mX0_struckCount [rf X 0 p0] σ (some (.int res)) σ := by
  unfold f_X0_struckCount at h
  refine Tri.of (ls := [some (rf X 0 p0), none, none]) (by decide) (Nat.le_of_ble_eq_true rfl) rfl ?_
  refine i_iconst (v := 0) dX0_struckCount_0 (by decide) ?_
  refine i_istore_n (ls' := [some (rf X 0 p0), some (.int (0 : Int32)), none]) dX0_struckCount_1 (by decide) (okp_at rfl) rfl ?_
  refine i_iconst (v := 0) dX0_struckCount_2 (by decide) ?_
  refine i_istore_n (ls' := [some (rf X 0 p0), some (.int (0 : Int32)), some (.int (0 : Int32))]) dX0_struckCount_3 (by decide) (okp_at rfl) rfl ?_
  refine L_X0_struckCount_4 (by omega) FU _ _ h (fun e1 h => ?_)
  refine i_iload_n dX0_struckCount_34 rfl ?_
  exact e_ir rfl dX0_struckCount_35 h
def f_X0_addVow  (p0 : Nat) (p1 : Int32) (p2 : Int32) (p3 : Int32) (σ : Mem) : Option Mem :=
  (bnd (ix 17 (σ 0 p0 6)) (fun j1 => (bnd (ix 17 ((mput σ 13 p0 j1 p1) 0 p0 6)) (fun j2 => (bnd (ix 17 ((mput (mput σ 13 p0 j1 p1) 14 p0 j2 p2) 0 p0 6)) (fun j3 => (bnd (some (mput (mput (mput (mput σ 13 p0 j1 p1) 14 p0 j2 p2) 15 p0 j3 p3) 0 p0 6 (((mput (mput (mput σ 13 p0 j1 p1) 14 p0 j2 p2) 15 p0 j3 p3) 0 p0 6) + (1 : Int32)))) (fun s1 => (some s1)))))))))
set_option maxRecDepth 100000 in
set_option maxHeartbeats 4000000 in
theorem F_X0_addVow {X : Cx} {p0 : Nat} {p1 : Int32} {p2 : Int32} {p3 : Int32} {σ : Mem} {res : Mem} (h0 : p0 < 3) (h : f_X0_addVow p0 p1 p2 p3 σ = some res) : Tri X 1 mX0_addVow [rf X 0 p0, .int p1, .int p2, .int p3] σ none res := by
  unfold f_X0_addVow at h
  refine Tri.of (ls := [some (rf X 0 p0), some (.int p1), some (.int p2), some (.int p3)]) (by decide) (Nat.le_of_ble_eq_true rfl) rfl ?_
  refine i_aload_n dX0_addVow_0 rfl ?_
  refine gf_X0_17 rfl (by omega) dX0_addVow_1 ?_
  refine i_aload_n dX0_addVow_4 rfl ?_
  refine gf_X0_46 rfl (by omega) dX0_addVow_5 ?_
  refine i_iload_n dX0_addVow_8 rfl ?_
  refine as_13 dX0_addVow_9 (by omega) h (fun j1 lj1 h => ?_)
  refine i_aload_n dX0_addVow_10 rfl ?_
  refine gf_X0_21 rfl (by omega) dX0_addVow_11 ?_
  refine i_aload_n dX0_addVow_14 rfl ?_
  refine gf_X0_46 rfl (by omega) dX0_addVow_15 ?_
  refine i_iload_n dX0_addVow_18 rfl ?_
  refine as_14 dX0_addVow_19 (by omega) h (fun j2 lj2 h => ?_)
  refine i_aload_n dX0_addVow_20 rfl ?_
  refine gf_X0_24 rfl (by omega) dX0_addVow_21 ?_
  refine i_aload_n dX0_addVow_24 rfl ?_
  refine gf_X0_46 rfl (by omega) dX0_addVow_25 ?_
  refine i_iload_n dX0_addVow_28 rfl ?_
  refine as_15 dX0_addVow_29 (by omega) h (fun j3 lj3 h => ?_)
  refine i_aload_n dX0_addVow_30 rfl ?_
  refine i_dup dX0_addVow_31 rfl ?_
  refine gf_X0_46 rfl (by omega) dX0_addVow_32 ?_
  refine i_iconst (v := 1) dX0_addVow_35 (by decide) ?_
  refine i_iadd dX0_addVow_36 ?_
  refine pf_X0_46 rfl (by omega) dX0_addVow_37 ?_
  refine r_mem h (fun s1 _ h => ?_)
  exact e_vw rfl dX0_addVow_40 h
def f_X0_lapse  (p0 : Nat) (p1 : Int32) (σ : Mem) : Option Mem :=
  (if cpOK (p1 + (1 : Int32)) p1 (((σ 0 p0 6) - p1) - (1 : Int32)) 17 17 = true then (bnd (some (mcopy σ 13 p0 ((p1 + (1 : Int32))).toNatClampNeg 13 p0 (p1).toNatClampNeg ((((σ 0 p0 6) - p1) - (1 : Int32))).toNatClampNeg)) (fun s1 => (if cpOK (p1 + (1 : Int32)) p1 (((σ 0 p0 6) - p1) - (1 : Int32)) 17 17 = true then (bnd (some (mcopy s1 14 p0 ((p1 + (1 : Int32))).toNatClampNeg 14 p0 (p1).toNatClampNeg ((((σ 0 p0 6) - p1) - (1 : Int32))).toNatClampNeg)) (fun s2 => (if cpOK (p1 + (1 : Int32)) p1 (((σ 0 p0 6) - p1) - (1 : Int32)) 17 17 = true then (bnd (some (mcopy s2 15 p0 ((p1 + (1 : Int32))).toNatClampNeg 15 p0 (p1).toNatClampNeg ((((σ 0 p0 6) - p1) - (1 : Int32))).toNatClampNeg)) (fun s3 => (bnd (some (mput (mput s3 0 p0 6 ((s3 0 p0 6) - (1 : Int32))) 0 p0 8 (((mput s3 0 p0 6 ((s3 0 p0 6) - (1 : Int32))) 0 p0 8) + (1 : Int32)))) (fun s4 => (some s4))))) else none))) else none))) else none)
set_option maxRecDepth 100000 in
set_option maxHeartbeats 4000000 in
theorem F_X0_lapse {X : Cx} {p0 : Nat} {p1 : Int32} {σ : Mem} {res : Mem} (h0 : p0 < 3) (h : f_X0_lapse p0 p1 σ = some res) : Tri X 1 mX0_lapse [rf X 0 p0, .int p1] σ none res := by
  unfold f_X0_lapse at h
  refine Tri.of (ls := [some (rf X 0 p0), some (.int p1), none]) (by decide) (Nat.le_of_ble_eq_true rfl) rfl ?_
  refine i_aload_n dX0_lapse_0 rfl ?_
  refine gf_X0_46 rfl (by omega) dX0_lapse_1 ?_
  refine i_iload_n dX0_lapse_4 rfl ?_
  refine i_isub dX0_lapse_5 ?_
  refine i_iconst (v := 1) dX0_lapse_6 (by decide) ?_
  refine i_isub dX0_lapse_7 ?_
  refine i_istore_n (ls' := [some (rf X 0 p0), some (.int p1), some (.int (((σ 0 p0 6) - p1) - (1 : Int32)))]) dX0_lapse_8 (by decide) (okp_at rfl) rfl ?_
  refine i_aload_n dX0_lapse_9 rfl ?_
  refine gf_X0_17 rfl (by omega) dX0_lapse_10 ?_
  refine i_iload_n dX0_lapse_13 rfl ?_
  refine i_iconst (v := 1) dX0_lapse_14 (by decide) ?_
  refine i_iadd dX0_lapse_15 ?_
  refine i_aload_n dX0_lapse_16 rfl ?_
  refine gf_X0_17 rfl (by omega) dX0_lapse_17 ?_
  refine i_iload_n dX0_lapse_20 rfl ?_
  refine i_iload_n dX0_lapse_21 rfl ?_
  refine r_acopy dX0_lapse_22 k_X0_49 (by decide) (by decide) rfl rfl rfl rfl (show p0 < 3 by omega) (show p0 < 3 by omega) (by omega) (Nat.le_of_ble_eq_true rfl) h (fun h => ?_)
  refine r_mem h (fun s1 _ h => ?_)
  refine i_aload_n dX0_lapse_25 rfl ?_
  refine gf_X0_21 rfl (by omega) dX0_lapse_26 ?_
  refine i_iload_n dX0_lapse_29 rfl ?_
  refine i_iconst (v := 1) dX0_lapse_30 (by decide) ?_
  refine i_iadd dX0_lapse_31 ?_
  refine i_aload_n dX0_lapse_32 rfl ?_
  refine gf_X0_21 rfl (by omega) dX0_lapse_33 ?_
  refine i_iload_n dX0_lapse_36 rfl ?_
  refine i_iload_n dX0_lapse_37 rfl ?_
  refine r_acopy dX0_lapse_38 k_X0_49 (by decide) (by decide) rfl rfl rfl rfl (show p0 < 3 by omega) (show p0 < 3 by omega) (by omega) (Nat.le_of_ble_eq_true rfl) h (fun h => ?_)
  refine r_mem h (fun s2 _ h => ?_)
  refine i_aload_n dX0_lapse_41 rfl ?_
  refine gf_X0_24 rfl (by omega) dX0_lapse_42 ?_
  refine i_iload_n dX0_lapse_45 rfl ?_
  refine i_iconst (v := 1) dX0_lapse_46 (by decide) ?_
  refine i_iadd dX0_lapse_47 ?_
  refine i_aload_n dX0_lapse_48 rfl ?_
  refine gf_X0_24 rfl (by omega) dX0_lapse_49 ?_
  refine i_iload_n dX0_lapse_52 rfl ?_
  refine i_iload_n dX0_lapse_53 rfl ?_
  refine r_acopy dX0_lapse_54 k_X0_49 (by decide) (by decide) rfl rfl rfl rfl (show p0 < 3 by omega) (show p0 < 3 by omega) (by omega) (Nat.le_of_ble_eq_true rfl) h (fun h => ?_)
  refine r_mem h (fun s3 _ h => ?_)
  refine i_aload_n dX0_lapse_57 rfl ?_
  refine i_dup dX0_lapse_58 rfl ?_
  refine gf_X0_46 rfl (by omega) dX0_lapse_59 ?_
  refine i_iconst (v := 1) dX0_lapse_62 (by decide) ?_
  refine i_isub dX0_lapse_63 ?_
  refine pf_X0_46 rfl (by omega) dX0_lapse_64 ?_
  refine i_aload_n dX0_lapse_67 rfl ?_
  refine i_dup dX0_lapse_68 rfl ?_
  refine gf_X0_58 rfl (by omega) dX0_lapse_69 ?_
  refine i_iconst (v := 1) dX0_lapse_72 (by decide) ?_
  refine i_iadd dX0_lapse_73 ?_
  refine pf_X0_58 rfl (by omega) dX0_lapse_74 ?_
  refine r_mem h (fun s4 _ h => ?_)
  exact e_vw rfl dX0_lapse_77 h
def f_X0_strikeOff_17 (p0 : Nat) (p1 : Int32) : Nat → Int32 → Mem → (Mem → Option Mem) → Option Mem
  | 0, _, _, _ => none
  | n + 1, v2, σ, k =>
    (if v2 < 0 then (k σ) else (bnd (ix 17 v2) (fun j1 => (if (σ 13 p0 j1) = p1 then (bnd (f_X0_lapse p0 v2 σ) (fun a1 => (f_X0_strikeOff_17 p0 p1 n (v2 + (-1 : Int32)) a1 k))) else (f_X0_strikeOff_17 p0 p1 n (v2 + (-1 : Int32)) σ k)))))
set_option maxRecDepth 100000 in
set_option maxHeartbeats 4000000 in
theorem L_X0_strikeOff_17 {X : Cx} {p0 : Nat} {p1 : Int32} {σ2 : Mem} {k : Mem → Option Mem} (h0 : p0 < 3) : ∀ (n : Nat) (v2 : Int32) (σ : Mem), f_X0_strikeOff_17 p0 p1 n v2 σ k = some σ2 → (∀ (σ1 : Mem), k σ1 = some σ2 → At X 2 mX0_strikeOff 42 [none, none, none] [] σ1 none σ2) → At X 2 mX0_strikeOff 17 [some (rf X 0 p0), some (.int p1), some (.int v2)] [] σ none σ2 := by
  intro n
  induction n with
  | zero =>
    intro v2 σ h
    cases h
  | succ n ih =>
    intro v2 σ h hk
    rw [f_X0_strikeOff_17.eq_2] at h
    refine i_iload_n dX0_strikeOff_17 rfl ?_
    refine r_if_lt (tgt := 42) dX0_strikeOff_18 (by decide) h (fun c1 h => ?_) (fun c1 h => ?_)
    · refine At.fewer (ls' := [none, none, none]) trivial ?_
      exact hk _ h
    · refine i_aload_n dX0_strikeOff_21 rfl ?_
      refine gf_X0_17 rfl (by omega) dX0_strikeOff_22 ?_
      refine i_iload_n dX0_strikeOff_25 rfl ?_
      refine al_13 dX0_strikeOff_26 (by omega) h (fun j1 lj1 h => ?_)
      refine i_iload_n dX0_strikeOff_27 rfl ?_
      refine r_icmp_ne (tgt := 36) dX0_strikeOff_28 (by decide) h (fun c2 h => ?_) (fun c2 h => ?_)
      · refine i_iinc (v := (v2 + (-1 : Int32))) (ls' := [some (rf X 0 p0), some (.int p1), some (.int (v2 + (-1 : Int32)))]) dX0_strikeOff_36 rfl (by rfl) (by decide) (okp_at rfl) rfl ?_
        refine i_goto (tgt := 17) dX0_strikeOff_39 (by decide) ?_
        exact ih _ _ h hk
      · refine i_aload_n dX0_strikeOff_31 rfl ?_
        refine i_iload_n dX0_strikeOff_32 rfl ?_
        refine cV_vw dX0_strikeOff_33 cw_X0_86 ci_X0_lapse rfl rfl (by decide) (show p0 < 3 by omega) h (fun a1 e => F_X0_lapse (by omega) e) (Nat.le_of_ble_eq_true rfl) rfl rfl (Nat.le_of_ble_eq_true rfl) (fun a1 ea1 h => ?_)
        refine i_iinc (v := (v2 + (-1 : Int32))) (ls' := [some (rf X 0 p0), some (.int p1), some (.int (v2 + (-1 : Int32)))]) dX0_strikeOff_36 rfl (by rfl) (by decide) (okp_at rfl) rfl ?_
        refine i_goto (tgt := 17) dX0_strikeOff_39 (by decide) ?_
        exact ih _ _ h hk
def f_X0_strikeOff  (p0 : Nat) (p1 : Int32) (σ : Mem) : Option Mem :=
  (bnd (ix 10 p1) (fun j1 => (f_X0_strikeOff_17 p0 p1 FU (((mput σ 3 (10 * p0 + j1) 0 (5 : Int32)) 0 p0 6) - (1 : Int32)) (mput σ 3 (10 * p0 + j1) 0 (5 : Int32)) (fun σ_1 => (some σ_1)))))
set_option maxRecDepth 100000 in
set_option maxHeartbeats 4000000 in
theorem F_X0_strikeOff {X : Cx} {p0 : Nat} {p1 : Int32} {σ : Mem} {res : Mem} (h0 : p0 < 3) (h : f_X0_strikeOff p0 p1 σ = some res) : Tri X 2 mX0_strikeOff [rf X 0 p0, .int p1] σ none res := by
  unfold f_X0_strikeOff at h
  refine Tri.of (ls := [some (rf X 0 p0), some (.int p1), none]) (by decide) (Nat.le_of_ble_eq_true rfl) rfl ?_
  refine i_aload_n dX0_strikeOff_0 rfl ?_
  refine gf_X0_11 rfl (by omega) dX0_strikeOff_1 ?_
  refine i_iload_n dX0_strikeOff_4 rfl ?_
  refine aa_12 dX0_strikeOff_5 (by omega) h (fun j1 lj1 h => ?_)
  refine i_iconst (v := 5) dX0_strikeOff_6 (by decide) ?_
  refine pf_X0_83 rfl (by omega) dX0_strikeOff_7 ?_
  refine i_aload_n dX0_strikeOff_10 rfl ?_
  refine gf_X0_46 rfl (by omega) dX0_strikeOff_11 ?_
  refine i_iconst (v := 1) dX0_strikeOff_14 (by decide) ?_
  refine i_isub dX0_strikeOff_15 ?_
  refine i_istore_n (ls' := [some (rf X 0 p0), some (.int p1), some (.int (((mput σ 3 (10 * p0 + j1) 0 (5 : Int32)) 0 p0 6) - (1 : Int32)))]) dX0_strikeOff_16 (by decide) (okp_at rfl) rfl ?_
  refine L_X0_strikeOff_17 (by omega) FU _ _ h (fun σ_1 h => ?_)
  exact e_vw rfl dX0_strikeOff_42 h
def f_X0_timesIn_5 (p0 : Nat) (p1g : Nat) (p1i : Nat) (p2 : Int32) (σ : Mem) : Nat → Int32 → Int32 → (Int32 → Option Int32) → Option Int32
  | 0, _, _, _ => none
  | n + 1, v3, v4, k =>
    (if (σ 0 p0 6) ≤ v4 then (k v3) else (bnd (ix (alen p1g) v4) (fun j1 => (if (σ p1g p1i j1) = p2 then (f_X0_timesIn_5 p0 p1g p1i p2 σ n (v3 + (1 : Int32)) (v4 + (1 : Int32)) k) else (f_X0_timesIn_5 p0 p1g p1i p2 σ n v3 (v4 + (1 : Int32)) k)))))
set_option maxRecDepth 100000 in
set_option maxHeartbeats 4000000 in
theorem L_X0_timesIn_5 {X : Cx} {p0 : Nat} {p1g : Nat} {p1i : Nat} {p2 : Int32} {σ : Mem} {r0 : Int32} {k : Int32 → Option Int32} (h0 : p0 < 3) (h1g : 9 ≤ p1g ∧ p1g < 42) (h1k : ak p1g = 1) (h1i : p1i < cnt p1g) : ∀ (n : Nat) (v3 : Int32) (v4 : Int32), f_X0_timesIn_5 p0 p1g p1i p2 σ n v3 v4 k = some r0 → (∀ (x3 : Int32), k x3 = some r0 → At X 1 mX0_timesIn 31 [none, none, none, some (.int x3), none] [] σ (some (.int r0)) σ) → At X 1 mX0_timesIn 5 [some (rf X 0 p0), some (rf X p1g p1i), some (.int p2), some (.int v3), some (.int v4)] [] σ (some (.int r0)) σ := by
  intro n
  induction n with
  | zero =>
    intro v3 v4 h
    cases h
  | succ n ih =>
    intro v3 v4 h hk
    rw [f_X0_timesIn_5.eq_2] at h
    refine i_iload dX0_timesIn_5 rfl ?_
    refine i_aload_n dX0_timesIn_7 rfl ?_
    refine gf_X0_46 rfl (by omega) dX0_timesIn_8 ?_
    refine r_icmp_ge (tgt := 31) dX0_timesIn_11 (by decide) h (fun c1 h => ?_) (fun c1 h => ?_)
    · refine At.fewer (ls' := [none, none, none, some (.int v3), none]) (And.intro rfl trivial) ?_
      exact hk _ h
    · refine i_aload_n dX0_timesIn_14 rfl ?_
      refine i_iload dX0_timesIn_15 rfl ?_
      refine r_iald dX0_timesIn_17 h1g h1k rfl h1i h (fun j1 lj1 h => ?_)
      refine i_iload_n dX0_timesIn_18 rfl ?_
      refine r_icmp_ne (tgt := 25) dX0_timesIn_19 (by decide) h (fun c2 h => ?_) (fun c2 h => ?_)
      · refine i_iinc (v := (v4 + (1 : Int32))) (ls' := [some (rf X 0 p0), some (rf X p1g p1i), some (.int p2), some (.int v3), some (.int (v4 + (1 : Int32)))]) dX0_timesIn_25 rfl (by rfl) (by decide) (okp_at rfl) rfl ?_
        refine i_goto (tgt := 5) dX0_timesIn_28 (by decide) ?_
        exact ih _ _ h hk
      · refine i_iinc (v := (v3 + (1 : Int32))) (ls' := [some (rf X 0 p0), some (rf X p1g p1i), some (.int p2), some (.int (v3 + (1 : Int32))), some (.int v4)]) dX0_timesIn_22 rfl (by rfl) (by decide) (okp_at rfl) rfl ?_
        refine i_iinc (v := (v4 + (1 : Int32))) (ls' := [some (rf X 0 p0), some (rf X p1g p1i), some (.int p2), some (.int (v3 + (1 : Int32))), some (.int (v4 + (1 : Int32)))]) dX0_timesIn_25 rfl (by rfl) (by decide) (okp_at rfl) rfl ?_
        refine i_goto (tgt := 5) dX0_timesIn_28 (by decide) ?_
        exact ih _ _ h hk
def f_X0_timesIn  (p0 : Nat) (p1g : Nat) (p1i : Nat) (p2 : Int32) (σ : Mem) : Option Int32 :=
  (f_X0_timesIn_5 p0 p1g p1i p2 σ FU (0 : Int32) (0 : Int32) (fun e1 => (some e1)))
set_option maxRecDepth 100000 in
set_option maxHeartbeats 4000000 in
theorem F_X0_timesIn {X : Cx} {p0 : Nat} {p1g : Nat} {p1i : Nat} {p2 : Int32} {σ : Mem} {res : Int32} (h0 : p0 < 3) (h1g : 9 ≤ p1g ∧ p1g < 42) (h1k : ak p1g = 1) (h1i : p1i < cnt p1g) (h : f_X0_timesIn p0 p1g p1i p2 σ = some res) : Tri X 1 mX0_timesIn [rf X 0 p0, rf X p1g p1i, .int p2] σ (some (.int res)) σ := by
  unfold f_X0_timesIn at h
  refine Tri.of (ls := [some (rf X 0 p0), some (rf X p1g p1i), some (.int p2), none, none]) (by decide) (Nat.le_of_ble_eq_true rfl) rfl ?_
  refine i_iconst (v := 0) dX0_timesIn_0 (by decide) ?_
  refine i_istore_n (ls' := [some (rf X 0 p0), some (rf X p1g p1i), some (.int p2), some (.int (0 : Int32)), none]) dX0_timesIn_1 (by decide) (okp_at rfl) rfl ?_
  refine i_iconst (v := 0) dX0_timesIn_2 (by decide) ?_
  refine i_istore (ls' := [some (rf X 0 p0), some (rf X p1g p1i), some (.int p2), some (.int (0 : Int32)), some (.int (0 : Int32))]) dX0_timesIn_3 (by decide) (okp_at rfl) rfl ?_
  refine L_X0_timesIn_5 (by omega) h1g h1k h1i FU _ _ h (fun e1 h => ?_)
  refine i_iload_n dX0_timesIn_31 rfl ?_
  exact e_ir rfl dX0_timesIn_32 h
def f_X0_vowsGivenBy  (p0 : Nat) (p1 : Int32) (σ : Mem) : Option Int32 :=
  (bnd (f_X0_timesIn p0 13 p0 p1 σ) (fun a1 => (some a1)))
set_option maxRecDepth 100000 in
set_option maxHeartbeats 4000000 in
theorem F_X0_vowsGivenBy {X : Cx} {p0 : Nat} {p1 : Int32} {σ : Mem} {res : Int32} (h0 : p0 < 3) (h : f_X0_vowsGivenBy p0 p1 σ = some res) : Tri X 2 mX0_vowsGivenBy [rf X 0 p0, .int p1] σ (some (.int res)) σ := by
  unfold f_X0_vowsGivenBy at h
  refine Tri.of (ls := [some (rf X 0 p0), some (.int p1)]) (by decide) (Nat.le_of_ble_eq_true rfl) rfl ?_
  refine i_aload_n dX0_vowsGivenBy_0 rfl ?_
  refine i_aload_n dX0_vowsGivenBy_1 rfl ?_
  refine gf_X0_17 rfl (by omega) dX0_vowsGivenBy_2 ?_
  refine i_iload_n dX0_vowsGivenBy_5 rfl ?_
  refine cV_ir dX0_vowsGivenBy_6 cw_X0_90 ci_X0_timesIn rfl rfl (by decide) (show p0 < 3 by omega) h (fun a1 e => F_X0_timesIn (by omega) (by decide) rfl (show p0 < 3 by omega) e) (Nat.le_of_ble_eq_true rfl) rfl rfl (Nat.le_of_ble_eq_true rfl) (fun a1 ea1 h => ?_)
  exact e_ir rfl dX0_vowsGivenBy_9 h
def f_X0_vowsGivenTo  (p0 : Nat) (p1 : Int32) (σ : Mem) : Option Int32 :=
  (bnd (f_X0_timesIn p0 14 p0 p1 σ) (fun a1 => (some a1)))
set_option maxRecDepth 100000 in
set_option maxHeartbeats 4000000 in
theorem F_X0_vowsGivenTo {X : Cx} {p0 : Nat} {p1 : Int32} {σ : Mem} {res : Int32} (h0 : p0 < 3) (h : f_X0_vowsGivenTo p0 p1 σ = some res) : Tri X 2 mX0_vowsGivenTo [rf X 0 p0, .int p1] σ (some (.int res)) σ := by
  unfold f_X0_vowsGivenTo at h
  refine Tri.of (ls := [some (rf X 0 p0), some (.int p1)]) (by decide) (Nat.le_of_ble_eq_true rfl) rfl ?_
  refine i_aload_n dX0_vowsGivenTo_0 rfl ?_
  refine i_aload_n dX0_vowsGivenTo_1 rfl ?_
  refine gf_X0_21 rfl (by omega) dX0_vowsGivenTo_2 ?_
  refine i_iload_n dX0_vowsGivenTo_5 rfl ?_
  refine cV_ir dX0_vowsGivenTo_6 cw_X0_90 ci_X0_timesIn rfl rfl (by decide) (show p0 < 3 by omega) h (fun a1 e => F_X0_timesIn (by omega) (by decide) rfl (show p0 < 3 by omega) e) (Nat.le_of_ble_eq_true rfl) rfl rfl (Nat.le_of_ble_eq_true rfl) (fun a1 ea1 h => ?_)
  exact e_ir rfl dX0_vowsGivenTo_9 h
def f_X0_keeps  (p0 : Nat) (p1 : Int32) (σ : Mem) : Option (Int32 × Mem) :=
  (bnd (ix 17 p1) (fun j1 => (bnd (ix 10 (σ 13 p0 j1)) (fun j2 => (bnd (ix 17 p1) (fun j3 => (bnd (f_X0_vowsGivenBy p0 (σ 13 p0 j3) σ) (fun a1 => (bnd (ix 3 (0 : Int32)) (fun j4 => (if 0 ≤ (σ 16 p0 j4) then (bnd (ix 17 p1) (fun j5 => (bnd (f_X2_gives (σ 16 p0 j4) (σ 3 (10 * p0 + j2) 2) a1 (σ 15 p0 j5) σ) (fun a2 => (bnd (f_X7_heldWithin a2.1 (0 : Int32) (100 : Int32) a2.2) (fun a3 => (bnd (f_X3_keepsFrom (10 * p0 + j2) a3 a2.2) (fun a4 => (some (a4, a2.2)))))))))) else (bnd (f_X3_keepsFrom (10 * p0 + j2) (if (0 : Int32) < ((σ 3 (10 * p0 + j2) 2) - ((5 : Int32) * a1)) then ((σ 3 (10 * p0 + j2) 2) - ((5 : Int32) * a1)) else (0 : Int32)) σ) (fun a5 => (some (a5, σ)))))))))))))))
set_option maxRecDepth 100000 in
set_option maxHeartbeats 4000000 in
theorem F_X0_keeps {X : Cx} {p0 : Nat} {p1 : Int32} {σ : Mem} {res : (Int32 × Mem)} (h0 : p0 < 3) (h : f_X0_keeps p0 p1 σ = some res) : Tri X 3 mX0_keeps [rf X 0 p0, .int p1] σ (some (.int res.1)) res.2 := by
  obtain ⟨r0, σ2⟩ := res
  unfold f_X0_keeps at h
  refine Tri.of (ls := [some (rf X 0 p0), some (.int p1), none, none, none, none]) (by decide) (Nat.le_of_ble_eq_true rfl) rfl ?_
  refine i_aload_n dX0_keeps_0 rfl ?_
  refine gf_X0_11 rfl (by omega) dX0_keeps_1 ?_
  refine i_aload_n dX0_keeps_4 rfl ?_
  refine gf_X0_17 rfl (by omega) dX0_keeps_5 ?_
  refine i_iload_n dX0_keeps_8 rfl ?_
  refine al_13 dX0_keeps_9 (by omega) h (fun j1 lj1 h => ?_)
  refine aa_12 dX0_keeps_10 (by omega) h (fun j2 lj2 h => ?_)
  refine i_astore_n (ls' := [some (rf X 0 p0), some (.int p1), some (rf X 3 (10 * p0 + j2)), none, none, none]) dX0_keeps_11 (by decide) (okp_at rfl) rfl ?_
  refine i_aload_n dX0_keeps_12 rfl ?_
  refine i_aload_n dX0_keeps_13 rfl ?_
  refine gf_X0_17 rfl (by omega) dX0_keeps_14 ?_
  refine i_iload_n dX0_keeps_17 rfl ?_
  refine al_13 dX0_keeps_18 (by omega) h (fun j3 lj3 h => ?_)
  refine cV_ir dX0_keeps_19 cw_X0_94 ci_X0_vowsGivenBy rfl rfl (by decide) (show p0 < 3 by omega) h (fun a1 e => F_X0_vowsGivenBy (by omega) e) (Nat.le_of_ble_eq_true rfl) rfl rfl (Nat.le_of_ble_eq_true rfl) (fun a1 ea1 h => ?_)
  refine i_istore_n (ls' := [some (rf X 0 p0), some (.int p1), some (rf X 3 (10 * p0 + j2)), some (.int a1), none, none]) dX0_keeps_22 (by decide) (okp_at rfl) rfl ?_
  refine i_aload_n dX0_keeps_23 rfl ?_
  refine gf_X0_31 rfl (by omega) dX0_keeps_24 ?_
  refine i_iconst (v := 0) dX0_keeps_27 (by decide) ?_
  refine al_16 dX0_keeps_28 (by omega) h (fun j4 lj4 h => ?_)
  refine i_istore (ls' := [some (rf X 0 p0), some (.int p1), some (rf X 3 (10 * p0 + j2)), some (.int a1), some (.int (σ 16 p0 j4)), none]) dX0_keeps_29 (by decide) (okp_at rfl) rfl ?_
  refine i_iload dX0_keeps_31 rfl ?_
  refine r_if_ge (tgt := 51) dX0_keeps_33 (by decide) h (fun c1 h => ?_) (fun c1 h => ?_)
  · refine i_aload_n dX0_keeps_51 rfl ?_
    refine gf_X0_34 rfl (by omega) dX0_keeps_52 ?_
    refine i_iload dX0_keeps_55 rfl ?_
    refine i_aload_n dX0_keeps_57 rfl ?_
    refine gf_X0_98 rfl (by omega) dX0_keeps_58 ?_
    refine i_iload_n dX0_keeps_61 rfl ?_
    refine i_aload_n dX0_keeps_62 rfl ?_
    refine gf_X0_24 rfl (by omega) dX0_keeps_63 ?_
    refine i_iload_n dX0_keeps_66 rfl ?_
    refine al_15 dX0_keeps_67 (by omega) h (fun j5 lj5 h => ?_)
    refine cVN_iw dX0_keeps_68 cw_X0_107 ci_X2_gives rfl rfl (by decide) (show 0 < 1 by omega) h (fun a2 e => F_X2_gives  e) (Nat.le_of_ble_eq_true rfl) rfl rfl (Nat.le_of_ble_eq_true rfl) (fun a2 ea2 h => ?_)
    refine i_iconst (v := 0) dX0_keeps_71 (by decide) ?_
    refine i_bipush (v := 100) dX0_keeps_72 (by decide) ?_
    refine cSN_ir dX0_keeps_74 cw_X0_113 ci_X7_heldWithin h (fun a3 e => F_X7_heldWithin  e) (Nat.le_of_ble_eq_true rfl) rfl rfl (Nat.le_of_ble_eq_true rfl) (fun a3 ea3 h => ?_)
    refine i_istore (ls' := [some (rf X 0 p0), some (.int p1), some (rf X 3 (10 * p0 + j2)), some (.int a1), some (.int (σ 16 p0 j4)), some (.int a3)]) dX0_keeps_77 (by decide) (okp_at rfl) rfl ?_
    refine i_aload_n dX0_keeps_79 rfl ?_
    refine i_iload dX0_keeps_80 rfl ?_
    refine cVN_ir dX0_keeps_82 cw_X0_117 ci_X3_keepsFrom rfl rfl (by decide) (show (10 * p0 + j2) < 35 by omega) h (fun a4 e => F_X3_keepsFrom (by omega) e) (Nat.le_of_ble_eq_true rfl) rfl rfl (Nat.le_of_ble_eq_true rfl) (fun a4 ea4 h => ?_)
    exact e_iw rfl dX0_keeps_85 h
  · refine i_iconst (v := 0) dX0_keeps_36 (by decide) ?_
    refine i_aload_n dX0_keeps_37 rfl ?_
    refine gf_X0_98 rfl (by omega) dX0_keeps_38 ?_
    refine i_iconst (v := 5) dX0_keeps_41 (by decide) ?_
    refine i_iload_n dX0_keeps_42 rfl ?_
    refine i_imul dX0_keeps_43 ?_
    refine i_isub dX0_keeps_44 ?_
    refine i_mmax dX0_keeps_45 k_X0_101 (by omega) (Nat.le_of_ble_eq_true rfl) ?_
    refine i_goto (tgt := 77) dX0_keeps_48 (by decide) ?_
    refine i_istore (ls' := [some (rf X 0 p0), some (.int p1), some (rf X 3 (10 * p0 + j2)), some (.int a1), some (.int (σ 16 p0 j4)), some (.int (if (0 : Int32) < ((σ 3 (10 * p0 + j2) 2) - ((5 : Int32) * a1)) then ((σ 3 (10 * p0 + j2) 2) - ((5 : Int32) * a1)) else (0 : Int32)))]) dX0_keeps_77 (by decide) (okp_at rfl) rfl ?_
    refine i_aload_n dX0_keeps_79 rfl ?_
    refine i_iload dX0_keeps_80 rfl ?_
    refine cVN_ir dX0_keeps_82 cw_X0_117 ci_X3_keepsFrom rfl rfl (by decide) (show (10 * p0 + j2) < 35 by omega) h (fun a5 e => F_X3_keepsFrom (by omega) e) (Nat.le_of_ble_eq_true rfl) rfl rfl (Nat.le_of_ble_eq_true rfl) (fun a5 ea5 h => ?_)
    exact e_iw rfl dX0_keeps_85 h
def f_X0_callVowsAtNoon_9 (p0 : Nat) (p1 : Int32) : Nat → Int32 → Int32 → Mem → (Mem → Option Mem) → Option Mem
  | 0, _, _, _, _ => none
  | n + 1, v2, v3, σ, k =>
    (if p1 ≤ v3 then (k σ) else (bnd (ix 17 v2) (fun j1 => (bnd (ix 10 (σ 13 p0 j1)) (fun j2 => (bnd (f_X3_noon (10 * p0 + j2) σ) (fun a1 => (if a1 = ((σ 0 p0 9) - (σ 0 p0 9) / (24 : Int32) * (24 : Int32)) then (bnd (f_X0_draw p0 σ) (fun a2 => (bnd (f_X0_keeps p0 v2 a2.2) (fun a3 => (if a3.1 ≤ (a2.1 - a2.1 / (100 : Int32) * (100 : Int32)) then (bnd (f_X0_lapse p0 v2 a3.2) (fun a4 => (f_X0_callVowsAtNoon_9 p0 p1 n v2 (v3 + (1 : Int32)) a4 k))) else (f_X0_callVowsAtNoon_9 p0 p1 n (v2 + (1 : Int32)) (v3 + (1 : Int32)) (mput a3.2 0 p0 7 ((a3.2 0 p0 7) + (1 : Int32))) k)))))) else (f_X0_callVowsAtNoon_9 p0 p1 n (v2 + (1 : Int32)) (v3 + (1 : Int32)) σ k)))))))))
set_option maxRecDepth 100000 in
set_option maxHeartbeats 4000000 in
theorem L_X0_callVowsAtNoon_9 {X : Cx} {p0 : Nat} {p1 : Int32} {σ2 : Mem} {k : Mem → Option Mem} (h0 : p0 < 3) : ∀ (n : Nat) (v2 : Int32) (v3 : Int32) (σ : Mem), f_X0_callVowsAtNoon_9 p0 p1 n v2 v3 σ k = some σ2 → (∀ (σ1 : Mem), k σ1 = some σ2 → At X 4 mX0_callVowsAtNoon 86 [none, none, none, none] [] σ1 none σ2) → At X 4 mX0_callVowsAtNoon 9 [some (rf X 0 p0), some (.int p1), some (.int v2), some (.int v3)] [] σ none σ2 := by
  intro n
  induction n with
  | zero =>
    intro v2 v3 σ h
    cases h
  | succ n ih =>
    intro v2 v3 σ h hk
    rw [f_X0_callVowsAtNoon_9.eq_2] at h
    refine i_iload_n dX0_callVowsAtNoon_9 rfl ?_
    refine i_iload_n dX0_callVowsAtNoon_10 rfl ?_
    refine r_icmp_ge (tgt := 86) dX0_callVowsAtNoon_11 (by decide) h (fun c1 h => ?_) (fun c1 h => ?_)
    · refine At.fewer (ls' := [none, none, none, none]) trivial ?_
      exact hk _ h
    · refine i_aload_n dX0_callVowsAtNoon_14 rfl ?_
      refine gf_X0_11 rfl (by omega) dX0_callVowsAtNoon_15 ?_
      refine i_aload_n dX0_callVowsAtNoon_18 rfl ?_
      refine gf_X0_17 rfl (by omega) dX0_callVowsAtNoon_19 ?_
      refine i_iload_n dX0_callVowsAtNoon_22 rfl ?_
      refine al_13 dX0_callVowsAtNoon_23 (by omega) h (fun j1 lj1 h => ?_)
      refine aa_12 dX0_callVowsAtNoon_24 (by omega) h (fun j2 lj2 h => ?_)
      refine cVN_ir dX0_callVowsAtNoon_25 cw_X0_129 ci_X3_noon rfl rfl (by decide) (show (10 * p0 + j2) < 35 by omega) h (fun a1 e => F_X3_noon (by omega) e) (Nat.le_of_ble_eq_true rfl) rfl rfl (Nat.le_of_ble_eq_true rfl) (fun a1 ea1 h => ?_)
      refine i_aload_n dX0_callVowsAtNoon_28 rfl ?_
      refine gf_X0_61 rfl (by omega) dX0_callVowsAtNoon_29 ?_
      refine i_bipush (v := 24) dX0_callVowsAtNoon_32 (by decide) ?_
      refine i_irem dX0_callVowsAtNoon_34 (by decide) ?_
      refine r_icmp_eq (tgt := 44) dX0_callVowsAtNoon_35 (by decide) h (fun c2 h => ?_) (fun c2 h => ?_)
      · refine i_aload_n dX0_callVowsAtNoon_44 rfl ?_
        refine cV_iw dX0_callVowsAtNoon_45 cw_X0_75 ci_X0_draw rfl rfl (by decide) (show p0 < 3 by omega) h (fun a2 e => F_X0_draw (by omega) e) (Nat.le_of_ble_eq_true rfl) rfl rfl (Nat.le_of_ble_eq_true rfl) (fun a2 ea2 h => ?_)
        refine i_bipush (v := 100) dX0_callVowsAtNoon_48 (by decide) ?_
        refine i_irem dX0_callVowsAtNoon_50 (by decide) ?_
        refine i_aload_n dX0_callVowsAtNoon_51 rfl ?_
        refine i_iload_n dX0_callVowsAtNoon_52 rfl ?_
        refine cV_iw dX0_callVowsAtNoon_53 cw_X0_132 ci_X0_keeps rfl rfl (by decide) (show p0 < 3 by omega) h (fun a3 e => F_X0_keeps (by omega) e) (Nat.le_of_ble_eq_true rfl) rfl rfl (Nat.le_of_ble_eq_true rfl) (fun a3 ea3 h => ?_)
        refine r_icmp_ge (tgt := 75) dX0_callVowsAtNoon_56 (by decide) h (fun c3 h => ?_) (fun c3 h => ?_)
        · refine i_aload_n dX0_callVowsAtNoon_75 rfl ?_
          refine i_iload_n dX0_callVowsAtNoon_76 rfl ?_
          refine cV_vw dX0_callVowsAtNoon_77 cw_X0_86 ci_X0_lapse rfl rfl (by decide) (show p0 < 3 by omega) h (fun a4 e => F_X0_lapse (by omega) e) (Nat.le_of_ble_eq_true rfl) rfl rfl (Nat.le_of_ble_eq_true rfl) (fun a4 ea4 h => ?_)
          refine i_iinc (v := (v3 + (1 : Int32))) (ls' := [some (rf X 0 p0), some (.int p1), some (.int v2), some (.int (v3 + (1 : Int32)))]) dX0_callVowsAtNoon_80 rfl (by rfl) (by decide) (okp_at rfl) rfl ?_
          refine i_goto (tgt := 9) dX0_callVowsAtNoon_83 (by decide) ?_
          exact ih _ _ _ h hk
        · refine i_aload_n dX0_callVowsAtNoon_59 rfl ?_
          refine i_dup dX0_callVowsAtNoon_60 rfl ?_
          refine gf_X0_55 rfl (by omega) dX0_callVowsAtNoon_61 ?_
          refine i_iconst (v := 1) dX0_callVowsAtNoon_64 (by decide) ?_
          refine i_iadd dX0_callVowsAtNoon_65 ?_
          refine pf_X0_55 rfl (by omega) dX0_callVowsAtNoon_66 ?_
          refine i_iinc (v := (v2 + (1 : Int32))) (ls' := [some (rf X 0 p0), some (.int p1), some (.int (v2 + (1 : Int32))), some (.int v3)]) dX0_callVowsAtNoon_69 rfl (by rfl) (by decide) (okp_at rfl) rfl ?_
          refine i_goto (tgt := 80) dX0_callVowsAtNoon_72 (by decide) ?_
          refine i_iinc (v := (v3 + (1 : Int32))) (ls' := [some (rf X 0 p0), some (.int p1), some (.int (v2 + (1 : Int32))), some (.int (v3 + (1 : Int32)))]) dX0_callVowsAtNoon_80 rfl (by rfl) (by decide) (okp_at rfl) rfl ?_
          refine i_goto (tgt := 9) dX0_callVowsAtNoon_83 (by decide) ?_
          exact ih _ _ _ h hk
      · refine i_iinc (v := (v2 + (1 : Int32))) (ls' := [some (rf X 0 p0), some (.int p1), some (.int (v2 + (1 : Int32))), some (.int v3)]) dX0_callVowsAtNoon_38 rfl (by rfl) (by decide) (okp_at rfl) rfl ?_
        refine i_goto (tgt := 80) dX0_callVowsAtNoon_41 (by decide) ?_
        refine i_iinc (v := (v3 + (1 : Int32))) (ls' := [some (rf X 0 p0), some (.int p1), some (.int (v2 + (1 : Int32))), some (.int (v3 + (1 : Int32)))]) dX0_callVowsAtNoon_80 rfl (by rfl) (by decide) (okp_at rfl) rfl ?_
        refine i_goto (tgt := 9) dX0_callVowsAtNoon_83 (by decide) ?_
        exact ih _ _ _ h hk
def f_X0_callVowsAtNoon  (p0 : Nat) (σ : Mem) : Option Mem :=
  (f_X0_callVowsAtNoon_9 p0 (σ 0 p0 6) FU (0 : Int32) (0 : Int32) σ (fun σ_1 => (some σ_1)))
set_option maxRecDepth 100000 in
set_option maxHeartbeats 4000000 in
theorem F_X0_callVowsAtNoon {X : Cx} {p0 : Nat} {σ : Mem} {res : Mem} (h0 : p0 < 3) (h : f_X0_callVowsAtNoon p0 σ = some res) : Tri X 4 mX0_callVowsAtNoon [rf X 0 p0] σ none res := by
  unfold f_X0_callVowsAtNoon at h
  refine Tri.of (ls := [some (rf X 0 p0), none, none, none]) (by decide) (Nat.le_of_ble_eq_true rfl) rfl ?_
  refine i_aload_n dX0_callVowsAtNoon_0 rfl ?_
  refine gf_X0_46 rfl (by omega) dX0_callVowsAtNoon_1 ?_
  refine i_istore_n (ls' := [some (rf X 0 p0), some (.int (σ 0 p0 6)), none, none]) dX0_callVowsAtNoon_4 (by decide) (okp_at rfl) rfl ?_
  refine i_iconst (v := 0) dX0_callVowsAtNoon_5 (by decide) ?_
  refine i_istore_n (ls' := [some (rf X 0 p0), some (.int (σ 0 p0 6)), some (.int (0 : Int32)), none]) dX0_callVowsAtNoon_6 (by decide) (okp_at rfl) rfl ?_
  refine i_iconst (v := 0) dX0_callVowsAtNoon_7 (by decide) ?_
  refine i_istore_n (ls' := [some (rf X 0 p0), some (.int (σ 0 p0 6)), some (.int (0 : Int32)), some (.int (0 : Int32))]) dX0_callVowsAtNoon_8 (by decide) (okp_at rfl) rfl ?_
  refine L_X0_callVowsAtNoon_9 (by omega) FU _ _ _ h (fun σ_1 h => ?_)
  exact e_vw rfl dX0_callVowsAtNoon_86 h
def f_X0_payDebts_2 (p0 : Nat) : Nat → Int32 → Mem → (Mem → Option Mem) → Option Mem
  | 0, _, _, _ => none
  | n + 1, v1, σ, k =>
    (if (σ 0 p0 6) ≤ v1 then (k σ) else (bnd (ix 17 v1) (fun j1 => (if (σ 15 p0 j1) = (2 : Int32) then (bnd (ix 17 v1) (fun j2 => (bnd (ix 10 (σ 13 p0 j2)) (fun j3 => (bnd (f_X3_pays (10 * p0 + j3) σ) (fun a1 => (bnd (ix 17 v1) (fun j4 => (bnd (ix 10 (σ 13 p0 j4)) (fun j5 => (bnd (f_X3_receive (10 * p0 + j5) (-a1) σ) (fun a2 => (bnd (ix 17 v1) (fun j6 => (bnd (ix 10 (a2 14 p0 j6)) (fun j7 => (bnd (f_X3_receive (10 * p0 + j7) a1 a2) (fun a3 => (f_X0_payDebts_2 p0 n (v1 + (1 : Int32)) a3 k))))))))))))))))))) else (f_X0_payDebts_2 p0 n (v1 + (1 : Int32)) σ k)))))
set_option maxRecDepth 100000 in
set_option maxHeartbeats 4000000 in
theorem L_X0_payDebts_2 {X : Cx} {p0 : Nat} {σ2 : Mem} {k : Mem → Option Mem} (h0 : p0 < 3) : ∀ (n : Nat) (v1 : Int32) (σ : Mem), f_X0_payDebts_2 p0 n v1 σ k = some σ2 → (∀ (σ1 : Mem), k σ1 = some σ2 → At X 3 mX0_payDebts 72 [none, none, none] [] σ1 none σ2) → At X 3 mX0_payDebts 2 [some (rf X 0 p0), some (.int v1), none] [] σ none σ2 := by
  intro n
  induction n with
  | zero =>
    intro v1 σ h
    cases h
  | succ n ih =>
    intro v1 σ h hk
    rw [f_X0_payDebts_2.eq_2] at h
    refine i_iload_n dX0_payDebts_2 rfl ?_
    refine i_aload_n dX0_payDebts_3 rfl ?_
    refine gf_X0_46 rfl (by omega) dX0_payDebts_4 ?_
    refine r_icmp_ge (tgt := 72) dX0_payDebts_7 (by decide) h (fun c1 h => ?_) (fun c1 h => ?_)
    · refine At.fewer (ls' := [none, none, none]) trivial ?_
      exact hk _ h
    · refine i_aload_n dX0_payDebts_10 rfl ?_
      refine gf_X0_24 rfl (by omega) dX0_payDebts_11 ?_
      refine i_iload_n dX0_payDebts_14 rfl ?_
      refine al_15 dX0_payDebts_15 (by omega) h (fun j1 lj1 h => ?_)
      refine i_iconst (v := 2) dX0_payDebts_16 (by decide) ?_
      refine r_icmp_ne (tgt := 66) dX0_payDebts_17 (by decide) h (fun c2 h => ?_) (fun c2 h => ?_)
      · refine i_iinc (v := (v1 + (1 : Int32))) (ls' := [some (rf X 0 p0), some (.int (v1 + (1 : Int32))), none]) dX0_payDebts_66 rfl (by rfl) (by decide) (okp_at rfl) rfl ?_
        refine i_goto (tgt := 2) dX0_payDebts_69 (by decide) ?_
        exact ih _ _ h hk
      · refine i_aload_n dX0_payDebts_20 rfl ?_
        refine gf_X0_11 rfl (by omega) dX0_payDebts_21 ?_
        refine i_aload_n dX0_payDebts_24 rfl ?_
        refine gf_X0_17 rfl (by omega) dX0_payDebts_25 ?_
        refine i_iload_n dX0_payDebts_28 rfl ?_
        refine al_13 dX0_payDebts_29 (by omega) h (fun j2 lj2 h => ?_)
        refine aa_12 dX0_payDebts_30 (by omega) h (fun j3 lj3 h => ?_)
        refine cVN_ir dX0_payDebts_31 cw_X0_135 ci_X3_pays rfl rfl (by decide) (show (10 * p0 + j3) < 35 by omega) h (fun a1 e => F_X3_pays (by omega) e) (Nat.le_of_ble_eq_true rfl) rfl rfl (Nat.le_of_ble_eq_true rfl) (fun a1 ea1 h => ?_)
        refine i_istore_n (ls' := [some (rf X 0 p0), some (.int v1), some (.int a1)]) dX0_payDebts_34 (by decide) (okp_at rfl) rfl ?_
        refine i_aload_n dX0_payDebts_35 rfl ?_
        refine gf_X0_11 rfl (by omega) dX0_payDebts_36 ?_
        refine i_aload_n dX0_payDebts_39 rfl ?_
        refine gf_X0_17 rfl (by omega) dX0_payDebts_40 ?_
        refine i_iload_n dX0_payDebts_43 rfl ?_
        refine al_13 dX0_payDebts_44 (by omega) h (fun j4 lj4 h => ?_)
        refine aa_12 dX0_payDebts_45 (by omega) h (fun j5 lj5 h => ?_)
        refine i_iload_n dX0_payDebts_46 rfl ?_
        refine i_ineg dX0_payDebts_47 ?_
        refine cVN_vw dX0_payDebts_48 cw_X0_138 ci_X3_receive rfl rfl (by decide) (show (10 * p0 + j5) < 35 by omega) h (fun a2 e => F_X3_receive (by omega) e) (Nat.le_of_ble_eq_true rfl) rfl rfl (Nat.le_of_ble_eq_true rfl) (fun a2 ea2 h => ?_)
        refine i_aload_n dX0_payDebts_51 rfl ?_
        refine gf_X0_11 rfl (by omega) dX0_payDebts_52 ?_
        refine i_aload_n dX0_payDebts_55 rfl ?_
        refine gf_X0_21 rfl (by omega) dX0_payDebts_56 ?_
        refine i_iload_n dX0_payDebts_59 rfl ?_
        refine al_14 dX0_payDebts_60 (by omega) h (fun j6 lj6 h => ?_)
        refine aa_12 dX0_payDebts_61 (by omega) h (fun j7 lj7 h => ?_)
        refine i_iload_n dX0_payDebts_62 rfl ?_
        refine cVN_vw dX0_payDebts_63 cw_X0_138 ci_X3_receive rfl rfl (by decide) (show (10 * p0 + j7) < 35 by omega) h (fun a3 e => F_X3_receive (by omega) e) (Nat.le_of_ble_eq_true rfl) rfl rfl (Nat.le_of_ble_eq_true rfl) (fun a3 ea3 h => ?_)
        refine i_iinc (v := (v1 + (1 : Int32))) (ls' := [some (rf X 0 p0), some (.int (v1 + (1 : Int32))), some (.int a1)]) dX0_payDebts_66 rfl (by rfl) (by decide) (okp_at rfl) rfl ?_
        refine i_goto (tgt := 2) dX0_payDebts_69 (by decide) ?_
        refine At.fewer (ls' := [some (rf X 0 p0), some (.int (v1 + (1 : Int32))), none]) (And.intro rfl (And.intro rfl trivial)) ?_
        exact ih _ _ h hk
def f_X0_payDebts  (p0 : Nat) (σ : Mem) : Option Mem :=
  (f_X0_payDebts_2 p0 FU (0 : Int32) σ (fun σ_1 => (some σ_1)))
set_option maxRecDepth 100000 in
set_option maxHeartbeats 4000000 in
theorem F_X0_payDebts {X : Cx} {p0 : Nat} {σ : Mem} {res : Mem} (h0 : p0 < 3) (h : f_X0_payDebts p0 σ = some res) : Tri X 3 mX0_payDebts [rf X 0 p0] σ none res := by
  unfold f_X0_payDebts at h
  refine Tri.of (ls := [some (rf X 0 p0), none, none]) (by decide) (Nat.le_of_ble_eq_true rfl) rfl ?_
  refine i_iconst (v := 0) dX0_payDebts_0 (by decide) ?_
  refine i_istore_n (ls' := [some (rf X 0 p0), some (.int (0 : Int32)), none]) dX0_payDebts_1 (by decide) (okp_at rfl) rfl ?_
  refine L_X0_payDebts_2 (by omega) FU _ _ h (fun σ_1 h => ?_)
  exact e_vw rfl dX0_payDebts_72 h
def f_X0_passHour  (p0 : Nat) (σ : Mem) : Option Mem :=
  (bnd (f_X0_callVowsAtNoon p0 (mput σ 0 p0 9 ((σ 0 p0 9) + (1 : Int32)))) (fun a1 => (bnd (f_X0_payDebts p0 a1) (fun a2 => (some a2)))))
set_option maxRecDepth 100000 in
set_option maxHeartbeats 4000000 in
theorem F_X0_passHour {X : Cx} {p0 : Nat} {σ : Mem} {res : Mem} (h0 : p0 < 3) (h : f_X0_passHour p0 σ = some res) : Tri X 5 mX0_passHour [rf X 0 p0] σ none res := by
  unfold f_X0_passHour at h
  refine Tri.of (ls := [some (rf X 0 p0)]) (by decide) (Nat.le_of_ble_eq_true rfl) rfl ?_
  refine i_aload_n dX0_passHour_0 rfl ?_
  refine i_dup dX0_passHour_1 rfl ?_
  refine gf_X0_61 rfl (by omega) dX0_passHour_2 ?_
  refine i_iconst (v := 1) dX0_passHour_5 (by decide) ?_
  refine i_iadd dX0_passHour_6 ?_
  refine pf_X0_61 rfl (by omega) dX0_passHour_7 ?_
  refine i_aload_n dX0_passHour_10 rfl ?_
  refine cV_vw dX0_passHour_11 cw_X0_123 ci_X0_callVowsAtNoon rfl rfl (by decide) (show p0 < 3 by omega) h (fun a1 e => F_X0_callVowsAtNoon (by omega) e) (Nat.le_of_ble_eq_true rfl) rfl rfl (Nat.le_of_ble_eq_true rfl) (fun a1 ea1 h => ?_)
  refine i_aload_n dX0_passHour_14 rfl ?_
  refine cV_vw dX0_passHour_15 cw_X0_126 ci_X0_payDebts rfl rfl (by decide) (show p0 < 3 by omega) h (fun a2 e => F_X0_payDebts (by omega) e) (Nat.le_of_ble_eq_true rfl) rfl rfl (Nat.le_of_ble_eq_true rfl) (fun a2 ea2 h => ?_)
  exact e_vw rfl dX0_passHour_18 h
def f_X0_passHours_2 (p0 : Nat) (p1 : Int32) : Nat → Int32 → Mem → (Mem → Option Mem) → Option Mem
  | 0, _, _, _ => none
  | n + 1, v2, σ, k =>
    (if p1 ≤ v2 then (k σ) else (bnd (f_X0_passHour p0 σ) (fun a1 => (f_X0_passHours_2 p0 p1 n (v2 + (1 : Int32)) a1 k))))
set_option maxRecDepth 100000 in
set_option maxHeartbeats 4000000 in
theorem L_X0_passHours_2 {X : Cx} {p0 : Nat} {p1 : Int32} {σ2 : Mem} {k : Mem → Option Mem} (h0 : p0 < 3) : ∀ (n : Nat) (v2 : Int32) (σ : Mem), f_X0_passHours_2 p0 p1 n v2 σ k = some σ2 → (∀ (σ1 : Mem), k σ1 = some σ2 → At X 6 mX0_passHours 17 [none, none, none] [] σ1 none σ2) → At X 6 mX0_passHours 2 [some (rf X 0 p0), some (.int p1), some (.int v2)] [] σ none σ2 := by
  intro n
  induction n with
  | zero =>
    intro v2 σ h
    cases h
  | succ n ih =>
    intro v2 σ h hk
    rw [f_X0_passHours_2.eq_2] at h
    refine i_iload_n dX0_passHours_2 rfl ?_
    refine i_iload_n dX0_passHours_3 rfl ?_
    refine r_icmp_ge (tgt := 17) dX0_passHours_4 (by decide) h (fun c1 h => ?_) (fun c1 h => ?_)
    · refine At.fewer (ls' := [none, none, none]) trivial ?_
      exact hk _ h
    · refine i_aload_n dX0_passHours_7 rfl ?_
      refine cV_vw dX0_passHours_8 cw_X0_120 ci_X0_passHour rfl rfl (by decide) (show p0 < 3 by omega) h (fun a1 e => F_X0_passHour (by omega) e) (Nat.le_of_ble_eq_true rfl) rfl rfl (Nat.le_of_ble_eq_true rfl) (fun a1 ea1 h => ?_)
      refine i_iinc (v := (v2 + (1 : Int32))) (ls' := [some (rf X 0 p0), some (.int p1), some (.int (v2 + (1 : Int32)))]) dX0_passHours_11 rfl (by rfl) (by decide) (okp_at rfl) rfl ?_
      refine i_goto (tgt := 2) dX0_passHours_14 (by decide) ?_
      exact ih _ _ h hk
def f_X0_passHours  (p0 : Nat) (p1 : Int32) (σ : Mem) : Option Mem :=
  (f_X0_passHours_2 p0 p1 FU (0 : Int32) σ (fun σ_1 => (some σ_1)))
set_option maxRecDepth 100000 in
set_option maxHeartbeats 4000000 in
theorem F_X0_passHours {X : Cx} {p0 : Nat} {p1 : Int32} {σ : Mem} {res : Mem} (h0 : p0 < 3) (h : f_X0_passHours p0 p1 σ = some res) : Tri X 6 mX0_passHours [rf X 0 p0, .int p1] σ none res := by
  unfold f_X0_passHours at h
  refine Tri.of (ls := [some (rf X 0 p0), some (.int p1), none]) (by decide) (Nat.le_of_ble_eq_true rfl) rfl ?_
  refine i_iconst (v := 0) dX0_passHours_0 (by decide) ?_
  refine i_istore_n (ls' := [some (rf X 0 p0), some (.int p1), some (.int (0 : Int32))]) dX0_passHours_1 (by decide) (okp_at rfl) rfl ?_
  refine L_X0_passHours_2 (by omega) FU _ _ h (fun σ_1 h => ?_)
  exact e_vw rfl dX0_passHours_17 h
def f_X0_bitsOf_4 (p0 : Nat) (p1g : Nat) (p1i : Nat) (σ : Mem) : Nat → Int32 → Int32 → (Int32 → Option Int32) → Option Int32
  | 0, _, _, _ => none
  | n + 1, v2, v3, k =>
    (if (σ 0 p0 6) ≤ v3 then (k v2) else (bnd (ix (alen p1g) v3) (fun j1 => (f_X0_bitsOf_4 p0 p1g p1i σ n (v2 ||| ((1 : Int32) <<< ((σ p1g p1i j1) &&& (31 : Int32)))) (v3 + (1 : Int32)) k))))
set_option maxRecDepth 100000 in
set_option maxHeartbeats 4000000 in
theorem L_X0_bitsOf_4 {X : Cx} {p0 : Nat} {p1g : Nat} {p1i : Nat} {σ : Mem} {r0 : Int32} {k : Int32 → Option Int32} (h0 : p0 < 3) (h1g : 9 ≤ p1g ∧ p1g < 42) (h1k : ak p1g = 1) (h1i : p1i < cnt p1g) : ∀ (n : Nat) (v2 : Int32) (v3 : Int32), f_X0_bitsOf_4 p0 p1g p1i σ n v2 v3 k = some r0 → (∀ (x2 : Int32), k x2 = some r0 → At X 1 mX0_bitsOf 26 [none, none, some (.int x2), none] [] σ (some (.int r0)) σ) → At X 1 mX0_bitsOf 4 [some (rf X 0 p0), some (rf X p1g p1i), some (.int v2), some (.int v3)] [] σ (some (.int r0)) σ := by
  intro n
  induction n with
  | zero =>
    intro v2 v3 h
    cases h
  | succ n ih =>
    intro v2 v3 h hk
    rw [f_X0_bitsOf_4.eq_2] at h
    refine i_iload_n dX0_bitsOf_4 rfl ?_
    refine i_aload_n dX0_bitsOf_5 rfl ?_
    refine gf_X0_46 rfl (by omega) dX0_bitsOf_6 ?_
    refine r_icmp_ge (tgt := 26) dX0_bitsOf_9 (by decide) h (fun c1 h => ?_) (fun c1 h => ?_)
    · refine At.fewer (ls' := [none, none, some (.int v2), none]) (And.intro rfl trivial) ?_
      exact hk _ h
    · refine i_iload_n dX0_bitsOf_12 rfl ?_
      refine i_iconst (v := 1) dX0_bitsOf_13 (by decide) ?_
      refine i_aload_n dX0_bitsOf_14 rfl ?_
      refine i_iload_n dX0_bitsOf_15 rfl ?_
      refine r_iald dX0_bitsOf_16 h1g h1k rfl h1i h (fun j1 lj1 h => ?_)
      refine i_ishl dX0_bitsOf_17 ?_
      refine i_ior dX0_bitsOf_18 ?_
      refine i_istore_n (ls' := [some (rf X 0 p0), some (rf X p1g p1i), some (.int (v2 ||| ((1 : Int32) <<< ((σ p1g p1i j1) &&& (31 : Int32))))), some (.int v3)]) dX0_bitsOf_19 (by decide) (okp_at rfl) rfl ?_
      refine i_iinc (v := (v3 + (1 : Int32))) (ls' := [some (rf X 0 p0), some (rf X p1g p1i), some (.int (v2 ||| ((1 : Int32) <<< ((σ p1g p1i j1) &&& (31 : Int32))))), some (.int (v3 + (1 : Int32)))]) dX0_bitsOf_20 rfl (by rfl) (by decide) (okp_at rfl) rfl ?_
      refine i_goto (tgt := 4) dX0_bitsOf_23 (by decide) ?_
      exact ih _ _ h hk
def f_X0_bitsOf  (p0 : Nat) (p1g : Nat) (p1i : Nat) (σ : Mem) : Option Int32 :=
  (f_X0_bitsOf_4 p0 p1g p1i σ FU (0 : Int32) (0 : Int32) (fun e1 => (some e1)))
set_option maxRecDepth 100000 in
set_option maxHeartbeats 4000000 in
theorem F_X0_bitsOf {X : Cx} {p0 : Nat} {p1g : Nat} {p1i : Nat} {σ : Mem} {res : Int32} (h0 : p0 < 3) (h1g : 9 ≤ p1g ∧ p1g < 42) (h1k : ak p1g = 1) (h1i : p1i < cnt p1g) (h : f_X0_bitsOf p0 p1g p1i σ = some res) : Tri X 1 mX0_bitsOf [rf X 0 p0, rf X p1g p1i] σ (some (.int res)) σ := by
  unfold f_X0_bitsOf at h
  refine Tri.of (ls := [some (rf X 0 p0), some (rf X p1g p1i), none, none]) (by decide) (Nat.le_of_ble_eq_true rfl) rfl ?_
  refine i_iconst (v := 0) dX0_bitsOf_0 (by decide) ?_
  refine i_istore_n (ls' := [some (rf X 0 p0), some (rf X p1g p1i), some (.int (0 : Int32)), none]) dX0_bitsOf_1 (by decide) (okp_at rfl) rfl ?_
  refine i_iconst (v := 0) dX0_bitsOf_2 (by decide) ?_
  refine i_istore_n (ls' := [some (rf X 0 p0), some (rf X p1g p1i), some (.int (0 : Int32)), some (.int (0 : Int32))]) dX0_bitsOf_3 (by decide) (okp_at rfl) rfl ?_
  refine L_X0_bitsOf_4 (by omega) h1g h1k h1i FU _ _ h (fun e1 h => ?_)
  refine i_iload_n dX0_bitsOf_26 rfl ?_
  exact e_ir rfl dX0_bitsOf_27 h
def f_X0_givers  (p0 : Nat) (σ : Mem) : Option Int32 :=
  (bnd (f_X0_bitsOf p0 13 p0 σ) (fun a1 => (some a1)))
set_option maxRecDepth 100000 in
set_option maxHeartbeats 4000000 in
theorem F_X0_givers {X : Cx} {p0 : Nat} {σ : Mem} {res : Int32} (h0 : p0 < 3) (h : f_X0_givers p0 σ = some res) : Tri X 2 mX0_givers [rf X 0 p0] σ (some (.int res)) σ := by
  unfold f_X0_givers at h
  refine Tri.of (ls := [some (rf X 0 p0)]) (by decide) (Nat.le_of_ble_eq_true rfl) rfl ?_
  refine i_aload_n dX0_givers_0 rfl ?_
  refine i_aload_n dX0_givers_1 rfl ?_
  refine gf_X0_17 rfl (by omega) dX0_givers_2 ?_
  refine cV_ir dX0_givers_5 cw_X0_141 ci_X0_bitsOf rfl rfl (by decide) (show p0 < 3 by omega) h (fun a1 e => F_X0_bitsOf (by omega) (by decide) rfl (show p0 < 3 by omega) e) (Nat.le_of_ble_eq_true rfl) rfl rfl (Nat.le_of_ble_eq_true rfl) (fun a1 ea1 h => ?_)
  exact e_ir rfl dX0_givers_8 h
def f_X0_takers  (p0 : Nat) (σ : Mem) : Option Int32 :=
  (bnd (f_X0_bitsOf p0 14 p0 σ) (fun a1 => (some a1)))
set_option maxRecDepth 100000 in
set_option maxHeartbeats 4000000 in
theorem F_X0_takers {X : Cx} {p0 : Nat} {σ : Mem} {res : Int32} (h0 : p0 < 3) (h : f_X0_takers p0 σ = some res) : Tri X 2 mX0_takers [rf X 0 p0] σ (some (.int res)) σ := by
  unfold f_X0_takers at h
  refine Tri.of (ls := [some (rf X 0 p0)]) (by decide) (Nat.le_of_ble_eq_true rfl) rfl ?_
  refine i_aload_n dX0_takers_0 rfl ?_
  refine i_aload_n dX0_takers_1 rfl ?_
  refine gf_X0_21 rfl (by omega) dX0_takers_2 ?_
  refine cV_ir dX0_takers_5 cw_X0_141 ci_X0_bitsOf rfl rfl (by decide) (show p0 < 3 by omega) h (fun a1 e => F_X0_bitsOf (by omega) (by decide) rfl (show p0 < 3 by omega) e) (Nat.le_of_ble_eq_true rfl) rfl rfl (Nat.le_of_ble_eq_true rfl) (fun a1 ea1 h => ?_)
  exact e_ir rfl dX0_takers_8 h
def f_X0_longestChainFrom_5 (rec : Nat → Int32 → Int32 → Mem → Option Int32) (p0 : Nat) (p1 : Int32) (p2 : Int32) (σ : Mem) : Nat → Int32 → Int32 → (Int32 → Option Int32) → Option Int32
  | 0, _, _, _ => none
  | n + 1, v3, v4, k =>
    (if (σ 0 p0 6) ≤ v4 then (k v3) else (bnd (ix 17 v4) (fun j1 => (bnd (ix 17 v4) (fun j2 => (if (σ 13 p0 j2) = p1 then (if (p2 &&& ((1 : Int32) <<< ((σ 14 p0 j1) &&& (31 : Int32)))) = 0 then (bnd (rec p0 (σ 14 p0 j1) (p2 ||| ((1 : Int32) <<< ((σ 14 p0 j1) &&& (31 : Int32)))) σ) (fun a1 => (f_X0_longestChainFrom_5 rec p0 p1 p2 σ n (if v3 < ((1 : Int32) + a1) then ((1 : Int32) + a1) else v3) (v4 + (1 : Int32)) k))) else (f_X0_longestChainFrom_5 rec p0 p1 p2 σ n v3 (v4 + (1 : Int32)) k)) else (f_X0_longestChainFrom_5 rec p0 p1 p2 σ n v3 (v4 + (1 : Int32)) k)))))))
set_option maxRecDepth 100000 in
set_option maxHeartbeats 4000000 in
theorem L_X0_longestChainFrom_5 {X : Cx} {D : Nat} {rec : Nat → Int32 → Int32 → Mem → Option Int32} {p0 : Nat} {p1 : Int32} {p2 : Int32} {σ : Mem} {r0 : Int32} {k : Int32 → Option Int32} (hD : 0 ≤ D) (hrec : ∀ p0 p1 p2 σ a, p0 < 3 → rec p0 p1 p2 σ = some a → Tri X D mX0_longestChainFrom [rf X 0 p0, .int p1, .int p2] σ (some (.int a)) σ) (h0 : p0 < 3) : ∀ (n : Nat) (v3 : Int32) (v4 : Int32), f_X0_longestChainFrom_5 rec p0 p1 p2 σ n v3 v4 k = some r0 → (∀ (x3 : Int32), k x3 = some r0 → At X (D + 1) mX0_longestChainFrom 68 [none, none, none, some (.int x3), none, none] [] σ (some (.int r0)) σ) → At X (D + 1) mX0_longestChainFrom 5 [some (rf X 0 p0), some (.int p1), some (.int p2), some (.int v3), some (.int v4), none] [] σ (some (.int r0)) σ := by
  intro n
  induction n with
  | zero =>
    intro v3 v4 h
    cases h
  | succ n ih =>
    intro v3 v4 h hk
    rw [f_X0_longestChainFrom_5.eq_2] at h
    refine i_iload dX0_longestChainFrom_5 rfl ?_
    refine i_aload_n dX0_longestChainFrom_7 rfl ?_
    refine gf_X0_46 rfl (by omega) dX0_longestChainFrom_8 ?_
    refine r_icmp_ge (tgt := 68) dX0_longestChainFrom_11 (by decide) h (fun c1 h => ?_) (fun c1 h => ?_)
    · refine At.fewer (ls' := [none, none, none, some (.int v3), none, none]) (And.intro rfl trivial) ?_
      exact hk _ h
    · refine i_aload_n dX0_longestChainFrom_14 rfl ?_
      refine gf_X0_21 rfl (by omega) dX0_longestChainFrom_15 ?_
      refine i_iload dX0_longestChainFrom_18 rfl ?_
      refine al_14 dX0_longestChainFrom_20 (by omega) h (fun j1 lj1 h => ?_)
      refine i_istore (ls' := [some (rf X 0 p0), some (.int p1), some (.int p2), some (.int v3), some (.int v4), some (.int (σ 14 p0 j1))]) dX0_longestChainFrom_21 (by decide) (okp_at rfl) rfl ?_
      refine i_aload_n dX0_longestChainFrom_23 rfl ?_
      refine gf_X0_17 rfl (by omega) dX0_longestChainFrom_24 ?_
      refine i_iload dX0_longestChainFrom_27 rfl ?_
      refine al_13 dX0_longestChainFrom_29 (by omega) h (fun j2 lj2 h => ?_)
      refine i_iload_n dX0_longestChainFrom_30 rfl ?_
      refine r_icmp_ne (tgt := 62) dX0_longestChainFrom_31 (by decide) h (fun c2 h => ?_) (fun c2 h => ?_)
      · refine i_iinc (v := (v4 + (1 : Int32))) (ls' := [some (rf X 0 p0), some (.int p1), some (.int p2), some (.int v3), some (.int (v4 + (1 : Int32))), some (.int (σ 14 p0 j1))]) dX0_longestChainFrom_62 rfl (by rfl) (by decide) (okp_at rfl) rfl ?_
        refine i_goto (tgt := 5) dX0_longestChainFrom_65 (by decide) ?_
        refine At.fewer (ls' := [some (rf X 0 p0), some (.int p1), some (.int p2), some (.int v3), some (.int (v4 + (1 : Int32))), none]) (And.intro rfl (And.intro rfl (And.intro rfl (And.intro rfl (And.intro rfl trivial))))) ?_
        exact ih _ _ h hk
      · refine i_iload_n dX0_longestChainFrom_34 rfl ?_
        refine i_iconst (v := 1) dX0_longestChainFrom_35 (by decide) ?_
        refine i_iload dX0_longestChainFrom_36 rfl ?_
        refine i_ishl dX0_longestChainFrom_38 ?_
        refine i_iand dX0_longestChainFrom_39 ?_
        refine r_if_ne (tgt := 62) dX0_longestChainFrom_40 (by decide) h (fun c3 h => ?_) (fun c3 h => ?_)
        · refine i_iinc (v := (v4 + (1 : Int32))) (ls' := [some (rf X 0 p0), some (.int p1), some (.int p2), some (.int v3), some (.int (v4 + (1 : Int32))), some (.int (σ 14 p0 j1))]) dX0_longestChainFrom_62 rfl (by rfl) (by decide) (okp_at rfl) rfl ?_
          refine i_goto (tgt := 5) dX0_longestChainFrom_65 (by decide) ?_
          refine At.fewer (ls' := [some (rf X 0 p0), some (.int p1), some (.int p2), some (.int v3), some (.int (v4 + (1 : Int32))), none]) (And.intro rfl (And.intro rfl (And.intro rfl (And.intro rfl (And.intro rfl trivial))))) ?_
          exact ih _ _ h hk
        · refine i_iload_n dX0_longestChainFrom_43 rfl ?_
          refine i_iconst (v := 1) dX0_longestChainFrom_44 (by decide) ?_
          refine i_aload_n dX0_longestChainFrom_45 rfl ?_
          refine i_iload dX0_longestChainFrom_46 rfl ?_
          refine i_iload_n dX0_longestChainFrom_48 rfl ?_
          refine i_iconst (v := 1) dX0_longestChainFrom_49 (by decide) ?_
          refine i_iload dX0_longestChainFrom_50 rfl ?_
          refine i_ishl dX0_longestChainFrom_52 ?_
          refine i_ior dX0_longestChainFrom_53 ?_
          refine cS_ir dX0_longestChainFrom_54 cw_X0_145 ci_X0_longestChainFrom h (fun a1 e => hrec _ _ _ _ a1 (by omega) e) (by omega) rfl rfl (Nat.le_of_ble_eq_true rfl) (fun a1 ea1 h => ?_)
          refine i_iadd dX0_longestChainFrom_57 ?_
          refine i_mmax dX0_longestChainFrom_58 k_X0_101 (by omega) (Nat.le_of_ble_eq_true rfl) ?_
          refine i_istore_n (ls' := [some (rf X 0 p0), some (.int p1), some (.int p2), some (.int (if v3 < ((1 : Int32) + a1) then ((1 : Int32) + a1) else v3)), some (.int v4), some (.int (σ 14 p0 j1))]) dX0_longestChainFrom_61 (by decide) (okp_at rfl) rfl ?_
          refine i_iinc (v := (v4 + (1 : Int32))) (ls' := [some (rf X 0 p0), some (.int p1), some (.int p2), some (.int (if v3 < ((1 : Int32) + a1) then ((1 : Int32) + a1) else v3)), some (.int (v4 + (1 : Int32))), some (.int (σ 14 p0 j1))]) dX0_longestChainFrom_62 rfl (by rfl) (by decide) (okp_at rfl) rfl ?_
          refine i_goto (tgt := 5) dX0_longestChainFrom_65 (by decide) ?_
          refine At.fewer (ls' := [some (rf X 0 p0), some (.int p1), some (.int p2), some (.int (if v3 < ((1 : Int32) + a1) then ((1 : Int32) + a1) else v3)), some (.int (v4 + (1 : Int32))), none]) (And.intro rfl (And.intro rfl (And.intro rfl (And.intro rfl (And.intro rfl trivial))))) ?_
          exact ih _ _ h hk
def f_X0_longestChainFrom (rec : Nat → Int32 → Int32 → Mem → Option Int32) (p0 : Nat) (p1 : Int32) (p2 : Int32) (σ : Mem) : Option Int32 :=
  (f_X0_longestChainFrom_5 rec p0 p1 p2 σ FU (0 : Int32) (0 : Int32) (fun e1 => (some e1)))
set_option maxRecDepth 100000 in
set_option maxHeartbeats 4000000 in
theorem F_X0_longestChainFrom {X : Cx} {D : Nat} {rec : Nat → Int32 → Int32 → Mem → Option Int32} {p0 : Nat} {p1 : Int32} {p2 : Int32} {σ : Mem} {res : Int32} (hD : 0 ≤ D) (hrec : ∀ p0 p1 p2 σ a, p0 < 3 → rec p0 p1 p2 σ = some a → Tri X D mX0_longestChainFrom [rf X 0 p0, .int p1, .int p2] σ (some (.int a)) σ) (h0 : p0 < 3) (h : f_X0_longestChainFrom rec p0 p1 p2 σ = some res) : Tri X (D + 1) mX0_longestChainFrom [rf X 0 p0, .int p1, .int p2] σ (some (.int res)) σ := by
  unfold f_X0_longestChainFrom at h
  refine Tri.of (ls := [some (rf X 0 p0), some (.int p1), some (.int p2), none, none, none]) (by decide) (Nat.le_of_ble_eq_true rfl) rfl ?_
  refine i_iconst (v := 0) dX0_longestChainFrom_0 (by decide) ?_
  refine i_istore_n (ls' := [some (rf X 0 p0), some (.int p1), some (.int p2), some (.int (0 : Int32)), none, none]) dX0_longestChainFrom_1 (by decide) (okp_at rfl) rfl ?_
  refine i_iconst (v := 0) dX0_longestChainFrom_2 (by decide) ?_
  refine i_istore (ls' := [some (rf X 0 p0), some (.int p1), some (.int p2), some (.int (0 : Int32)), some (.int (0 : Int32)), none]) dX0_longestChainFrom_3 (by decide) (okp_at rfl) rfl ?_
  refine L_X0_longestChainFrom_5 hD hrec (by omega) FU _ _ h (fun e1 h => ?_)
  refine i_iload_n dX0_longestChainFrom_68 rfl ?_
  exact e_ir rfl dX0_longestChainFrom_69 h
def S_c : Nat → Nat → Int32 → Int32 → Mem → Option Int32
  | 0, _, _, _, _ => none
  | n + 1, p0, p1, p2, σ => f_X0_longestChainFrom (S_c n) p0 p1 p2 σ
theorem FSn_c {X : Cx} : ∀ (n p0 : Nat) (p1 p2 : Int32) (σ : Mem) (a : Int32), p0 < 3 → S_c n p0 p1 p2 σ = some a → Tri X (0 + n) mX0_longestChainFrom [rf X 0 p0, .int p1, .int p2] σ (some (.int a)) σ := by
  intro n
  induction n with
  | zero => intro p0 p1 p2 σ a _ h; cases h
  | succ n ih =>
    intro p0 p1 p2 σ a h0 h
    exact F_X0_longestChainFrom (D := 0 + n) (Nat.le_add_right _ _) (fun p0 p1 p2 σ a => ih p0 p1 p2 σ a) h0 h
theorem FS_X0_longestChainFrom {X : Cx} {p0 : Nat} {p1 p2 : Int32} {σ : Mem} {a : Int32} (h0 : p0 < 3) (h : S_c 12 p0 p1 p2 σ = some a) : Tri X 12 mX0_longestChainFrom [rf X 0 p0, .int p1, .int p2] σ (some (.int a)) σ := FSn_c 12 p0 p1 p2 σ a h0 h
def f_X0_longestChain_4 (p0 : Nat) (σ : Mem) : Nat → Int32 → Int32 → (Int32 → Option Int32) → Option Int32
  | 0, _, _, _ => none
  | n + 1, v1, v2, k =>
    (if (σ 0 p0 2) ≤ v2 then (k v1) else (bnd (S_c 12 p0 v2 ((1 : Int32) <<< (v2 &&& (31 : Int32))) σ) (fun a1 => (f_X0_longestChain_4 p0 σ n (if v1 < a1 then a1 else v1) (v2 + (1 : Int32)) k))))
set_option maxRecDepth 100000 in
set_option maxHeartbeats 4000000 in
theorem L_X0_longestChain_4 {X : Cx} {p0 : Nat} {σ : Mem} {r0 : Int32} {k : Int32 → Option Int32} (h0 : p0 < 3) : ∀ (n : Nat) (v1 : Int32) (v2 : Int32), f_X0_longestChain_4 p0 σ n v1 v2 k = some r0 → (∀ (x1 : Int32), k x1 = some r0 → At X 14 mX0_longestChain 31 [none, some (.int x1), none] [] σ (some (.int r0)) σ) → At X 14 mX0_longestChain 4 [some (rf X 0 p0), some (.int v1), some (.int v2)] [] σ (some (.int r0)) σ := by
  intro n
  induction n with
  | zero =>
    intro v1 v2 h
    cases h
  | succ n ih =>
    intro v1 v2 h hk
    rw [f_X0_longestChain_4.eq_2] at h
    refine i_iload_n dX0_longestChain_4 rfl ?_
    refine i_aload_n dX0_longestChain_5 rfl ?_
    refine gf_X0_39 rfl (by omega) dX0_longestChain_6 ?_
    refine r_icmp_ge (tgt := 31) dX0_longestChain_9 (by decide) h (fun c1 h => ?_) (fun c1 h => ?_)
    · refine At.fewer (ls' := [none, some (.int v1), none]) (And.intro rfl trivial) ?_
      exact hk _ h
    · refine i_iload_n dX0_longestChain_12 rfl ?_
      refine i_aload_n dX0_longestChain_13 rfl ?_
      refine i_iload_n dX0_longestChain_14 rfl ?_
      refine i_iconst (v := 1) dX0_longestChain_15 (by decide) ?_
      refine i_iload_n dX0_longestChain_16 rfl ?_
      refine i_ishl dX0_longestChain_17 ?_
      refine cS_ir dX0_longestChain_18 cw_X0_145 ci_X0_longestChainFrom h (fun a1 e => FS_X0_longestChainFrom (by omega) e) (Nat.le_of_ble_eq_true rfl) rfl rfl (Nat.le_of_ble_eq_true rfl) (fun a1 ea1 h => ?_)
      refine i_mmax dX0_longestChain_21 k_X0_101 (by omega) (Nat.le_of_ble_eq_true rfl) ?_
      refine i_istore_n (ls' := [some (rf X 0 p0), some (.int (if v1 < a1 then a1 else v1)), some (.int v2)]) dX0_longestChain_24 (by decide) (okp_at rfl) rfl ?_
      refine i_iinc (v := (v2 + (1 : Int32))) (ls' := [some (rf X 0 p0), some (.int (if v1 < a1 then a1 else v1)), some (.int (v2 + (1 : Int32)))]) dX0_longestChain_25 rfl (by rfl) (by decide) (okp_at rfl) rfl ?_
      refine i_goto (tgt := 4) dX0_longestChain_28 (by decide) ?_
      exact ih _ _ h hk
def f_X0_longestChain  (p0 : Nat) (σ : Mem) : Option Int32 :=
  (f_X0_longestChain_4 p0 σ FU (0 : Int32) (0 : Int32) (fun e1 => (some e1)))
set_option maxRecDepth 100000 in
set_option maxHeartbeats 4000000 in
theorem F_X0_longestChain {X : Cx} {p0 : Nat} {σ : Mem} {res : Int32} (h0 : p0 < 3) (h : f_X0_longestChain p0 σ = some res) : Tri X 14 mX0_longestChain [rf X 0 p0] σ (some (.int res)) σ := by
  unfold f_X0_longestChain at h
  refine Tri.of (ls := [some (rf X 0 p0), none, none]) (by decide) (Nat.le_of_ble_eq_true rfl) rfl ?_
  refine i_iconst (v := 0) dX0_longestChain_0 (by decide) ?_
  refine i_istore_n (ls' := [some (rf X 0 p0), some (.int (0 : Int32)), none]) dX0_longestChain_1 (by decide) (okp_at rfl) rfl ?_
  refine i_iconst (v := 0) dX0_longestChain_2 (by decide) ?_
  refine i_istore_n (ls' := [some (rf X 0 p0), some (.int (0 : Int32)), some (.int (0 : Int32))]) dX0_longestChain_3 (by decide) (okp_at rfl) rfl ?_
  refine L_X0_longestChain_4 (by omega) FU _ _ h (fun e1 h => ?_)
  refine i_iload_n dX0_longestChain_31 rfl ?_
  exact e_ir rfl dX0_longestChain_32 h
def f_X0_fewestVowsBetween_31 (p0 : Nat) (p2 : Int32) (p3 : Int32) (p4 : Int32) (σ : Mem) : Nat → Int32 → Int32 → (Int32 → Option Int32) → Option Int32
  | 0, _, _, _ => none
  | n + 1, v5, v6, k =>
    (if (σ 0 p0 6) ≤ v6 then (k v5) else (bnd (ix 17 v6) (fun j1 => (if (p3 &&& ((1 : Int32) <<< ((σ 13 p0 j1) &&& (31 : Int32)))) = 0 then (f_X0_fewestVowsBetween_31 p0 p2 p3 p4 σ n v5 (v6 + (1 : Int32)) k) else (bnd (ix 17 v6) (fun j2 => (f_X0_fewestVowsBetween_31 p0 p2 p3 p4 σ n (v5 ||| ((1 : Int32) <<< ((σ 14 p0 j2) &&& (31 : Int32)))) (v6 + (1 : Int32)) k)))))))
set_option maxRecDepth 100000 in
set_option maxHeartbeats 4000000 in
theorem L_X0_fewestVowsBetween_31 {X : Cx} {p0 : Nat} {p2 : Int32} {p3 : Int32} {p4 : Int32} {σ : Mem} {r0 : Int32} {k : Int32 → Option Int32} (h0 : p0 < 3) : ∀ (n : Nat) (v5 : Int32) (v6 : Int32), f_X0_fewestVowsBetween_31 p0 p2 p3 p4 σ n v5 v6 k = some r0 → (∀ (x5 : Int32), k x5 = some r0 → At X 1 mX0_fewestVowsBetween 74 [some (rf X 0 p0), none, some (.int p2), some (.int p3), some (.int p4), some (.int x5), none] [] σ (some (.int r0)) σ) → At X 1 mX0_fewestVowsBetween 31 [some (rf X 0 p0), none, some (.int p2), some (.int p3), some (.int p4), some (.int v5), some (.int v6)] [] σ (some (.int r0)) σ := by
  intro n
  induction n with
  | zero =>
    intro v5 v6 h
    cases h
  | succ n ih =>
    intro v5 v6 h hk
    rw [f_X0_fewestVowsBetween_31.eq_2] at h
    refine i_iload dX0_fewestVowsBetween_31 rfl ?_
    refine i_aload_n dX0_fewestVowsBetween_33 rfl ?_
    refine gf_X0_46 rfl (by omega) dX0_fewestVowsBetween_34 ?_
    refine r_icmp_ge (tgt := 74) dX0_fewestVowsBetween_37 (by decide) h (fun c1 h => ?_) (fun c1 h => ?_)
    · refine At.fewer (ls' := [some (rf X 0 p0), none, some (.int p2), some (.int p3), some (.int p4), some (.int v5), none]) (And.intro rfl (And.intro rfl (And.intro rfl (And.intro rfl (And.intro rfl trivial))))) ?_
      exact hk _ h
    · refine i_iload_n dX0_fewestVowsBetween_40 rfl ?_
      refine i_iconst (v := 1) dX0_fewestVowsBetween_41 (by decide) ?_
      refine i_aload_n dX0_fewestVowsBetween_42 rfl ?_
      refine gf_X0_17 rfl (by omega) dX0_fewestVowsBetween_43 ?_
      refine i_iload dX0_fewestVowsBetween_46 rfl ?_
      refine al_13 dX0_fewestVowsBetween_48 (by omega) h (fun j1 lj1 h => ?_)
      refine i_ishl dX0_fewestVowsBetween_49 ?_
      refine i_iand dX0_fewestVowsBetween_50 ?_
      refine r_if_eq (tgt := 68) dX0_fewestVowsBetween_51 (by decide) h (fun c2 h => ?_) (fun c2 h => ?_)
      · refine i_iinc (v := (v6 + (1 : Int32))) (ls' := [some (rf X 0 p0), none, some (.int p2), some (.int p3), some (.int p4), some (.int v5), some (.int (v6 + (1 : Int32)))]) dX0_fewestVowsBetween_68 rfl (by rfl) (by decide) (okp_at rfl) rfl ?_
        refine i_goto (tgt := 31) dX0_fewestVowsBetween_71 (by decide) ?_
        exact ih _ _ h hk
      · refine i_iload dX0_fewestVowsBetween_54 rfl ?_
        refine i_iconst (v := 1) dX0_fewestVowsBetween_56 (by decide) ?_
        refine i_aload_n dX0_fewestVowsBetween_57 rfl ?_
        refine gf_X0_21 rfl (by omega) dX0_fewestVowsBetween_58 ?_
        refine i_iload dX0_fewestVowsBetween_61 rfl ?_
        refine al_14 dX0_fewestVowsBetween_63 (by omega) h (fun j2 lj2 h => ?_)
        refine i_ishl dX0_fewestVowsBetween_64 ?_
        refine i_ior dX0_fewestVowsBetween_65 ?_
        refine i_istore (ls' := [some (rf X 0 p0), none, some (.int p2), some (.int p3), some (.int p4), some (.int (v5 ||| ((1 : Int32) <<< ((σ 14 p0 j2) &&& (31 : Int32))))), some (.int v6)]) dX0_fewestVowsBetween_66 (by decide) (okp_at rfl) rfl ?_
        refine i_iinc (v := (v6 + (1 : Int32))) (ls' := [some (rf X 0 p0), none, some (.int p2), some (.int p3), some (.int p4), some (.int (v5 ||| ((1 : Int32) <<< ((σ 14 p0 j2) &&& (31 : Int32))))), some (.int (v6 + (1 : Int32)))]) dX0_fewestVowsBetween_68 rfl (by rfl) (by decide) (okp_at rfl) rfl ?_
        refine i_goto (tgt := 31) dX0_fewestVowsBetween_71 (by decide) ?_
        exact ih _ _ h hk
def f_X0_fewestVowsBetween_7 (p0 : Nat) (p2 : Int32) (σ : Mem) : Nat → Int32 → Int32 → (Option Int32) → Option Int32
  | 0, _, _, _ => none
  | n + 1, v3, v4, k =>
    (if (10 : Int32) ≤ v4 then (k) else (if (v3 &&& ((1 : Int32) <<< (p2 &&& (31 : Int32)))) = 0 then (f_X0_fewestVowsBetween_31 p0 p2 v3 v4 σ FU (0 : Int32) (0 : Int32) (fun e1 => (f_X0_fewestVowsBetween_7 p0 p2 σ n (v3 ||| e1) (v4 + (1 : Int32)) k))) else (some v4)))
set_option maxRecDepth 100000 in
set_option maxHeartbeats 4000000 in
theorem L_X0_fewestVowsBetween_7 {X : Cx} {p0 : Nat} {p2 : Int32} {σ : Mem} {r0 : Int32} {k : Option Int32} (h0 : p0 < 3) : ∀ (n : Nat) (v3 : Int32) (v4 : Int32), f_X0_fewestVowsBetween_7 p0 p2 σ n v3 v4 k = some r0 → (k = some r0 → At X 1 mX0_fewestVowsBetween 85 [none, none, none, none, none, none, none] [] σ (some (.int r0)) σ) → At X 1 mX0_fewestVowsBetween 7 [some (rf X 0 p0), none, some (.int p2), some (.int v3), some (.int v4), none, none] [] σ (some (.int r0)) σ := by
  intro n
  induction n with
  | zero =>
    intro v3 v4 h
    cases h
  | succ n ih =>
    intro v3 v4 h hk
    rw [f_X0_fewestVowsBetween_7.eq_2] at h
    refine i_iload dX0_fewestVowsBetween_7 rfl ?_
    refine i_bipush (v := 10) dX0_fewestVowsBetween_9 (by decide) ?_
    refine r_icmp_ge (tgt := 85) dX0_fewestVowsBetween_11 (by decide) h (fun c1 h => ?_) (fun c1 h => ?_)
    · refine At.fewer (ls' := [none, none, none, none, none, none, none]) trivial ?_
      exact hk h
    · refine i_iload_n dX0_fewestVowsBetween_14 rfl ?_
      refine i_iconst (v := 1) dX0_fewestVowsBetween_15 (by decide) ?_
      refine i_iload_n dX0_fewestVowsBetween_16 rfl ?_
      refine i_ishl dX0_fewestVowsBetween_17 ?_
      refine i_iand dX0_fewestVowsBetween_18 ?_
      refine r_if_eq (tgt := 25) dX0_fewestVowsBetween_19 (by decide) h (fun c2 h => ?_) (fun c2 h => ?_)
      · refine i_iconst (v := 0) dX0_fewestVowsBetween_25 (by decide) ?_
        refine i_istore (ls' := [some (rf X 0 p0), none, some (.int p2), some (.int v3), some (.int v4), some (.int (0 : Int32)), none]) dX0_fewestVowsBetween_26 (by decide) (okp_at rfl) rfl ?_
        refine i_iconst (v := 0) dX0_fewestVowsBetween_28 (by decide) ?_
        refine i_istore (ls' := [some (rf X 0 p0), none, some (.int p2), some (.int v3), some (.int v4), some (.int (0 : Int32)), some (.int (0 : Int32))]) dX0_fewestVowsBetween_29 (by decide) (okp_at rfl) rfl ?_
        refine L_X0_fewestVowsBetween_31 (by omega) FU _ _ h (fun e1 h => ?_)
        refine i_iload_n dX0_fewestVowsBetween_74 rfl ?_
        refine i_iload dX0_fewestVowsBetween_75 rfl ?_
        refine i_ior dX0_fewestVowsBetween_77 ?_
        refine i_istore_n (ls' := [some (rf X 0 p0), none, some (.int p2), some (.int (v3 ||| e1)), some (.int v4), some (.int e1), none]) dX0_fewestVowsBetween_78 (by decide) (okp_at rfl) rfl ?_
        refine i_iinc (v := (v4 + (1 : Int32))) (ls' := [some (rf X 0 p0), none, some (.int p2), some (.int (v3 ||| e1)), some (.int (v4 + (1 : Int32))), some (.int e1), none]) dX0_fewestVowsBetween_79 rfl (by rfl) (by decide) (okp_at rfl) rfl ?_
        refine i_goto (tgt := 7) dX0_fewestVowsBetween_82 (by decide) ?_
        refine At.fewer (ls' := [some (rf X 0 p0), none, some (.int p2), some (.int (v3 ||| e1)), some (.int (v4 + (1 : Int32))), none, none]) (And.intro rfl (And.intro rfl (And.intro rfl (And.intro rfl trivial)))) ?_
        exact ih _ _ h hk
      · refine i_iload dX0_fewestVowsBetween_22 rfl ?_
        exact e_ir rfl dX0_fewestVowsBetween_24 h
def f_X0_fewestVowsBetween  (p0 : Nat) (p1 : Int32) (p2 : Int32) (σ : Mem) : Option Int32 :=
  (f_X0_fewestVowsBetween_7 p0 p2 σ FU ((1 : Int32) <<< (p1 &&& (31 : Int32))) (0 : Int32) ((some (-1000000005 : Int32))))
set_option maxRecDepth 100000 in
set_option maxHeartbeats 4000000 in
theorem F_X0_fewestVowsBetween {X : Cx} {p0 : Nat} {p1 : Int32} {p2 : Int32} {σ : Mem} {res : Int32} (h0 : p0 < 3) (h : f_X0_fewestVowsBetween p0 p1 p2 σ = some res) : Tri X 1 mX0_fewestVowsBetween [rf X 0 p0, .int p1, .int p2] σ (some (.int res)) σ := by
  unfold f_X0_fewestVowsBetween at h
  refine Tri.of (ls := [some (rf X 0 p0), some (.int p1), some (.int p2), none, none, none, none]) (by decide) (Nat.le_of_ble_eq_true rfl) rfl ?_
  refine i_iconst (v := 1) dX0_fewestVowsBetween_0 (by decide) ?_
  refine i_iload_n dX0_fewestVowsBetween_1 rfl ?_
  refine i_ishl dX0_fewestVowsBetween_2 ?_
  refine i_istore_n (ls' := [some (rf X 0 p0), some (.int p1), some (.int p2), some (.int ((1 : Int32) <<< (p1 &&& (31 : Int32)))), none, none, none]) dX0_fewestVowsBetween_3 (by decide) (okp_at rfl) rfl ?_
  refine i_iconst (v := 0) dX0_fewestVowsBetween_4 (by decide) ?_
  refine i_istore (ls' := [some (rf X 0 p0), some (.int p1), some (.int p2), some (.int ((1 : Int32) <<< (p1 &&& (31 : Int32)))), some (.int (0 : Int32)), none, none]) dX0_fewestVowsBetween_5 (by decide) (okp_at rfl) rfl ?_
  refine At.fewer (ls' := [some (rf X 0 p0), none, some (.int p2), some (.int ((1 : Int32) <<< (p1 &&& (31 : Int32)))), some (.int (0 : Int32)), none, none]) (And.intro rfl (And.intro rfl (And.intro rfl (And.intro rfl trivial)))) ?_
  refine L_X0_fewestVowsBetween_7 (by omega) FU _ _ h (fun  h => ?_)
  refine i_ldc (v := (-1000000005)) dX0_fewestVowsBetween_85 k_X0_149 ?_
  exact e_ir rfl dX0_fewestVowsBetween_87 h
end
