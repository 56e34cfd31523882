noncomputable section
def f_X7_check_65 (p2 : Int32) (p3 : Int32) : Nat → Int32 → Mem → (Mem → Option (Int32 × Mem)) → Option (Int32 × Mem)
  | 0, _, _, _ => none
  | n + 1, v4, σ, k =>
    (if p3 ≤ v4 then (k σ) else (if (v4 - v4 / (2 : Int32) * (2 : Int32)) = 0 then (bnd (f_X0_passHour 2 σ) (fun a1 => (if p2 ≤ v4 then (some (((1 : Int32) + v4), a1)) else (bnd (ix 60 v4) (fun j2 => (if (a1 18 0 j2) = (a1 0 2 6) then (f_X7_check_65 p2 p3 n (v4 + (1 : Int32)) a1 k) else (some (((1 : Int32) + v4), a1)))))))) else (if p2 ≤ v4 then (some (((1 : Int32) + v4), σ)) else (bnd (ix 60 v4) (fun j1 => (if (σ 18 0 j1) = (σ 0 2 8) then (f_X7_check_65 p2 p3 n (v4 + (1 : Int32)) σ k) else (some (((1 : Int32) + v4), σ))))))))
set_option maxRecDepth 100000 in
set_option maxHeartbeats 4000000 in
theorem L_X7_check_65 {X : Cx} {p2 : Int32} {p3 : Int32} {r0 : Int32} {σ2 : Mem} {k : Mem → Option (Int32 × Mem)}  : ∀ (n : Nat) (v4 : Int32) (σ : Mem), f_X7_check_65 p2 p3 n v4 σ k = some (r0, σ2) → (∀ (σ1 : Mem), k σ1 = some (r0, σ2) → At X 6 mX7_check 146 [none, none, some (.int p2), some (.int p3), none, none] [] σ1 (some (.int r0)) σ2) → At X 6 mX7_check 65 [some (rf X 7 0), none, some (.int p2), some (.int p3), some (.int v4), none] [] σ (some (.int r0)) σ2 := by
  intro n
  induction n with
  | zero =>
    intro v4 σ h
    cases h
  | succ n ih =>
    intro v4 σ h hk
    rw [f_X7_check_65.eq_2] at h
    refine i_iload dX7_check_65 rfl ?_
    refine i_iload_n dX7_check_67 rfl ?_
    refine r_icmp_ge (tgt := 146) dX7_check_68 (by decide) h (fun c1 h => ?_) (fun c1 h => ?_)
    · refine At.fewer (ls' := [none, none, some (.int p2), some (.int p3), none, none]) (And.intro rfl (And.intro rfl trivial)) ?_
      exact hk _ h
    · refine i_iload dX7_check_71 rfl ?_
      refine i_iconst (v := 2) dX7_check_73 (by decide) ?_
      refine i_irem dX7_check_74 (by decide) ?_
      refine r_if_ne (tgt := 82) dX7_check_75 (by decide) h (fun c2 h => ?_) (fun c2 h => ?_)
      · refine i_iconst (v := 0) dX7_check_82 (by decide) ?_
        refine i_istore (ls' := [some (rf X 7 0), none, some (.int p2), some (.int p3), some (.int v4), some (.int (0 : Int32))]) dX7_check_83 (by decide) (okp_at rfl) rfl ?_
        refine i_iload dX7_check_85 rfl ?_
        refine i_if_eq (tgt := 97) dX7_check_87 (by decide) (fun _ => ?_) (fun c => absurd c (by decide))
        refine i_iload dX7_check_97 rfl ?_
        refine i_iload_n dX7_check_99 rfl ?_
        refine r_icmp_ge (tgt := 135) dX7_check_100 (by decide) h (fun c3 h => ?_) (fun c3 h => ?_)
        · refine i_iconst (v := 1) dX7_check_135 (by decide) ?_
          refine i_iload dX7_check_136 rfl ?_
          refine i_iadd dX7_check_138 ?_
          exact e_iw rfl dX7_check_139 h
        · refine i_aload_n dX7_check_103 rfl ?_
          refine gf_X7_44 rfl (by omega) dX7_check_104 ?_
          refine i_iload dX7_check_107 rfl ?_
          refine al_18 dX7_check_109 (by omega) h (fun j1 lj1 h => ?_)
          refine i_iload dX7_check_110 rfl ?_
          refine i_if_eq (tgt := 125) dX7_check_112 (by decide) (fun _ => ?_) (fun c => absurd c (by decide))
          refine i_aload_n dX7_check_125 rfl ?_
          refine gf_X7_28 rfl (by omega) dX7_check_126 ?_
          refine gf_X7_164 rfl (by omega) dX7_check_129 ?_
          refine r_icmp_eq (tgt := 140) dX7_check_132 (by decide) h (fun c4 h => ?_) (fun c4 h => ?_)
          · refine i_iinc (v := (v4 + (1 : Int32))) (ls' := [some (rf X 7 0), none, some (.int p2), some (.int p3), some (.int (v4 + (1 : Int32))), some (.int (0 : Int32))]) dX7_check_140 rfl (by rfl) (by decide) (okp_at rfl) rfl ?_
            refine i_goto (tgt := 65) dX7_check_143 (by decide) ?_
            refine At.fewer (ls' := [some (rf X 7 0), none, some (.int p2), some (.int p3), some (.int (v4 + (1 : Int32))), none]) (And.intro rfl (And.intro rfl (And.intro rfl (And.intro rfl trivial)))) ?_
            exact ih _ _ h hk
          · refine i_iconst (v := 1) dX7_check_135 (by decide) ?_
            refine i_iload dX7_check_136 rfl ?_
            refine i_iadd dX7_check_138 ?_
            exact e_iw rfl dX7_check_139 h
      · refine i_iconst (v := 1) dX7_check_78 (by decide) ?_
        refine i_goto (tgt := 83) dX7_check_79 (by decide) ?_
        refine i_istore (ls' := [some (rf X 7 0), none, some (.int p2), some (.int p3), some (.int v4), some (.int (1 : Int32))]) dX7_check_83 (by decide) (okp_at rfl) rfl ?_
        refine i_iload dX7_check_85 rfl ?_
        refine i_if_eq (tgt := 97) dX7_check_87 (by decide) (fun c => absurd c (by decide)) (fun _ => ?_)
        refine i_aload_n dX7_check_90 rfl ?_
        refine gf_X7_28 rfl (by omega) dX7_check_91 ?_
        refine cVN_vw dX7_check_94 cw_X7_201 ci_X0_passHour rfl rfl (by decide) (show 2 < 3 by omega) h (fun a1 e => F_X0_passHour (by omega) e) (Nat.le_of_ble_eq_true rfl) rfl rfl (Nat.le_of_ble_eq_true rfl) (fun a1 ea1 h => ?_)
        refine i_iload dX7_check_97 rfl ?_
        refine i_iload_n dX7_check_99 rfl ?_
        refine r_icmp_ge (tgt := 135) dX7_check_100 (by decide) h (fun c5 h => ?_) (fun c5 h => ?_)
        · refine i_iconst (v := 1) dX7_check_135 (by decide) ?_
          refine i_iload dX7_check_136 rfl ?_
          refine i_iadd dX7_check_138 ?_
          exact e_iw rfl dX7_check_139 h
        · refine i_aload_n dX7_check_103 rfl ?_
          refine gf_X7_44 rfl (by omega) dX7_check_104 ?_
          refine i_iload dX7_check_107 rfl ?_
          refine al_18 dX7_check_109 (by omega) h (fun j2 lj2 h => ?_)
          refine i_iload dX7_check_110 rfl ?_
          refine i_if_eq (tgt := 125) dX7_check_112 (by decide) (fun c => absurd c (by decide)) (fun _ => ?_)
          refine i_aload_n dX7_check_115 rfl ?_
          refine gf_X7_28 rfl (by omega) dX7_check_116 ?_
          refine gf_X7_140 rfl (by omega) dX7_check_119 ?_
          refine i_goto (tgt := 132) dX7_check_122 (by decide) ?_
          refine r_icmp_eq (tgt := 140) dX7_check_132 (by decide) h (fun c6 h => ?_) (fun c6 h => ?_)
          · refine i_iinc (v := (v4 + (1 : Int32))) (ls' := [some (rf X 7 0), none, some (.int p2), some (.int p3), some (.int (v4 + (1 : Int32))), some (.int (1 : Int32))]) dX7_check_140 rfl (by rfl) (by decide) (okp_at rfl) rfl ?_
            refine i_goto (tgt := 65) dX7_check_143 (by decide) ?_
            refine At.fewer (ls' := [some (rf X 7 0), none, some (.int p2), some (.int p3), some (.int (v4 + (1 : Int32))), none]) (And.intro rfl (And.intro rfl (And.intro rfl (And.intro rfl trivial)))) ?_
            exact ih _ _ h hk
          · refine i_iconst (v := 1) dX7_check_135 (by decide) ?_
            refine i_iload dX7_check_136 rfl ?_
            refine i_iadd dX7_check_138 ?_
            exact e_iw rfl dX7_check_139 h
def f_X7_check  (p1 : Int32) (σ : Mem) : Option (Int32 × Mem) :=
  (bnd (f_X7_isWithin p1 (1 : Int32) (30 : Int32) (mput σ 7 0 9 (0 : Int32))) (fun a1 => (if a1 = 0 then (some ((-1000000001 : Int32), (mput σ 7 0 9 (0 : Int32)))) else (if ((mput σ 7 0 9 (0 : Int32)) 7 0 4) = 0 then (some ((-1000000002 : Int32), (mput σ 7 0 9 (0 : Int32)))) else (bnd (f_X0_becomes 2 1 (mput σ 7 0 9 (0 : Int32))) (fun a2 => (f_X7_check_65 (σ 7 0 9) ((2 : Int32) * (if ((9999 : Int32) - (a2 0 1 9)) < p1 then ((9999 : Int32) - (a2 0 1 9)) else p1)) FU (0 : Int32) a2 (fun σ_1 => (if (σ 7 0 9) = ((2 : Int32) * (if ((9999 : Int32) - (a2 0 1 9)) < p1 then ((9999 : Int32) - (a2 0 1 9)) else p1)) then (some ((0 : Int32), σ_1)) else (some (((1 : Int32) + ((2 : Int32) * (if ((9999 : Int32) - (a2 0 1 9)) < p1 then ((9999 : Int32) - (a2 0 1 9)) else p1))), σ_1)))))))))))
set_option maxRecDepth 100000 in
set_option maxHeartbeats 4000000 in
theorem F_X7_check {X : Cx} {p1 : Int32} {σ : Mem} {res : (Int32 × Mem)}  (h : f_X7_check p1 σ = some res) : Tri X 6 mX7_check [rf X 7 0, .int p1] σ (some (.int res.1)) res.2 := by
  obtain ⟨r0, σ2⟩ := res
  unfold f_X7_check at h
  refine Tri.of (ls := [some (rf X 7 0), some (.int p1), none, none, none, none]) (by decide) (Nat.le_of_ble_eq_true rfl) rfl ?_
  refine i_aload_n dX7_check_0 rfl ?_
  refine gf_X7_308 rfl (by omega) dX7_check_1 ?_
  refine i_istore_n (ls' := [some (rf X 7 0), some (.int p1), some (.int (σ 7 0 9)), none, none, none]) dX7_check_4 (by decide) (okp_at rfl) rfl ?_
  refine i_aload_n dX7_check_5 rfl ?_
  refine i_iconst (v := 0) dX7_check_6 (by decide) ?_
  refine pf_X7_308 rfl (by omega) dX7_check_7 ?_
  refine i_iload_n dX7_check_10 rfl ?_
  refine i_iconst (v := 1) dX7_check_11 (by decide) ?_
  refine i_bipush (v := 30) dX7_check_12 (by decide) ?_
  refine cS_ir dX7_check_14 cw_X7_62 ci_X7_isWithin h (fun a1 e => F_X7_isWithin  e) (Nat.le_of_ble_eq_true rfl) rfl rfl (Nat.le_of_ble_eq_true rfl) (fun a1 ea1 h => ?_)
  refine r_if_ne (tgt := 23) dX7_check_17 (by decide) h (fun c1 h => ?_) (fun c1 h => ?_)
  · refine i_aload_n dX7_check_23 rfl ?_
    refine gf_X7_311 rfl (by omega) dX7_check_24 ?_
    refine r_if_ne (tgt := 33) dX7_check_27 (by decide) h (fun c2 h => ?_) (fun c2 h => ?_)
    · refine i_aload_n dX7_check_33 rfl ?_
      refine gf_X7_28 rfl (by omega) dX7_check_34 ?_
      refine i_aload_n dX7_check_37 rfl ?_
      refine gf_X7_25 rfl (by omega) dX7_check_38 ?_
      refine cVN_vw dX7_check_41 cw_X7_197 ci_X0_becomes rfl rfl (by decide) (show 2 < 3 by omega) h (fun a2 e => F_X0_becomes (by omega) (by omega) e) (Nat.le_of_ble_eq_true rfl) rfl rfl (Nat.le_of_ble_eq_true rfl) (fun a2 ea2 h => ?_)
      refine i_iconst (v := 2) dX7_check_44 (by decide) ?_
      refine i_iload_n dX7_check_45 rfl ?_
      refine i_sipush (v := 9999) dX7_check_46 (by decide) ?_
      refine i_aload_n dX7_check_49 rfl ?_
      refine gf_X7_25 rfl (by omega) dX7_check_50 ?_
      refine gf_X7_132 rfl (by omega) dX7_check_53 ?_
      refine i_isub dX7_check_56 ?_
      refine i_mmin dX7_check_57 k_X7_167 (by omega) (Nat.le_of_ble_eq_true rfl) ?_
      refine i_imul dX7_check_60 ?_
      refine i_istore_n (ls' := [some (rf X 7 0), some (.int p1), some (.int (σ 7 0 9)), some (.int ((2 : Int32) * (if ((9999 : Int32) - (a2 0 1 9)) < p1 then ((9999 : Int32) - (a2 0 1 9)) else p1))), none, none]) dX7_check_61 (by decide) (okp_at rfl) rfl ?_
      refine i_iconst (v := 0) dX7_check_62 (by decide) ?_
      refine i_istore (ls' := [some (rf X 7 0), some (.int p1), some (.int (σ 7 0 9)), some (.int ((2 : Int32) * (if ((9999 : Int32) - (a2 0 1 9)) < p1 then ((9999 : Int32) - (a2 0 1 9)) else p1))), some (.int (0 : Int32)), none]) dX7_check_63 (by decide) (okp_at rfl) rfl ?_
      refine At.fewer (ls' := [some (rf X 7 0), none, some (.int (σ 7 0 9)), some (.int ((2 : Int32) * (if ((9999 : Int32) - (a2 0 1 9)) < p1 then ((9999 : Int32) - (a2 0 1 9)) else p1))), some (.int (0 : Int32)), none]) (And.intro rfl (And.intro rfl (And.intro rfl (And.intro rfl trivial)))) ?_
      refine L_X7_check_65  FU _ _ h (fun σ_1 h => ?_)
      refine i_iload_n dX7_check_146 rfl ?_
      refine i_iload_n dX7_check_147 rfl ?_
      refine r_icmp_ne (tgt := 155) dX7_check_148 (by decide) h (fun c3 h => ?_) (fun c3 h => ?_)
      · refine i_iconst (v := 1) dX7_check_155 (by decide) ?_
        refine i_iload_n dX7_check_156 rfl ?_
        refine i_iadd dX7_check_157 ?_
        exact e_iw rfl dX7_check_158 h
      · refine i_iconst (v := 0) dX7_check_151 (by decide) ?_
        refine i_goto (tgt := 158) dX7_check_152 (by decide) ?_
        exact e_iw rfl dX7_check_158 h
    · refine i_ldc (v := (-1000000002)) dX7_check_30 k_X7_128 ?_
      exact e_iw rfl dX7_check_32 h
  · refine i_ldc (v := (-1000000001)) dX7_check_20 k_X7_66 ?_
    exact e_iw rfl dX7_check_22 h
def f_X7_keep   (σ : Mem) : Option (Int32 × Mem) :=
  (bnd (f_X0_becomes 1 0 σ) (fun a1 => (some (((mput a1 7 0 4 (1 : Int32)) 0 1 2), (mput a1 7 0 4 (1 : Int32))))))
set_option maxRecDepth 100000 in
set_option maxHeartbeats 4000000 in
theorem F_X7_keep {X : Cx}  {σ : Mem} {res : (Int32 × Mem)}  (h : f_X7_keep σ = some res) : Tri X 3 mX7_keep [rf X 7 0] σ (some (.int res.1)) res.2 := by
  obtain ⟨r0, σ2⟩ := res
  unfold f_X7_keep at h
  refine Tri.of (ls := [some (rf X 7 0)]) (by decide) (Nat.le_of_ble_eq_true rfl) rfl ?_
  refine i_aload_n dX7_keep_0 rfl ?_
  refine gf_X7_25 rfl (by omega) dX7_keep_1 ?_
  refine i_aload_n dX7_keep_4 rfl ?_
  refine gf_X7_21 rfl (by omega) dX7_keep_5 ?_
  refine cVN_vw dX7_keep_8 cw_X7_197 ci_X0_becomes rfl rfl (by decide) (show 1 < 3 by omega) h (fun a1 e => F_X0_becomes (by omega) (by omega) e) (Nat.le_of_ble_eq_true rfl) rfl rfl (Nat.le_of_ble_eq_true rfl) (fun a1 ea1 h => ?_)
  refine i_aload_n dX7_keep_11 rfl ?_
  refine i_iconst (v := 1) dX7_keep_12 (by decide) ?_
  refine pf_X7_311 rfl (by omega) (by decide) dX7_keep_13 ?_
  refine i_aload_n dX7_keep_16 rfl ?_
  refine gf_X7_25 rfl (by omega) dX7_keep_17 ?_
  refine gf_X7_67 rfl (by omega) dX7_keep_20 ?_
  exact e_iw rfl dX7_keep_23 h
def f_X7_back   (σ : Mem) : Option (Int32 × Mem) :=
  (if (σ 7 0 4) = 0 then (some ((-1000000002 : Int32), σ)) else (bnd (f_X0_becomes 0 1 σ) (fun a1 => (some ((a1 0 0 2), a1)))))
set_option maxRecDepth 100000 in
set_option maxHeartbeats 4000000 in
theorem F_X7_back {X : Cx}  {σ : Mem} {res : (Int32 × Mem)}  (h : f_X7_back σ = some res) : Tri X 3 mX7_back [rf X 7 0] σ (some (.int res.1)) res.2 := by
  obtain ⟨r0, σ2⟩ := res
  unfold f_X7_back at h
  refine Tri.of (ls := [some (rf X 7 0)]) (by decide) (Nat.le_of_ble_eq_true rfl) rfl ?_
  refine i_aload_n dX7_back_0 rfl ?_
  refine gf_X7_311 rfl (by omega) dX7_back_1 ?_
  refine r_if_ne (tgt := 10) dX7_back_4 (by decide) h (fun c1 h => ?_) (fun c1 h => ?_)
  · refine i_aload_n dX7_back_10 rfl ?_
    refine gf_X7_21 rfl (by omega) dX7_back_11 ?_
    refine i_aload_n dX7_back_14 rfl ?_
    refine gf_X7_25 rfl (by omega) dX7_back_15 ?_
    refine cVN_vw dX7_back_18 cw_X7_197 ci_X0_becomes rfl rfl (by decide) (show 0 < 3 by omega) h (fun a1 e => F_X0_becomes (by omega) (by omega) e) (Nat.le_of_ble_eq_true rfl) rfl rfl (Nat.le_of_ble_eq_true rfl) (fun a1 ea1 h => ?_)
    refine i_aload_n dX7_back_21 rfl ?_
    refine gf_X7_21 rfl (by omega) dX7_back_22 ?_
    refine gf_X7_67 rfl (by omega) dX7_back_25 ?_
    exact e_iw rfl dX7_back_28 h
  · refine i_ldc (v := (-1000000002)) dX7_back_7 k_X7_128 ?_
    exact e_iw rfl dX7_back_9 h
def f_X7_count  (p1 : Int32) (σ : Mem) : Option Int32 :=
  (if p1 = (0 : Int32) then (some (σ 0 0 2)) else (if p1 = (1 : Int32) then (some (σ 0 0 6)) else (if p1 = (2 : Int32) then (some (σ 0 0 9)) else (if p1 = (3 : Int32) then (bnd (f_X0_struckCount 0 σ) (fun a1 => (some a1))) else (if p1 = (4 : Int32) then (some (σ 0 0 11)) else (if p1 = (5 : Int32) then (some (σ 7 0 9)) else (if p1 = (6 : Int32) then (some (σ 7 0 6)) else (if p1 = (7 : Int32) then (some (σ 0 0 10)) else (some (-1000000001 : Int32))))))))))
set_option maxRecDepth 100000 in
set_option maxHeartbeats 4000000 in
theorem F_X7_count {X : Cx} {p1 : Int32} {σ : Mem} {res : Int32}  (h : f_X7_count p1 σ = some res) : Tri X 2 mX7_count [rf X 7 0, .int p1] σ (some (.int res)) σ := by
  unfold f_X7_count at h
  refine Tri.of (ls := [some (rf X 7 0), some (.int p1)]) (by decide) (Nat.le_of_ble_eq_true rfl) rfl ?_
  refine i_iload_n dX7_count_0 rfl ?_
  refine r_case (c := p1 = (0 : Int32)) h (fun c1 h => ?_) (fun c1 h => ?_)
  · refine i_tin (tgt := 48) (off := 47) dX7_count_1 (0 : Int32) c1 (by decide) (by decide) (by decide) (by decide) ?_
    refine i_aload_n dX7_count_48 rfl ?_
    refine gf_X7_21 rfl (by omega) dX7_count_49 ?_
    refine gf_X7_67 rfl (by omega) dX7_count_52 ?_
    exact e_ir rfl dX7_count_55 h
  · refine r_case (c := p1 = (1 : Int32)) h (fun c2 h => ?_) (fun c2 h => ?_)
    · refine i_tin (tgt := 56) (off := 55) dX7_count_1 (1 : Int32) c2 (by decide) (by decide) (by decide) (by decide) ?_
      refine i_aload_n dX7_count_56 rfl ?_
      refine gf_X7_21 rfl (by omega) dX7_count_57 ?_
      refine gf_X7_140 rfl (by omega) dX7_count_60 ?_
      exact e_ir rfl dX7_count_63 h
    · refine r_case (c := p1 = (2 : Int32)) h (fun c3 h => ?_) (fun c3 h => ?_)
      · refine i_tin (tgt := 64) (off := 63) dX7_count_1 (2 : Int32) c3 (by decide) (by decide) (by decide) (by decide) ?_
        refine i_aload_n dX7_count_64 rfl ?_
        refine gf_X7_21 rfl (by omega) dX7_count_65 ?_
        refine gf_X7_132 rfl (by omega) dX7_count_68 ?_
        exact e_ir rfl dX7_count_71 h
      · refine r_case (c := p1 = (3 : Int32)) h (fun c4 h => ?_) (fun c4 h => ?_)
        · refine i_tin (tgt := 72) (off := 71) dX7_count_1 (3 : Int32) c4 (by decide) (by decide) (by decide) (by decide) ?_
          refine i_aload_n dX7_count_72 rfl ?_
          refine gf_X7_21 rfl (by omega) dX7_count_73 ?_
          refine cVN_ir dX7_count_76 cw_X7_315 ci_X0_struckCount rfl rfl (by decide) (show 0 < 3 by omega) h (fun a1 e => F_X0_struckCount (by omega) e) (Nat.le_of_ble_eq_true rfl) rfl rfl (Nat.le_of_ble_eq_true rfl) (fun a1 ea1 h => ?_)
          exact e_ir rfl dX7_count_79 h
        · refine r_case (c := p1 = (4 : Int32)) h (fun c5 h => ?_) (fun c5 h => ?_)
          · refine i_tin (tgt := 80) (off := 79) dX7_count_1 (4 : Int32) c5 (by decide) (by decide) (by decide) (by decide) ?_
            refine i_aload_n dX7_count_80 rfl ?_
            refine gf_X7_21 rfl (by omega) dX7_count_81 ?_
            refine gf_X7_238 rfl (by omega) dX7_count_84 ?_
            exact e_ir rfl dX7_count_87 h
          · refine r_case (c := p1 = (5 : Int32)) h (fun c6 h => ?_) (fun c6 h => ?_)
            · refine i_tin (tgt := 88) (off := 87) dX7_count_1 (5 : Int32) c6 (by decide) (by decide) (by decide) (by decide) ?_
              refine i_aload_n dX7_count_88 rfl ?_
              refine gf_X7_308 rfl (by omega) dX7_count_89 ?_
              exact e_ir rfl dX7_count_92 h
            · refine r_case (c := p1 = (6 : Int32)) h (fun c7 h => ?_) (fun c7 h => ?_)
              · refine i_tin (tgt := 93) (off := 92) dX7_count_1 (6 : Int32) c7 (by decide) (by decide) (by decide) (by decide) ?_
                refine i_aload_n dX7_count_93 rfl ?_
                refine gf_X7_232 rfl (by omega) dX7_count_94 ?_
                exact e_ir rfl dX7_count_97 h
              · refine r_case (c := p1 = (7 : Int32)) h (fun c8 h => ?_) (fun c8 h => ?_)
                · refine i_tin (tgt := 98) (off := 97) dX7_count_1 (7 : Int32) c8 (by decide) (by decide) (by decide) (by decide) ?_
                  refine i_aload_n dX7_count_98 rfl ?_
                  refine gf_X7_21 rfl (by omega) dX7_count_99 ?_
                  refine gf_X7_176 rfl (by omega) dX7_count_102 ?_
                  exact e_ir rfl dX7_count_105 h
                · refine i_tout (tgt := 106) dX7_count_1 (tsw_0_7 c1 c2 c3 c4 c5 c6 c7 c8) (by decide) ?_
                  refine i_ldc (v := (-1000000001)) dX7_count_106 k_X7_66 ?_
                  exact e_ir rfl dX7_count_108 h
end
