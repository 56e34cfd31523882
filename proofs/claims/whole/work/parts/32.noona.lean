noncomputable section
def f_X7_person  (p1 : Int32) (p2 : Int32) (p3 : Int32) (σ : Mem) : Option (Int32 × Mem) :=
  (bnd (f_X7_isWithin p1 (0 : Int32) (5 : Int32) σ) (fun a1 => (if a1 = 0 then (some ((-1000000001 : Int32), σ)) else (bnd (f_X7_isWithin p2 (0 : Int32) (23 : Int32) σ) (fun a2 => (if a2 = 0 then (some ((-1000000001 : Int32), σ)) else (bnd (f_X7_isWithin p3 (0 : Int32) (99 : Int32) σ) (fun a3 => (if a3 = 0 then (some ((-1000000001 : Int32), σ)) else (if (σ 0 0 2) < (10 : Int32) then (bnd (f_X0_addPerson 0 p1 p2 p3 σ) (fun a4 => (some (((a4 0 0 2) - (1 : Int32)), a4)))) else (some ((-1000000003 : Int32), σ))))))))))))
set_option maxRecDepth 100000 in
set_option maxHeartbeats 4000000 in
theorem F_X7_person {X : Cx} {p1 : Int32} {p2 : Int32} {p3 : Int32} {σ : Mem} {res : (Int32 × Mem)}  (h : f_X7_person p1 p2 p3 σ = some res) : Tri X 3 mX7_person [rf X 7 0, .int p1, .int p2, .int p3] σ (some (.int res.1)) res.2 := by
  obtain ⟨r0, σ2⟩ := res
  unfold f_X7_person at h
  refine Tri.of (ls := [some (rf X 7 0), some (.int p1), some (.int p2), some (.int p3)]) (by decide) (Nat.le_of_ble_eq_true rfl) rfl ?_
  refine i_iload_n dX7_person_0 rfl ?_
  refine i_iconst (v := 0) dX7_person_1 (by decide) ?_
  refine i_iconst (v := 5) dX7_person_2 (by decide) ?_
  refine cS_ir dX7_person_3 cw_X7_62 ci_X7_isWithin h (fun a1 e => F_X7_isWithin  e) (Nat.le_of_ble_eq_true rfl) rfl rfl (Nat.le_of_ble_eq_true rfl) (fun a1 ea1 h => ?_)
  refine r_if_eq (tgt := 29) dX7_person_6 (by decide) h (fun c1 h => ?_) (fun c1 h => ?_)
  · refine i_ldc (v := (-1000000001)) dX7_person_29 k_X7_66 ?_
    exact e_iw rfl dX7_person_31 h
  · refine i_iload_n dX7_person_9 rfl ?_
    refine i_iconst (v := 0) dX7_person_10 (by decide) ?_
    refine i_bipush (v := 23) dX7_person_11 (by decide) ?_
    refine cS_ir dX7_person_13 cw_X7_62 ci_X7_isWithin h (fun a2 e => F_X7_isWithin  e) (Nat.le_of_ble_eq_true rfl) rfl rfl (Nat.le_of_ble_eq_true rfl) (fun a2 ea2 h => ?_)
    refine r_if_eq (tgt := 29) dX7_person_16 (by decide) h (fun c2 h => ?_) (fun c2 h => ?_)
    · refine i_ldc (v := (-1000000001)) dX7_person_29 k_X7_66 ?_
      exact e_iw rfl dX7_person_31 h
    · refine i_iload_n dX7_person_19 rfl ?_
      refine i_iconst (v := 0) dX7_person_20 (by decide) ?_
      refine i_bipush (v := 99) dX7_person_21 (by decide) ?_
      refine cS_ir dX7_person_23 cw_X7_62 ci_X7_isWithin h (fun a3 e => F_X7_isWithin  e) (Nat.le_of_ble_eq_true rfl) rfl rfl (Nat.le_of_ble_eq_true rfl) (fun a3 ea3 h => ?_)
      refine r_if_ne (tgt := 32) dX7_person_26 (by decide) h (fun c3 h => ?_) (fun c3 h => ?_)
      · refine i_aload_n dX7_person_32 rfl ?_
        refine gf_X7_21 rfl (by omega) dX7_person_33 ?_
        refine gf_X7_67 rfl (by omega) dX7_person_36 ?_
        refine i_bipush (v := 10) dX7_person_39 (by decide) ?_
        refine r_icmp_lt (tgt := 47) dX7_person_41 (by decide) h (fun c4 h => ?_) (fun c4 h => ?_)
        · refine i_aload_n dX7_person_47 rfl ?_
          refine gf_X7_21 rfl (by omega) dX7_person_48 ?_
          refine i_iload_n dX7_person_51 rfl ?_
          refine i_iload_n dX7_person_52 rfl ?_
          refine i_iload_n dX7_person_53 rfl ?_
          refine cVN_vw dX7_person_54 cw_X7_72 ci_X0_addPerson rfl rfl (by decide) (show 0 < 3 by omega) h (fun a4 e => F_X0_addPerson (by omega) e) (Nat.le_of_ble_eq_true rfl) rfl rfl (Nat.le_of_ble_eq_true rfl) (fun a4 ea4 h => ?_)
          refine i_aload_n dX7_person_57 rfl ?_
          refine gf_X7_21 rfl (by omega) dX7_person_58 ?_
          refine gf_X7_67 rfl (by omega) dX7_person_61 ?_
          refine i_iconst (v := 1) dX7_person_64 (by decide) ?_
          refine i_isub dX7_person_65 ?_
          exact e_iw rfl dX7_person_66 h
        · refine i_ldc (v := (-1000000003)) dX7_person_44 k_X7_71 ?_
          exact e_iw rfl dX7_person_46 h
      · refine i_ldc (v := (-1000000001)) dX7_person_29 k_X7_66 ?_
        exact e_iw rfl dX7_person_31 h
def f_X7_told  (p1 : Int32) (p2 : Int32) (σ : Mem) : Option Int32 :=
  (bnd (f_X0_hasPerson 0 p1 σ) (fun a1 => (if a1 = 0 then (some (-1000000001 : Int32)) else (bnd (ix 10 p1) (fun j1 => (if p2 = (0 : Int32) then (some (σ 3 (10 * 0 + j1) 0)) else (if p2 = (1 : Int32) then (some (σ 3 (10 * 0 + j1) 1)) else (if p2 = (2 : Int32) then (some (σ 3 (10 * 0 + j1) 2)) else (if p2 = (3 : Int32) then (some (σ 3 (10 * 0 + j1) 3)) else (if p2 = (4 : Int32) then (bnd (f_X0_vowsGivenBy 0 p1 σ) (fun a2 => (some a2))) else (if p2 = (5 : Int32) then (bnd (f_X0_vowsGivenTo 0 p1 σ) (fun a3 => (some a3))) else (if p2 = (6 : Int32) then (bnd (f_X3_noon (10 * 0 + j1) σ) (fun a4 => (some a4))) else (if p2 = (7 : Int32) then (bnd (f_X3_pays (10 * 0 + j1) σ) (fun a5 => (some a5))) else (if p2 = (8 : Int32) then (bnd (f_X3_worth (10 * 0 + j1) σ) (fun a6 => (some a6))) else (some (-1000000001 : Int32))))))))))))))))
set_option maxRecDepth 100000 in
set_option maxHeartbeats 4000000 in
theorem F_X7_told {X : Cx} {p1 : Int32} {p2 : Int32} {σ : Mem} {res : Int32}  (h : f_X7_told p1 p2 σ = some res) : Tri X 3 mX7_told [rf X 7 0, .int p1, .int p2] σ (some (.int res)) σ := by
  unfold f_X7_told at h
  refine Tri.of (ls := [some (rf X 7 0), some (.int p1), some (.int p2), none]) (by decide) (Nat.le_of_ble_eq_true rfl) rfl ?_
  refine i_aload_n dX7_told_0 rfl ?_
  refine gf_X7_21 rfl (by omega) dX7_told_1 ?_
  refine i_iload_n dX7_told_4 rfl ?_
  refine cVN_ir dX7_told_5 cw_X7_76 ci_X0_hasPerson rfl rfl (by decide) (show 0 < 3 by omega) h (fun a1 e => F_X0_hasPerson (by omega) e) (Nat.le_of_ble_eq_true rfl) rfl rfl (Nat.le_of_ble_eq_true rfl) (fun a1 ea1 h => ?_)
  refine r_if_ne (tgt := 14) dX7_told_8 (by decide) h (fun c1 h => ?_) (fun c1 h => ?_)
  · refine i_aload_n dX7_told_14 rfl ?_
    refine gf_X7_21 rfl (by omega) dX7_told_15 ?_
    refine gf_X7_80 rfl (by omega) dX7_told_18 ?_
    refine i_iload_n dX7_told_21 rfl ?_
    refine aa_12 dX7_told_22 (by omega) h (fun j1 lj1 h => ?_)
    refine i_astore_n (ls' := [some (rf X 7 0), some (.int p1), some (.int p2), some (rf X 3 (10 * 0 + j1))]) dX7_told_23 (by decide) (okp_at rfl) rfl ?_
    refine i_iload_n dX7_told_24 rfl ?_
    refine r_case (c := p2 = (0 : Int32)) h (fun c2 h => ?_) (fun c2 h => ?_)
    · refine i_tin (tgt := 76) (off := 51) dX7_told_25 (0 : Int32) c2 (by decide) (by decide) (by decide) (by decide) ?_
      refine i_aload_n dX7_told_76 rfl ?_
      refine gf_X7_84 rfl (by omega) dX7_told_77 ?_
      exact e_ir rfl dX7_told_80 h
    · refine r_case (c := p2 = (1 : Int32)) h (fun c3 h => ?_) (fun c3 h => ?_)
      · refine i_tin (tgt := 81) (off := 56) dX7_told_25 (1 : Int32) c3 (by decide) (by decide) (by decide) (by decide) ?_
        refine i_aload_n dX7_told_81 rfl ?_
        refine gf_X7_89 rfl (by omega) dX7_told_82 ?_
        exact e_ir rfl dX7_told_85 h
      · refine r_case (c := p2 = (2 : Int32)) h (fun c4 h => ?_) (fun c4 h => ?_)
        · refine i_tin (tgt := 86) (off := 61) dX7_told_25 (2 : Int32) c4 (by decide) (by decide) (by decide) (by decide) ?_
          refine i_aload_n dX7_told_86 rfl ?_
          refine gf_X7_92 rfl (by omega) dX7_told_87 ?_
          exact e_ir rfl dX7_told_90 h
        · refine r_case (c := p2 = (3 : Int32)) h (fun c5 h => ?_) (fun c5 h => ?_)
          · refine i_tin (tgt := 91) (off := 66) dX7_told_25 (3 : Int32) c5 (by decide) (by decide) (by decide) (by decide) ?_
            refine i_aload_n dX7_told_91 rfl ?_
            refine gf_X7_95 rfl (by omega) dX7_told_92 ?_
            exact e_ir rfl dX7_told_95 h
          · refine r_case (c := p2 = (4 : Int32)) h (fun c6 h => ?_) (fun c6 h => ?_)
            · refine i_tin (tgt := 96) (off := 71) dX7_told_25 (4 : Int32) c6 (by decide) (by decide) (by decide) (by decide) ?_
              refine i_aload_n dX7_told_96 rfl ?_
              refine gf_X7_21 rfl (by omega) dX7_told_97 ?_
              refine i_iload_n dX7_told_100 rfl ?_
              refine cVN_ir dX7_told_101 cw_X7_98 ci_X0_vowsGivenBy rfl rfl (by decide) (show 0 < 3 by omega) h (fun a2 e => F_X0_vowsGivenBy (by omega) e) (Nat.le_of_ble_eq_true rfl) rfl rfl (Nat.le_of_ble_eq_true rfl) (fun a2 ea2 h => ?_)
              exact e_ir rfl dX7_told_104 h
            · refine r_case (c := p2 = (5 : Int32)) h (fun c7 h => ?_) (fun c7 h => ?_)
              · refine i_tin (tgt := 105) (off := 80) dX7_told_25 (5 : Int32) c7 (by decide) (by decide) (by decide) (by decide) ?_
                refine i_aload_n dX7_told_105 rfl ?_
                refine gf_X7_21 rfl (by omega) dX7_told_106 ?_
                refine i_iload_n dX7_told_109 rfl ?_
                refine cVN_ir dX7_told_110 cw_X7_102 ci_X0_vowsGivenTo rfl rfl (by decide) (show 0 < 3 by omega) h (fun a3 e => F_X0_vowsGivenTo (by omega) e) (Nat.le_of_ble_eq_true rfl) rfl rfl (Nat.le_of_ble_eq_true rfl) (fun a3 ea3 h => ?_)
                exact e_ir rfl dX7_told_113 h
              · refine r_case (c := p2 = (6 : Int32)) h (fun c8 h => ?_) (fun c8 h => ?_)
                · refine i_tin (tgt := 114) (off := 89) dX7_told_25 (6 : Int32) c8 (by decide) (by decide) (by decide) (by decide) ?_
                  refine i_aload_n dX7_told_114 rfl ?_
                  refine cVN_ir dX7_told_115 cw_X7_105 ci_X3_noon rfl rfl (by decide) (show (10 * 0 + j1) < 35 by omega) h (fun a4 e => F_X3_noon (by omega) e) (Nat.le_of_ble_eq_true rfl) rfl rfl (Nat.le_of_ble_eq_true rfl) (fun a4 ea4 h => ?_)
                  exact e_ir rfl dX7_told_118 h
                · refine r_case (c := p2 = (7 : Int32)) h (fun c9 h => ?_) (fun c9 h => ?_)
                  · refine i_tin (tgt := 119) (off := 94) dX7_told_25 (7 : Int32) c9 (by decide) (by decide) (by decide) (by decide) ?_
                    refine i_aload_n dX7_told_119 rfl ?_
                    refine cVN_ir dX7_told_120 cw_X7_109 ci_X3_pays rfl rfl (by decide) (show (10 * 0 + j1) < 35 by omega) h (fun a5 e => F_X3_pays (by omega) e) (Nat.le_of_ble_eq_true rfl) rfl rfl (Nat.le_of_ble_eq_true rfl) (fun a5 ea5 h => ?_)
                    exact e_ir rfl dX7_told_123 h
                  · refine r_case (c := p2 = (8 : Int32)) h (fun c10 h => ?_) (fun c10 h => ?_)
                    · refine i_tin (tgt := 124) (off := 99) dX7_told_25 (8 : Int32) c10 (by decide) (by decide) (by decide) (by decide) ?_
                      refine i_aload_n dX7_told_124 rfl ?_
                      refine cVN_ir dX7_told_125 cw_X7_112 ci_X3_worth rfl rfl (by decide) (show (10 * 0 + j1) < 35 by omega) h (fun a6 e => F_X3_worth (by omega) e) (Nat.le_of_ble_eq_true rfl) rfl rfl (Nat.le_of_ble_eq_true rfl) (fun a6 ea6 h => ?_)
                      exact e_ir rfl dX7_told_128 h
                    · refine i_tout (tgt := 129) dX7_told_25 (tsw_0_8 c2 c3 c4 c5 c6 c7 c8 c9 c10) (by decide) ?_
                      refine i_ldc (v := (-1000000001)) dX7_told_129 k_X7_66 ?_
                      exact e_ir rfl dX7_told_131 h
  · refine i_ldc (v := (-1000000001)) dX7_told_11 k_X7_66 ?_
    exact e_ir rfl dX7_told_13 h
def f_X7_as  (p1 : Int32) (p2 : Int32) (σ : Mem) : Option Int32 :=
  (bnd (f_X0_hasPerson 0 p1 σ) (fun a1 => (if a1 = 0 then (some (-1000000001 : Int32)) else (bnd (f_X7_isWithin p2 (0 : Int32) (5 : Int32) σ) (fun a2 => (if a2 = 0 then (some (-1000000001 : Int32)) else (bnd (ix 10 p1) (fun j1 => (bnd (f_X3_isOf (10 * 0 + j1) p2 σ) (fun a3 => (if a3 = 0 then (some (-1000000012 : Int32)) else (some (σ 3 (10 * 0 + j1) 2)))))))))))))
set_option maxRecDepth 100000 in
set_option maxHeartbeats 4000000 in
theorem F_X7_as {X : Cx} {p1 : Int32} {p2 : Int32} {σ : Mem} {res : Int32}  (h : f_X7_as p1 p2 σ = some res) : Tri X 3 mX7_as [rf X 7 0, .int p1, .int p2] σ (some (.int res)) σ := by
  unfold f_X7_as at h
  refine Tri.of (ls := [some (rf X 7 0), some (.int p1), some (.int p2), none]) (by decide) (Nat.le_of_ble_eq_true rfl) rfl ?_
  refine i_aload_n dX7_as_0 rfl ?_
  refine gf_X7_21 rfl (by omega) dX7_as_1 ?_
  refine i_iload_n dX7_as_4 rfl ?_
  refine cVN_ir dX7_as_5 cw_X7_76 ci_X0_hasPerson rfl rfl (by decide) (show 0 < 3 by omega) h (fun a1 e => F_X0_hasPerson (by omega) e) (Nat.le_of_ble_eq_true rfl) rfl rfl (Nat.le_of_ble_eq_true rfl) (fun a1 ea1 h => ?_)
  refine r_if_eq (tgt := 20) dX7_as_8 (by decide) h (fun c1 h => ?_) (fun c1 h => ?_)
  · refine i_ldc (v := (-1000000001)) dX7_as_20 k_X7_66 ?_
    exact e_ir rfl dX7_as_22 h
  · refine i_iload_n dX7_as_11 rfl ?_
    refine i_iconst (v := 0) dX7_as_12 (by decide) ?_
    refine i_iconst (v := 5) dX7_as_13 (by decide) ?_
    refine cS_ir dX7_as_14 cw_X7_62 ci_X7_isWithin h (fun a2 e => F_X7_isWithin  e) (Nat.le_of_ble_eq_true rfl) rfl rfl (Nat.le_of_ble_eq_true rfl) (fun a2 ea2 h => ?_)
    refine r_if_ne (tgt := 23) dX7_as_17 (by decide) h (fun c2 h => ?_) (fun c2 h => ?_)
    · refine i_aload_n dX7_as_23 rfl ?_
      refine gf_X7_21 rfl (by omega) dX7_as_24 ?_
      refine gf_X7_80 rfl (by omega) dX7_as_27 ?_
      refine i_iload_n dX7_as_30 rfl ?_
      refine aa_12 dX7_as_31 (by omega) h (fun j1 lj1 h => ?_)
      refine i_astore_n (ls' := [some (rf X 7 0), some (.int p1), some (.int p2), some (rf X 3 (10 * 0 + j1))]) dX7_as_32 (by decide) (okp_at rfl) rfl ?_
      refine i_aload_n dX7_as_33 rfl ?_
      refine i_iload_n dX7_as_34 rfl ?_
      refine cVN_ir dX7_as_35 cw_X7_115 ci_X3_isOf rfl rfl (by decide) (show (10 * 0 + j1) < 35 by omega) h (fun a3 e => F_X3_isOf (by omega) e) (Nat.le_of_ble_eq_true rfl) rfl rfl (Nat.le_of_ble_eq_true rfl) (fun a3 ea3 h => ?_)
      refine r_if_eq (tgt := 48) dX7_as_38 (by decide) h (fun c3 h => ?_) (fun c3 h => ?_)
      · refine i_ldc (v := (-1000000012)) dX7_as_48 k_X7_118 ?_
        exact e_ir rfl dX7_as_50 h
      · refine i_aload_n dX7_as_41 rfl ?_
        refine gf_X7_92 rfl (by omega) dX7_as_42 ?_
        refine i_goto (tgt := 50) dX7_as_45 (by decide) ?_
        exact e_ir rfl dX7_as_50 h
    · refine i_ldc (v := (-1000000001)) dX7_as_20 k_X7_66 ?_
      exact e_ir rfl dX7_as_22 h
def f_X7_turns  (p1 : Int32) (p2 : Int32) (σ : Mem) : Option (Int32 × Mem) :=
  (bnd (f_X0_hasPerson 0 p1 σ) (fun a1 => (if a1 = 0 then (some ((-1000000001 : Int32), σ)) else (bnd (f_X7_isWithin p2 (0 : Int32) (5 : Int32) σ) (fun a2 => (if a2 = 0 then (some ((-1000000001 : Int32), σ)) else (bnd (ix 10 p1) (fun j1 => (bnd (ix 10 p1) (fun j2 => (some ((σ 3 (10 * 0 + j1) 0), (mput σ 3 (10 * 0 + j2) 0 p2)))))))))))))
set_option maxRecDepth 100000 in
set_option maxHeartbeats 4000000 in
theorem F_X7_turns {X : Cx} {p1 : Int32} {p2 : Int32} {σ : Mem} {res : (Int32 × Mem)}  (h : f_X7_turns p1 p2 σ = some res) : Tri X 3 mX7_turns [rf X 7 0, .int p1, .int p2] σ (some (.int res.1)) res.2 := by
  obtain ⟨r0, σ2⟩ := res
  unfold f_X7_turns at h
  refine Tri.of (ls := [some (rf X 7 0), some (.int p1), some (.int p2), none]) (by decide) (Nat.le_of_ble_eq_true rfl) rfl ?_
  refine i_aload_n dX7_turns_0 rfl ?_
  refine gf_X7_21 rfl (by omega) dX7_turns_1 ?_
  refine i_iload_n dX7_turns_4 rfl ?_
  refine cVN_ir dX7_turns_5 cw_X7_76 ci_X0_hasPerson rfl rfl (by decide) (show 0 < 3 by omega) h (fun a1 e => F_X0_hasPerson (by omega) e) (Nat.le_of_ble_eq_true rfl) rfl rfl (Nat.le_of_ble_eq_true rfl) (fun a1 ea1 h => ?_)
  refine r_if_eq (tgt := 20) dX7_turns_8 (by decide) h (fun c1 h => ?_) (fun c1 h => ?_)
  · refine i_ldc (v := (-1000000001)) dX7_turns_20 k_X7_66 ?_
    exact e_iw rfl dX7_turns_22 h
  · refine i_iload_n dX7_turns_11 rfl ?_
    refine i_iconst (v := 0) dX7_turns_12 (by decide) ?_
    refine i_iconst (v := 5) dX7_turns_13 (by decide) ?_
    refine cS_ir dX7_turns_14 cw_X7_62 ci_X7_isWithin h (fun a2 e => F_X7_isWithin  e) (Nat.le_of_ble_eq_true rfl) rfl rfl (Nat.le_of_ble_eq_true rfl) (fun a2 ea2 h => ?_)
    refine r_if_ne (tgt := 23) dX7_turns_17 (by decide) h (fun c2 h => ?_) (fun c2 h => ?_)
    · refine i_aload_n dX7_turns_23 rfl ?_
      refine gf_X7_21 rfl (by omega) dX7_turns_24 ?_
      refine gf_X7_80 rfl (by omega) dX7_turns_27 ?_
      refine i_iload_n dX7_turns_30 rfl ?_
      refine aa_12 dX7_turns_31 (by omega) h (fun j1 lj1 h => ?_)
      refine gf_X7_84 rfl (by omega) dX7_turns_32 ?_
      refine i_istore_n (ls' := [some (rf X 7 0), some (.int p1), some (.int p2), some (.int (σ 3 (10 * 0 + j1) 0))]) dX7_turns_35 (by decide) (okp_at rfl) rfl ?_
      refine i_aload_n dX7_turns_36 rfl ?_
      refine gf_X7_21 rfl (by omega) dX7_turns_37 ?_
      refine gf_X7_80 rfl (by omega) dX7_turns_40 ?_
      refine i_iload_n dX7_turns_43 rfl ?_
      refine aa_12 dX7_turns_44 (by omega) h (fun j2 lj2 h => ?_)
      refine i_iload_n dX7_turns_45 rfl ?_
      refine pf_X7_84 rfl (by omega) dX7_turns_46 ?_
      refine i_iload_n dX7_turns_49 rfl ?_
      exact e_iw rfl dX7_turns_50 h
    · refine i_ldc (v := (-1000000001)) dX7_turns_20 k_X7_66 ?_
      exact e_iw rfl dX7_turns_22 h
def f_X7_set  (p1 : Int32) (p2 : Int32) (p3 : Int32) (σ : Mem) : Option (Int32 × Mem) :=
  (bnd (f_X0_hasPerson 0 p1 σ) (fun a1 => (if a1 = 0 then (some ((-1000000001 : Int32), σ)) else (bnd (ix 10 p1) (fun j1 => (if p2 = (1 : Int32) then (bnd (f_X7_isWithin p3 (0 : Int32) (23 : Int32) σ) (fun a2 => (if a2 = 0 then (some ((-1000000001 : Int32), σ)) else (bnd (f_X3_changeEast (10 * 0 + j1) p3 σ) (fun a3 => (some (a3.1, a3.2))))))) else (if p2 = (2 : Int32) then (bnd (f_X7_isWithin p3 (0 : Int32) (99 : Int32) σ) (fun a4 => (if a4 = 0 then (some ((-1000000001 : Int32), σ)) else (bnd (f_X3_changeFaith (10 * 0 + j1) p3 σ) (fun a5 => (some (a5.1, a5.2))))))) else (if p2 = (3 : Int32) then (bnd (f_X7_isWithin p3 (-9999 : Int32) (9999 : Int32) σ) (fun a6 => (if a6 = 0 then (some ((-1000000001 : Int32), σ)) else (bnd (f_X3_changePurse (10 * 0 + j1) p3 σ) (fun a7 => (some (a7.1, a7.2))))))) else (some ((-1000000001 : Int32), σ))))))))))
set_option maxRecDepth 100000 in
set_option maxHeartbeats 4000000 in
theorem F_X7_set {X : Cx} {p1 : Int32} {p2 : Int32} {p3 : Int32} {σ : Mem} {res : (Int32 × Mem)}  (h : f_X7_set p1 p2 p3 σ = some res) : Tri X 3 mX7_set [rf X 7 0, .int p1, .int p2, .int p3] σ (some (.int res.1)) res.2 := by
  obtain ⟨r0, σ2⟩ := res
  unfold f_X7_set at h
  refine Tri.of (ls := [some (rf X 7 0), some (.int p1), some (.int p2), some (.int p3), none]) (by decide) (Nat.le_of_ble_eq_true rfl) rfl ?_
  refine i_aload_n dX7_set_0 rfl ?_
  refine gf_X7_21 rfl (by omega) dX7_set_1 ?_
  refine i_iload_n dX7_set_4 rfl ?_
  refine cVN_ir dX7_set_5 cw_X7_76 ci_X0_hasPerson rfl rfl (by decide) (show 0 < 3 by omega) h (fun a1 e => F_X0_hasPerson (by omega) e) (Nat.le_of_ble_eq_true rfl) rfl rfl (Nat.le_of_ble_eq_true rfl) (fun a1 ea1 h => ?_)
  refine r_if_ne (tgt := 14) dX7_set_8 (by decide) h (fun c1 h => ?_) (fun c1 h => ?_)
  · refine i_aload_n dX7_set_14 rfl ?_
    refine gf_X7_21 rfl (by omega) dX7_set_15 ?_
    refine gf_X7_80 rfl (by omega) dX7_set_18 ?_
    refine i_iload_n dX7_set_21 rfl ?_
    refine aa_12 dX7_set_22 (by omega) h (fun j1 lj1 h => ?_)
    refine i_astore (ls' := [some (rf X 7 0), some (.int p1), some (.int p2), some (.int p3), some (rf X 3 (10 * 0 + j1))]) dX7_set_23 (by decide) (okp_at rfl) rfl ?_
    refine i_iload_n dX7_set_25 rfl ?_
    refine r_case (c := p2 = (1 : Int32)) h (fun c2 h => ?_) (fun c2 h => ?_)
    · refine i_tin (tgt := 52) (off := 26) dX7_set_26 (1 : Int32) c2 (by decide) (by decide) (by decide) (by decide) ?_
      refine i_iload_n dX7_set_52 rfl ?_
      refine i_iconst (v := 0) dX7_set_53 (by decide) ?_
      refine i_bipush (v := 23) dX7_set_54 (by decide) ?_
      refine cS_ir dX7_set_56 cw_X7_62 ci_X7_isWithin h (fun a2 e => F_X7_isWithin  e) (Nat.le_of_ble_eq_true rfl) rfl rfl (Nat.le_of_ble_eq_true rfl) (fun a2 ea2 h => ?_)
      refine r_if_eq (tgt := 71) dX7_set_59 (by decide) h (fun c3 h => ?_) (fun c3 h => ?_)
      · refine i_ldc (v := (-1000000001)) dX7_set_71 k_X7_66 ?_
        exact e_iw rfl dX7_set_73 h
      · refine i_aload dX7_set_62 rfl ?_
        refine i_iload_n dX7_set_64 rfl ?_
        refine cVN_iw dX7_set_65 cw_X7_119 ci_X3_changeEast rfl rfl (by decide) (show (10 * 0 + j1) < 35 by omega) h (fun a3 e => F_X3_changeEast (by omega) e) (Nat.le_of_ble_eq_true rfl) rfl rfl (Nat.le_of_ble_eq_true rfl) (fun a3 ea3 h => ?_)
        refine i_goto (tgt := 73) dX7_set_68 (by decide) ?_
        exact e_iw rfl dX7_set_73 h
    · refine r_case (c := p2 = (2 : Int32)) h (fun c4 h => ?_) (fun c4 h => ?_)
      · refine i_tin (tgt := 74) (off := 48) dX7_set_26 (2 : Int32) c4 (by decide) (by decide) (by decide) (by decide) ?_
        refine i_iload_n dX7_set_74 rfl ?_
        refine i_iconst (v := 0) dX7_set_75 (by decide) ?_
        refine i_bipush (v := 99) dX7_set_76 (by decide) ?_
        refine cS_ir dX7_set_78 cw_X7_62 ci_X7_isWithin h (fun a4 e => F_X7_isWithin  e) (Nat.le_of_ble_eq_true rfl) rfl rfl (Nat.le_of_ble_eq_true rfl) (fun a4 ea4 h => ?_)
        refine r_if_eq (tgt := 93) dX7_set_81 (by decide) h (fun c5 h => ?_) (fun c5 h => ?_)
        · refine i_ldc (v := (-1000000001)) dX7_set_93 k_X7_66 ?_
          exact e_iw rfl dX7_set_95 h
        · refine i_aload dX7_set_84 rfl ?_
          refine i_iload_n dX7_set_86 rfl ?_
          refine cVN_iw dX7_set_87 cw_X7_122 ci_X3_changeFaith rfl rfl (by decide) (show (10 * 0 + j1) < 35 by omega) h (fun a5 e => F_X3_changeFaith (by omega) e) (Nat.le_of_ble_eq_true rfl) rfl rfl (Nat.le_of_ble_eq_true rfl) (fun a5 ea5 h => ?_)
          refine i_goto (tgt := 95) dX7_set_90 (by decide) ?_
          exact e_iw rfl dX7_set_95 h
      · refine r_case (c := p2 = (3 : Int32)) h (fun c6 h => ?_) (fun c6 h => ?_)
        · refine i_tin (tgt := 96) (off := 70) dX7_set_26 (3 : Int32) c6 (by decide) (by decide) (by decide) (by decide) ?_
          refine i_iload_n dX7_set_96 rfl ?_
          refine i_sipush (v := (-9999)) dX7_set_97 (by decide) ?_
          refine i_sipush (v := 9999) dX7_set_100 (by decide) ?_
          refine cS_ir dX7_set_103 cw_X7_62 ci_X7_isWithin h (fun a6 e => F_X7_isWithin  e) (Nat.le_of_ble_eq_true rfl) rfl rfl (Nat.le_of_ble_eq_true rfl) (fun a6 ea6 h => ?_)
          refine r_if_eq (tgt := 118) dX7_set_106 (by decide) h (fun c7 h => ?_) (fun c7 h => ?_)
          · refine i_ldc (v := (-1000000001)) dX7_set_118 k_X7_66 ?_
            exact e_iw rfl dX7_set_120 h
          · refine i_aload dX7_set_109 rfl ?_
            refine i_iload_n dX7_set_111 rfl ?_
            refine cVN_iw dX7_set_112 cw_X7_125 ci_X3_changePurse rfl rfl (by decide) (show (10 * 0 + j1) < 35 by omega) h (fun a7 e => F_X3_changePurse (by omega) e) (Nat.le_of_ble_eq_true rfl) rfl rfl (Nat.le_of_ble_eq_true rfl) (fun a7 ea7 h => ?_)
            refine i_goto (tgt := 120) dX7_set_115 (by decide) ?_
            exact e_iw rfl dX7_set_120 h
        · refine i_tout (tgt := 121) dX7_set_26 (tsw_1_3 c2 c4 c6) (by decide) ?_
          refine i_ldc (v := (-1000000001)) dX7_set_121 k_X7_66 ?_
          exact e_iw rfl dX7_set_123 h
  · refine i_ldc (v := (-1000000001)) dX7_set_11 k_X7_66 ?_
    exact e_iw rfl dX7_set_13 h
def f_X7_vow  (p1 : Int32) (p2 : Int32) (p3 : Int32) (σ : Mem) : Option (Int32 × Mem) :=
  (bnd (f_X0_hasPerson 0 p1 σ) (fun a1 => (if a1 = 0 then (some ((-1000000001 : Int32), σ)) else (bnd (f_X0_hasPerson 0 p2 σ) (fun a2 => (if a2 = 0 then (some ((-1000000001 : Int32), σ)) else (if p1 = p2 then (some ((-1000000001 : Int32), σ)) else (bnd (f_X7_isWithin p3 (0 : Int32) (2 : Int32) σ) (fun a3 => (if a3 = 0 then (some ((-1000000001 : Int32), σ)) else (bnd (ix 10 p1) (fun j1 => (if (σ 3 (10 * 0 + j1) 0) = (5 : Int32) then (some ((-1000000002 : Int32), σ)) else (if (σ 3 (10 * 0 + j1) 4) = (σ 0 0 9) then (bnd (f_X0_strikeOff 0 p1 σ) (fun a5 => (some ((-1000000005 : Int32), a5)))) else (if (σ 0 0 6) < (16 : Int32) then (bnd (f_X0_addVow 0 p1 p2 p3 (mput σ 3 (10 * 0 + j1) 4 (σ 0 0 9))) (fun a4 => (some (((a4 0 0 6) - (1 : Int32)), a4)))) else (some ((-1000000003 : Int32), σ)))))))))))))))))
set_option maxRecDepth 100000 in
set_option maxHeartbeats 4000000 in
theorem F_X7_vow {X : Cx} {p1 : Int32} {p2 : Int32} {p3 : Int32} {σ : Mem} {res : (Int32 × Mem)}  (h : f_X7_vow p1 p2 p3 σ = some res) : Tri X 3 mX7_vow [rf X 7 0, .int p1, .int p2, .int p3] σ (some (.int res.1)) res.2 := by
  obtain ⟨r0, σ2⟩ := res
  unfold f_X7_vow at h
  refine Tri.of (ls := [some (rf X 7 0), some (.int p1), some (.int p2), some (.int p3), none]) (by decide) (Nat.le_of_ble_eq_true rfl) rfl ?_
  refine i_aload_n dX7_vow_0 rfl ?_
  refine gf_X7_21 rfl (by omega) dX7_vow_1 ?_
  refine i_iload_n dX7_vow_4 rfl ?_
  refine cVN_ir dX7_vow_5 cw_X7_76 ci_X0_hasPerson rfl rfl (by decide) (show 0 < 3 by omega) h (fun a1 e => F_X0_hasPerson (by omega) e) (Nat.le_of_ble_eq_true rfl) rfl rfl (Nat.le_of_ble_eq_true rfl) (fun a1 ea1 h => ?_)
  refine r_if_eq (tgt := 36) dX7_vow_8 (by decide) h (fun c1 h => ?_) (fun c1 h => ?_)
  · refine i_ldc (v := (-1000000001)) dX7_vow_36 k_X7_66 ?_
    exact e_iw rfl dX7_vow_38 h
  · refine i_aload_n dX7_vow_11 rfl ?_
    refine gf_X7_21 rfl (by omega) dX7_vow_12 ?_
    refine i_iload_n dX7_vow_15 rfl ?_
    refine cVN_ir dX7_vow_16 cw_X7_76 ci_X0_hasPerson rfl rfl (by decide) (show 0 < 3 by omega) h (fun a2 e => F_X0_hasPerson (by omega) e) (Nat.le_of_ble_eq_true rfl) rfl rfl (Nat.le_of_ble_eq_true rfl) (fun a2 ea2 h => ?_)
    refine r_if_eq (tgt := 36) dX7_vow_19 (by decide) h (fun c2 h => ?_) (fun c2 h => ?_)
    · refine i_ldc (v := (-1000000001)) dX7_vow_36 k_X7_66 ?_
      exact e_iw rfl dX7_vow_38 h
    · refine i_iload_n dX7_vow_22 rfl ?_
      refine i_iload_n dX7_vow_23 rfl ?_
      refine r_icmp_eq (tgt := 36) dX7_vow_24 (by decide) h (fun c3 h => ?_) (fun c3 h => ?_)
      · refine i_ldc (v := (-1000000001)) dX7_vow_36 k_X7_66 ?_
        exact e_iw rfl dX7_vow_38 h
      · refine i_iload_n dX7_vow_27 rfl ?_
        refine i_iconst (v := 0) dX7_vow_28 (by decide) ?_
        refine i_iconst (v := 2) dX7_vow_29 (by decide) ?_
        refine cS_ir dX7_vow_30 cw_X7_62 ci_X7_isWithin h (fun a3 e => F_X7_isWithin  e) (Nat.le_of_ble_eq_true rfl) rfl rfl (Nat.le_of_ble_eq_true rfl) (fun a3 ea3 h => ?_)
        refine r_if_ne (tgt := 39) dX7_vow_33 (by decide) h (fun c4 h => ?_) (fun c4 h => ?_)
        · refine i_aload_n dX7_vow_39 rfl ?_
          refine gf_X7_21 rfl (by omega) dX7_vow_40 ?_
          refine gf_X7_80 rfl (by omega) dX7_vow_43 ?_
          refine i_iload_n dX7_vow_46 rfl ?_
          refine aa_12 dX7_vow_47 (by omega) h (fun j1 lj1 h => ?_)
          refine i_astore (ls' := [some (rf X 7 0), some (.int p1), some (.int p2), some (.int p3), some (rf X 3 (10 * 0 + j1))]) dX7_vow_48 (by decide) (okp_at rfl) rfl ?_
          refine i_aload dX7_vow_50 rfl ?_
          refine gf_X7_84 rfl (by omega) dX7_vow_52 ?_
          refine i_iconst (v := 5) dX7_vow_55 (by decide) ?_
          refine r_icmp_ne (tgt := 62) dX7_vow_56 (by decide) h (fun c5 h => ?_) (fun c5 h => ?_)
          · refine i_aload dX7_vow_62 rfl ?_
            refine gf_X7_129 rfl (by omega) dX7_vow_64 ?_
            refine i_aload_n dX7_vow_67 rfl ?_
            refine gf_X7_21 rfl (by omega) dX7_vow_68 ?_
            refine gf_X7_132 rfl (by omega) dX7_vow_71 ?_
            refine r_icmp_ne (tgt := 88) dX7_vow_74 (by decide) h (fun c6 h => ?_) (fun c6 h => ?_)
            · refine i_aload_n dX7_vow_88 rfl ?_
              refine gf_X7_21 rfl (by omega) dX7_vow_89 ?_
              refine gf_X7_140 rfl (by omega) dX7_vow_92 ?_
              refine i_bipush (v := 16) dX7_vow_95 (by decide) ?_
              refine r_icmp_lt (tgt := 103) dX7_vow_97 (by decide) h (fun c7 h => ?_) (fun c7 h => ?_)
              · refine i_aload dX7_vow_103 rfl ?_
                refine i_aload_n dX7_vow_105 rfl ?_
                refine gf_X7_21 rfl (by omega) dX7_vow_106 ?_
                refine gf_X7_132 rfl (by omega) dX7_vow_109 ?_
                refine pf_X7_129 rfl (by omega) dX7_vow_112 ?_
                refine i_aload_n dX7_vow_115 rfl ?_
                refine gf_X7_21 rfl (by omega) dX7_vow_116 ?_
                refine i_iload_n dX7_vow_119 rfl ?_
                refine i_iload_n dX7_vow_120 rfl ?_
                refine i_iload_n dX7_vow_121 rfl ?_
                refine cVN_vw dX7_vow_122 cw_X7_143 ci_X0_addVow rfl rfl (by decide) (show 0 < 3 by omega) h (fun a4 e => F_X0_addVow (by omega) e) (Nat.le_of_ble_eq_true rfl) rfl rfl (Nat.le_of_ble_eq_true rfl) (fun a4 ea4 h => ?_)
                refine i_aload_n dX7_vow_125 rfl ?_
                refine gf_X7_21 rfl (by omega) dX7_vow_126 ?_
                refine gf_X7_140 rfl (by omega) dX7_vow_129 ?_
                refine i_iconst (v := 1) dX7_vow_132 (by decide) ?_
                refine i_isub dX7_vow_133 ?_
                exact e_iw rfl dX7_vow_134 h
              · refine i_ldc (v := (-1000000003)) dX7_vow_100 k_X7_71 ?_
                exact e_iw rfl dX7_vow_102 h
            · refine i_aload_n dX7_vow_77 rfl ?_
              refine gf_X7_21 rfl (by omega) dX7_vow_78 ?_
              refine i_iload_n dX7_vow_81 rfl ?_
              refine cVN_vw dX7_vow_82 cw_X7_135 ci_X0_strikeOff rfl rfl (by decide) (show 0 < 3 by omega) h (fun a5 e => F_X0_strikeOff (by omega) e) (Nat.le_of_ble_eq_true rfl) rfl rfl (Nat.le_of_ble_eq_true rfl) (fun a5 ea5 h => ?_)
              refine i_ldc (v := (-1000000005)) dX7_vow_85 k_X7_139 ?_
              exact e_iw rfl dX7_vow_87 h
          · refine i_ldc (v := (-1000000002)) dX7_vow_59 k_X7_128 ?_
            exact e_iw rfl dX7_vow_61 h
        · refine i_ldc (v := (-1000000001)) dX7_vow_36 k_X7_66 ?_
          exact e_iw rfl dX7_vow_38 h
def f_X7_vowOf  (p1 : Int32) (p2 : Int32) (σ : Mem) : Option (Int32 × Mem) :=
  (bnd (f_X0_hasVow 0 p1 σ) (fun a1 => (if a1 = 0 then (some ((-1000000001 : Int32), σ)) else (if p2 = (0 : Int32) then (bnd (ix 17 p1) (fun j1 => (some ((σ 13 0 j1), σ)))) else (if p2 = (1 : Int32) then (bnd (ix 17 p1) (fun j2 => (some ((σ 14 0 j2), σ)))) else (if p2 = (2 : Int32) then (bnd (ix 17 p1) (fun j3 => (some ((σ 15 0 j3), σ)))) else (if p2 = (3 : Int32) then (bnd (f_X0_keeps 0 p1 σ) (fun a2 => (some (a2.1, a2.2)))) else (some ((-1000000001 : Int32), σ)))))))))
set_option maxRecDepth 100000 in
set_option maxHeartbeats 4000000 in
theorem F_X7_vowOf {X : Cx} {p1 : Int32} {p2 : Int32} {σ : Mem} {res : (Int32 × Mem)}  (h : f_X7_vowOf p1 p2 σ = some res) : Tri X 4 mX7_vowOf [rf X 7 0, .int p1, .int p2] σ (some (.int res.1)) res.2 := by
  obtain ⟨r0, σ2⟩ := res
  unfold f_X7_vowOf at h
  refine Tri.of (ls := [some (rf X 7 0), some (.int p1), some (.int p2)]) (by decide) (Nat.le_of_ble_eq_true rfl) rfl ?_
  refine i_aload_n dX7_vowOf_0 rfl ?_
  refine gf_X7_21 rfl (by omega) dX7_vowOf_1 ?_
  refine i_iload_n dX7_vowOf_4 rfl ?_
  refine cVN_ir dX7_vowOf_5 cw_X7_146 ci_X0_hasVow rfl rfl (by decide) (show 0 < 3 by omega) h (fun a1 e => F_X0_hasVow (by omega) e) (Nat.le_of_ble_eq_true rfl) rfl rfl (Nat.le_of_ble_eq_true rfl) (fun a1 ea1 h => ?_)
  refine r_if_ne (tgt := 14) dX7_vowOf_8 (by decide) h (fun c1 h => ?_) (fun c1 h => ?_)
  · refine i_iload_n dX7_vowOf_14 rfl ?_
    refine r_case (c := p2 = (0 : Int32)) h (fun c2 h => ?_) (fun c2 h => ?_)
    · refine i_tin (tgt := 44) (off := 29) dX7_vowOf_15 (0 : Int32) c2 (by decide) (by decide) (by decide) (by decide) ?_
      refine i_aload_n dX7_vowOf_44 rfl ?_
      refine gf_X7_21 rfl (by omega) dX7_vowOf_45 ?_
      refine gf_X7_149 rfl (by omega) dX7_vowOf_48 ?_
      refine i_iload_n dX7_vowOf_51 rfl ?_
      refine al_13 dX7_vowOf_52 (by omega) h (fun j1 lj1 h => ?_)
      exact e_iw rfl dX7_vowOf_53 h
    · refine r_case (c := p2 = (1 : Int32)) h (fun c3 h => ?_) (fun c3 h => ?_)
      · refine i_tin (tgt := 54) (off := 39) dX7_vowOf_15 (1 : Int32) c3 (by decide) (by decide) (by decide) (by decide) ?_
        refine i_aload_n dX7_vowOf_54 rfl ?_
        refine gf_X7_21 rfl (by omega) dX7_vowOf_55 ?_
        refine gf_X7_152 rfl (by omega) dX7_vowOf_58 ?_
        refine i_iload_n dX7_vowOf_61 rfl ?_
        refine al_14 dX7_vowOf_62 (by omega) h (fun j2 lj2 h => ?_)
        exact e_iw rfl dX7_vowOf_63 h
      · refine r_case (c := p2 = (2 : Int32)) h (fun c4 h => ?_) (fun c4 h => ?_)
        · refine i_tin (tgt := 64) (off := 49) dX7_vowOf_15 (2 : Int32) c4 (by decide) (by decide) (by decide) (by decide) ?_
          refine i_aload_n dX7_vowOf_64 rfl ?_
          refine gf_X7_21 rfl (by omega) dX7_vowOf_65 ?_
          refine gf_X7_155 rfl (by omega) dX7_vowOf_68 ?_
          refine i_iload_n dX7_vowOf_71 rfl ?_
          refine al_15 dX7_vowOf_72 (by omega) h (fun j3 lj3 h => ?_)
          exact e_iw rfl dX7_vowOf_73 h
        · refine r_case (c := p2 = (3 : Int32)) h (fun c5 h => ?_) (fun c5 h => ?_)
          · refine i_tin (tgt := 74) (off := 59) dX7_vowOf_15 (3 : Int32) c5 (by decide) (by decide) (by decide) (by decide) ?_
            refine i_aload_n dX7_vowOf_74 rfl ?_
            refine gf_X7_21 rfl (by omega) dX7_vowOf_75 ?_
            refine i_iload_n dX7_vowOf_78 rfl ?_
            refine cVN_iw dX7_vowOf_79 cw_X7_158 ci_X0_keeps rfl rfl (by decide) (show 0 < 3 by omega) h (fun a2 e => F_X0_keeps (by omega) e) (Nat.le_of_ble_eq_true rfl) rfl rfl (Nat.le_of_ble_eq_true rfl) (fun a2 ea2 h => ?_)
            exact e_iw rfl dX7_vowOf_82 h
          · refine i_tout (tgt := 83) dX7_vowOf_15 (tsw_0_3 c2 c3 c4 c5) (by decide) ?_
            refine i_ldc (v := (-1000000001)) dX7_vowOf_83 k_X7_66 ?_
            exact e_iw rfl dX7_vowOf_85 h
  · refine i_ldc (v := (-1000000001)) dX7_vowOf_11 k_X7_66 ?_
    exact e_iw rfl dX7_vowOf_13 h
def f_X7_breaks  (p1 : Int32) (σ : Mem) : Option (Int32 × Mem) :=
  (bnd (f_X0_hasVow 0 p1 σ) (fun a1 => (if a1 = 0 then (some ((-1000000001 : Int32), σ)) else (bnd (f_X0_lapse 0 p1 σ) (fun a2 => (some ((a2 0 0 6), a2)))))))
set_option maxRecDepth 100000 in
set_option maxHeartbeats 4000000 in
theorem F_X7_breaks {X : Cx} {p1 : Int32} {σ : Mem} {res : (Int32 × Mem)}  (h : f_X7_breaks p1 σ = some res) : Tri X 3 mX7_breaks [rf X 7 0, .int p1] σ (some (.int res.1)) res.2 := by
  obtain ⟨r0, σ2⟩ := res
  unfold f_X7_breaks at h
  refine Tri.of (ls := [some (rf X 7 0), some (.int p1)]) (by decide) (Nat.le_of_ble_eq_true rfl) rfl ?_
  refine i_aload_n dX7_breaks_0 rfl ?_
  refine gf_X7_21 rfl (by omega) dX7_breaks_1 ?_
  refine i_iload_n dX7_breaks_4 rfl ?_
  refine cVN_ir dX7_breaks_5 cw_X7_146 ci_X0_hasVow rfl rfl (by decide) (show 0 < 3 by omega) h (fun a1 e => F_X0_hasVow (by omega) e) (Nat.le_of_ble_eq_true rfl) rfl rfl (Nat.le_of_ble_eq_true rfl) (fun a1 ea1 h => ?_)
  refine r_if_ne (tgt := 14) dX7_breaks_8 (by decide) h (fun c1 h => ?_) (fun c1 h => ?_)
  · refine i_aload_n dX7_breaks_14 rfl ?_
    refine gf_X7_21 rfl (by omega) dX7_breaks_15 ?_
    refine i_iload_n dX7_breaks_18 rfl ?_
    refine cVN_vw dX7_breaks_19 cw_X7_161 ci_X0_lapse rfl rfl (by decide) (show 0 < 3 by omega) h (fun a2 e => F_X0_lapse (by omega) e) (Nat.le_of_ble_eq_true rfl) rfl rfl (Nat.le_of_ble_eq_true rfl) (fun a2 ea2 h => ?_)
    refine i_aload_n dX7_breaks_22 rfl ?_
    refine gf_X7_21 rfl (by omega) dX7_breaks_23 ?_
    refine gf_X7_140 rfl (by omega) dX7_breaks_26 ?_
    exact e_iw rfl dX7_breaks_29 h
  · refine i_ldc (v := (-1000000001)) dX7_breaks_11 k_X7_66 ?_
    exact e_iw rfl dX7_breaks_13 h
def f_X7_eclipse   (σ : Mem) : Option (Int32 × Mem) :=
  (some ((σ 0 0 6), (mput (mput σ 0 0 8 ((σ 0 0 8) + (σ 0 0 6))) 0 0 6 (0 : Int32))))
set_option maxRecDepth 100000 in
set_option maxHeartbeats 4000000 in
theorem F_X7_eclipse {X : Cx}  {σ : Mem} {res : (Int32 × Mem)}  (h : f_X7_eclipse σ = some res) : Tri X 1 mX7_eclipse [rf X 7 0] σ (some (.int res.1)) res.2 := by
  obtain ⟨r0, σ2⟩ := res
  unfold f_X7_eclipse at h
  refine Tri.of (ls := [some (rf X 7 0), none]) (by decide) (Nat.le_of_ble_eq_true rfl) rfl ?_
  refine i_aload_n dX7_eclipse_0 rfl ?_
  refine gf_X7_21 rfl (by omega) dX7_eclipse_1 ?_
  refine gf_X7_140 rfl (by omega) dX7_eclipse_4 ?_
  refine i_istore_n (ls' := [some (rf X 7 0), some (.int (σ 0 0 6))]) dX7_eclipse_7 (by decide) (okp_at rfl) rfl ?_
  refine i_aload_n dX7_eclipse_8 rfl ?_
  refine gf_X7_21 rfl (by omega) dX7_eclipse_9 ?_
  refine i_dup dX7_eclipse_12 rfl ?_
  refine gf_X7_164 rfl (by omega) dX7_eclipse_13 ?_
  refine i_iload_n dX7_eclipse_16 rfl ?_
  refine i_iadd dX7_eclipse_17 ?_
  refine pf_X7_164 rfl (by omega) dX7_eclipse_18 ?_
  refine i_aload_n dX7_eclipse_21 rfl ?_
  refine gf_X7_21 rfl (by omega) dX7_eclipse_22 ?_
  refine i_iconst (v := 0) dX7_eclipse_25 (by decide) ?_
  refine pf_X7_140 rfl (by omega) dX7_eclipse_26 ?_
  refine i_iload_n dX7_eclipse_29 rfl ?_
  exact e_iw rfl dX7_eclipse_30 h
def f_X7_deal_30 (p2 : Int32) : Nat → Int32 → Mem → (Mem → Option (Int32 × Mem)) → Option (Int32 × Mem)
  | 0, _, _, _ => none
  | n + 1, v3, σ, k =>
    (if p2 ≤ v3 then (k σ) else (bnd (f_X0_drawPerson 0 σ) (fun a1 => (f_X7_deal_30 p2 n (v3 + (1 : Int32)) a1 k))))
set_option maxRecDepth 100000 in
set_option maxHeartbeats 4000000 in
theorem L_X7_deal_30 {X : Cx} {p2 : Int32} {r0 : Int32} {σ2 : Mem} {k : Mem → Option (Int32 × Mem)}  : ∀ (n : Nat) (v3 : Int32) (σ : Mem), f_X7_deal_30 p2 n v3 σ k = some (r0, σ2) → (∀ (σ1 : Mem), k σ1 = some (r0, σ2) → At X 4 mX7_deal 48 [none, none, some (.int p2), none] [] σ1 (some (.int r0)) σ2) → At X 4 mX7_deal 30 [some (rf X 7 0), none, some (.int p2), some (.int v3)] [] σ (some (.int r0)) σ2 := by
  intro n
  induction n with
  | zero =>
    intro v3 σ h
    cases h
  | succ n ih =>
    intro v3 σ h hk
    rw [f_X7_deal_30.eq_2] at h
    refine i_iload_n dX7_deal_30 rfl ?_
    refine i_iload_n dX7_deal_31 rfl ?_
    refine r_icmp_ge (tgt := 48) dX7_deal_32 (by decide) h (fun c1 h => ?_) (fun c1 h => ?_)
    · refine At.fewer (ls' := [none, none, some (.int p2), none]) (And.intro rfl trivial) ?_
      exact hk _ h
    · refine i_aload_n dX7_deal_35 rfl ?_
      refine gf_X7_21 rfl (by omega) dX7_deal_36 ?_
      refine cVN_vw dX7_deal_39 cw_X7_173 ci_X0_drawPerson rfl rfl (by decide) (show 0 < 3 by omega) h (fun a1 e => F_X0_drawPerson (by omega) e) (Nat.le_of_ble_eq_true rfl) rfl rfl (Nat.le_of_ble_eq_true rfl) (fun a1 ea1 h => ?_)
      refine i_iinc (v := (v3 + (1 : Int32))) (ls' := [some (rf X 7 0), none, some (.int p2), some (.int (v3 + (1 : Int32)))]) dX7_deal_42 rfl (by rfl) (by decide) (okp_at rfl) rfl ?_
      refine i_goto (tgt := 30) dX7_deal_45 (by decide) ?_
      exact ih _ _ h hk
def f_X7_deal  (p1 : Int32) (σ : Mem) : Option (Int32 × Mem) :=
  (bnd (f_X7_isWithin p1 (1 : Int32) (10 : Int32) σ) (fun a1 => (if a1 = 0 then (some ((-1000000001 : Int32), σ)) else (f_X7_deal_30 (if ((10 : Int32) - (σ 0 0 2)) < p1 then ((10 : Int32) - (σ 0 0 2)) else p1) FU (0 : Int32) σ (fun σ_1 => (some ((if ((10 : Int32) - (σ 0 0 2)) < p1 then ((10 : Int32) - (σ 0 0 2)) else p1), σ_1)))))))
set_option maxRecDepth 100000 in
set_option maxHeartbeats 4000000 in
theorem F_X7_deal {X : Cx} {p1 : Int32} {σ : Mem} {res : (Int32 × Mem)}  (h : f_X7_deal p1 σ = some res) : Tri X 4 mX7_deal [rf X 7 0, .int p1] σ (some (.int res.1)) res.2 := by
  obtain ⟨r0, σ2⟩ := res
  unfold f_X7_deal at h
  refine Tri.of (ls := [some (rf X 7 0), some (.int p1), none, none]) (by decide) (Nat.le_of_ble_eq_true rfl) rfl ?_
  refine i_iload_n dX7_deal_0 rfl ?_
  refine i_iconst (v := 1) dX7_deal_1 (by decide) ?_
  refine i_bipush (v := 10) dX7_deal_2 (by decide) ?_
  refine cS_ir dX7_deal_4 cw_X7_62 ci_X7_isWithin h (fun a1 e => F_X7_isWithin  e) (Nat.le_of_ble_eq_true rfl) rfl rfl (Nat.le_of_ble_eq_true rfl) (fun a1 ea1 h => ?_)
  refine r_if_ne (tgt := 13) dX7_deal_7 (by decide) h (fun c1 h => ?_) (fun c1 h => ?_)
  · refine i_iload_n dX7_deal_13 rfl ?_
    refine i_bipush (v := 10) dX7_deal_14 (by decide) ?_
    refine i_aload_n dX7_deal_16 rfl ?_
    refine gf_X7_21 rfl (by omega) dX7_deal_17 ?_
    refine gf_X7_67 rfl (by omega) dX7_deal_20 ?_
    refine i_isub dX7_deal_23 ?_
    refine i_mmin dX7_deal_24 k_X7_167 (by omega) (Nat.le_of_ble_eq_true rfl) ?_
    refine i_istore_n (ls' := [some (rf X 7 0), some (.int p1), some (.int (if ((10 : Int32) - (σ 0 0 2)) < p1 then ((10 : Int32) - (σ 0 0 2)) else p1)), none]) dX7_deal_27 (by decide) (okp_at rfl) rfl ?_
    refine i_iconst (v := 0) dX7_deal_28 (by decide) ?_
    refine i_istore_n (ls' := [some (rf X 7 0), some (.int p1), some (.int (if ((10 : Int32) - (σ 0 0 2)) < p1 then ((10 : Int32) - (σ 0 0 2)) else p1)), some (.int (0 : Int32))]) dX7_deal_29 (by decide) (okp_at rfl) rfl ?_
    refine At.fewer (ls' := [some (rf X 7 0), none, some (.int (if ((10 : Int32) - (σ 0 0 2)) < p1 then ((10 : Int32) - (σ 0 0 2)) else p1)), some (.int (0 : Int32))]) (And.intro rfl (And.intro rfl (And.intro rfl trivial))) ?_
    refine L_X7_deal_30  FU _ _ h (fun σ_1 h => ?_)
    refine i_iload_n dX7_deal_48 rfl ?_
    exact e_iw rfl dX7_deal_49 h
  · refine i_ldc (v := (-1000000001)) dX7_deal_10 k_X7_66 ?_
    exact e_iw rfl dX7_deal_12 h
def f_X7_seed  (p1 : Int32) (σ : Mem) : Option (Int32 × Mem) :=
  (some ((σ 0 0 10), (mput σ 0 0 10 p1)))
set_option maxRecDepth 100000 in
set_option maxHeartbeats 4000000 in
theorem F_X7_seed {X : Cx} {p1 : Int32} {σ : Mem} {res : (Int32 × Mem)}  (h : f_X7_seed p1 σ = some res) : Tri X 1 mX7_seed [rf X 7 0, .int p1] σ (some (.int res.1)) res.2 := by
  obtain ⟨r0, σ2⟩ := res
  unfold f_X7_seed at h
  refine Tri.of (ls := [some (rf X 7 0), some (.int p1), none]) (by decide) (Nat.le_of_ble_eq_true rfl) rfl ?_
  refine i_aload_n dX7_seed_0 rfl ?_
  refine gf_X7_21 rfl (by omega) dX7_seed_1 ?_
  refine gf_X7_176 rfl (by omega) dX7_seed_4 ?_
  refine i_istore_n (ls' := [some (rf X 7 0), some (.int p1), some (.int (σ 0 0 10))]) dX7_seed_7 (by decide) (okp_at rfl) rfl ?_
  refine i_aload_n dX7_seed_8 rfl ?_
  refine gf_X7_21 rfl (by omega) dX7_seed_9 ?_
  refine i_iload_n dX7_seed_12 rfl ?_
  refine pf_X7_176 rfl (by omega) dX7_seed_13 ?_
  refine i_iload_n dX7_seed_16 rfl ?_
  exact e_iw rfl dX7_seed_17 h
def f_X7_hours  (p1 : Int32) (σ : Mem) : Option (Int32 × Mem) :=
  (bnd (f_X7_isWithin p1 (1 : Int32) (100 : Int32) σ) (fun a1 => (if a1 = 0 then (some ((-1000000001 : Int32), σ)) else (bnd (f_X0_passHours 0 (if ((9999 : Int32) - (σ 0 0 9)) < p1 then ((9999 : Int32) - (σ 0 0 9)) else p1) σ) (fun a2 => (some (((a2 0 0 8) - (σ 0 0 8)), a2)))))))
set_option maxRecDepth 100000 in
set_option maxHeartbeats 4000000 in
theorem F_X7_hours {X : Cx} {p1 : Int32} {σ : Mem} {res : (Int32 × Mem)}  (h : f_X7_hours p1 σ = some res) : Tri X 7 mX7_hours [rf X 7 0, .int p1] σ (some (.int res.1)) res.2 := by
  obtain ⟨r0, σ2⟩ := res
  unfold f_X7_hours at h
  refine Tri.of (ls := [some (rf X 7 0), some (.int p1), none]) (by decide) (Nat.le_of_ble_eq_true rfl) rfl ?_
  refine i_iload_n dX7_hours_0 rfl ?_
  refine i_iconst (v := 1) dX7_hours_1 (by decide) ?_
  refine i_bipush (v := 100) dX7_hours_2 (by decide) ?_
  refine cS_ir dX7_hours_4 cw_X7_62 ci_X7_isWithin h (fun a1 e => F_X7_isWithin  e) (Nat.le_of_ble_eq_true rfl) rfl rfl (Nat.le_of_ble_eq_true rfl) (fun a1 ea1 h => ?_)
  refine r_if_ne (tgt := 13) dX7_hours_7 (by decide) h (fun c1 h => ?_) (fun c1 h => ?_)
  · refine i_aload_n dX7_hours_13 rfl ?_
    refine gf_X7_21 rfl (by omega) dX7_hours_14 ?_
    refine gf_X7_164 rfl (by omega) dX7_hours_17 ?_
    refine i_istore_n (ls' := [some (rf X 7 0), some (.int p1), some (.int (σ 0 0 8))]) dX7_hours_20 (by decide) (okp_at rfl) rfl ?_
    refine i_aload_n dX7_hours_21 rfl ?_
    refine gf_X7_21 rfl (by omega) dX7_hours_22 ?_
    refine i_iload_n dX7_hours_25 rfl ?_
    refine i_sipush (v := 9999) dX7_hours_26 (by decide) ?_
    refine i_aload_n dX7_hours_29 rfl ?_
    refine gf_X7_21 rfl (by omega) dX7_hours_30 ?_
    refine gf_X7_132 rfl (by omega) dX7_hours_33 ?_
    refine i_isub dX7_hours_36 ?_
    refine i_mmin dX7_hours_37 k_X7_167 (by omega) (Nat.le_of_ble_eq_true rfl) ?_
    refine cVN_vw dX7_hours_40 cw_X7_179 ci_X0_passHours rfl rfl (by decide) (show 0 < 3 by omega) h (fun a2 e => F_X0_passHours (by omega) e) (Nat.le_of_ble_eq_true rfl) rfl rfl (Nat.le_of_ble_eq_true rfl) (fun a2 ea2 h => ?_)
    refine i_aload_n dX7_hours_43 rfl ?_
    refine gf_X7_21 rfl (by omega) dX7_hours_44 ?_
    refine gf_X7_164 rfl (by omega) dX7_hours_47 ?_
    refine i_iload_n dX7_hours_50 rfl ?_
    refine i_isub dX7_hours_51 ?_
    exact e_iw rfl dX7_hours_52 h
  · refine i_ldc (v := (-1000000001)) dX7_hours_10 k_X7_66 ?_
    exact e_iw rfl dX7_hours_12 h
def f_X7_land  (p1 : Int32) (σ : Mem) : Option Int32 :=
  (if p1 = (0 : Int32) then (some (σ 0 0 6)) else (if p1 = (1 : Int32) then (some (σ 0 0 7)) else (if p1 = (2 : Int32) then (some (σ 0 0 8)) else (if p1 = (3 : Int32) then (bnd (f_X0_givers 0 σ) (fun a1 => (some a1))) else (if p1 = (4 : Int32) then (bnd (f_X0_takers 0 σ) (fun a2 => (some a2))) else (if p1 = (5 : Int32) then (bnd (f_X0_longestChain 0 σ) (fun a3 => (some a3))) else (some (-1000000001 : Int32))))))))
set_option maxRecDepth 100000 in
set_option maxHeartbeats 4000000 in
theorem F_X7_land {X : Cx} {p1 : Int32} {σ : Mem} {res : Int32}  (h : f_X7_land p1 σ = some res) : Tri X 15 mX7_land [rf X 7 0, .int p1] σ (some (.int res)) σ := by
  unfold f_X7_land at h
  refine Tri.of (ls := [some (rf X 7 0), some (.int p1)]) (by decide) (Nat.le_of_ble_eq_true rfl) rfl ?_
  refine i_iload_n dX7_land_0 rfl ?_
  refine r_case (c := p1 = (0 : Int32)) h (fun c1 h => ?_) (fun c1 h => ?_)
  · refine i_tin (tgt := 40) (off := 39) dX7_land_1 (0 : Int32) c1 (by decide) (by decide) (by decide) (by decide) ?_
    refine i_aload_n dX7_land_40 rfl ?_
    refine gf_X7_21 rfl (by omega) dX7_land_41 ?_
    refine gf_X7_140 rfl (by omega) dX7_land_44 ?_
    exact e_ir rfl dX7_land_47 h
  · refine r_case (c := p1 = (1 : Int32)) h (fun c2 h => ?_) (fun c2 h => ?_)
    · refine i_tin (tgt := 48) (off := 47) dX7_land_1 (1 : Int32) c2 (by decide) (by decide) (by decide) (by decide) ?_
      refine i_aload_n dX7_land_48 rfl ?_
      refine gf_X7_21 rfl (by omega) dX7_land_49 ?_
      refine gf_X7_182 rfl (by omega) dX7_land_52 ?_
      exact e_ir rfl dX7_land_55 h
    · refine r_case (c := p1 = (2 : Int32)) h (fun c3 h => ?_) (fun c3 h => ?_)
      · refine i_tin (tgt := 56) (off := 55) dX7_land_1 (2 : Int32) c3 (by decide) (by decide) (by decide) (by decide) ?_
        refine i_aload_n dX7_land_56 rfl ?_
        refine gf_X7_21 rfl (by omega) dX7_land_57 ?_
        refine gf_X7_164 rfl (by omega) dX7_land_60 ?_
        exact e_ir rfl dX7_land_63 h
      · refine r_case (c := p1 = (3 : Int32)) h (fun c4 h => ?_) (fun c4 h => ?_)
        · refine i_tin (tgt := 64) (off := 63) dX7_land_1 (3 : Int32) c4 (by decide) (by decide) (by decide) (by decide) ?_
          refine i_aload_n dX7_land_64 rfl ?_
          refine gf_X7_21 rfl (by omega) dX7_land_65 ?_
          refine cVN_ir dX7_land_68 cw_X7_185 ci_X0_givers rfl rfl (by decide) (show 0 < 3 by omega) h (fun a1 e => F_X0_givers (by omega) e) (Nat.le_of_ble_eq_true rfl) rfl rfl (Nat.le_of_ble_eq_true rfl) (fun a1 ea1 h => ?_)
          exact e_ir rfl dX7_land_71 h
        · refine r_case (c := p1 = (4 : Int32)) h (fun c5 h => ?_) (fun c5 h => ?_)
          · refine i_tin (tgt := 72) (off := 71) dX7_land_1 (4 : Int32) c5 (by decide) (by decide) (by decide) (by decide) ?_
            refine i_aload_n dX7_land_72 rfl ?_
            refine gf_X7_21 rfl (by omega) dX7_land_73 ?_
            refine cVN_ir dX7_land_76 cw_X7_188 ci_X0_takers rfl rfl (by decide) (show 0 < 3 by omega) h (fun a2 e => F_X0_takers (by omega) e) (Nat.le_of_ble_eq_true rfl) rfl rfl (Nat.le_of_ble_eq_true rfl) (fun a2 ea2 h => ?_)
            exact e_ir rfl dX7_land_79 h
          · refine r_case (c := p1 = (5 : Int32)) h (fun c6 h => ?_) (fun c6 h => ?_)
            · refine i_tin (tgt := 80) (off := 79) dX7_land_1 (5 : Int32) c6 (by decide) (by decide) (by decide) (by decide) ?_
              refine i_aload_n dX7_land_80 rfl ?_
              refine gf_X7_21 rfl (by omega) dX7_land_81 ?_
              refine cVN_ir dX7_land_84 cw_X7_191 ci_X0_longestChain rfl rfl (by decide) (show 0 < 3 by omega) h (fun a3 e => F_X0_longestChain (by omega) e) (Nat.le_of_ble_eq_true rfl) rfl rfl (Nat.le_of_ble_eq_true rfl) (fun a3 ea3 h => ?_)
              exact e_ir rfl dX7_land_87 h
            · refine i_tout (tgt := 88) dX7_land_1 (tsw_0_5 c1 c2 c3 c4 c5 c6) (by decide) ?_
              refine i_ldc (v := (-1000000001)) dX7_land_88 k_X7_66 ?_
              exact e_ir rfl dX7_land_90 h
def f_X7_reaches  (p1 : Int32) (p2 : Int32) (σ : Mem) : Option Int32 :=
  (bnd (f_X0_hasPerson 0 p1 σ) (fun a1 => (if a1 = 0 then (some (-1000000001 : Int32)) else (bnd (f_X0_hasPerson 0 p2 σ) (fun a2 => (if a2 = 0 then (some (-1000000001 : Int32)) else (bnd (f_X0_fewestVowsBetween 0 p1 p2 σ) (fun a3 => (some a3)))))))))
set_option maxRecDepth 100000 in
set_option maxHeartbeats 4000000 in
theorem F_X7_reaches {X : Cx} {p1 : Int32} {p2 : Int32} {σ : Mem} {res : Int32}  (h : f_X7_reaches p1 p2 σ = some res) : Tri X 3 mX7_reaches [rf X 7 0, .int p1, .int p2] σ (some (.int res)) σ := by
  unfold f_X7_reaches at h
  refine Tri.of (ls := [some (rf X 7 0), some (.int p1), some (.int p2)]) (by decide) (Nat.le_of_ble_eq_true rfl) rfl ?_
  refine i_aload_n dX7_reaches_0 rfl ?_
  refine gf_X7_21 rfl (by omega) dX7_reaches_1 ?_
  refine i_iload_n dX7_reaches_4 rfl ?_
  refine cVN_ir dX7_reaches_5 cw_X7_76 ci_X0_hasPerson rfl rfl (by decide) (show 0 < 3 by omega) h (fun a1 e => F_X0_hasPerson (by omega) e) (Nat.le_of_ble_eq_true rfl) rfl rfl (Nat.le_of_ble_eq_true rfl) (fun a1 ea1 h => ?_)
  refine r_if_eq (tgt := 22) dX7_reaches_8 (by decide) h (fun c1 h => ?_) (fun c1 h => ?_)
  · refine i_ldc (v := (-1000000001)) dX7_reaches_22 k_X7_66 ?_
    exact e_ir rfl dX7_reaches_24 h
  · refine i_aload_n dX7_reaches_11 rfl ?_
    refine gf_X7_21 rfl (by omega) dX7_reaches_12 ?_
    refine i_iload_n dX7_reaches_15 rfl ?_
    refine cVN_ir dX7_reaches_16 cw_X7_76 ci_X0_hasPerson rfl rfl (by decide) (show 0 < 3 by omega) h (fun a2 e => F_X0_hasPerson (by omega) e) (Nat.le_of_ble_eq_true rfl) rfl rfl (Nat.le_of_ble_eq_true rfl) (fun a2 ea2 h => ?_)
    refine r_if_ne (tgt := 25) dX7_reaches_19 (by decide) h (fun c2 h => ?_) (fun c2 h => ?_)
    · refine i_aload_n dX7_reaches_25 rfl ?_
      refine gf_X7_21 rfl (by omega) dX7_reaches_26 ?_
      refine i_iload_n dX7_reaches_29 rfl ?_
      refine i_iload_n dX7_reaches_30 rfl ?_
      refine cVN_ir dX7_reaches_31 cw_X7_194 ci_X0_fewestVowsBetween rfl rfl (by decide) (show 0 < 3 by omega) h (fun a3 e => F_X0_fewestVowsBetween (by omega) e) (Nat.le_of_ble_eq_true rfl) rfl rfl (Nat.le_of_ble_eq_true rfl) (fun a3 ea3 h => ?_)
      exact e_ir rfl dX7_reaches_34 h
    · refine i_ldc (v := (-1000000001)) dX7_reaches_22 k_X7_66 ?_
      exact e_ir rfl dX7_reaches_24 h
def f_X7_behind  (p1 : Int32) (p2 : Int32) (σ : Mem) : Option (Int32 × Mem) :=
  (bnd (f_X7_isWithin p1 (0 : Int32) (100 : Int32) σ) (fun a1 => (if a1 = 0 then (some ((-1000000001 : Int32), σ)) else (bnd (f_X7_isWithin p2 (0 : Int32) ((2 : Int32) + (σ 0 0 2)) σ) (fun a2 => (if a2 = 0 then (some ((-1000000001 : Int32), σ)) else (bnd (f_X0_becomes 2 0 σ) (fun a3 => (bnd (f_X0_passHours 2 p1 a3) (fun a4 => (if p2 = (0 : Int32) then (some ((a4 0 2 6), a4)) else (if p2 = (1 : Int32) then (some ((a4 0 2 7), a4)) else (if p2 = (2 : Int32) then (some ((a4 0 2 8), a4)) else (bnd (ix 10 (p2 - (3 : Int32))) (fun j1 => (some ((a4 3 (10 * 2 + j1) 3), a4)))))))))))))))))
set_option maxRecDepth 100000 in
set_option maxHeartbeats 4000000 in
theorem F_X7_behind {X : Cx} {p1 : Int32} {p2 : Int32} {σ : Mem} {res : (Int32 × Mem)}  (h : f_X7_behind p1 p2 σ = some res) : Tri X 7 mX7_behind [rf X 7 0, .int p1, .int p2] σ (some (.int res.1)) res.2 := by
  obtain ⟨r0, σ2⟩ := res
  unfold f_X7_behind at h
  refine Tri.of (ls := [some (rf X 7 0), some (.int p1), some (.int p2)]) (by decide) (Nat.le_of_ble_eq_true rfl) rfl ?_
  refine i_iload_n dX7_behind_0 rfl ?_
  refine i_iconst (v := 0) dX7_behind_1 (by decide) ?_
  refine i_bipush (v := 100) dX7_behind_2 (by decide) ?_
  refine cS_ir dX7_behind_4 cw_X7_62 ci_X7_isWithin h (fun a1 e => F_X7_isWithin  e) (Nat.le_of_ble_eq_true rfl) rfl rfl (Nat.le_of_ble_eq_true rfl) (fun a1 ea1 h => ?_)
  refine r_if_eq (tgt := 27) dX7_behind_7 (by decide) h (fun c1 h => ?_) (fun c1 h => ?_)
  · refine i_ldc (v := (-1000000001)) dX7_behind_27 k_X7_66 ?_
    exact e_iw rfl dX7_behind_29 h
  · refine i_iload_n dX7_behind_10 rfl ?_
    refine i_iconst (v := 0) dX7_behind_11 (by decide) ?_
    refine i_iconst (v := 2) dX7_behind_12 (by decide) ?_
    refine i_aload_n dX7_behind_13 rfl ?_
    refine gf_X7_21 rfl (by omega) dX7_behind_14 ?_
    refine gf_X7_67 rfl (by omega) dX7_behind_17 ?_
    refine i_iadd dX7_behind_20 ?_
    refine cS_ir dX7_behind_21 cw_X7_62 ci_X7_isWithin h (fun a2 e => F_X7_isWithin  e) (Nat.le_of_ble_eq_true rfl) rfl rfl (Nat.le_of_ble_eq_true rfl) (fun a2 ea2 h => ?_)
    refine r_if_ne (tgt := 30) dX7_behind_24 (by decide) h (fun c2 h => ?_) (fun c2 h => ?_)
    · refine i_aload_n dX7_behind_30 rfl ?_
      refine gf_X7_28 rfl (by omega) dX7_behind_31 ?_
      refine i_aload_n dX7_behind_34 rfl ?_
      refine gf_X7_21 rfl (by omega) dX7_behind_35 ?_
      refine cVN_vw dX7_behind_38 cw_X7_197 ci_X0_becomes rfl rfl (by decide) (show 2 < 3 by omega) h (fun a3 e => F_X0_becomes (by omega) (by omega) e) (Nat.le_of_ble_eq_true rfl) rfl rfl (Nat.le_of_ble_eq_true rfl) (fun a3 ea3 h => ?_)
      refine i_aload_n dX7_behind_41 rfl ?_
      refine gf_X7_28 rfl (by omega) dX7_behind_42 ?_
      refine i_iload_n dX7_behind_45 rfl ?_
      refine cVN_vw dX7_behind_46 cw_X7_179 ci_X0_passHours rfl rfl (by decide) (show 2 < 3 by omega) h (fun a4 e => F_X0_passHours (by omega) e) (Nat.le_of_ble_eq_true rfl) rfl rfl (Nat.le_of_ble_eq_true rfl) (fun a4 ea4 h => ?_)
      refine i_iload_n dX7_behind_49 rfl ?_
      refine r_case (c := p2 = (0 : Int32)) h (fun c3 h => ?_) (fun c3 h => ?_)
      · refine i_tin (tgt := 76) (off := 26) dX7_behind_50 (0 : Int32) c3 (by decide) (by decide) (by decide) (by decide) ?_
        refine i_aload_n dX7_behind_76 rfl ?_
        refine gf_X7_28 rfl (by omega) dX7_behind_77 ?_
        refine gf_X7_140 rfl (by omega) dX7_behind_80 ?_
        exact e_iw rfl dX7_behind_83 h
      · refine r_case (c := p2 = (1 : Int32)) h (fun c4 h => ?_) (fun c4 h => ?_)
        · refine i_tin (tgt := 84) (off := 34) dX7_behind_50 (1 : Int32) c4 (by decide) (by decide) (by decide) (by decide) ?_
          refine i_aload_n dX7_behind_84 rfl ?_
          refine gf_X7_28 rfl (by omega) dX7_behind_85 ?_
          refine gf_X7_182 rfl (by omega) dX7_behind_88 ?_
          exact e_iw rfl dX7_behind_91 h
        · refine r_case (c := p2 = (2 : Int32)) h (fun c5 h => ?_) (fun c5 h => ?_)
          · refine i_tin (tgt := 92) (off := 42) dX7_behind_50 (2 : Int32) c5 (by decide) (by decide) (by decide) (by decide) ?_
            refine i_aload_n dX7_behind_92 rfl ?_
            refine gf_X7_28 rfl (by omega) dX7_behind_93 ?_
            refine gf_X7_164 rfl (by omega) dX7_behind_96 ?_
            exact e_iw rfl dX7_behind_99 h
          · refine i_tout (tgt := 100) dX7_behind_50 (tsw_0_2 c3 c4 c5) (by decide) ?_
            refine i_aload_n dX7_behind_100 rfl ?_
            refine gf_X7_28 rfl (by omega) dX7_behind_101 ?_
            refine gf_X7_80 rfl (by omega) dX7_behind_104 ?_
            refine i_iload_n dX7_behind_107 rfl ?_
            refine i_iconst (v := 3) dX7_behind_108 (by decide) ?_
            refine i_isub dX7_behind_109 ?_
            refine aa_12 dX7_behind_110 (by omega) h (fun j1 lj1 h => ?_)
            refine gf_X7_95 rfl (by omega) dX7_behind_111 ?_
            exact e_iw rfl dX7_behind_114 h
    · refine i_ldc (v := (-1000000001)) dX7_behind_27 k_X7_66 ?_
      exact e_iw rfl dX7_behind_29 h
def f_X7_free_13  : Nat → Int32 → Mem → (Mem → Option (Int32 × Mem)) → Option (Int32 × Mem)
  | 0, _, _, _ => none
  | n + 1, v1, σ, k =>
    (if (300 : Int32) < v1 then (k σ) else (if (σ 0 2 6) = 0 then (some (v1, σ)) else (bnd (f_X0_passHour 2 σ) (fun a1 => (f_X7_free_13 n (v1 + (1 : Int32)) a1 k)))))
set_option maxRecDepth 100000 in
set_option maxHeartbeats 4000000 in
theorem L_X7_free_13 {X : Cx}  {r0 : Int32} {σ2 : Mem} {k : Mem → Option (Int32 × Mem)}  : ∀ (n : Nat) (v1 : Int32) (σ : Mem), f_X7_free_13  n v1 σ k = some (r0, σ2) → (∀ (σ1 : Mem), k σ1 = some (r0, σ2) → At X 6 mX7_free 45 [none, none] [] σ1 (some (.int r0)) σ2) → At X 6 mX7_free 13 [some (rf X 7 0), some (.int v1)] [] σ (some (.int r0)) σ2 := by
  intro n
  induction n with
  | zero =>
    intro v1 σ h
    cases h
  | succ n ih =>
    intro v1 σ h hk
    rw [f_X7_free_13.eq_2] at h
    refine i_iload_n dX7_free_13 rfl ?_
    refine i_sipush (v := 300) dX7_free_14 (by decide) ?_
    refine r_icmp_gt (tgt := 45) dX7_free_17 (by decide) h (fun c1 h => ?_) (fun c1 h => ?_)
    · refine At.fewer (ls' := [none, none]) trivial ?_
      exact hk _ h
    · refine i_aload_n dX7_free_20 rfl ?_
      refine gf_X7_28 rfl (by omega) dX7_free_21 ?_
      refine gf_X7_140 rfl (by omega) dX7_free_24 ?_
      refine r_if_ne (tgt := 32) dX7_free_27 (by decide) h (fun c2 h => ?_) (fun c2 h => ?_)
      · refine i_aload_n dX7_free_32 rfl ?_
        refine gf_X7_28 rfl (by omega) dX7_free_33 ?_
        refine cVN_vw dX7_free_36 cw_X7_201 ci_X0_passHour rfl rfl (by decide) (show 2 < 3 by omega) h (fun a1 e => F_X0_passHour (by omega) e) (Nat.le_of_ble_eq_true rfl) rfl rfl (Nat.le_of_ble_eq_true rfl) (fun a1 ea1 h => ?_)
        refine i_iinc (v := (v1 + (1 : Int32))) (ls' := [some (rf X 7 0), some (.int (v1 + (1 : Int32)))]) dX7_free_39 rfl (by rfl) (by decide) (okp_at rfl) rfl ?_
        refine i_goto (tgt := 13) dX7_free_42 (by decide) ?_
        exact ih _ _ h hk
      · refine i_iload_n dX7_free_30 rfl ?_
        exact e_iw rfl dX7_free_31 h
def f_X7_free   (σ : Mem) : Option (Int32 × Mem) :=
  (bnd (f_X0_becomes 2 0 σ) (fun a1 => (f_X7_free_13 FU (0 : Int32) a1 (fun σ_1 => (some ((-1000000005 : Int32), σ_1))))))
set_option maxRecDepth 100000 in
set_option maxHeartbeats 4000000 in
theorem F_X7_free {X : Cx}  {σ : Mem} {res : (Int32 × Mem)}  (h : f_X7_free σ = some res) : Tri X 6 mX7_free [rf X 7 0] σ (some (.int res.1)) res.2 := by
  obtain ⟨r0, σ2⟩ := res
  unfold f_X7_free at h
  refine Tri.of (ls := [some (rf X 7 0), none]) (by decide) (Nat.le_of_ble_eq_true rfl) rfl ?_
  refine i_aload_n dX7_free_0 rfl ?_
  refine gf_X7_28 rfl (by omega) dX7_free_1 ?_
  refine i_aload_n dX7_free_4 rfl ?_
  refine gf_X7_21 rfl (by omega) dX7_free_5 ?_
  refine cVN_vw dX7_free_8 cw_X7_197 ci_X0_becomes rfl rfl (by decide) (show 2 < 3 by omega) h (fun a1 e => F_X0_becomes (by omega) (by omega) e) (Nat.le_of_ble_eq_true rfl) rfl rfl (Nat.le_of_ble_eq_true rfl) (fun a1 ea1 h => ?_)
  refine i_iconst (v := 0) dX7_free_11 (by decide) ?_
  refine i_istore_n (ls' := [some (rf X 7 0), some (.int (0 : Int32))]) dX7_free_12 (by decide) (okp_at rfl) rfl ?_
  refine L_X7_free_13  FU _ _ h (fun σ_1 h => ?_)
  refine i_ldc (v := (-1000000005)) dX7_free_45 k_X7_139 ?_
  exact e_iw rfl dX7_free_47 h
def f_X7_sworn_44 (p1 : Int32) (p2 : Int32) : Nat → Int32 → Int32 → Int32 → Mem → (Int32 → Int32 → Mem → Option (Int32 × Mem)) → Option (Int32 × Mem)
  | 0, _, _, _, _, _ => none
  | n + 1, v3, v4, v5, σ, k =>
    (if (σ 0 0 2) ≤ v5 then (k v3 v4 σ) else (if v5 = 0 then (bnd (f_X0_becomes 2 0 σ) (fun a4 => (bnd (f_X0_addVow 2 v5 (1 : Int32) (0 : Int32) a4) (fun a5 => (bnd (f_X0_passHours 2 p1 a5) (fun a6 => (if (a6 0 2 6) ≤ v4 then (f_X7_sworn_44 p1 p2 n v3 v4 (v5 + (1 : Int32)) a6 k) else (f_X7_sworn_44 p1 p2 n (((10 : Int32) * v5) + (1 : Int32)) (a6 0 2 6) (v5 + (1 : Int32)) a6 k)))))))) else (bnd (f_X0_becomes 2 0 σ) (fun a1 => (bnd (f_X0_addVow 2 v5 (0 : Int32) (0 : Int32) a1) (fun a2 => (bnd (f_X0_passHours 2 p1 a2) (fun a3 => (if (a3 0 2 6) ≤ v4 then (f_X7_sworn_44 p1 p2 n v3 v4 (v5 + (1 : Int32)) a3 k) else (f_X7_sworn_44 p1 p2 n (((10 : Int32) * v5) + (0 : Int32)) (a3 0 2 6) (v5 + (1 : Int32)) a3 k))))))))))
set_option maxRecDepth 100000 in
set_option maxHeartbeats 4000000 in
theorem L_X7_sworn_44 {X : Cx} {p1 : Int32} {p2 : Int32} {r0 : Int32} {σ2 : Mem} {k : Int32 → Int32 → Mem → Option (Int32 × Mem)}  : ∀ (n : Nat) (v3 : Int32) (v4 : Int32) (v5 : Int32) (σ : Mem), f_X7_sworn_44 p1 p2 n v3 v4 v5 σ k = some (r0, σ2) → (∀ (x3 : Int32) (x4 : Int32) (σ1 : Mem), k x3 x4 σ1 = some (r0, σ2) → At X 7 mX7_sworn 135 [none, none, some (.int p2), some (.int x3), some (.int x4), none, none] [] σ1 (some (.int r0)) σ2) → At X 7 mX7_sworn 44 [some (rf X 7 0), some (.int p1), some (.int p2), some (.int v3), some (.int v4), some (.int v5), none] [] σ (some (.int r0)) σ2 := by
  intro n
  induction n with
  | zero =>
    intro v3 v4 v5 σ h
    cases h
  | succ n ih =>
    intro v3 v4 v5 σ h hk
    rw [f_X7_sworn_44.eq_2] at h
    refine i_iload dX7_sworn_44 rfl ?_
    refine i_aload_n dX7_sworn_46 rfl ?_
    refine gf_X7_21 rfl (by omega) dX7_sworn_47 ?_
    refine gf_X7_67 rfl (by omega) dX7_sworn_50 ?_
    refine r_icmp_ge (tgt := 135) dX7_sworn_53 (by decide) h (fun c1 h => ?_) (fun c1 h => ?_)
    · refine At.fewer (ls' := [none, none, some (.int p2), some (.int v3), some (.int v4), none, none]) (And.intro rfl (And.intro rfl (And.intro rfl trivial))) ?_
      exact hk _ _ _ h
    · refine i_iload dX7_sworn_56 rfl ?_
      refine r_if_ne (tgt := 65) dX7_sworn_58 (by decide) h (fun c2 h => ?_) (fun c2 h => ?_)
      · refine i_iconst (v := 0) dX7_sworn_65 (by decide) ?_
        refine i_istore (ls' := [some (rf X 7 0), some (.int p1), some (.int p2), some (.int v3), some (.int v4), some (.int v5), some (.int (0 : Int32))]) dX7_sworn_66 (by decide) (okp_at rfl) rfl ?_
        refine i_aload_n dX7_sworn_68 rfl ?_
        refine gf_X7_28 rfl (by omega) dX7_sworn_69 ?_
        refine i_aload_n dX7_sworn_72 rfl ?_
        refine gf_X7_21 rfl (by omega) dX7_sworn_73 ?_
        refine cVN_vw dX7_sworn_76 cw_X7_197 ci_X0_becomes rfl rfl (by decide) (show 2 < 3 by omega) h (fun a1 e => F_X0_becomes (by omega) (by omega) e) (Nat.le_of_ble_eq_true rfl) rfl rfl (Nat.le_of_ble_eq_true rfl) (fun a1 ea1 h => ?_)
        refine i_aload_n dX7_sworn_79 rfl ?_
        refine gf_X7_28 rfl (by omega) dX7_sworn_80 ?_
        refine i_iload dX7_sworn_83 rfl ?_
        refine i_iload dX7_sworn_85 rfl ?_
        refine i_iconst (v := 0) dX7_sworn_87 (by decide) ?_
        refine cVN_vw dX7_sworn_88 cw_X7_143 ci_X0_addVow rfl rfl (by decide) (show 2 < 3 by omega) h (fun a2 e => F_X0_addVow (by omega) e) (Nat.le_of_ble_eq_true rfl) rfl rfl (Nat.le_of_ble_eq_true rfl) (fun a2 ea2 h => ?_)
        refine i_aload_n dX7_sworn_91 rfl ?_
        refine gf_X7_28 rfl (by omega) dX7_sworn_92 ?_
        refine i_iload_n dX7_sworn_95 rfl ?_
        refine cVN_vw dX7_sworn_96 cw_X7_179 ci_X0_passHours rfl rfl (by decide) (show 2 < 3 by omega) h (fun a3 e => F_X0_passHours (by omega) e) (Nat.le_of_ble_eq_true rfl) rfl rfl (Nat.le_of_ble_eq_true rfl) (fun a3 ea3 h => ?_)
        refine i_aload_n dX7_sworn_99 rfl ?_
        refine gf_X7_28 rfl (by omega) dX7_sworn_100 ?_
        refine gf_X7_140 rfl (by omega) dX7_sworn_103 ?_
        refine i_iload dX7_sworn_106 rfl ?_
        refine r_icmp_le (tgt := 129) dX7_sworn_108 (by decide) h (fun c3 h => ?_) (fun c3 h => ?_)
        · refine i_iinc (v := (v5 + (1 : Int32))) (ls' := [some (rf X 7 0), some (.int p1), some (.int p2), some (.int v3), some (.int v4), some (.int (v5 + (1 : Int32))), some (.int (0 : Int32))]) dX7_sworn_129 rfl (by rfl) (by decide) (okp_at rfl) rfl ?_
          refine i_goto (tgt := 44) dX7_sworn_132 (by decide) ?_
          refine At.fewer (ls' := [some (rf X 7 0), some (.int p1), some (.int p2), some (.int v3), some (.int v4), some (.int (v5 + (1 : Int32))), none]) (And.intro rfl (And.intro rfl (And.intro rfl (And.intro rfl (And.intro rfl (And.intro rfl trivial)))))) ?_
          exact ih _ _ _ _ h hk
        · refine i_aload_n dX7_sworn_111 rfl ?_
          refine gf_X7_28 rfl (by omega) dX7_sworn_112 ?_
          refine gf_X7_140 rfl (by omega) dX7_sworn_115 ?_
          refine i_istore (ls' := [some (rf X 7 0), some (.int p1), some (.int p2), some (.int v3), some (.int (a3 0 2 6)), some (.int v5), some (.int (0 : Int32))]) dX7_sworn_118 (by decide) (okp_at rfl) rfl ?_
          refine i_bipush (v := 10) dX7_sworn_120 (by decide) ?_
          refine i_iload dX7_sworn_122 rfl ?_
          refine i_imul dX7_sworn_124 ?_
          refine i_iload dX7_sworn_125 rfl ?_
          refine i_iadd dX7_sworn_127 ?_
          refine i_istore_n (ls' := [some (rf X 7 0), some (.int p1), some (.int p2), some (.int (((10 : Int32) * v5) + (0 : Int32))), some (.int (a3 0 2 6)), some (.int v5), some (.int (0 : Int32))]) dX7_sworn_128 (by decide) (okp_at rfl) rfl ?_
          refine i_iinc (v := (v5 + (1 : Int32))) (ls' := [some (rf X 7 0), some (.int p1), some (.int p2), some (.int (((10 : Int32) * v5) + (0 : Int32))), some (.int (a3 0 2 6)), some (.int (v5 + (1 : Int32))), some (.int (0 : Int32))]) dX7_sworn_129 rfl (by rfl) (by decide) (okp_at rfl) rfl ?_
          refine i_goto (tgt := 44) dX7_sworn_132 (by decide) ?_
          refine At.fewer (ls' := [some (rf X 7 0), some (.int p1), some (.int p2), some (.int (((10 : Int32) * v5) + (0 : Int32))), some (.int (a3 0 2 6)), some (.int (v5 + (1 : Int32))), none]) (And.intro rfl (And.intro rfl (And.intro rfl (And.intro rfl (And.intro rfl (And.intro rfl trivial)))))) ?_
          exact ih _ _ _ _ h hk
      · refine i_iconst (v := 1) dX7_sworn_61 (by decide) ?_
        refine i_goto (tgt := 66) dX7_sworn_62 (by decide) ?_
        refine i_istore (ls' := [some (rf X 7 0), some (.int p1), some (.int p2), some (.int v3), some (.int v4), some (.int v5), some (.int (1 : Int32))]) dX7_sworn_66 (by decide) (okp_at rfl) rfl ?_
        refine i_aload_n dX7_sworn_68 rfl ?_
        refine gf_X7_28 rfl (by omega) dX7_sworn_69 ?_
        refine i_aload_n dX7_sworn_72 rfl ?_
        refine gf_X7_21 rfl (by omega) dX7_sworn_73 ?_
        refine cVN_vw dX7_sworn_76 cw_X7_197 ci_X0_becomes rfl rfl (by decide) (show 2 < 3 by omega) h (fun a4 e => F_X0_becomes (by omega) (by omega) e) (Nat.le_of_ble_eq_true rfl) rfl rfl (Nat.le_of_ble_eq_true rfl) (fun a4 ea4 h => ?_)
        refine i_aload_n dX7_sworn_79 rfl ?_
        refine gf_X7_28 rfl (by omega) dX7_sworn_80 ?_
        refine i_iload dX7_sworn_83 rfl ?_
        refine i_iload dX7_sworn_85 rfl ?_
        refine i_iconst (v := 0) dX7_sworn_87 (by decide) ?_
        refine cVN_vw dX7_sworn_88 cw_X7_143 ci_X0_addVow rfl rfl (by decide) (show 2 < 3 by omega) h (fun a5 e => F_X0_addVow (by omega) e) (Nat.le_of_ble_eq_true rfl) rfl rfl (Nat.le_of_ble_eq_true rfl) (fun a5 ea5 h => ?_)
        refine i_aload_n dX7_sworn_91 rfl ?_
        refine gf_X7_28 rfl (by omega) dX7_sworn_92 ?_
        refine i_iload_n dX7_sworn_95 rfl ?_
        refine cVN_vw dX7_sworn_96 cw_X7_179 ci_X0_passHours rfl rfl (by decide) (show 2 < 3 by omega) h (fun a6 e => F_X0_passHours (by omega) e) (Nat.le_of_ble_eq_true rfl) rfl rfl (Nat.le_of_ble_eq_true rfl) (fun a6 ea6 h => ?_)
        refine i_aload_n dX7_sworn_99 rfl ?_
        refine gf_X7_28 rfl (by omega) dX7_sworn_100 ?_
        refine gf_X7_140 rfl (by omega) dX7_sworn_103 ?_
        refine i_iload dX7_sworn_106 rfl ?_
        refine r_icmp_le (tgt := 129) dX7_sworn_108 (by decide) h (fun c4 h => ?_) (fun c4 h => ?_)
        · refine i_iinc (v := (v5 + (1 : Int32))) (ls' := [some (rf X 7 0), some (.int p1), some (.int p2), some (.int v3), some (.int v4), some (.int (v5 + (1 : Int32))), some (.int (1 : Int32))]) dX7_sworn_129 rfl (by rfl) (by decide) (okp_at rfl) rfl ?_
          refine i_goto (tgt := 44) dX7_sworn_132 (by decide) ?_
          refine At.fewer (ls' := [some (rf X 7 0), some (.int p1), some (.int p2), some (.int v3), some (.int v4), some (.int (v5 + (1 : Int32))), none]) (And.intro rfl (And.intro rfl (And.intro rfl (And.intro rfl (And.intro rfl (And.intro rfl trivial)))))) ?_
          exact ih _ _ _ _ h hk
        · refine i_aload_n dX7_sworn_111 rfl ?_
          refine gf_X7_28 rfl (by omega) dX7_sworn_112 ?_
          refine gf_X7_140 rfl (by omega) dX7_sworn_115 ?_
          refine i_istore (ls' := [some (rf X 7 0), some (.int p1), some (.int p2), some (.int v3), some (.int (a6 0 2 6)), some (.int v5), some (.int (1 : Int32))]) dX7_sworn_118 (by decide) (okp_at rfl) rfl ?_
          refine i_bipush (v := 10) dX7_sworn_120 (by decide) ?_
          refine i_iload dX7_sworn_122 rfl ?_
          refine i_imul dX7_sworn_124 ?_
          refine i_iload dX7_sworn_125 rfl ?_
          refine i_iadd dX7_sworn_127 ?_
          refine i_istore_n (ls' := [some (rf X 7 0), some (.int p1), some (.int p2), some (.int (((10 : Int32) * v5) + (1 : Int32))), some (.int (a6 0 2 6)), some (.int v5), some (.int (1 : Int32))]) dX7_sworn_128 (by decide) (okp_at rfl) rfl ?_
          refine i_iinc (v := (v5 + (1 : Int32))) (ls' := [some (rf X 7 0), some (.int p1), some (.int p2), some (.int (((10 : Int32) * v5) + (1 : Int32))), some (.int (a6 0 2 6)), some (.int (v5 + (1 : Int32))), some (.int (1 : Int32))]) dX7_sworn_129 rfl (by rfl) (by decide) (okp_at rfl) rfl ?_
          refine i_goto (tgt := 44) dX7_sworn_132 (by decide) ?_
          refine At.fewer (ls' := [some (rf X 7 0), some (.int p1), some (.int p2), some (.int (((10 : Int32) * v5) + (1 : Int32))), some (.int (a6 0 2 6)), some (.int (v5 + (1 : Int32))), none]) (And.intro rfl (And.intro rfl (And.intro rfl (And.intro rfl (And.intro rfl (And.intro rfl trivial)))))) ?_
          exact ih _ _ _ _ h hk
def f_X7_sworn  (p1 : Int32) (p2 : Int32) (σ : Mem) : Option (Int32 × Mem) :=
  (bnd (f_X7_isWithin p1 (1 : Int32) (40 : Int32) σ) (fun a1 => (if a1 = 0 then (some ((-1000000001 : Int32), σ)) else (bnd (f_X7_isWithin p2 (0 : Int32) (1 : Int32) σ) (fun a2 => (if a2 = 0 then (some ((-1000000001 : Int32), σ)) else (if (2 : Int32) ≤ (σ 0 0 2) then (f_X7_sworn_44 p1 p2 FU (-1 : Int32) (-1 : Int32) (0 : Int32) σ (fun e1 e2 σ_1 => (if p2 = 0 then (some (e1, σ_1)) else (some (e2, σ_1))))) else (some ((-1000000005 : Int32), σ)))))))))
set_option maxRecDepth 100000 in
set_option maxHeartbeats 4000000 in
theorem F_X7_sworn {X : Cx} {p1 : Int32} {p2 : Int32} {σ : Mem} {res : (Int32 × Mem)}  (h : f_X7_sworn p1 p2 σ = some res) : Tri X 7 mX7_sworn [rf X 7 0, .int p1, .int p2] σ (some (.int res.1)) res.2 := by
  obtain ⟨r0, σ2⟩ := res
  unfold f_X7_sworn at h
  refine Tri.of (ls := [some (rf X 7 0), some (.int p1), some (.int p2), none, none, none, none]) (by decide) (Nat.le_of_ble_eq_true rfl) rfl ?_
  refine i_iload_n dX7_sworn_0 rfl ?_
  refine i_iconst (v := 1) dX7_sworn_1 (by decide) ?_
  refine i_bipush (v := 40) dX7_sworn_2 (by decide) ?_
  refine cS_ir dX7_sworn_4 cw_X7_62 ci_X7_isWithin h (fun a1 e => F_X7_isWithin  e) (Nat.le_of_ble_eq_true rfl) rfl rfl (Nat.le_of_ble_eq_true rfl) (fun a1 ea1 h => ?_)
  refine r_if_eq (tgt := 19) dX7_sworn_7 (by decide) h (fun c1 h => ?_) (fun c1 h => ?_)
  · refine i_ldc (v := (-1000000001)) dX7_sworn_19 k_X7_66 ?_
    exact e_iw rfl dX7_sworn_21 h
  · refine i_iload_n dX7_sworn_10 rfl ?_
    refine i_iconst (v := 0) dX7_sworn_11 (by decide) ?_
    refine i_iconst (v := 1) dX7_sworn_12 (by decide) ?_
    refine cS_ir dX7_sworn_13 cw_X7_62 ci_X7_isWithin h (fun a2 e => F_X7_isWithin  e) (Nat.le_of_ble_eq_true rfl) rfl rfl (Nat.le_of_ble_eq_true rfl) (fun a2 ea2 h => ?_)
    refine r_if_ne (tgt := 22) dX7_sworn_16 (by decide) h (fun c2 h => ?_) (fun c2 h => ?_)
    · refine i_aload_n dX7_sworn_22 rfl ?_
      refine gf_X7_21 rfl (by omega) dX7_sworn_23 ?_
      refine gf_X7_67 rfl (by omega) dX7_sworn_26 ?_
      refine i_iconst (v := 2) dX7_sworn_29 (by decide) ?_
      refine r_icmp_ge (tgt := 36) dX7_sworn_30 (by decide) h (fun c3 h => ?_) (fun c3 h => ?_)
      · refine i_iconst (v := (-1)) dX7_sworn_36 (by decide) ?_
        refine i_istore_n (ls' := [some (rf X 7 0), some (.int p1), some (.int p2), some (.int (-1 : Int32)), none, none, none]) dX7_sworn_37 (by decide) (okp_at rfl) rfl ?_
        refine i_iconst (v := (-1)) dX7_sworn_38 (by decide) ?_
        refine i_istore (ls' := [some (rf X 7 0), some (.int p1), some (.int p2), some (.int (-1 : Int32)), some (.int (-1 : Int32)), none, none]) dX7_sworn_39 (by decide) (okp_at rfl) rfl ?_
        refine i_iconst (v := 0) dX7_sworn_41 (by decide) ?_
        refine i_istore (ls' := [some (rf X 7 0), some (.int p1), some (.int p2), some (.int (-1 : Int32)), some (.int (-1 : Int32)), some (.int (0 : Int32)), none]) dX7_sworn_42 (by decide) (okp_at rfl) rfl ?_
        refine L_X7_sworn_44  FU _ _ _ _ h (fun e1 e2 σ_1 h => ?_)
        refine i_iload_n dX7_sworn_135 rfl ?_
        refine r_if_ne (tgt := 143) dX7_sworn_136 (by decide) h (fun c4 h => ?_) (fun c4 h => ?_)
        · refine i_iload dX7_sworn_143 rfl ?_
          exact e_iw rfl dX7_sworn_145 h
        · refine i_iload_n dX7_sworn_139 rfl ?_
          refine i_goto (tgt := 145) dX7_sworn_140 (by decide) ?_
          exact e_iw rfl dX7_sworn_145 h
      · refine i_ldc (v := (-1000000005)) dX7_sworn_33 k_X7_139 ?_
        exact e_iw rfl dX7_sworn_35 h
    · refine i_ldc (v := (-1000000001)) dX7_sworn_19 k_X7_66 ?_
      exact e_iw rfl dX7_sworn_21 h
def f_X7_trust_31 (p1 : Int32) (p2 : Int32) : Nat → Int32 → Int32 → Int32 → Mem → (Int32 → Int32 → Mem → Option (Int32 × Mem)) → Option (Int32 × Mem)
  | 0, _, _, _, _, _ => none
  | n + 1, v3, v4, v5, σ, k =>
    (if (σ 0 0 2) ≤ v5 then (k v3 v4 σ) else (bnd (f_X0_becomes 2 0 σ) (fun a1 => (bnd (ix 10 v5) (fun j1 => (bnd (f_X0_passHours 2 p1 (mput a1 3 (10 * 2 + j1) 2 (99 : Int32))) (fun a2 => (if (a2 0 2 6) ≤ v4 then (f_X7_trust_31 p1 p2 n v3 v4 (v5 + (1 : Int32)) a2 k) else (f_X7_trust_31 p1 p2 n v5 (a2 0 2 6) (v5 + (1 : Int32)) a2 k)))))))))
set_option maxRecDepth 100000 in
set_option maxHeartbeats 4000000 in
theorem L_X7_trust_31 {X : Cx} {p1 : Int32} {p2 : Int32} {r0 : Int32} {σ2 : Mem} {k : Int32 → Int32 → Mem → Option (Int32 × Mem)}  : ∀ (n : Nat) (v3 : Int32) (v4 : Int32) (v5 : Int32) (σ : Mem), f_X7_trust_31 p1 p2 n v3 v4 v5 σ k = some (r0, σ2) → (∀ (x3 : Int32) (x4 : Int32) (σ1 : Mem), k x3 x4 σ1 = some (r0, σ2) → At X 7 mX7_trust 107 [none, none, some (.int p2), some (.int x3), some (.int x4), none] [] σ1 (some (.int r0)) σ2) → At X 7 mX7_trust 31 [some (rf X 7 0), some (.int p1), some (.int p2), some (.int v3), some (.int v4), some (.int v5)] [] σ (some (.int r0)) σ2 := by
  intro n
  induction n with
  | zero =>
    intro v3 v4 v5 σ h
    cases h
  | succ n ih =>
    intro v3 v4 v5 σ h hk
    rw [f_X7_trust_31.eq_2] at h
    refine i_iload dX7_trust_31 rfl ?_
    refine i_aload_n dX7_trust_33 rfl ?_
    refine gf_X7_21 rfl (by omega) dX7_trust_34 ?_
    refine gf_X7_67 rfl (by omega) dX7_trust_37 ?_
    refine r_icmp_ge (tgt := 107) dX7_trust_40 (by decide) h (fun c1 h => ?_) (fun c1 h => ?_)
    · refine At.fewer (ls' := [none, none, some (.int p2), some (.int v3), some (.int v4), none]) (And.intro rfl (And.intro rfl (And.intro rfl trivial))) ?_
      exact hk _ _ _ h
    · refine i_aload_n dX7_trust_43 rfl ?_
      refine gf_X7_28 rfl (by omega) dX7_trust_44 ?_
      refine i_aload_n dX7_trust_47 rfl ?_
      refine gf_X7_21 rfl (by omega) dX7_trust_48 ?_
      refine cVN_vw dX7_trust_51 cw_X7_197 ci_X0_becomes rfl rfl (by decide) (show 2 < 3 by omega) h (fun a1 e => F_X0_becomes (by omega) (by omega) e) (Nat.le_of_ble_eq_true rfl) rfl rfl (Nat.le_of_ble_eq_true rfl) (fun a1 ea1 h => ?_)
      refine i_aload_n dX7_trust_54 rfl ?_
      refine gf_X7_28 rfl (by omega) dX7_trust_55 ?_
      refine gf_X7_80 rfl (by omega) dX7_trust_58 ?_
      refine i_iload dX7_trust_61 rfl ?_
      refine aa_12 dX7_trust_63 (by omega) h (fun j1 lj1 h => ?_)
      refine i_bipush (v := 99) dX7_trust_64 (by decide) ?_
      refine pf_X7_92 rfl (by omega) dX7_trust_66 ?_
      refine i_aload_n dX7_trust_69 rfl ?_
      refine gf_X7_28 rfl (by omega) dX7_trust_70 ?_
      refine i_iload_n dX7_trust_73 rfl ?_
      refine cVN_vw dX7_trust_74 cw_X7_179 ci_X0_passHours rfl rfl (by decide) (show 2 < 3 by omega) h (fun a2 e => F_X0_passHours (by omega) e) (Nat.le_of_ble_eq_true rfl) rfl rfl (Nat.le_of_ble_eq_true rfl) (fun a2 ea2 h => ?_)
      refine i_aload_n dX7_trust_77 rfl ?_
      refine gf_X7_28 rfl (by omega) dX7_trust_78 ?_
      refine gf_X7_140 rfl (by omega) dX7_trust_81 ?_
      refine i_iload dX7_trust_84 rfl ?_
      refine r_icmp_le (tgt := 101) dX7_trust_86 (by decide) h (fun c2 h => ?_) (fun c2 h => ?_)
      · refine i_iinc (v := (v5 + (1 : Int32))) (ls' := [some (rf X 7 0), some (.int p1), some (.int p2), some (.int v3), some (.int v4), some (.int (v5 + (1 : Int32)))]) dX7_trust_101 rfl (by rfl) (by decide) (okp_at rfl) rfl ?_
        refine i_goto (tgt := 31) dX7_trust_104 (by decide) ?_
        exact ih _ _ _ _ h hk
      · refine i_aload_n dX7_trust_89 rfl ?_
        refine gf_X7_28 rfl (by omega) dX7_trust_90 ?_
        refine gf_X7_140 rfl (by omega) dX7_trust_93 ?_
        refine i_istore (ls' := [some (rf X 7 0), some (.int p1), some (.int p2), some (.int v3), some (.int (a2 0 2 6)), some (.int v5)]) dX7_trust_96 (by decide) (okp_at rfl) rfl ?_
        refine i_iload dX7_trust_98 rfl ?_
        refine i_istore_n (ls' := [some (rf X 7 0), some (.int p1), some (.int p2), some (.int v5), some (.int (a2 0 2 6)), some (.int v5)]) dX7_trust_100 (by decide) (okp_at rfl) rfl ?_
        refine i_iinc (v := (v5 + (1 : Int32))) (ls' := [some (rf X 7 0), some (.int p1), some (.int p2), some (.int v5), some (.int (a2 0 2 6)), some (.int (v5 + (1 : Int32)))]) dX7_trust_101 rfl (by rfl) (by decide) (okp_at rfl) rfl ?_
        refine i_goto (tgt := 31) dX7_trust_104 (by decide) ?_
        exact ih _ _ _ _ h hk
def f_X7_trust  (p1 : Int32) (p2 : Int32) (σ : Mem) : Option (Int32 × Mem) :=
  (bnd (f_X7_isWithin p1 (1 : Int32) (60 : Int32) σ) (fun a1 => (if a1 = 0 then (some ((-1000000001 : Int32), σ)) else (bnd (f_X7_isWithin p2 (0 : Int32) (1 : Int32) σ) (fun a2 => (if a2 = 0 then (some ((-1000000001 : Int32), σ)) else (f_X7_trust_31 p1 p2 FU (-1000000005 : Int32) (-1 : Int32) (0 : Int32) σ (fun e1 e2 σ_1 => (if p2 = 0 then (some (e1, σ_1)) else (if e1 = (-1000000005 : Int32) then (some (e1, σ_1)) else (some (e2, σ_1))))))))))))
set_option maxRecDepth 100000 in
set_option maxHeartbeats 4000000 in
theorem F_X7_trust {X : Cx} {p1 : Int32} {p2 : Int32} {σ : Mem} {res : (Int32 × Mem)}  (h : f_X7_trust p1 p2 σ = some res) : Tri X 7 mX7_trust [rf X 7 0, .int p1, .int p2] σ (some (.int res.1)) res.2 := by
  obtain ⟨r0, σ2⟩ := res
  unfold f_X7_trust at h
  refine Tri.of (ls := [some (rf X 7 0), some (.int p1), some (.int p2), none, none, none]) (by decide) (Nat.le_of_ble_eq_true rfl) rfl ?_
  refine i_iload_n dX7_trust_0 rfl ?_
  refine i_iconst (v := 1) dX7_trust_1 (by decide) ?_
  refine i_bipush (v := 60) dX7_trust_2 (by decide) ?_
  refine cS_ir dX7_trust_4 cw_X7_62 ci_X7_isWithin h (fun a1 e => F_X7_isWithin  e) (Nat.le_of_ble_eq_true rfl) rfl rfl (Nat.le_of_ble_eq_true rfl) (fun a1 ea1 h => ?_)
  refine r_if_eq (tgt := 19) dX7_trust_7 (by decide) h (fun c1 h => ?_) (fun c1 h => ?_)
  · refine i_ldc (v := (-1000000001)) dX7_trust_19 k_X7_66 ?_
    exact e_iw rfl dX7_trust_21 h
  · refine i_iload_n dX7_trust_10 rfl ?_
    refine i_iconst (v := 0) dX7_trust_11 (by decide) ?_
    refine i_iconst (v := 1) dX7_trust_12 (by decide) ?_
    refine cS_ir dX7_trust_13 cw_X7_62 ci_X7_isWithin h (fun a2 e => F_X7_isWithin  e) (Nat.le_of_ble_eq_true rfl) rfl rfl (Nat.le_of_ble_eq_true rfl) (fun a2 ea2 h => ?_)
    refine r_if_ne (tgt := 22) dX7_trust_16 (by decide) h (fun c2 h => ?_) (fun c2 h => ?_)
    · refine i_ldc (v := (-1000000005)) dX7_trust_22 k_X7_139 ?_
      refine i_istore_n (ls' := [some (rf X 7 0), some (.int p1), some (.int p2), some (.int (-1000000005 : Int32)), none, none]) dX7_trust_24 (by decide) (okp_at rfl) rfl ?_
      refine i_iconst (v := (-1)) dX7_trust_25 (by decide) ?_
      refine i_istore (ls' := [some (rf X 7 0), some (.int p1), some (.int p2), some (.int (-1000000005 : Int32)), some (.int (-1 : Int32)), none]) dX7_trust_26 (by decide) (okp_at rfl) rfl ?_
      refine i_iconst (v := 0) dX7_trust_28 (by decide) ?_
      refine i_istore (ls' := [some (rf X 7 0), some (.int p1), some (.int p2), some (.int (-1000000005 : Int32)), some (.int (-1 : Int32)), some (.int (0 : Int32))]) dX7_trust_29 (by decide) (okp_at rfl) rfl ?_
      refine L_X7_trust_31  FU _ _ _ _ h (fun e1 e2 σ_1 h => ?_)
      refine i_iload_n dX7_trust_107 rfl ?_
      refine r_if_eq (tgt := 117) dX7_trust_108 (by decide) h (fun c3 h => ?_) (fun c3 h => ?_)
      · refine i_iload_n dX7_trust_117 rfl ?_
        refine i_goto (tgt := 123) dX7_trust_118 (by decide) ?_
        exact e_iw rfl dX7_trust_123 h
      · refine i_iload_n dX7_trust_111 rfl ?_
        refine i_ldc (v := (-1000000005)) dX7_trust_112 k_X7_139 ?_
        refine r_icmp_ne (tgt := 121) dX7_trust_114 (by decide) h (fun c4 h => ?_) (fun c4 h => ?_)
        · refine i_iload dX7_trust_121 rfl ?_
          exact e_iw rfl dX7_trust_123 h
        · refine i_iload_n dX7_trust_117 rfl ?_
          refine i_goto (tgt := 123) dX7_trust_118 (by decide) ?_
          exact e_iw rfl dX7_trust_123 h
    · refine i_ldc (v := (-1000000001)) dX7_trust_19 k_X7_66 ?_
      exact e_iw rfl dX7_trust_21 h
def f_X7_debtor_50 (p2 : Int32) (σ : Mem) : Nat → Int32 → Int32 → Int32 → (Int32 → Int32 → Option (Int32 × Mem)) → Option (Int32 × Mem)
  | 0, _, _, _, _ => none
  | n + 1, v3, v4, v5, k =>
    (if (σ 0 0 2) ≤ v5 then (k v3 v4) else (bnd (ix 10 v5) (fun j1 => (bnd (ix 10 v5) (fun j2 => (if v3 = (-1000000005 : Int32) then (f_X7_debtor_50 p2 σ n v5 ((σ 3 (10 * 0 + j1) 3) - (σ 3 (10 * 2 + j2) 3)) (v5 + (1 : Int32)) k) else (if ((σ 3 (10 * 0 + j1) 3) - (σ 3 (10 * 2 + j2) 3)) ≤ v4 then (f_X7_debtor_50 p2 σ n v3 v4 (v5 + (1 : Int32)) k) else (f_X7_debtor_50 p2 σ n v5 ((σ 3 (10 * 0 + j1) 3) - (σ 3 (10 * 2 + j2) 3)) (v5 + (1 : Int32)) k))))))))
set_option maxRecDepth 100000 in
set_option maxHeartbeats 4000000 in
theorem L_X7_debtor_50 {X : Cx} {p2 : Int32} {σ : Mem} {r0 : Int32} {σ2 : Mem} {k : Int32 → Int32 → Option (Int32 × Mem)}  : ∀ (n : Nat) (v3 : Int32) (v4 : Int32) (v5 : Int32), f_X7_debtor_50 p2 σ n v3 v4 v5 k = some (r0, σ2) → (∀ (x3 : Int32) (x4 : Int32), k x3 x4 = some (r0, σ2) → At X 7 mX7_debtor 117 [none, none, some (.int p2), some (.int x3), some (.int x4), none, none] [] σ (some (.int r0)) σ2) → At X 7 mX7_debtor 50 [some (rf X 7 0), none, some (.int p2), some (.int v3), some (.int v4), some (.int v5), none] [] σ (some (.int r0)) σ2 := by
  intro n
  induction n with
  | zero =>
    intro v3 v4 v5 h
    cases h
  | succ n ih =>
    intro v3 v4 v5 h hk
    rw [f_X7_debtor_50.eq_2] at h
    refine i_iload dX7_debtor_50 rfl ?_
    refine i_aload_n dX7_debtor_52 rfl ?_
    refine gf_X7_21 rfl (by omega) dX7_debtor_53 ?_
    refine gf_X7_67 rfl (by omega) dX7_debtor_56 ?_
    refine r_icmp_ge (tgt := 117) dX7_debtor_59 (by decide) h (fun c1 h => ?_) (fun c1 h => ?_)
    · refine At.fewer (ls' := [none, none, some (.int p2), some (.int v3), some (.int v4), none, none]) (And.intro rfl (And.intro rfl (And.intro rfl trivial))) ?_
      exact hk _ _ h
    · refine i_aload_n dX7_debtor_62 rfl ?_
      refine gf_X7_21 rfl (by omega) dX7_debtor_63 ?_
      refine gf_X7_80 rfl (by omega) dX7_debtor_66 ?_
      refine i_iload dX7_debtor_69 rfl ?_
      refine aa_12 dX7_debtor_71 (by omega) h (fun j1 lj1 h => ?_)
      refine gf_X7_95 rfl (by omega) dX7_debtor_72 ?_
      refine i_aload_n dX7_debtor_75 rfl ?_
      refine gf_X7_28 rfl (by omega) dX7_debtor_76 ?_
      refine gf_X7_80 rfl (by omega) dX7_debtor_79 ?_
      refine i_iload dX7_debtor_82 rfl ?_
      refine aa_12 dX7_debtor_84 (by omega) h (fun j2 lj2 h => ?_)
      refine gf_X7_95 rfl (by omega) dX7_debtor_85 ?_
      refine i_isub dX7_debtor_88 ?_
      refine i_istore (ls' := [some (rf X 7 0), none, some (.int p2), some (.int v3), some (.int v4), some (.int v5), some (.int ((σ 3 (10 * 0 + j1) 3) - (σ 3 (10 * 2 + j2) 3)))]) dX7_debtor_89 (by decide) (okp_at rfl) rfl ?_
      refine i_iload_n dX7_debtor_91 rfl ?_
      refine i_ldc (v := (-1000000005)) dX7_debtor_92 k_X7_139 ?_
      refine r_icmp_eq (tgt := 104) dX7_debtor_94 (by decide) h (fun c2 h => ?_) (fun c2 h => ?_)
      · refine i_iload dX7_debtor_104 rfl ?_
        refine i_istore (ls' := [some (rf X 7 0), none, some (.int p2), some (.int v3), some (.int ((σ 3 (10 * 0 + j1) 3) - (σ 3 (10 * 2 + j2) 3))), some (.int v5), some (.int ((σ 3 (10 * 0 + j1) 3) - (σ 3 (10 * 2 + j2) 3)))]) dX7_debtor_106 (by decide) (okp_at rfl) rfl ?_
        refine i_iload dX7_debtor_108 rfl ?_
        refine i_istore_n (ls' := [some (rf X 7 0), none, some (.int p2), some (.int v5), some (.int ((σ 3 (10 * 0 + j1) 3) - (σ 3 (10 * 2 + j2) 3))), some (.int v5), some (.int ((σ 3 (10 * 0 + j1) 3) - (σ 3 (10 * 2 + j2) 3)))]) dX7_debtor_110 (by decide) (okp_at rfl) rfl ?_
        refine i_iinc (v := (v5 + (1 : Int32))) (ls' := [some (rf X 7 0), none, some (.int p2), some (.int v5), some (.int ((σ 3 (10 * 0 + j1) 3) - (σ 3 (10 * 2 + j2) 3))), some (.int (v5 + (1 : Int32))), some (.int ((σ 3 (10 * 0 + j1) 3) - (σ 3 (10 * 2 + j2) 3)))]) dX7_debtor_111 rfl (by rfl) (by decide) (okp_at rfl) rfl ?_
        refine i_goto (tgt := 50) dX7_debtor_114 (by decide) ?_
        refine At.fewer (ls' := [some (rf X 7 0), none, some (.int p2), some (.int v5), some (.int ((σ 3 (10 * 0 + j1) 3) - (σ 3 (10 * 2 + j2) 3))), some (.int (v5 + (1 : Int32))), none]) (And.intro rfl (And.intro rfl (And.intro rfl (And.intro rfl (And.intro rfl trivial))))) ?_
        exact ih _ _ _ h hk
      · refine i_iload dX7_debtor_97 rfl ?_
        refine i_iload dX7_debtor_99 rfl ?_
        refine r_icmp_le (tgt := 111) dX7_debtor_101 (by decide) h (fun c3 h => ?_) (fun c3 h => ?_)
        · refine i_iinc (v := (v5 + (1 : Int32))) (ls' := [some (rf X 7 0), none, some (.int p2), some (.int v3), some (.int v4), some (.int (v5 + (1 : Int32))), some (.int ((σ 3 (10 * 0 + j1) 3) - (σ 3 (10 * 2 + j2) 3)))]) dX7_debtor_111 rfl (by rfl) (by decide) (okp_at rfl) rfl ?_
          refine i_goto (tgt := 50) dX7_debtor_114 (by decide) ?_
          refine At.fewer (ls' := [some (rf X 7 0), none, some (.int p2), some (.int v3), some (.int v4), some (.int (v5 + (1 : Int32))), none]) (And.intro rfl (And.intro rfl (And.intro rfl (And.intro rfl (And.intro rfl trivial))))) ?_
          exact ih _ _ _ h hk
        · refine i_iload dX7_debtor_104 rfl ?_
          refine i_istore (ls' := [some (rf X 7 0), none, some (.int p2), some (.int v3), some (.int ((σ 3 (10 * 0 + j1) 3) - (σ 3 (10 * 2 + j2) 3))), some (.int v5), some (.int ((σ 3 (10 * 0 + j1) 3) - (σ 3 (10 * 2 + j2) 3)))]) dX7_debtor_106 (by decide) (okp_at rfl) rfl ?_
          refine i_iload dX7_debtor_108 rfl ?_
          refine i_istore_n (ls' := [some (rf X 7 0), none, some (.int p2), some (.int v5), some (.int ((σ 3 (10 * 0 + j1) 3) - (σ 3 (10 * 2 + j2) 3))), some (.int v5), some (.int ((σ 3 (10 * 0 + j1) 3) - (σ 3 (10 * 2 + j2) 3)))]) dX7_debtor_110 (by decide) (okp_at rfl) rfl ?_
          refine i_iinc (v := (v5 + (1 : Int32))) (ls' := [some (rf X 7 0), none, some (.int p2), some (.int v5), some (.int ((σ 3 (10 * 0 + j1) 3) - (σ 3 (10 * 2 + j2) 3))), some (.int (v5 + (1 : Int32))), some (.int ((σ 3 (10 * 0 + j1) 3) - (σ 3 (10 * 2 + j2) 3)))]) dX7_debtor_111 rfl (by rfl) (by decide) (okp_at rfl) rfl ?_
          refine i_goto (tgt := 50) dX7_debtor_114 (by decide) ?_
          refine At.fewer (ls' := [some (rf X 7 0), none, some (.int p2), some (.int v5), some (.int ((σ 3 (10 * 0 + j1) 3) - (σ 3 (10 * 2 + j2) 3))), some (.int (v5 + (1 : Int32))), none]) (And.intro rfl (And.intro rfl (And.intro rfl (And.intro rfl (And.intro rfl trivial))))) ?_
          exact ih _ _ _ h hk
def f_X7_debtor  (p1 : Int32) (p2 : Int32) (σ : Mem) : Option (Int32 × Mem) :=
  (bnd (f_X7_isWithin p1 (1 : Int32) (60 : Int32) σ) (fun a1 => (if a1 = 0 then (some ((-1000000001 : Int32), σ)) else (bnd (f_X7_isWithin p2 (0 : Int32) (1 : Int32) σ) (fun a2 => (if a2 = 0 then (some ((-1000000001 : Int32), σ)) else (bnd (f_X0_becomes 2 0 σ) (fun a3 => (bnd (f_X0_passHours 2 p1 a3) (fun a4 => (f_X7_debtor_50 p2 a4 FU (-1000000005 : Int32) (0 : Int32) (0 : Int32) (fun e1 e2 => (if p2 = 0 then (some (e1, a4)) else (if e1 = (-1000000005 : Int32) then (some (e1, a4)) else (some (e2, a4))))))))))))))))
set_option maxRecDepth 100000 in
set_option maxHeartbeats 4000000 in
theorem F_X7_debtor {X : Cx} {p1 : Int32} {p2 : Int32} {σ : Mem} {res : (Int32 × Mem)}  (h : f_X7_debtor p1 p2 σ = some res) : Tri X 7 mX7_debtor [rf X 7 0, .int p1, .int p2] σ (some (.int res.1)) res.2 := by
  obtain ⟨r0, σ2⟩ := res
  unfold f_X7_debtor at h
  refine Tri.of (ls := [some (rf X 7 0), some (.int p1), some (.int p2), none, none, none, none]) (by decide) (Nat.le_of_ble_eq_true rfl) rfl ?_
  refine i_iload_n dX7_debtor_0 rfl ?_
  refine i_iconst (v := 1) dX7_debtor_1 (by decide) ?_
  refine i_bipush (v := 60) dX7_debtor_2 (by decide) ?_
  refine cS_ir dX7_debtor_4 cw_X7_62 ci_X7_isWithin h (fun a1 e => F_X7_isWithin  e) (Nat.le_of_ble_eq_true rfl) rfl rfl (Nat.le_of_ble_eq_true rfl) (fun a1 ea1 h => ?_)
  refine r_if_eq (tgt := 19) dX7_debtor_7 (by decide) h (fun c1 h => ?_) (fun c1 h => ?_)
  · refine i_ldc (v := (-1000000001)) dX7_debtor_19 k_X7_66 ?_
    exact e_iw rfl dX7_debtor_21 h
  · refine i_iload_n dX7_debtor_10 rfl ?_
    refine i_iconst (v := 0) dX7_debtor_11 (by decide) ?_
    refine i_iconst (v := 1) dX7_debtor_12 (by decide) ?_
    refine cS_ir dX7_debtor_13 cw_X7_62 ci_X7_isWithin h (fun a2 e => F_X7_isWithin  e) (Nat.le_of_ble_eq_true rfl) rfl rfl (Nat.le_of_ble_eq_true rfl) (fun a2 ea2 h => ?_)
    refine r_if_ne (tgt := 22) dX7_debtor_16 (by decide) h (fun c2 h => ?_) (fun c2 h => ?_)
    · refine i_aload_n dX7_debtor_22 rfl ?_
      refine gf_X7_28 rfl (by omega) dX7_debtor_23 ?_
      refine i_aload_n dX7_debtor_26 rfl ?_
      refine gf_X7_21 rfl (by omega) dX7_debtor_27 ?_
      refine cVN_vw dX7_debtor_30 cw_X7_197 ci_X0_becomes rfl rfl (by decide) (show 2 < 3 by omega) h (fun a3 e => F_X0_becomes (by omega) (by omega) e) (Nat.le_of_ble_eq_true rfl) rfl rfl (Nat.le_of_ble_eq_true rfl) (fun a3 ea3 h => ?_)
      refine i_aload_n dX7_debtor_33 rfl ?_
      refine gf_X7_28 rfl (by omega) dX7_debtor_34 ?_
      refine i_iload_n dX7_debtor_37 rfl ?_
      refine cVN_vw dX7_debtor_38 cw_X7_179 ci_X0_passHours rfl rfl (by decide) (show 2 < 3 by omega) h (fun a4 e => F_X0_passHours (by omega) e) (Nat.le_of_ble_eq_true rfl) rfl rfl (Nat.le_of_ble_eq_true rfl) (fun a4 ea4 h => ?_)
      refine i_ldc (v := (-1000000005)) dX7_debtor_41 k_X7_139 ?_
      refine i_istore_n (ls' := [some (rf X 7 0), some (.int p1), some (.int p2), some (.int (-1000000005 : Int32)), none, none, none]) dX7_debtor_43 (by decide) (okp_at rfl) rfl ?_
      refine i_iconst (v := 0) dX7_debtor_44 (by decide) ?_
      refine i_istore (ls' := [some (rf X 7 0), some (.int p1), some (.int p2), some (.int (-1000000005 : Int32)), some (.int (0 : Int32)), none, none]) dX7_debtor_45 (by decide) (okp_at rfl) rfl ?_
      refine i_iconst (v := 0) dX7_debtor_47 (by decide) ?_
      refine i_istore (ls' := [some (rf X 7 0), some (.int p1), some (.int p2), some (.int (-1000000005 : Int32)), some (.int (0 : Int32)), some (.int (0 : Int32)), none]) dX7_debtor_48 (by decide) (okp_at rfl) rfl ?_
      refine At.fewer (ls' := [some (rf X 7 0), none, some (.int p2), some (.int (-1000000005 : Int32)), some (.int (0 : Int32)), some (.int (0 : Int32)), none]) (And.intro rfl (And.intro rfl (And.intro rfl (And.intro rfl (And.intro rfl trivial))))) ?_
      refine L_X7_debtor_50  FU _ _ _ h (fun e1 e2 h => ?_)
      refine i_iload_n dX7_debtor_117 rfl ?_
      refine r_if_eq (tgt := 127) dX7_debtor_118 (by decide) h (fun c3 h => ?_) (fun c3 h => ?_)
      · refine i_iload_n dX7_debtor_127 rfl ?_
        refine i_goto (tgt := 133) dX7_debtor_128 (by decide) ?_
        exact e_iw rfl dX7_debtor_133 h
      · refine i_iload_n dX7_debtor_121 rfl ?_
        refine i_ldc (v := (-1000000005)) dX7_debtor_122 k_X7_139 ?_
        refine r_icmp_ne (tgt := 131) dX7_debtor_124 (by decide) h (fun c4 h => ?_) (fun c4 h => ?_)
        · refine i_iload dX7_debtor_131 rfl ?_
          exact e_iw rfl dX7_debtor_133 h
        · refine i_iload_n dX7_debtor_127 rfl ?_
          refine i_goto (tgt := 133) dX7_debtor_128 (by decide) ?_
          exact e_iw rfl dX7_debtor_133 h
    · refine i_ldc (v := (-1000000001)) dX7_debtor_19 k_X7_66 ?_
      exact e_iw rfl dX7_debtor_21 h
def f_X7_differencesWithEast_30 (p1 : Nat) (p2 : Int32) : Nat → Int32 → Int32 → Mem → (Int32 → Mem → Option (Int32 × Mem)) → Option (Int32 × Mem)
  | 0, _, _, _, _ => none
  | n + 1, v4, v5, σ, k =>
    (if (σ 5 p1 1) ≤ v5 then (k v4 σ) else (bnd (f_X5_isNumber p1 v5 σ) (fun a1 => (if a1 = 0 then (bnd (f_X0_passHour 2 σ) (fun a2 => (f_X7_differencesWithEast_30 p1 p2 n v4 (v5 + (1 : Int32)) a2 k))) else (bnd (f_X0_vowsGivenBy 2 p2 σ) (fun a3 => (bnd (ix 24 v5) (fun j1 => (bnd (f_X0_passHour 2 σ) (fun a4 => (f_X7_differencesWithEast_30 p1 p2 n (v4 + (if 0 ≤ (a3 - (σ 20 p1 j1)) then (a3 - (σ 20 p1 j1)) else 0 - (a3 - (σ 20 p1 j1)))) (v5 + (1 : Int32)) a4 k)))))))))))
set_option maxRecDepth 100000 in
set_option maxHeartbeats 4000000 in
theorem L_X7_differencesWithEast_30 {X : Cx} {p1 : Nat} {p2 : Int32} {r0 : Int32} {σ2 : Mem} {k : Int32 → Mem → Option (Int32 × Mem)} (h1 : p1 < 9) : ∀ (n : Nat) (v4 : Int32) (v5 : Int32) (σ : Mem), f_X7_differencesWithEast_30 p1 p2 n v4 v5 σ k = some (r0, σ2) → (∀ (x4 : Int32) (σ1 : Mem), k x4 σ1 = some (r0, σ2) → At X 6 mX7_differencesWithEast 85 [none, none, none, none, some (.int x4), none] [] σ1 (some (.int r0)) σ2) → At X 6 mX7_differencesWithEast 30 [some (rf X 7 0), some (rf X 5 p1), some (.int p2), none, some (.int v4), some (.int v5)] [] σ (some (.int r0)) σ2 := by
  intro n
  induction n with
  | zero =>
    intro v4 v5 σ h
    cases h
  | succ n ih =>
    intro v4 v5 σ h hk
    rw [f_X7_differencesWithEast_30.eq_2] at h
    refine i_iload dX7_differencesWithEast_30 rfl ?_
    refine i_aload_n dX7_differencesWithEast_32 rfl ?_
    refine gf_X7_213 rfl (by omega) dX7_differencesWithEast_33 ?_
    refine r_icmp_ge (tgt := 85) dX7_differencesWithEast_36 (by decide) h (fun c1 h => ?_) (fun c1 h => ?_)
    · refine At.fewer (ls' := [none, none, none, none, some (.int v4), none]) (And.intro rfl trivial) ?_
      exact hk _ _ h
    · refine i_aload_n dX7_differencesWithEast_39 rfl ?_
      refine i_iload dX7_differencesWithEast_40 rfl ?_
      refine cVN_ir dX7_differencesWithEast_42 cw_X7_216 ci_X5_isNumber rfl rfl (by decide) (show p1 < 9 by omega) h (fun a1 e => F_X5_isNumber (by omega) e) (Nat.le_of_ble_eq_true rfl) rfl rfl (Nat.le_of_ble_eq_true rfl) (fun a1 ea1 h => ?_)
      refine r_if_eq (tgt := 72) dX7_differencesWithEast_45 (by decide) h (fun c2 h => ?_) (fun c2 h => ?_)
      · refine i_aload_n dX7_differencesWithEast_72 rfl ?_
        refine gf_X7_28 rfl (by omega) dX7_differencesWithEast_73 ?_
        refine cVN_vw dX7_differencesWithEast_76 cw_X7_201 ci_X0_passHour rfl rfl (by decide) (show 2 < 3 by omega) h (fun a2 e => F_X0_passHour (by omega) e) (Nat.le_of_ble_eq_true rfl) rfl rfl (Nat.le_of_ble_eq_true rfl) (fun a2 ea2 h => ?_)
        refine i_iinc (v := (v5 + (1 : Int32))) (ls' := [some (rf X 7 0), some (rf X 5 p1), some (.int p2), none, some (.int v4), some (.int (v5 + (1 : Int32)))]) dX7_differencesWithEast_79 rfl (by rfl) (by decide) (okp_at rfl) rfl ?_
        refine i_goto (tgt := 30) dX7_differencesWithEast_82 (by decide) ?_
        exact ih _ _ _ h hk
      · refine i_iload dX7_differencesWithEast_48 rfl ?_
        refine i_aload_n dX7_differencesWithEast_50 rfl ?_
        refine gf_X7_28 rfl (by omega) dX7_differencesWithEast_51 ?_
        refine i_iload_n dX7_differencesWithEast_54 rfl ?_
        refine cVN_ir dX7_differencesWithEast_55 cw_X7_98 ci_X0_vowsGivenBy rfl rfl (by decide) (show 2 < 3 by omega) h (fun a3 e => F_X0_vowsGivenBy (by omega) e) (Nat.le_of_ble_eq_true rfl) rfl rfl (Nat.le_of_ble_eq_true rfl) (fun a3 ea3 h => ?_)
        refine i_aload_n dX7_differencesWithEast_58 rfl ?_
        refine gf_X7_219 rfl (by omega) dX7_differencesWithEast_59 ?_
        refine i_iload dX7_differencesWithEast_62 rfl ?_
        refine al_20 dX7_differencesWithEast_64 (by omega) h (fun j1 lj1 h => ?_)
        refine i_isub dX7_differencesWithEast_65 ?_
        refine i_mabs dX7_differencesWithEast_66 k_X7_222 (by omega) (Nat.le_of_ble_eq_true rfl) ?_
        refine i_iadd dX7_differencesWithEast_69 ?_
        refine i_istore (ls' := [some (rf X 7 0), some (rf X 5 p1), some (.int p2), none, some (.int (v4 + (if 0 ≤ (a3 - (σ 20 p1 j1)) then (a3 - (σ 20 p1 j1)) else 0 - (a3 - (σ 20 p1 j1))))), some (.int v5)]) dX7_differencesWithEast_70 (by decide) (okp_at rfl) rfl ?_
        refine i_aload_n dX7_differencesWithEast_72 rfl ?_
        refine gf_X7_28 rfl (by omega) dX7_differencesWithEast_73 ?_
        refine cVN_vw dX7_differencesWithEast_76 cw_X7_201 ci_X0_passHour rfl rfl (by decide) (show 2 < 3 by omega) h (fun a4 e => F_X0_passHour (by omega) e) (Nat.le_of_ble_eq_true rfl) rfl rfl (Nat.le_of_ble_eq_true rfl) (fun a4 ea4 h => ?_)
        refine i_iinc (v := (v5 + (1 : Int32))) (ls' := [some (rf X 7 0), some (rf X 5 p1), some (.int p2), none, some (.int (v4 + (if 0 ≤ (a3 - (σ 20 p1 j1)) then (a3 - (σ 20 p1 j1)) else 0 - (a3 - (σ 20 p1 j1))))), some (.int (v5 + (1 : Int32)))]) dX7_differencesWithEast_79 rfl (by rfl) (by decide) (okp_at rfl) rfl ?_
        refine i_goto (tgt := 30) dX7_differencesWithEast_82 (by decide) ?_
        exact ih _ _ _ h hk
def f_X7_differencesWithEast  (p1 : Nat) (p2 : Int32) (p3 : Int32) (σ : Mem) : Option (Int32 × Mem) :=
  (bnd (f_X0_becomes 2 0 σ) (fun a1 => (bnd (ix 10 p2) (fun j1 => (f_X7_differencesWithEast_30 p1 p2 FU (0 : Int32) (0 : Int32) (mput a1 3 (10 * 2 + j1) 1 p3) (fun e1 σ_1 => (some (e1, σ_1))))))))
set_option maxRecDepth 100000 in
set_option maxHeartbeats 4000000 in
theorem F_X7_differencesWithEast {X : Cx} {p1 : Nat} {p2 : Int32} {p3 : Int32} {σ : Mem} {res : (Int32 × Mem)} (h1 : p1 < 9) (h : f_X7_differencesWithEast p1 p2 p3 σ = some res) : Tri X 6 mX7_differencesWithEast [rf X 7 0, rf X 5 p1, .int p2, .int p3] σ (some (.int res.1)) res.2 := by
  obtain ⟨r0, σ2⟩ := res
  unfold f_X7_differencesWithEast at h
  refine Tri.of (ls := [some (rf X 7 0), some (rf X 5 p1), some (.int p2), some (.int p3), none, none]) (by decide) (Nat.le_of_ble_eq_true rfl) rfl ?_
  refine i_aload_n dX7_differencesWithEast_0 rfl ?_
  refine gf_X7_28 rfl (by omega) dX7_differencesWithEast_1 ?_
  refine i_aload_n dX7_differencesWithEast_4 rfl ?_
  refine gf_X7_21 rfl (by omega) dX7_differencesWithEast_5 ?_
  refine cVN_vw dX7_differencesWithEast_8 cw_X7_197 ci_X0_becomes rfl rfl (by decide) (show 2 < 3 by omega) h (fun a1 e => F_X0_becomes (by omega) (by omega) e) (Nat.le_of_ble_eq_true rfl) rfl rfl (Nat.le_of_ble_eq_true rfl) (fun a1 ea1 h => ?_)
  refine i_aload_n dX7_differencesWithEast_11 rfl ?_
  refine gf_X7_28 rfl (by omega) dX7_differencesWithEast_12 ?_
  refine gf_X7_80 rfl (by omega) dX7_differencesWithEast_15 ?_
  refine i_iload_n dX7_differencesWithEast_18 rfl ?_
  refine aa_12 dX7_differencesWithEast_19 (by omega) h (fun j1 lj1 h => ?_)
  refine i_iload_n dX7_differencesWithEast_20 rfl ?_
  refine pf_X7_89 rfl (by omega) dX7_differencesWithEast_21 ?_
  refine i_iconst (v := 0) dX7_differencesWithEast_24 (by decide) ?_
  refine i_istore (ls' := [some (rf X 7 0), some (rf X 5 p1), some (.int p2), some (.int p3), some (.int (0 : Int32)), none]) dX7_differencesWithEast_25 (by decide) (okp_at rfl) rfl ?_
  refine i_iconst (v := 0) dX7_differencesWithEast_27 (by decide) ?_
  refine i_istore (ls' := [some (rf X 7 0), some (rf X 5 p1), some (.int p2), some (.int p3), some (.int (0 : Int32)), some (.int (0 : Int32))]) dX7_differencesWithEast_28 (by decide) (okp_at rfl) rfl ?_
  refine At.fewer (ls' := [some (rf X 7 0), some (rf X 5 p1), some (.int p2), none, some (.int (0 : Int32)), some (.int (0 : Int32))]) (And.intro rfl (And.intro rfl (And.intro rfl (And.intro rfl (And.intro rfl trivial))))) ?_
  refine L_X7_differencesWithEast_30 (by omega) FU _ _ _ h (fun e1 σ_1 h => ?_)
  refine i_iload dX7_differencesWithEast_85 rfl ?_
  exact e_iw rfl dX7_differencesWithEast_87 h
def f_X7_clock_67 (p1 : Int32) (p2 : Int32) (p3 : Int32) : Nat → Int32 → Int32 → Int32 → Mem → (Int32 → Int32 → Mem → Option (Int32 × Mem)) → Option (Int32 × Mem)
  | 0, _, _, _, _, _ => none
  | n + 1, v4, v5, v6, σ, k =>
    (if (24 : Int32) ≤ v6 then (k v4 v5 σ) else (bnd (ix 4 p1) (fun j1 => (bnd (f_X7_differencesWithEast j1 p2 v6 σ) (fun a1 => (if v5 ≤ a1.1 then (f_X7_clock_67 p1 p2 p3 n v4 v5 (v6 + (1 : Int32)) a1.2 k) else (f_X7_clock_67 p1 p2 p3 n v6 a1.1 (v6 + (1 : Int32)) a1.2 k)))))))
set_option maxRecDepth 100000 in
set_option maxHeartbeats 4000000 in
theorem L_X7_clock_67 {X : Cx} {p1 : Int32} {p2 : Int32} {p3 : Int32} {r0 : Int32} {σ2 : Mem} {k : Int32 → Int32 → Mem → Option (Int32 × Mem)}  : ∀ (n : Nat) (v4 : Int32) (v5 : Int32) (v6 : Int32) (σ : Mem), f_X7_clock_67 p1 p2 p3 n v4 v5 v6 σ k = some (r0, σ2) → (∀ (x4 : Int32) (x5 : Int32) (σ1 : Mem), k x4 x5 σ1 = some (r0, σ2) → At X 7 mX7_clock 110 [none, none, none, some (.int p3), some (.int x4), some (.int x5), none, none] [] σ1 (some (.int r0)) σ2) → At X 7 mX7_clock 67 [some (rf X 7 0), some (.int p1), some (.int p2), some (.int p3), some (.int v4), some (.int v5), some (.int v6), none] [] σ (some (.int r0)) σ2 := by
  intro n
  induction n with
  | zero =>
    intro v4 v5 v6 σ h
    cases h
  | succ n ih =>
    intro v4 v5 v6 σ h hk
    rw [f_X7_clock_67.eq_2] at h
    refine i_iload dX7_clock_67 rfl ?_
    refine i_bipush (v := 24) dX7_clock_69 (by decide) ?_
    refine r_icmp_ge (tgt := 110) dX7_clock_71 (by decide) h (fun c1 h => ?_) (fun c1 h => ?_)
    · refine At.fewer (ls' := [none, none, none, some (.int p3), some (.int v4), some (.int v5), none, none]) (And.intro rfl (And.intro rfl (And.intro rfl trivial))) ?_
      exact hk _ _ _ h
    · refine i_aload_n dX7_clock_74 rfl ?_
      refine i_aload_n dX7_clock_75 rfl ?_
      refine gf_X7_50 rfl (by omega) dX7_clock_76 ?_
      refine i_iload_n dX7_clock_79 rfl ?_
      refine aa_19 dX7_clock_80 (by omega) h (fun j1 lj1 h => ?_)
      refine i_iload_n dX7_clock_81 rfl ?_
      refine i_iload dX7_clock_82 rfl ?_
      refine cV_iw dX7_clock_84 cw_X7_209 ci_X7_differencesWithEast rfl rfl (by decide) (show 0 < 1 by omega) h (fun a1 e => F_X7_differencesWithEast (by omega) e) (Nat.le_of_ble_eq_true rfl) rfl rfl (Nat.le_of_ble_eq_true rfl) (fun a1 ea1 h => ?_)
      refine i_istore (ls' := [some (rf X 7 0), some (.int p1), some (.int p2), some (.int p3), some (.int v4), some (.int v5), some (.int v6), some (.int a1.1)]) dX7_clock_87 (by decide) (okp_at rfl) rfl ?_
      refine i_iload dX7_clock_89 rfl ?_
      refine i_iload dX7_clock_91 rfl ?_
      refine r_icmp_ge (tgt := 104) dX7_clock_93 (by decide) h (fun c2 h => ?_) (fun c2 h => ?_)
      · refine i_iinc (v := (v6 + (1 : Int32))) (ls' := [some (rf X 7 0), some (.int p1), some (.int p2), some (.int p3), some (.int v4), some (.int v5), some (.int (v6 + (1 : Int32))), some (.int a1.1)]) dX7_clock_104 rfl (by rfl) (by decide) (okp_at rfl) rfl ?_
        refine i_goto (tgt := 67) dX7_clock_107 (by decide) ?_
        refine At.fewer (ls' := [some (rf X 7 0), some (.int p1), some (.int p2), some (.int p3), some (.int v4), some (.int v5), some (.int (v6 + (1 : Int32))), none]) (And.intro rfl (And.intro rfl (And.intro rfl (And.intro rfl (And.intro rfl (And.intro rfl (And.intro rfl trivial))))))) ?_
        exact ih _ _ _ _ h hk
      · refine i_iload dX7_clock_96 rfl ?_
        refine i_istore (ls' := [some (rf X 7 0), some (.int p1), some (.int p2), some (.int p3), some (.int v4), some (.int a1.1), some (.int v6), some (.int a1.1)]) dX7_clock_98 (by decide) (okp_at rfl) rfl ?_
        refine i_iload dX7_clock_100 rfl ?_
        refine i_istore (ls' := [some (rf X 7 0), some (.int p1), some (.int p2), some (.int p3), some (.int v6), some (.int a1.1), some (.int v6), some (.int a1.1)]) dX7_clock_102 (by decide) (okp_at rfl) rfl ?_
        refine i_iinc (v := (v6 + (1 : Int32))) (ls' := [some (rf X 7 0), some (.int p1), some (.int p2), some (.int p3), some (.int v6), some (.int a1.1), some (.int (v6 + (1 : Int32))), some (.int a1.1)]) dX7_clock_104 rfl (by rfl) (by decide) (okp_at rfl) rfl ?_
        refine i_goto (tgt := 67) dX7_clock_107 (by decide) ?_
        refine At.fewer (ls' := [some (rf X 7 0), some (.int p1), some (.int p2), some (.int p3), some (.int v6), some (.int a1.1), some (.int (v6 + (1 : Int32))), none]) (And.intro rfl (And.intro rfl (And.intro rfl (And.intro rfl (And.intro rfl (And.intro rfl (And.intro rfl trivial))))))) ?_
        exact ih _ _ _ _ h hk
def f_X7_clock  (p1 : Int32) (p2 : Int32) (p3 : Int32) (σ : Mem) : Option (Int32 × Mem) :=
  (bnd (f_X7_isWithin p1 (0 : Int32) (3 : Int32) σ) (fun a1 => (if a1 = 0 then (some ((-1000000001 : Int32), σ)) else (bnd (f_X0_hasPerson 0 p2 σ) (fun a2 => (if a2 = 0 then (some ((-1000000001 : Int32), σ)) else (bnd (f_X7_isWithin p3 (0 : Int32) (1 : Int32) σ) (fun a3 => (if a3 = 0 then (some ((-1000000001 : Int32), σ)) else (bnd (ix 4 p1) (fun j1 => (bnd (f_X5_isMissing j1 σ) (fun a4 => (if a4 = 0 then (bnd (ix 4 p1) (fun j2 => (bnd (f_X7_differencesWithEast j2 p2 (0 : Int32) σ) (fun a5 => (f_X7_clock_67 p1 p2 p3 FU (0 : Int32) a5.1 (1 : Int32) a5.2 (fun e1 e2 σ_1 => (if p3 = 0 then (some (e1, σ_1)) else (some (e2, σ_1))))))))) else (some ((-1000000011 : Int32), σ))))))))))))))))
set_option maxRecDepth 100000 in
set_option maxHeartbeats 4000000 in
theorem F_X7_clock {X : Cx} {p1 : Int32} {p2 : Int32} {p3 : Int32} {σ : Mem} {res : (Int32 × Mem)}  (h : f_X7_clock p1 p2 p3 σ = some res) : Tri X 7 mX7_clock [rf X 7 0, .int p1, .int p2, .int p3] σ (some (.int res.1)) res.2 := by
  obtain ⟨r0, σ2⟩ := res
  unfold f_X7_clock at h
  refine Tri.of (ls := [some (rf X 7 0), some (.int p1), some (.int p2), some (.int p3), none, none, none, none]) (by decide) (Nat.le_of_ble_eq_true rfl) rfl ?_
  refine i_iload_n dX7_clock_0 rfl ?_
  refine i_iconst (v := 0) dX7_clock_1 (by decide) ?_
  refine i_iconst (v := 3) dX7_clock_2 (by decide) ?_
  refine cS_ir dX7_clock_3 cw_X7_62 ci_X7_isWithin h (fun a1 e => F_X7_isWithin  e) (Nat.le_of_ble_eq_true rfl) rfl rfl (Nat.le_of_ble_eq_true rfl) (fun a1 ea1 h => ?_)
  refine r_if_eq (tgt := 29) dX7_clock_6 (by decide) h (fun c1 h => ?_) (fun c1 h => ?_)
  · refine i_ldc (v := (-1000000001)) dX7_clock_29 k_X7_66 ?_
    exact e_iw rfl dX7_clock_31 h
  · refine i_aload_n dX7_clock_9 rfl ?_
    refine gf_X7_21 rfl (by omega) dX7_clock_10 ?_
    refine i_iload_n dX7_clock_13 rfl ?_
    refine cVN_ir dX7_clock_14 cw_X7_76 ci_X0_hasPerson rfl rfl (by decide) (show 0 < 3 by omega) h (fun a2 e => F_X0_hasPerson (by omega) e) (Nat.le_of_ble_eq_true rfl) rfl rfl (Nat.le_of_ble_eq_true rfl) (fun a2 ea2 h => ?_)
    refine r_if_eq (tgt := 29) dX7_clock_17 (by decide) h (fun c2 h => ?_) (fun c2 h => ?_)
    · refine i_ldc (v := (-1000000001)) dX7_clock_29 k_X7_66 ?_
      exact e_iw rfl dX7_clock_31 h
    · refine i_iload_n dX7_clock_20 rfl ?_
      refine i_iconst (v := 0) dX7_clock_21 (by decide) ?_
      refine i_iconst (v := 1) dX7_clock_22 (by decide) ?_
      refine cS_ir dX7_clock_23 cw_X7_62 ci_X7_isWithin h (fun a3 e => F_X7_isWithin  e) (Nat.le_of_ble_eq_true rfl) rfl rfl (Nat.le_of_ble_eq_true rfl) (fun a3 ea3 h => ?_)
      refine r_if_ne (tgt := 32) dX7_clock_26 (by decide) h (fun c3 h => ?_) (fun c3 h => ?_)
      · refine i_aload_n dX7_clock_32 rfl ?_
        refine gf_X7_50 rfl (by omega) dX7_clock_33 ?_
        refine i_iload_n dX7_clock_36 rfl ?_
        refine aa_19 dX7_clock_37 (by omega) h (fun j1 lj1 h => ?_)
        refine cVN_ir dX7_clock_38 cw_X7_204 ci_X5_isMissing rfl rfl (by decide) (show j1 < 9 by omega) h (fun a4 e => F_X5_isMissing (by omega) e) (Nat.le_of_ble_eq_true rfl) rfl rfl (Nat.le_of_ble_eq_true rfl) (fun a4 ea4 h => ?_)
        refine r_if_eq (tgt := 47) dX7_clock_41 (by decide) h (fun c4 h => ?_) (fun c4 h => ?_)
        · refine i_iconst (v := 0) dX7_clock_47 (by decide) ?_
          refine i_istore (ls' := [some (rf X 7 0), some (.int p1), some (.int p2), some (.int p3), some (.int (0 : Int32)), none, none, none]) dX7_clock_48 (by decide) (okp_at rfl) rfl ?_
          refine i_aload_n dX7_clock_50 rfl ?_
          refine i_aload_n dX7_clock_51 rfl ?_
          refine gf_X7_50 rfl (by omega) dX7_clock_52 ?_
          refine i_iload_n dX7_clock_55 rfl ?_
          refine aa_19 dX7_clock_56 (by omega) h (fun j2 lj2 h => ?_)
          refine i_iload_n dX7_clock_57 rfl ?_
          refine i_iconst (v := 0) dX7_clock_58 (by decide) ?_
          refine cV_iw dX7_clock_59 cw_X7_209 ci_X7_differencesWithEast rfl rfl (by decide) (show 0 < 1 by omega) h (fun a5 e => F_X7_differencesWithEast (by omega) e) (Nat.le_of_ble_eq_true rfl) rfl rfl (Nat.le_of_ble_eq_true rfl) (fun a5 ea5 h => ?_)
          refine i_istore (ls' := [some (rf X 7 0), some (.int p1), some (.int p2), some (.int p3), some (.int (0 : Int32)), some (.int a5.1), none, none]) dX7_clock_62 (by decide) (okp_at rfl) rfl ?_
          refine i_iconst (v := 1) dX7_clock_64 (by decide) ?_
          refine i_istore (ls' := [some (rf X 7 0), some (.int p1), some (.int p2), some (.int p3), some (.int (0 : Int32)), some (.int a5.1), some (.int (1 : Int32)), none]) dX7_clock_65 (by decide) (okp_at rfl) rfl ?_
          refine L_X7_clock_67  FU _ _ _ _ h (fun e1 e2 σ_1 h => ?_)
          refine i_iload_n dX7_clock_110 rfl ?_
          refine r_if_ne (tgt := 119) dX7_clock_111 (by decide) h (fun c5 h => ?_) (fun c5 h => ?_)
          · refine i_iload dX7_clock_119 rfl ?_
            exact e_iw rfl dX7_clock_121 h
          · refine i_iload dX7_clock_114 rfl ?_
            refine i_goto (tgt := 121) dX7_clock_116 (by decide) ?_
            exact e_iw rfl dX7_clock_121 h
        · refine i_ldc (v := (-1000000011)) dX7_clock_44 k_X7_208 ?_
          exact e_iw rfl dX7_clock_46 h
      · refine i_ldc (v := (-1000000001)) dX7_clock_29 k_X7_66 ?_
        exact e_iw rfl dX7_clock_31 h
end
