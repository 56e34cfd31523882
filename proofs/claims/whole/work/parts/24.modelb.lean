noncomputable section
def f_X8_noon  (p1 : Int32) (σ : Mem) : Option Int32 :=
  (bnd (f_X8_of p1 (0 : Int32) σ) (fun a1 => (if a1 = (1 : Int32) then (bnd (f_X8_of p1 (1 : Int32) σ) (fun a5 => (some ((((12 : Int32) + a5) + (1 : Int32)) - (((12 : Int32) + a5) + (1 : Int32)) / (24 : Int32) * (24 : Int32))))) else (bnd (f_X8_of p1 (0 : Int32) σ) (fun a2 => (if a2 = (3 : Int32) then (bnd (f_X8_of p1 (1 : Int32) σ) (fun a4 => (some ((((12 : Int32) + a4) + (7 : Int32)) - (((12 : Int32) + a4) + (7 : Int32)) / (24 : Int32) * (24 : Int32))))) else (bnd (f_X8_of p1 (1 : Int32) σ) (fun a3 => (some ((((12 : Int32) + a3) + (0 : Int32)) - (((12 : Int32) + a3) + (0 : Int32)) / (24 : Int32) * (24 : Int32)))))))))))
set_option maxRecDepth 100000 in
set_option maxHeartbeats 4000000 in
theorem F_X8_noon {X : Cx} {p1 : Int32} {σ : Mem} {res : Int32}  (h : f_X8_noon p1 σ = some res) : Tri X 2 mX8_noon [rf X 8 0, .int p1] σ (some (.int res)) σ := by
  unfold f_X8_noon at h
  refine Tri.of (ls := [some (rf X 8 0), some (.int p1), none]) (by decide) (Nat.le_of_ble_eq_true rfl) rfl ?_
  refine i_aload_n dX8_noon_0 rfl ?_
  refine i_iload_n dX8_noon_1 rfl ?_
  refine i_iconst (v := 0) dX8_noon_2 (by decide) ?_
  refine cV_ir dX8_noon_3 cw_X8_98 ci_X8_of rfl rfl (by decide) (show 0 < 1 by omega) h (fun a1 e => F_X8_of  e) (Nat.le_of_ble_eq_true rfl) rfl rfl (Nat.le_of_ble_eq_true rfl) (fun a1 ea1 h => ?_)
  refine i_iconst (v := 1) dX8_noon_6 (by decide) ?_
  refine r_icmp_ne (tgt := 14) dX8_noon_7 (by decide) h (fun c1 h => ?_) (fun c1 h => ?_)
  · refine i_aload_n dX8_noon_14 rfl ?_
    refine i_iload_n dX8_noon_15 rfl ?_
    refine i_iconst (v := 0) dX8_noon_16 (by decide) ?_
    refine cV_ir dX8_noon_17 cw_X8_98 ci_X8_of rfl rfl (by decide) (show 0 < 1 by omega) h (fun a2 e => F_X8_of  e) (Nat.le_of_ble_eq_true rfl) rfl rfl (Nat.le_of_ble_eq_true rfl) (fun a2 ea2 h => ?_)
    refine i_iconst (v := 3) dX8_noon_20 (by decide) ?_
    refine r_icmp_ne (tgt := 29) dX8_noon_21 (by decide) h (fun c2 h => ?_) (fun c2 h => ?_)
    · refine i_iconst (v := 0) dX8_noon_29 (by decide) ?_
      refine i_istore_n (ls' := [some (rf X 8 0), some (.int p1), some (.int (0 : Int32))]) dX8_noon_30 (by decide) (okp_at rfl) rfl ?_
      refine i_bipush (v := 12) dX8_noon_31 (by decide) ?_
      refine i_aload_n dX8_noon_33 rfl ?_
      refine i_iload_n dX8_noon_34 rfl ?_
      refine i_iconst (v := 1) dX8_noon_35 (by decide) ?_
      refine cV_ir dX8_noon_36 cw_X8_98 ci_X8_of rfl rfl (by decide) (show 0 < 1 by omega) h (fun a3 e => F_X8_of  e) (Nat.le_of_ble_eq_true rfl) rfl rfl (Nat.le_of_ble_eq_true rfl) (fun a3 ea3 h => ?_)
      refine i_iadd dX8_noon_39 ?_
      refine i_iload_n dX8_noon_40 rfl ?_
      refine i_iadd dX8_noon_41 ?_
      refine i_bipush (v := 24) dX8_noon_42 (by decide) ?_
      refine i_irem dX8_noon_44 (by decide) ?_
      exact e_ir rfl dX8_noon_45 h
    · refine i_bipush (v := 7) dX8_noon_24 (by decide) ?_
      refine i_goto (tgt := 30) dX8_noon_26 (by decide) ?_
      refine i_istore_n (ls' := [some (rf X 8 0), some (.int p1), some (.int (7 : Int32))]) dX8_noon_30 (by decide) (okp_at rfl) rfl ?_
      refine i_bipush (v := 12) dX8_noon_31 (by decide) ?_
      refine i_aload_n dX8_noon_33 rfl ?_
      refine i_iload_n dX8_noon_34 rfl ?_
      refine i_iconst (v := 1) dX8_noon_35 (by decide) ?_
      refine cV_ir dX8_noon_36 cw_X8_98 ci_X8_of rfl rfl (by decide) (show 0 < 1 by omega) h (fun a4 e => F_X8_of  e) (Nat.le_of_ble_eq_true rfl) rfl rfl (Nat.le_of_ble_eq_true rfl) (fun a4 ea4 h => ?_)
      refine i_iadd dX8_noon_39 ?_
      refine i_iload_n dX8_noon_40 rfl ?_
      refine i_iadd dX8_noon_41 ?_
      refine i_bipush (v := 24) dX8_noon_42 (by decide) ?_
      refine i_irem dX8_noon_44 (by decide) ?_
      exact e_ir rfl dX8_noon_45 h
  · refine i_iconst (v := 1) dX8_noon_10 (by decide) ?_
    refine i_goto (tgt := 30) dX8_noon_11 (by decide) ?_
    refine i_istore_n (ls' := [some (rf X 8 0), some (.int p1), some (.int (1 : Int32))]) dX8_noon_30 (by decide) (okp_at rfl) rfl ?_
    refine i_bipush (v := 12) dX8_noon_31 (by decide) ?_
    refine i_aload_n dX8_noon_33 rfl ?_
    refine i_iload_n dX8_noon_34 rfl ?_
    refine i_iconst (v := 1) dX8_noon_35 (by decide) ?_
    refine cV_ir dX8_noon_36 cw_X8_98 ci_X8_of rfl rfl (by decide) (show 0 < 1 by omega) h (fun a5 e => F_X8_of  e) (Nat.le_of_ble_eq_true rfl) rfl rfl (Nat.le_of_ble_eq_true rfl) (fun a5 ea5 h => ?_)
    refine i_iadd dX8_noon_39 ?_
    refine i_iload_n dX8_noon_40 rfl ?_
    refine i_iadd dX8_noon_41 ?_
    refine i_bipush (v := 24) dX8_noon_42 (by decide) ?_
    refine i_irem dX8_noon_44 (by decide) ?_
    exact e_ir rfl dX8_noon_45 h
def f_X8_pays  (p1 : Int32) (σ : Mem) : Option Int32 :=
  (bnd (f_X8_of p1 (0 : Int32) σ) (fun a1 => (if a1 = (1 : Int32) then (some (1 : Int32)) else (if a1 = (2 : Int32) then (some (0 : Int32)) else (if a1 = (3 : Int32) then (some (5 : Int32)) else (if a1 = (4 : Int32) then (some (0 : Int32)) else (if a1 = (5 : Int32) then (some (9 : Int32)) else (some (2 : Int32)))))))))
set_option maxRecDepth 100000 in
set_option maxHeartbeats 4000000 in
theorem F_X8_pays {X : Cx} {p1 : Int32} {σ : Mem} {res : Int32}  (h : f_X8_pays p1 σ = some res) : Tri X 2 mX8_pays [rf X 8 0, .int p1] σ (some (.int res)) σ := by
  unfold f_X8_pays at h
  refine Tri.of (ls := [some (rf X 8 0), some (.int p1)]) (by decide) (Nat.le_of_ble_eq_true rfl) rfl ?_
  refine i_aload_n dX8_pays_0 rfl ?_
  refine i_iload_n dX8_pays_1 rfl ?_
  refine i_iconst (v := 0) dX8_pays_2 (by decide) ?_
  refine cV_ir dX8_pays_3 cw_X8_98 ci_X8_of rfl rfl (by decide) (show 0 < 1 by omega) h (fun a1 e => F_X8_of  e) (Nat.le_of_ble_eq_true rfl) rfl rfl (Nat.le_of_ble_eq_true rfl) (fun a1 ea1 h => ?_)
  refine r_case (c := a1 = (1 : Int32)) h (fun c1 h => ?_) (fun c1 h => ?_)
  · refine i_tin (tgt := 40) (off := 34) dX8_pays_6 (1 : Int32) c1 (by decide) (by decide) (by decide) (by decide) ?_
    refine i_iconst (v := 1) dX8_pays_40 (by decide) ?_
    exact e_ir rfl dX8_pays_41 h
  · refine r_case (c := a1 = (2 : Int32)) h (fun c2 h => ?_) (fun c2 h => ?_)
    · refine i_tin (tgt := 42) (off := 36) dX8_pays_6 (2 : Int32) c2 (by decide) (by decide) (by decide) (by decide) ?_
      refine i_iconst (v := 0) dX8_pays_42 (by decide) ?_
      exact e_ir rfl dX8_pays_43 h
    · refine r_case (c := a1 = (3 : Int32)) h (fun c3 h => ?_) (fun c3 h => ?_)
      · refine i_tin (tgt := 44) (off := 38) dX8_pays_6 (3 : Int32) c3 (by decide) (by decide) (by decide) (by decide) ?_
        refine i_iconst (v := 5) dX8_pays_44 (by decide) ?_
        exact e_ir rfl dX8_pays_45 h
      · refine r_case (c := a1 = (4 : Int32)) h (fun c4 h => ?_) (fun c4 h => ?_)
        · refine i_tin (tgt := 42) (off := 36) dX8_pays_6 (4 : Int32) c4 (by decide) (by decide) (by decide) (by decide) ?_
          refine i_iconst (v := 0) dX8_pays_42 (by decide) ?_
          exact e_ir rfl dX8_pays_43 h
        · refine r_case (c := a1 = (5 : Int32)) h (fun c5 h => ?_) (fun c5 h => ?_)
          · refine i_tin (tgt := 46) (off := 40) dX8_pays_6 (5 : Int32) c5 (by decide) (by decide) (by decide) (by decide) ?_
            refine i_bipush (v := 9) dX8_pays_46 (by decide) ?_
            exact e_ir rfl dX8_pays_48 h
          · refine i_tout (tgt := 49) dX8_pays_6 (tsw_1_5 c1 c2 c3 c4 c5) (by decide) ?_
            refine i_iconst (v := 2) dX8_pays_49 (by decide) ?_
            exact e_ir rfl dX8_pays_50 h
def f_X8_worth  (p1 : Int32) (σ : Mem) : Option Int32 :=
  (bnd (f_X8_of p1 (2 : Int32) σ) (fun a1 => (bnd (f_X8_of p1 (0 : Int32) σ) (fun a2 => (if a2 = (1 : Int32) then (some (a1 + (6 : Int32))) else (if a2 = (2 : Int32) then (some ((99 : Int32) - a1)) else (if a2 = (3 : Int32) then (some ((2 : Int32) * (a1 + (6 : Int32)))) else (if a2 = (4 : Int32) then (some ((94 : Int32) - a1)) else (if a2 = (5 : Int32) then (some (1 : Int32)) else (some a1))))))))))
set_option maxRecDepth 100000 in
set_option maxHeartbeats 4000000 in
theorem F_X8_worth {X : Cx} {p1 : Int32} {σ : Mem} {res : Int32}  (h : f_X8_worth p1 σ = some res) : Tri X 2 mX8_worth [rf X 8 0, .int p1] σ (some (.int res)) σ := by
  unfold f_X8_worth at h
  refine Tri.of (ls := [some (rf X 8 0), some (.int p1), none]) (by decide) (Nat.le_of_ble_eq_true rfl) rfl ?_
  refine i_aload_n dX8_worth_0 rfl ?_
  refine i_iload_n dX8_worth_1 rfl ?_
  refine i_iconst (v := 2) dX8_worth_2 (by decide) ?_
  refine cV_ir dX8_worth_3 cw_X8_98 ci_X8_of rfl rfl (by decide) (show 0 < 1 by omega) h (fun a1 e => F_X8_of  e) (Nat.le_of_ble_eq_true rfl) rfl rfl (Nat.le_of_ble_eq_true rfl) (fun a1 ea1 h => ?_)
  refine i_istore_n (ls' := [some (rf X 8 0), some (.int p1), some (.int a1)]) dX8_worth_6 (by decide) (okp_at rfl) rfl ?_
  refine i_aload_n dX8_worth_7 rfl ?_
  refine i_iload_n dX8_worth_8 rfl ?_
  refine i_iconst (v := 0) dX8_worth_9 (by decide) ?_
  refine cV_ir dX8_worth_10 cw_X8_98 ci_X8_of rfl rfl (by decide) (show 0 < 1 by omega) h (fun a2 e => F_X8_of  e) (Nat.le_of_ble_eq_true rfl) rfl rfl (Nat.le_of_ble_eq_true rfl) (fun a2 ea2 h => ?_)
  refine r_case (c := a2 = (1 : Int32)) h (fun c1 h => ?_) (fun c1 h => ?_)
  · refine i_tin (tgt := 48) (off := 35) dX8_worth_13 (1 : Int32) c1 (by decide) (by decide) (by decide) (by decide) ?_
    refine i_iload_n dX8_worth_48 rfl ?_
    refine i_bipush (v := 6) dX8_worth_49 (by decide) ?_
    refine i_iadd dX8_worth_51 ?_
    exact e_ir rfl dX8_worth_52 h
  · refine r_case (c := a2 = (2 : Int32)) h (fun c2 h => ?_) (fun c2 h => ?_)
    · refine i_tin (tgt := 53) (off := 40) dX8_worth_13 (2 : Int32) c2 (by decide) (by decide) (by decide) (by decide) ?_
      refine i_bipush (v := 99) dX8_worth_53 (by decide) ?_
      refine i_iload_n dX8_worth_55 rfl ?_
      refine i_isub dX8_worth_56 ?_
      exact e_ir rfl dX8_worth_57 h
    · refine r_case (c := a2 = (3 : Int32)) h (fun c3 h => ?_) (fun c3 h => ?_)
      · refine i_tin (tgt := 58) (off := 45) dX8_worth_13 (3 : Int32) c3 (by decide) (by decide) (by decide) (by decide) ?_
        refine i_iconst (v := 2) dX8_worth_58 (by decide) ?_
        refine i_iload_n dX8_worth_59 rfl ?_
        refine i_bipush (v := 6) dX8_worth_60 (by decide) ?_
        refine i_iadd dX8_worth_62 ?_
        refine i_imul dX8_worth_63 ?_
        exact e_ir rfl dX8_worth_64 h
      · refine r_case (c := a2 = (4 : Int32)) h (fun c4 h => ?_) (fun c4 h => ?_)
        · refine i_tin (tgt := 65) (off := 52) dX8_worth_13 (4 : Int32) c4 (by decide) (by decide) (by decide) (by decide) ?_
          refine i_bipush (v := 94) dX8_worth_65 (by decide) ?_
          refine i_iload_n dX8_worth_67 rfl ?_
          refine i_isub dX8_worth_68 ?_
          exact e_ir rfl dX8_worth_69 h
        · refine r_case (c := a2 = (5 : Int32)) h (fun c5 h => ?_) (fun c5 h => ?_)
          · refine i_tin (tgt := 70) (off := 57) dX8_worth_13 (5 : Int32) c5 (by decide) (by decide) (by decide) (by decide) ?_
            refine i_iconst (v := 1) dX8_worth_70 (by decide) ?_
            exact e_ir rfl dX8_worth_71 h
          · refine i_tout (tgt := 72) dX8_worth_13 (tsw_1_5 c1 c2 c3 c4 c5) (by decide) ?_
            refine i_iload_n dX8_worth_72 rfl ?_
            exact e_ir rfl dX8_worth_73 h
def f_X8_told  (p1 : Int32) (p2 : Int32) (σ : Mem) : Option Int32 :=
  (bnd (f_X8_isOne p1 σ) (fun a1 => (if a1 = 0 then (some (-1000000001 : Int32)) else (if p2 = (0 : Int32) then (bnd (f_X8_of p1 p2 σ) (fun a2 => (some a2))) else (if p2 = (1 : Int32) then (bnd (f_X8_of p1 p2 σ) (fun a3 => (some a3))) else (if p2 = (2 : Int32) then (bnd (f_X8_of p1 p2 σ) (fun a4 => (some a4))) else (if p2 = (3 : Int32) then (bnd (f_X8_of p1 p2 σ) (fun a5 => (some a5))) else (if p2 = (4 : Int32) then (bnd (f_X8_manyBy p1 (0 : Int32) σ) (fun a6 => (some a6))) else (if p2 = (5 : Int32) then (bnd (f_X8_manyBy p1 (1 : Int32) σ) (fun a7 => (some a7))) else (if p2 = (6 : Int32) then (bnd (f_X8_noon p1 σ) (fun a8 => (some a8))) else (if p2 = (7 : Int32) then (bnd (f_X8_pays p1 σ) (fun a9 => (some a9))) else (if p2 = (8 : Int32) then (bnd (f_X8_worth p1 σ) (fun a10 => (some a10))) else (some (-1000000001 : Int32))))))))))))))
set_option maxRecDepth 100000 in
set_option maxHeartbeats 4000000 in
theorem F_X8_told {X : Cx} {p1 : Int32} {p2 : Int32} {σ : Mem} {res : Int32}  (h : f_X8_told p1 p2 σ = some res) : Tri X 3 mX8_told [rf X 8 0, .int p1, .int p2] σ (some (.int res)) σ := by
  unfold f_X8_told at h
  refine Tri.of (ls := [some (rf X 8 0), some (.int p1), some (.int p2)]) (by decide) (Nat.le_of_ble_eq_true rfl) rfl ?_
  refine i_aload_n dX8_told_0 rfl ?_
  refine i_iload_n dX8_told_1 rfl ?_
  refine cV_ir dX8_told_2 cw_X8_112 ci_X8_isOne rfl rfl (by decide) (show 0 < 1 by omega) h (fun a1 e => F_X8_isOne  e) (Nat.le_of_ble_eq_true rfl) rfl rfl (Nat.le_of_ble_eq_true rfl) (fun a1 ea1 h => ?_)
  refine r_if_ne (tgt := 11) dX8_told_5 (by decide) h (fun c1 h => ?_) (fun c1 h => ?_)
  · refine i_iload_n dX8_told_11 rfl ?_
    refine r_case (c := p2 = (0 : Int32)) h (fun c2 h => ?_) (fun c2 h => ?_)
    · refine i_tin (tgt := 64) (off := 52) dX8_told_12 (0 : Int32) c2 (by decide) (by decide) (by decide) (by decide) ?_
      refine i_aload_n dX8_told_64 rfl ?_
      refine i_iload_n dX8_told_65 rfl ?_
      refine i_iload_n dX8_told_66 rfl ?_
      refine cV_ir dX8_told_67 cw_X8_98 ci_X8_of rfl rfl (by decide) (show 0 < 1 by omega) h (fun a2 e => F_X8_of  e) (Nat.le_of_ble_eq_true rfl) rfl rfl (Nat.le_of_ble_eq_true rfl) (fun a2 ea2 h => ?_)
      exact e_ir rfl dX8_told_70 h
    · refine r_case (c := p2 = (1 : Int32)) h (fun c3 h => ?_) (fun c3 h => ?_)
      · refine i_tin (tgt := 64) (off := 52) dX8_told_12 (1 : Int32) c3 (by decide) (by decide) (by decide) (by decide) ?_
        refine i_aload_n dX8_told_64 rfl ?_
        refine i_iload_n dX8_told_65 rfl ?_
        refine i_iload_n dX8_told_66 rfl ?_
        refine cV_ir dX8_told_67 cw_X8_98 ci_X8_of rfl rfl (by decide) (show 0 < 1 by omega) h (fun a3 e => F_X8_of  e) (Nat.le_of_ble_eq_true rfl) rfl rfl (Nat.le_of_ble_eq_true rfl) (fun a3 ea3 h => ?_)
        exact e_ir rfl dX8_told_70 h
      · refine r_case (c := p2 = (2 : Int32)) h (fun c4 h => ?_) (fun c4 h => ?_)
        · refine i_tin (tgt := 64) (off := 52) dX8_told_12 (2 : Int32) c4 (by decide) (by decide) (by decide) (by decide) ?_
          refine i_aload_n dX8_told_64 rfl ?_
          refine i_iload_n dX8_told_65 rfl ?_
          refine i_iload_n dX8_told_66 rfl ?_
          refine cV_ir dX8_told_67 cw_X8_98 ci_X8_of rfl rfl (by decide) (show 0 < 1 by omega) h (fun a4 e => F_X8_of  e) (Nat.le_of_ble_eq_true rfl) rfl rfl (Nat.le_of_ble_eq_true rfl) (fun a4 ea4 h => ?_)
          exact e_ir rfl dX8_told_70 h
        · refine r_case (c := p2 = (3 : Int32)) h (fun c5 h => ?_) (fun c5 h => ?_)
          · refine i_tin (tgt := 64) (off := 52) dX8_told_12 (3 : Int32) c5 (by decide) (by decide) (by decide) (by decide) ?_
            refine i_aload_n dX8_told_64 rfl ?_
            refine i_iload_n dX8_told_65 rfl ?_
            refine i_iload_n dX8_told_66 rfl ?_
            refine cV_ir dX8_told_67 cw_X8_98 ci_X8_of rfl rfl (by decide) (show 0 < 1 by omega) h (fun a5 e => F_X8_of  e) (Nat.le_of_ble_eq_true rfl) rfl rfl (Nat.le_of_ble_eq_true rfl) (fun a5 ea5 h => ?_)
            exact e_ir rfl dX8_told_70 h
          · refine r_case (c := p2 = (4 : Int32)) h (fun c6 h => ?_) (fun c6 h => ?_)
            · refine i_tin (tgt := 71) (off := 59) dX8_told_12 (4 : Int32) c6 (by decide) (by decide) (by decide) (by decide) ?_
              refine i_aload_n dX8_told_71 rfl ?_
              refine i_iload_n dX8_told_72 rfl ?_
              refine i_iconst (v := 0) dX8_told_73 (by decide) ?_
              refine cV_ir dX8_told_74 cw_X8_95 ci_X8_manyBy rfl rfl (by decide) (show 0 < 1 by omega) h (fun a6 e => F_X8_manyBy  e) (Nat.le_of_ble_eq_true rfl) rfl rfl (Nat.le_of_ble_eq_true rfl) (fun a6 ea6 h => ?_)
              exact e_ir rfl dX8_told_77 h
            · refine r_case (c := p2 = (5 : Int32)) h (fun c7 h => ?_) (fun c7 h => ?_)
              · refine i_tin (tgt := 78) (off := 66) dX8_told_12 (5 : Int32) c7 (by decide) (by decide) (by decide) (by decide) ?_
                refine i_aload_n dX8_told_78 rfl ?_
                refine i_iload_n dX8_told_79 rfl ?_
                refine i_iconst (v := 1) dX8_told_80 (by decide) ?_
                refine cV_ir dX8_told_81 cw_X8_95 ci_X8_manyBy rfl rfl (by decide) (show 0 < 1 by omega) h (fun a7 e => F_X8_manyBy  e) (Nat.le_of_ble_eq_true rfl) rfl rfl (Nat.le_of_ble_eq_true rfl) (fun a7 ea7 h => ?_)
                exact e_ir rfl dX8_told_84 h
              · refine r_case (c := p2 = (6 : Int32)) h (fun c8 h => ?_) (fun c8 h => ?_)
                · refine i_tin (tgt := 85) (off := 73) dX8_told_12 (6 : Int32) c8 (by decide) (by decide) (by decide) (by decide) ?_
                  refine i_aload_n dX8_told_85 rfl ?_
                  refine i_iload_n dX8_told_86 rfl ?_
                  refine cV_ir dX8_told_87 cw_X8_116 ci_X8_noon rfl rfl (by decide) (show 0 < 1 by omega) h (fun a8 e => F_X8_noon  e) (Nat.le_of_ble_eq_true rfl) rfl rfl (Nat.le_of_ble_eq_true rfl) (fun a8 ea8 h => ?_)
                  exact e_ir rfl dX8_told_90 h
                · refine r_case (c := p2 = (7 : Int32)) h (fun c9 h => ?_) (fun c9 h => ?_)
                  · refine i_tin (tgt := 91) (off := 79) dX8_told_12 (7 : Int32) c9 (by decide) (by decide) (by decide) (by decide) ?_
                    refine i_aload_n dX8_told_91 rfl ?_
                    refine i_iload_n dX8_told_92 rfl ?_
                    refine cV_ir dX8_told_93 cw_X8_119 ci_X8_pays rfl rfl (by decide) (show 0 < 1 by omega) h (fun a9 e => F_X8_pays  e) (Nat.le_of_ble_eq_true rfl) rfl rfl (Nat.le_of_ble_eq_true rfl) (fun a9 ea9 h => ?_)
                    exact e_ir rfl dX8_told_96 h
                  · refine r_case (c := p2 = (8 : Int32)) h (fun c10 h => ?_) (fun c10 h => ?_)
                    · refine i_tin (tgt := 97) (off := 85) dX8_told_12 (8 : Int32) c10 (by decide) (by decide) (by decide) (by decide) ?_
                      refine i_aload_n dX8_told_97 rfl ?_
                      refine i_iload_n dX8_told_98 rfl ?_
                      refine cV_ir dX8_told_99 cw_X8_122 ci_X8_worth rfl rfl (by decide) (show 0 < 1 by omega) h (fun a10 e => F_X8_worth  e) (Nat.le_of_ble_eq_true rfl) rfl rfl (Nat.le_of_ble_eq_true rfl) (fun a10 ea10 h => ?_)
                      exact e_ir rfl dX8_told_102 h
                    · refine i_tout (tgt := 103) dX8_told_12 (tsw_0_8 c2 c3 c4 c5 c6 c7 c8 c9 c10) (by decide) ?_
                      refine i_ldc (v := (-1000000001)) dX8_told_103 k_X8_86 ?_
                      exact e_ir rfl dX8_told_105 h
  · refine i_ldc (v := (-1000000001)) dX8_told_8 k_X8_86 ?_
    exact e_ir rfl dX8_told_10 h
def f_X8_isOf  (p0 : Int32) (p1 : Int32) (σ : Mem) : Option Int32 :=
  (if p0 = p1 then (some (1 : Int32)) else (if p1 = 0 then (some (1 : Int32)) else (if p1 = (1 : Int32) then (if p0 = (3 : Int32) then (some (1 : Int32)) else (if p1 = (2 : Int32) then (if p0 = (4 : Int32) then (some (1 : Int32)) else (some (0 : Int32))) else (some (0 : Int32)))) else (if p1 = (2 : Int32) then (if p0 = (4 : Int32) then (some (1 : Int32)) else (some (0 : Int32))) else (some (0 : Int32))))))
set_option maxRecDepth 100000 in
set_option maxHeartbeats 4000000 in
theorem F_X8_isOf {X : Cx} {p0 : Int32} {p1 : Int32} {σ : Mem} {res : Int32}  (h : f_X8_isOf p0 p1 σ = some res) : Tri X 1 mX8_isOf [.int p0, .int p1] σ (some (.int res)) σ := by
  unfold f_X8_isOf at h
  refine Tri.of (ls := [some (.int p0), some (.int p1)]) (by decide) (Nat.le_of_ble_eq_true rfl) rfl ?_
  refine i_iload_n dX8_isOf_0 rfl ?_
  refine i_iload_n dX8_isOf_1 rfl ?_
  refine r_icmp_eq (tgt := 29) dX8_isOf_2 (by decide) h (fun c1 h => ?_) (fun c1 h => ?_)
  · refine i_iconst (v := 1) dX8_isOf_29 (by decide) ?_
    refine i_goto (tgt := 34) dX8_isOf_30 (by decide) ?_
    exact e_zr rfl (by decide) dX8_isOf_34 h
  · refine i_iload_n dX8_isOf_5 rfl ?_
    refine r_if_eq (tgt := 29) dX8_isOf_6 (by decide) h (fun c2 h => ?_) (fun c2 h => ?_)
    · refine i_iconst (v := 1) dX8_isOf_29 (by decide) ?_
      refine i_goto (tgt := 34) dX8_isOf_30 (by decide) ?_
      exact e_zr rfl (by decide) dX8_isOf_34 h
    · refine i_iload_n dX8_isOf_9 rfl ?_
      refine i_iconst (v := 1) dX8_isOf_10 (by decide) ?_
      refine r_icmp_ne (tgt := 19) dX8_isOf_11 (by decide) h (fun c3 h => ?_) (fun c3 h => ?_)
      · refine i_iload_n dX8_isOf_19 rfl ?_
        refine i_iconst (v := 2) dX8_isOf_20 (by decide) ?_
        refine r_icmp_ne (tgt := 33) dX8_isOf_21 (by decide) h (fun c4 h => ?_) (fun c4 h => ?_)
        · refine i_iconst (v := 0) dX8_isOf_33 (by decide) ?_
          exact e_zr rfl (by decide) dX8_isOf_34 h
        · refine i_iload_n dX8_isOf_24 rfl ?_
          refine i_iconst (v := 4) dX8_isOf_25 (by decide) ?_
          refine r_icmp_ne (tgt := 33) dX8_isOf_26 (by decide) h (fun c5 h => ?_) (fun c5 h => ?_)
          · refine i_iconst (v := 0) dX8_isOf_33 (by decide) ?_
            exact e_zr rfl (by decide) dX8_isOf_34 h
          · refine i_iconst (v := 1) dX8_isOf_29 (by decide) ?_
            refine i_goto (tgt := 34) dX8_isOf_30 (by decide) ?_
            exact e_zr rfl (by decide) dX8_isOf_34 h
      · refine i_iload_n dX8_isOf_14 rfl ?_
        refine i_iconst (v := 3) dX8_isOf_15 (by decide) ?_
        refine r_icmp_eq (tgt := 29) dX8_isOf_16 (by decide) h (fun c6 h => ?_) (fun c6 h => ?_)
        · refine i_iconst (v := 1) dX8_isOf_29 (by decide) ?_
          refine i_goto (tgt := 34) dX8_isOf_30 (by decide) ?_
          exact e_zr rfl (by decide) dX8_isOf_34 h
        · refine i_iload_n dX8_isOf_19 rfl ?_
          refine i_iconst (v := 2) dX8_isOf_20 (by decide) ?_
          refine r_icmp_ne (tgt := 33) dX8_isOf_21 (by decide) h (fun c7 h => ?_) (fun c7 h => ?_)
          · refine i_iconst (v := 0) dX8_isOf_33 (by decide) ?_
            exact e_zr rfl (by decide) dX8_isOf_34 h
          · refine i_iload_n dX8_isOf_24 rfl ?_
            refine i_iconst (v := 4) dX8_isOf_25 (by decide) ?_
            refine r_icmp_ne (tgt := 33) dX8_isOf_26 (by decide) h (fun c8 h => ?_) (fun c8 h => ?_)
            · refine i_iconst (v := 0) dX8_isOf_33 (by decide) ?_
              exact e_zr rfl (by decide) dX8_isOf_34 h
            · refine i_iconst (v := 1) dX8_isOf_29 (by decide) ?_
              refine i_goto (tgt := 34) dX8_isOf_30 (by decide) ?_
              exact e_zr rfl (by decide) dX8_isOf_34 h
def f_X8_as  (p1 : Int32) (p2 : Int32) (σ : Mem) : Option Int32 :=
  (bnd (f_X8_isOne p1 σ) (fun a1 => (if a1 = 0 then (some (-1000000001 : Int32)) else (bnd (f_X8_isIn ((p2).toInt64) ((0 : Int64)) ((5 : Int64)) σ) (fun a2 => (if a2 = 0 then (some (-1000000001 : Int32)) else (bnd (f_X8_of p1 (0 : Int32) σ) (fun a3 => (bnd (f_X8_isOf a3 p2 σ) (fun a4 => (if a4 = 0 then (some (-1000000012 : Int32)) else (bnd (f_X8_of p1 (2 : Int32) σ) (fun a5 => (some a5))))))))))))))
set_option maxRecDepth 100000 in
set_option maxHeartbeats 4000000 in
theorem F_X8_as {X : Cx} {p1 : Int32} {p2 : Int32} {σ : Mem} {res : Int32}  (h : f_X8_as p1 p2 σ = some res) : Tri X 3 mX8_as [rf X 8 0, .int p1, .int p2] σ (some (.int res)) σ := by
  unfold f_X8_as at h
  refine Tri.of (ls := [some (rf X 8 0), some (.int p1), some (.int p2)]) (by decide) (Nat.le_of_ble_eq_true rfl) rfl ?_
  refine i_aload_n dX8_as_0 rfl ?_
  refine i_iload_n dX8_as_1 rfl ?_
  refine cV_ir dX8_as_2 cw_X8_112 ci_X8_isOne rfl rfl (by decide) (show 0 < 1 by omega) h (fun a1 e => F_X8_isOne  e) (Nat.le_of_ble_eq_true rfl) rfl rfl (Nat.le_of_ble_eq_true rfl) (fun a1 ea1 h => ?_)
  refine r_if_eq (tgt := 20) dX8_as_5 (by decide) h (fun c1 h => ?_) (fun c1 h => ?_)
  · refine i_ldc (v := (-1000000001)) dX8_as_20 k_X8_86 ?_
    exact e_ir rfl dX8_as_22 h
  · refine i_iload_n dX8_as_8 rfl ?_
    refine i_i2l dX8_as_9 ?_
    refine i_lconst (v := 0) dX8_as_10 (by decide) ?_
    refine i_ldc2 (v := 5) dX8_as_11 k_X8_80 ?_
    refine cS_ir dX8_as_14 cw_X8_71 ci_X8_isIn h (fun a2 e => F_X8_isIn  e) (Nat.le_of_ble_eq_true rfl) rfl rfl (Nat.le_of_ble_eq_true rfl) (fun a2 ea2 h => ?_)
    refine r_if_ne (tgt := 23) dX8_as_17 (by decide) h (fun c2 h => ?_) (fun c2 h => ?_)
    · refine i_aload_n dX8_as_23 rfl ?_
      refine i_iload_n dX8_as_24 rfl ?_
      refine i_iconst (v := 0) dX8_as_25 (by decide) ?_
      refine cV_ir dX8_as_26 cw_X8_98 ci_X8_of rfl rfl (by decide) (show 0 < 1 by omega) h (fun a3 e => F_X8_of  e) (Nat.le_of_ble_eq_true rfl) rfl rfl (Nat.le_of_ble_eq_true rfl) (fun a3 ea3 h => ?_)
      refine i_iload_n dX8_as_29 rfl ?_
      refine cS_ir dX8_as_30 cw_X8_125 ci_X8_isOf h (fun a4 e => F_X8_isOf  e) (Nat.le_of_ble_eq_true rfl) rfl rfl (Nat.le_of_ble_eq_true rfl) (fun a4 ea4 h => ?_)
      refine r_if_eq (tgt := 45) dX8_as_33 (by decide) h (fun c3 h => ?_) (fun c3 h => ?_)
      · refine i_ldc (v := (-1000000012)) dX8_as_45 k_X8_129 ?_
        exact e_ir rfl dX8_as_47 h
      · refine i_aload_n dX8_as_36 rfl ?_
        refine i_iload_n dX8_as_37 rfl ?_
        refine i_iconst (v := 2) dX8_as_38 (by decide) ?_
        refine cV_ir dX8_as_39 cw_X8_98 ci_X8_of rfl rfl (by decide) (show 0 < 1 by omega) h (fun a5 e => F_X8_of  e) (Nat.le_of_ble_eq_true rfl) rfl rfl (Nat.le_of_ble_eq_true rfl) (fun a5 ea5 h => ?_)
        refine i_goto (tgt := 47) dX8_as_42 (by decide) ?_
        exact e_ir rfl dX8_as_47 h
    · refine i_ldc (v := (-1000000001)) dX8_as_20 k_X8_86 ?_
      exact e_ir rfl dX8_as_22 h
def f_X8_turns  (p1 : Int32) (p2 : Int32) (σ : Mem) : Option (Int32 × Mem) :=
  (bnd (f_X8_isOne p1 σ) (fun a1 => (if a1 = 0 then (some ((-1000000001 : Int32), σ)) else (bnd (f_X8_isIn ((p2).toInt64) ((0 : Int64)) ((5 : Int64)) σ) (fun a2 => (if a2 = 0 then (some ((-1000000001 : Int32), σ)) else (bnd (f_X8_becomes ((7 : Int32) + ((5 : Int32) * p1)) p2 σ) (fun a3 => (some (a3.1, a3.2))))))))))
set_option maxRecDepth 100000 in
set_option maxHeartbeats 4000000 in
theorem F_X8_turns {X : Cx} {p1 : Int32} {p2 : Int32} {σ : Mem} {res : (Int32 × Mem)}  (h : f_X8_turns p1 p2 σ = some res) : Tri X 3 mX8_turns [rf X 8 0, .int p1, .int p2] σ (some (.int res.1)) res.2 := by
  obtain ⟨r0, σ2⟩ := res
  unfold f_X8_turns at h
  refine Tri.of (ls := [some (rf X 8 0), some (.int p1), some (.int p2)]) (by decide) (Nat.le_of_ble_eq_true rfl) rfl ?_
  refine i_aload_n dX8_turns_0 rfl ?_
  refine i_iload_n dX8_turns_1 rfl ?_
  refine cV_ir dX8_turns_2 cw_X8_112 ci_X8_isOne rfl rfl (by decide) (show 0 < 1 by omega) h (fun a1 e => F_X8_isOne  e) (Nat.le_of_ble_eq_true rfl) rfl rfl (Nat.le_of_ble_eq_true rfl) (fun a1 ea1 h => ?_)
  refine r_if_eq (tgt := 34) dX8_turns_5 (by decide) h (fun c1 h => ?_) (fun c1 h => ?_)
  · refine i_ldc (v := (-1000000001)) dX8_turns_34 k_X8_86 ?_
    exact e_iw rfl dX8_turns_36 h
  · refine i_iload_n dX8_turns_8 rfl ?_
    refine i_i2l dX8_turns_9 ?_
    refine i_lconst (v := 0) dX8_turns_10 (by decide) ?_
    refine i_ldc2 (v := 5) dX8_turns_11 k_X8_80 ?_
    refine cS_ir dX8_turns_14 cw_X8_71 ci_X8_isIn h (fun a2 e => F_X8_isIn  e) (Nat.le_of_ble_eq_true rfl) rfl rfl (Nat.le_of_ble_eq_true rfl) (fun a2 ea2 h => ?_)
    refine r_if_eq (tgt := 34) dX8_turns_17 (by decide) h (fun c2 h => ?_) (fun c2 h => ?_)
    · refine i_ldc (v := (-1000000001)) dX8_turns_34 k_X8_86 ?_
      exact e_iw rfl dX8_turns_36 h
    · refine i_aload_n dX8_turns_20 rfl ?_
      refine i_bipush (v := 7) dX8_turns_21 (by decide) ?_
      refine i_iconst (v := 5) dX8_turns_23 (by decide) ?_
      refine i_iload_n dX8_turns_24 rfl ?_
      refine i_imul dX8_turns_25 ?_
      refine i_iadd dX8_turns_26 ?_
      refine i_iload_n dX8_turns_27 rfl ?_
      refine cV_iw dX8_turns_28 cw_X8_130 ci_X8_becomes rfl rfl (by decide) (show 0 < 1 by omega) h (fun a3 e => F_X8_becomes  e) (Nat.le_of_ble_eq_true rfl) rfl rfl (Nat.le_of_ble_eq_true rfl) (fun a3 ea3 h => ?_)
      refine i_goto (tgt := 36) dX8_turns_31 (by decide) ?_
      exact e_iw rfl dX8_turns_36 h
def f_X8_set  (p1 : Int32) (p2 : Int32) (p3 : Int32) (σ : Mem) : Option (Int32 × Mem) :=
  (bnd (f_X8_isOne p1 σ) (fun a1 => (if a1 = 0 then (some ((-1000000001 : Int32), σ)) else (bnd (f_X8_isIn ((p2).toInt64) ((1 : Int64)) ((3 : Int64)) σ) (fun a2 => (if a2 = 0 then (some ((-1000000001 : Int32), σ)) else (if p2 = (3 : Int32) then (if p2 = (1 : Int32) then (bnd (f_X8_isIn ((p3).toInt64) ((-9999 : Int64)) ((23 : Int64)) σ) (fun a13 => (if a13 = 0 then (some ((-1000000001 : Int32), σ)) else (bnd (f_X8_becomes (((7 : Int32) + ((5 : Int32) * p1)) + p2) p3 σ) (fun a14 => (some (a14.1, a14.2))))))) else (if p2 = (2 : Int32) then (bnd (f_X8_isIn ((p3).toInt64) ((-9999 : Int64)) ((99 : Int64)) σ) (fun a11 => (if a11 = 0 then (some ((-1000000001 : Int32), σ)) else (bnd (f_X8_becomes (((7 : Int32) + ((5 : Int32) * p1)) + p2) p3 σ) (fun a12 => (some (a12.1, a12.2))))))) else (bnd (f_X8_isIn ((p3).toInt64) ((-9999 : Int64)) ((9999 : Int64)) σ) (fun a9 => (if a9 = 0 then (some ((-1000000001 : Int32), σ)) else (bnd (f_X8_becomes (((7 : Int32) + ((5 : Int32) * p1)) + p2) p3 σ) (fun a10 => (some (a10.1, a10.2))))))))) else (if p2 = (1 : Int32) then (bnd (f_X8_isIn ((p3).toInt64) ((0 : Int64)) ((23 : Int64)) σ) (fun a7 => (if a7 = 0 then (some ((-1000000001 : Int32), σ)) else (bnd (f_X8_becomes (((7 : Int32) + ((5 : Int32) * p1)) + p2) p3 σ) (fun a8 => (some (a8.1, a8.2))))))) else (if p2 = (2 : Int32) then (bnd (f_X8_isIn ((p3).toInt64) ((0 : Int64)) ((99 : Int64)) σ) (fun a5 => (if a5 = 0 then (some ((-1000000001 : Int32), σ)) else (bnd (f_X8_becomes (((7 : Int32) + ((5 : Int32) * p1)) + p2) p3 σ) (fun a6 => (some (a6.1, a6.2))))))) else (bnd (f_X8_isIn ((p3).toInt64) ((0 : Int64)) ((9999 : Int64)) σ) (fun a3 => (if a3 = 0 then (some ((-1000000001 : Int32), σ)) else (bnd (f_X8_becomes (((7 : Int32) + ((5 : Int32) * p1)) + p2) p3 σ) (fun a4 => (some (a4.1, a4.2))))))))))))))))
set_option maxRecDepth 100000 in
set_option maxHeartbeats 4000000 in
theorem F_X8_set {X : Cx} {p1 : Int32} {p2 : Int32} {p3 : Int32} {σ : Mem} {res : (Int32 × Mem)}  (h : f_X8_set p1 p2 p3 σ = some res) : Tri X 3 mX8_set [rf X 8 0, .int p1, .int p2, .int p3] σ (some (.int res.1)) res.2 := by
  obtain ⟨r0, σ2⟩ := res
  unfold f_X8_set at h
  refine Tri.of (ls := [some (rf X 8 0), some (.int p1), some (.int p2), some (.int p3)]) (by decide) (Nat.le_of_ble_eq_true rfl) rfl ?_
  refine i_aload_n dX8_set_0 rfl ?_
  refine i_iload_n dX8_set_1 rfl ?_
  refine cV_ir dX8_set_2 cw_X8_112 ci_X8_isOne rfl rfl (by decide) (show 0 < 1 by omega) h (fun a1 e => F_X8_isOne  e) (Nat.le_of_ble_eq_true rfl) rfl rfl (Nat.le_of_ble_eq_true rfl) (fun a1 ea1 h => ?_)
  refine r_if_eq (tgt := 65) dX8_set_5 (by decide) h (fun c1 h => ?_) (fun c1 h => ?_)
  · refine i_ldc (v := (-1000000001)) dX8_set_65 k_X8_86 ?_
    exact e_iw rfl dX8_set_67 h
  · refine i_iload_n dX8_set_8 rfl ?_
    refine i_i2l dX8_set_9 ?_
    refine i_lconst (v := 1) dX8_set_10 (by decide) ?_
    refine i_ldc2 (v := 3) dX8_set_11 k_X8_133 ?_
    refine cS_ir dX8_set_14 cw_X8_71 ci_X8_isIn h (fun a2 e => F_X8_isIn  e) (Nat.le_of_ble_eq_true rfl) rfl rfl (Nat.le_of_ble_eq_true rfl) (fun a2 ea2 h => ?_)
    refine r_if_eq (tgt := 65) dX8_set_17 (by decide) h (fun c2 h => ?_) (fun c2 h => ?_)
    · refine i_ldc (v := (-1000000001)) dX8_set_65 k_X8_86 ?_
      exact e_iw rfl dX8_set_67 h
    · refine i_iload_n dX8_set_20 rfl ?_
      refine i_i2l dX8_set_21 ?_
      refine i_iload_n dX8_set_22 rfl ?_
      refine i_iconst (v := 3) dX8_set_23 (by decide) ?_
      refine r_icmp_ne (tgt := 33) dX8_set_24 (by decide) h (fun c3 h => ?_) (fun c3 h => ?_)
      · refine i_lconst (v := 0) dX8_set_33 (by decide) ?_
        refine i_iload_n dX8_set_34 rfl ?_
        refine i_iconst (v := 1) dX8_set_35 (by decide) ?_
        refine r_icmp_ne (tgt := 45) dX8_set_36 (by decide) h (fun c4 h => ?_) (fun c4 h => ?_)
        · refine i_iload_n dX8_set_45 rfl ?_
          refine i_iconst (v := 2) dX8_set_46 (by decide) ?_
          refine r_icmp_ne (tgt := 56) dX8_set_47 (by decide) h (fun c5 h => ?_) (fun c5 h => ?_)
          · refine i_ldc2 (v := 9999) dX8_set_56 k_X8_137 ?_
            refine cS_ir dX8_set_59 cw_X8_71 ci_X8_isIn h (fun a3 e => F_X8_isIn  e) (Nat.le_of_ble_eq_true rfl) rfl rfl (Nat.le_of_ble_eq_true rfl) (fun a3 ea3 h => ?_)
            refine r_if_ne (tgt := 68) dX8_set_62 (by decide) h (fun c6 h => ?_) (fun c6 h => ?_)
            · refine i_aload_n dX8_set_68 rfl ?_
              refine i_bipush (v := 7) dX8_set_69 (by decide) ?_
              refine i_iconst (v := 5) dX8_set_71 (by decide) ?_
              refine i_iload_n dX8_set_72 rfl ?_
              refine i_imul dX8_set_73 ?_
              refine i_iadd dX8_set_74 ?_
              refine i_iload_n dX8_set_75 rfl ?_
              refine i_iadd dX8_set_76 ?_
              refine i_iload_n dX8_set_77 rfl ?_
              refine cV_iw dX8_set_78 cw_X8_130 ci_X8_becomes rfl rfl (by decide) (show 0 < 1 by omega) h (fun a4 e => F_X8_becomes  e) (Nat.le_of_ble_eq_true rfl) rfl rfl (Nat.le_of_ble_eq_true rfl) (fun a4 ea4 h => ?_)
              exact e_iw rfl dX8_set_81 h
            · refine i_ldc (v := (-1000000001)) dX8_set_65 k_X8_86 ?_
              exact e_iw rfl dX8_set_67 h
          · refine i_ldc2 (v := 99) dX8_set_50 k_X8_84 ?_
            refine i_goto (tgt := 59) dX8_set_53 (by decide) ?_
            refine cS_ir dX8_set_59 cw_X8_71 ci_X8_isIn h (fun a5 e => F_X8_isIn  e) (Nat.le_of_ble_eq_true rfl) rfl rfl (Nat.le_of_ble_eq_true rfl) (fun a5 ea5 h => ?_)
            refine r_if_ne (tgt := 68) dX8_set_62 (by decide) h (fun c7 h => ?_) (fun c7 h => ?_)
            · refine i_aload_n dX8_set_68 rfl ?_
              refine i_bipush (v := 7) dX8_set_69 (by decide) ?_
              refine i_iconst (v := 5) dX8_set_71 (by decide) ?_
              refine i_iload_n dX8_set_72 rfl ?_
              refine i_imul dX8_set_73 ?_
              refine i_iadd dX8_set_74 ?_
              refine i_iload_n dX8_set_75 rfl ?_
              refine i_iadd dX8_set_76 ?_
              refine i_iload_n dX8_set_77 rfl ?_
              refine cV_iw dX8_set_78 cw_X8_130 ci_X8_becomes rfl rfl (by decide) (show 0 < 1 by omega) h (fun a6 e => F_X8_becomes  e) (Nat.le_of_ble_eq_true rfl) rfl rfl (Nat.le_of_ble_eq_true rfl) (fun a6 ea6 h => ?_)
              exact e_iw rfl dX8_set_81 h
            · refine i_ldc (v := (-1000000001)) dX8_set_65 k_X8_86 ?_
              exact e_iw rfl dX8_set_67 h
        · refine i_ldc2 (v := 23) dX8_set_39 k_X8_82 ?_
          refine i_goto (tgt := 59) dX8_set_42 (by decide) ?_
          refine cS_ir dX8_set_59 cw_X8_71 ci_X8_isIn h (fun a7 e => F_X8_isIn  e) (Nat.le_of_ble_eq_true rfl) rfl rfl (Nat.le_of_ble_eq_true rfl) (fun a7 ea7 h => ?_)
          refine r_if_ne (tgt := 68) dX8_set_62 (by decide) h (fun c8 h => ?_) (fun c8 h => ?_)
          · refine i_aload_n dX8_set_68 rfl ?_
            refine i_bipush (v := 7) dX8_set_69 (by decide) ?_
            refine i_iconst (v := 5) dX8_set_71 (by decide) ?_
            refine i_iload_n dX8_set_72 rfl ?_
            refine i_imul dX8_set_73 ?_
            refine i_iadd dX8_set_74 ?_
            refine i_iload_n dX8_set_75 rfl ?_
            refine i_iadd dX8_set_76 ?_
            refine i_iload_n dX8_set_77 rfl ?_
            refine cV_iw dX8_set_78 cw_X8_130 ci_X8_becomes rfl rfl (by decide) (show 0 < 1 by omega) h (fun a8 e => F_X8_becomes  e) (Nat.le_of_ble_eq_true rfl) rfl rfl (Nat.le_of_ble_eq_true rfl) (fun a8 ea8 h => ?_)
            exact e_iw rfl dX8_set_81 h
          · refine i_ldc (v := (-1000000001)) dX8_set_65 k_X8_86 ?_
            exact e_iw rfl dX8_set_67 h
      · refine i_ldc2 (v := (-9999)) dX8_set_27 k_X8_135 ?_
        refine i_goto (tgt := 34) dX8_set_30 (by decide) ?_
        refine i_iload_n dX8_set_34 rfl ?_
        refine i_iconst (v := 1) dX8_set_35 (by decide) ?_
        refine r_icmp_ne (tgt := 45) dX8_set_36 (by decide) h (fun c9 h => ?_) (fun c9 h => ?_)
        · refine i_iload_n dX8_set_45 rfl ?_
          refine i_iconst (v := 2) dX8_set_46 (by decide) ?_
          refine r_icmp_ne (tgt := 56) dX8_set_47 (by decide) h (fun c10 h => ?_) (fun c10 h => ?_)
          · refine i_ldc2 (v := 9999) dX8_set_56 k_X8_137 ?_
            refine cS_ir dX8_set_59 cw_X8_71 ci_X8_isIn h (fun a9 e => F_X8_isIn  e) (Nat.le_of_ble_eq_true rfl) rfl rfl (Nat.le_of_ble_eq_true rfl) (fun a9 ea9 h => ?_)
            refine r_if_ne (tgt := 68) dX8_set_62 (by decide) h (fun c11 h => ?_) (fun c11 h => ?_)
            · refine i_aload_n dX8_set_68 rfl ?_
              refine i_bipush (v := 7) dX8_set_69 (by decide) ?_
              refine i_iconst (v := 5) dX8_set_71 (by decide) ?_
              refine i_iload_n dX8_set_72 rfl ?_
              refine i_imul dX8_set_73 ?_
              refine i_iadd dX8_set_74 ?_
              refine i_iload_n dX8_set_75 rfl ?_
              refine i_iadd dX8_set_76 ?_
              refine i_iload_n dX8_set_77 rfl ?_
              refine cV_iw dX8_set_78 cw_X8_130 ci_X8_becomes rfl rfl (by decide) (show 0 < 1 by omega) h (fun a10 e => F_X8_becomes  e) (Nat.le_of_ble_eq_true rfl) rfl rfl (Nat.le_of_ble_eq_true rfl) (fun a10 ea10 h => ?_)
              exact e_iw rfl dX8_set_81 h
            · refine i_ldc (v := (-1000000001)) dX8_set_65 k_X8_86 ?_
              exact e_iw rfl dX8_set_67 h
          · refine i_ldc2 (v := 99) dX8_set_50 k_X8_84 ?_
            refine i_goto (tgt := 59) dX8_set_53 (by decide) ?_
            refine cS_ir dX8_set_59 cw_X8_71 ci_X8_isIn h (fun a11 e => F_X8_isIn  e) (Nat.le_of_ble_eq_true rfl) rfl rfl (Nat.le_of_ble_eq_true rfl) (fun a11 ea11 h => ?_)
            refine r_if_ne (tgt := 68) dX8_set_62 (by decide) h (fun c12 h => ?_) (fun c12 h => ?_)
            · refine i_aload_n dX8_set_68 rfl ?_
              refine i_bipush (v := 7) dX8_set_69 (by decide) ?_
              refine i_iconst (v := 5) dX8_set_71 (by decide) ?_
              refine i_iload_n dX8_set_72 rfl ?_
              refine i_imul dX8_set_73 ?_
              refine i_iadd dX8_set_74 ?_
              refine i_iload_n dX8_set_75 rfl ?_
              refine i_iadd dX8_set_76 ?_
              refine i_iload_n dX8_set_77 rfl ?_
              refine cV_iw dX8_set_78 cw_X8_130 ci_X8_becomes rfl rfl (by decide) (show 0 < 1 by omega) h (fun a12 e => F_X8_becomes  e) (Nat.le_of_ble_eq_true rfl) rfl rfl (Nat.le_of_ble_eq_true rfl) (fun a12 ea12 h => ?_)
              exact e_iw rfl dX8_set_81 h
            · refine i_ldc (v := (-1000000001)) dX8_set_65 k_X8_86 ?_
              exact e_iw rfl dX8_set_67 h
        · refine i_ldc2 (v := 23) dX8_set_39 k_X8_82 ?_
          refine i_goto (tgt := 59) dX8_set_42 (by decide) ?_
          refine cS_ir dX8_set_59 cw_X8_71 ci_X8_isIn h (fun a13 e => F_X8_isIn  e) (Nat.le_of_ble_eq_true rfl) rfl rfl (Nat.le_of_ble_eq_true rfl) (fun a13 ea13 h => ?_)
          refine r_if_ne (tgt := 68) dX8_set_62 (by decide) h (fun c13 h => ?_) (fun c13 h => ?_)
          · refine i_aload_n dX8_set_68 rfl ?_
            refine i_bipush (v := 7) dX8_set_69 (by decide) ?_
            refine i_iconst (v := 5) dX8_set_71 (by decide) ?_
            refine i_iload_n dX8_set_72 rfl ?_
            refine i_imul dX8_set_73 ?_
            refine i_iadd dX8_set_74 ?_
            refine i_iload_n dX8_set_75 rfl ?_
            refine i_iadd dX8_set_76 ?_
            refine i_iload_n dX8_set_77 rfl ?_
            refine cV_iw dX8_set_78 cw_X8_130 ci_X8_becomes rfl rfl (by decide) (show 0 < 1 by omega) h (fun a14 e => F_X8_becomes  e) (Nat.le_of_ble_eq_true rfl) rfl rfl (Nat.le_of_ble_eq_true rfl) (fun a14 ea14 h => ?_)
            exact e_iw rfl dX8_set_81 h
          · refine i_ldc (v := (-1000000001)) dX8_set_65 k_X8_86 ?_
            exact e_iw rfl dX8_set_67 h
def f_X8_gives  (p1 : Int32) (p2 : Int32) (p3 : Int32) (σ : Mem) : Option Mem :=
  (bnd (ix 3108 (3 : Int32)) (fun j1 => (bnd (ix 3108 (((57 : Int32) + ((3 : Int32) * (σ 22 0 j1))) + (0 : Int32))) (fun j2 => (bnd (ix 3108 (((57 : Int32) + ((3 : Int32) * (σ 22 0 j1))) + (1 : Int32))) (fun j3 => (bnd (ix 3108 (((57 : Int32) + ((3 : Int32) * (σ 22 0 j1))) + (2 : Int32))) (fun j4 => (bnd (ix 3108 (3 : Int32)) (fun j5 => (bnd (ix 3108 (3 : Int32)) (fun j6 => (bnd (some (mput (mput (mput (mput σ 22 0 j2 p1) 22 0 j3 p2) 22 0 j4 p3) 22 0 j6 (((mput (mput (mput σ 22 0 j2 p1) 22 0 j3 p2) 22 0 j4 p3) 22 0 j5) + (1 : Int32)))) (fun s1 => (some s1)))))))))))))))
set_option maxRecDepth 100000 in
set_option maxHeartbeats 4000000 in
theorem F_X8_gives {X : Cx} {p1 : Int32} {p2 : Int32} {p3 : Int32} {σ : Mem} {res : Mem}  (h : f_X8_gives p1 p2 p3 σ = some res) : Tri X 1 mX8_gives [rf X 8 0, .int p1, .int p2, .int p3] σ none res := by
  unfold f_X8_gives at h
  refine Tri.of (ls := [some (rf X 8 0), some (.int p1), some (.int p2), some (.int p3), none]) (by decide) (Nat.le_of_ble_eq_true rfl) rfl ?_
  refine i_bipush (v := 57) dX8_gives_0 (by decide) ?_
  refine i_iconst (v := 3) dX8_gives_2 (by decide) ?_
  refine i_aload_n dX8_gives_3 rfl ?_
  refine gf_X8_7 rfl (by omega) dX8_gives_4 ?_
  refine i_iconst (v := 3) dX8_gives_7 (by decide) ?_
  refine al_22 dX8_gives_8 (by omega) h (fun j1 lj1 h => ?_)
  refine i_imul dX8_gives_9 ?_
  refine i_iadd dX8_gives_10 ?_
  refine i_istore (ls' := [some (rf X 8 0), some (.int p1), some (.int p2), some (.int p3), some (.int ((57 : Int32) + ((3 : Int32) * (σ 22 0 j1))))]) dX8_gives_11 (by decide) (okp_at rfl) rfl ?_
  refine i_aload_n dX8_gives_13 rfl ?_
  refine gf_X8_7 rfl (by omega) dX8_gives_14 ?_
  refine i_iload dX8_gives_17 rfl ?_
  refine i_iconst (v := 0) dX8_gives_19 (by decide) ?_
  refine i_iadd dX8_gives_20 ?_
  refine i_iload_n dX8_gives_21 rfl ?_
  refine as_22 dX8_gives_22 (by omega) h (fun j2 lj2 h => ?_)
  refine i_aload_n dX8_gives_23 rfl ?_
  refine gf_X8_7 rfl (by omega) dX8_gives_24 ?_
  refine i_iload dX8_gives_27 rfl ?_
  refine i_iconst (v := 1) dX8_gives_29 (by decide) ?_
  refine i_iadd dX8_gives_30 ?_
  refine i_iload_n dX8_gives_31 rfl ?_
  refine as_22 dX8_gives_32 (by omega) h (fun j3 lj3 h => ?_)
  refine i_aload_n dX8_gives_33 rfl ?_
  refine gf_X8_7 rfl (by omega) dX8_gives_34 ?_
  refine i_iload dX8_gives_37 rfl ?_
  refine i_iconst (v := 2) dX8_gives_39 (by decide) ?_
  refine i_iadd dX8_gives_40 ?_
  refine i_iload_n dX8_gives_41 rfl ?_
  refine as_22 dX8_gives_42 (by omega) h (fun j4 lj4 h => ?_)
  refine i_aload_n dX8_gives_43 rfl ?_
  refine gf_X8_7 rfl (by omega) dX8_gives_44 ?_
  refine i_iconst (v := 3) dX8_gives_47 (by decide) ?_
  refine i_dup2 dX8_gives_48 rfl rfl ?_
  refine al_22 dX8_gives_49 (by omega) h (fun j5 lj5 h => ?_)
  refine i_iconst (v := 1) dX8_gives_50 (by decide) ?_
  refine i_iadd dX8_gives_51 ?_
  refine as_22 dX8_gives_52 (by omega) h (fun j6 lj6 h => ?_)
  refine r_mem h (fun s1 _ h => ?_)
  exact e_vw rfl dX8_gives_53 h
def f_X8_goes_21 (p2 : Int32) : Nat → Int32 → Mem → (Mem → Option Mem) → Option Mem
  | 0, _, _, _ => none
  | n + 1, v3, σ, k =>
    (if p2 ≤ v3 then (k σ) else (bnd (ix 3108 (v3 + (3 : Int32))) (fun j1 => (bnd (ix 3108 v3) (fun j2 => (f_X8_goes_21 p2 n (v3 + (1 : Int32)) (mput σ 22 0 j2 (σ 22 0 j1)) k))))))
set_option maxRecDepth 100000 in
set_option maxHeartbeats 4000000 in
theorem L_X8_goes_21 {X : Cx} {p2 : Int32} {σ2 : Mem} {k : Mem → Option Mem}  : ∀ (n : Nat) (v3 : Int32) (σ : Mem), f_X8_goes_21 p2 n v3 σ k = some σ2 → (∀ (σ1 : Mem), k σ1 = some σ2 → At X 1 mX8_goes 46 [some (rf X 8 0), none, none, none] [] σ1 none σ2) → At X 1 mX8_goes 21 [some (rf X 8 0), none, some (.int p2), some (.int v3)] [] σ none σ2 := by
  intro n
  induction n with
  | zero =>
    intro v3 σ h
    cases h
  | succ n ih =>
    intro v3 σ h hk
    rw [f_X8_goes_21.eq_2] at h
    refine i_iload_n dX8_goes_21 rfl ?_
    refine i_iload_n dX8_goes_22 rfl ?_
    refine r_icmp_ge (tgt := 46) dX8_goes_23 (by decide) h (fun c1 h => ?_) (fun c1 h => ?_)
    · refine At.fewer (ls' := [some (rf X 8 0), none, none, none]) (And.intro rfl trivial) ?_
      exact hk _ h
    · refine i_aload_n dX8_goes_26 rfl ?_
      refine gf_X8_7 rfl (by omega) dX8_goes_27 ?_
      refine i_iload_n dX8_goes_30 rfl ?_
      refine i_aload_n dX8_goes_31 rfl ?_
      refine gf_X8_7 rfl (by omega) dX8_goes_32 ?_
      refine i_iload_n dX8_goes_35 rfl ?_
      refine i_iconst (v := 3) dX8_goes_36 (by decide) ?_
      refine i_iadd dX8_goes_37 ?_
      refine al_22 dX8_goes_38 (by omega) h (fun j1 lj1 h => ?_)
      refine as_22 dX8_goes_39 (by omega) h (fun j2 lj2 h => ?_)
      refine i_iinc (v := (v3 + (1 : Int32))) (ls' := [some (rf X 8 0), none, some (.int p2), some (.int (v3 + (1 : Int32)))]) dX8_goes_40 rfl (by rfl) (by decide) (okp_at rfl) rfl ?_
      refine i_goto (tgt := 21) dX8_goes_43 (by decide) ?_
      exact ih _ _ h hk
def f_X8_goes  (p1 : Int32) (σ : Mem) : Option Mem :=
  (bnd (ix 3108 (3 : Int32)) (fun j1 => (f_X8_goes_21 ((57 : Int32) + ((3 : Int32) * ((σ 22 0 j1) - (1 : Int32)))) FU ((57 : Int32) + ((3 : Int32) * p1)) σ (fun σ_1 => (bnd (ix 3108 (3 : Int32)) (fun j2 => (bnd (ix 3108 (3 : Int32)) (fun j3 => (bnd (ix 3108 (5 : Int32)) (fun j4 => (bnd (ix 3108 (5 : Int32)) (fun j5 => (bnd (some (mput (mput σ_1 22 0 j3 ((σ_1 22 0 j2) - (1 : Int32))) 22 0 j5 (((mput σ_1 22 0 j3 ((σ_1 22 0 j2) - (1 : Int32))) 22 0 j4) + (1 : Int32)))) (fun s1 => (some s1)))))))))))))))
set_option maxRecDepth 100000 in
set_option maxHeartbeats 4000000 in
theorem F_X8_goes {X : Cx} {p1 : Int32} {σ : Mem} {res : Mem}  (h : f_X8_goes p1 σ = some res) : Tri X 1 mX8_goes [rf X 8 0, .int p1] σ none res := by
  unfold f_X8_goes at h
  refine Tri.of (ls := [some (rf X 8 0), some (.int p1), none, none]) (by decide) (Nat.le_of_ble_eq_true rfl) rfl ?_
  refine i_bipush (v := 57) dX8_goes_0 (by decide) ?_
  refine i_iconst (v := 3) dX8_goes_2 (by decide) ?_
  refine i_aload_n dX8_goes_3 rfl ?_
  refine gf_X8_7 rfl (by omega) dX8_goes_4 ?_
  refine i_iconst (v := 3) dX8_goes_7 (by decide) ?_
  refine al_22 dX8_goes_8 (by omega) h (fun j1 lj1 h => ?_)
  refine i_iconst (v := 1) dX8_goes_9 (by decide) ?_
  refine i_isub dX8_goes_10 ?_
  refine i_imul dX8_goes_11 ?_
  refine i_iadd dX8_goes_12 ?_
  refine i_istore_n (ls' := [some (rf X 8 0), some (.int p1), some (.int ((57 : Int32) + ((3 : Int32) * ((σ 22 0 j1) - (1 : Int32))))), none]) dX8_goes_13 (by decide) (okp_at rfl) rfl ?_
  refine i_bipush (v := 57) dX8_goes_14 (by decide) ?_
  refine i_iconst (v := 3) dX8_goes_16 (by decide) ?_
  refine i_iload_n dX8_goes_17 rfl ?_
  refine i_imul dX8_goes_18 ?_
  refine i_iadd dX8_goes_19 ?_
  refine i_istore_n (ls' := [some (rf X 8 0), some (.int p1), some (.int ((57 : Int32) + ((3 : Int32) * ((σ 22 0 j1) - (1 : Int32))))), some (.int ((57 : Int32) + ((3 : Int32) * p1)))]) dX8_goes_20 (by decide) (okp_at rfl) rfl ?_
  refine At.fewer (ls' := [some (rf X 8 0), none, some (.int ((57 : Int32) + ((3 : Int32) * ((σ 22 0 j1) - (1 : Int32))))), some (.int ((57 : Int32) + ((3 : Int32) * p1)))]) (And.intro rfl (And.intro rfl (And.intro rfl trivial))) ?_
  refine L_X8_goes_21  FU _ _ h (fun σ_1 h => ?_)
  refine i_aload_n dX8_goes_46 rfl ?_
  refine gf_X8_7 rfl (by omega) dX8_goes_47 ?_
  refine i_iconst (v := 3) dX8_goes_50 (by decide) ?_
  refine i_dup2 dX8_goes_51 rfl rfl ?_
  refine al_22 dX8_goes_52 (by omega) h (fun j2 lj2 h => ?_)
  refine i_iconst (v := 1) dX8_goes_53 (by decide) ?_
  refine i_isub dX8_goes_54 ?_
  refine as_22 dX8_goes_55 (by omega) h (fun j3 lj3 h => ?_)
  refine i_aload_n dX8_goes_56 rfl ?_
  refine gf_X8_7 rfl (by omega) dX8_goes_57 ?_
  refine i_iconst (v := 5) dX8_goes_60 (by decide) ?_
  refine i_dup2 dX8_goes_61 rfl rfl ?_
  refine al_22 dX8_goes_62 (by omega) h (fun j4 lj4 h => ?_)
  refine i_iconst (v := 1) dX8_goes_63 (by decide) ?_
  refine i_iadd dX8_goes_64 ?_
  refine as_22 dX8_goes_65 (by omega) h (fun j5 lj5 h => ?_)
  refine r_mem h (fun s1 _ h => ?_)
  exact e_vw rfl dX8_goes_66 h
def f_X8_strikes_16 (p1 : Int32) : Nat → Int32 → Mem → (Mem → Option Mem) → Option Mem
  | 0, _, _, _ => none
  | n + 1, v2, σ, k =>
    (if v2 < 0 then (k σ) else (bnd (f_X8_vowIs v2 (0 : Int32) σ) (fun a1 => (if a1 = p1 then (bnd (f_X8_goes v2 σ) (fun a2 => (f_X8_strikes_16 p1 n (v2 + (-1 : Int32)) a2 k))) else (f_X8_strikes_16 p1 n (v2 + (-1 : Int32)) σ k)))))
set_option maxRecDepth 100000 in
set_option maxHeartbeats 4000000 in
theorem L_X8_strikes_16 {X : Cx} {p1 : Int32} {σ2 : Mem} {k : Mem → Option Mem}  : ∀ (n : Nat) (v2 : Int32) (σ : Mem), f_X8_strikes_16 p1 n v2 σ k = some σ2 → (∀ (σ1 : Mem), k σ1 = some σ2 → At X 2 mX8_strikes 41 [none, none, none] [] σ1 none σ2) → At X 2 mX8_strikes 16 [some (rf X 8 0), some (.int p1), some (.int v2)] [] σ none σ2 := by
  intro n
  induction n with
  | zero =>
    intro v2 σ h
    cases h
  | succ n ih =>
    intro v2 σ h hk
    rw [f_X8_strikes_16.eq_2] at h
    refine i_iload_n dX8_strikes_16 rfl ?_
    refine r_if_lt (tgt := 41) dX8_strikes_17 (by decide) h (fun c1 h => ?_) (fun c1 h => ?_)
    · refine At.fewer (ls' := [none, none, none]) trivial ?_
      exact hk _ h
    · refine i_aload_n dX8_strikes_20 rfl ?_
      refine i_iload_n dX8_strikes_21 rfl ?_
      refine i_iconst (v := 0) dX8_strikes_22 (by decide) ?_
      refine cV_ir dX8_strikes_23 cw_X8_91 ci_X8_vowIs rfl rfl (by decide) (show 0 < 1 by omega) h (fun a1 e => F_X8_vowIs  e) (Nat.le_of_ble_eq_true rfl) rfl rfl (Nat.le_of_ble_eq_true rfl) (fun a1 ea1 h => ?_)
      refine i_iload_n dX8_strikes_26 rfl ?_
      refine r_icmp_ne (tgt := 35) dX8_strikes_27 (by decide) h (fun c2 h => ?_) (fun c2 h => ?_)
      · refine i_iinc (v := (v2 + (-1 : Int32))) (ls' := [some (rf X 8 0), some (.int p1), some (.int (v2 + (-1 : Int32)))]) dX8_strikes_35 rfl (by rfl) (by decide) (okp_at rfl) rfl ?_
        refine i_goto (tgt := 16) dX8_strikes_38 (by decide) ?_
        exact ih _ _ h hk
      · refine i_aload_n dX8_strikes_30 rfl ?_
        refine i_iload_n dX8_strikes_31 rfl ?_
        refine cV_vw dX8_strikes_32 cw_X8_139 ci_X8_goes rfl rfl (by decide) (show 0 < 1 by omega) h (fun a2 e => F_X8_goes  e) (Nat.le_of_ble_eq_true rfl) rfl rfl (Nat.le_of_ble_eq_true rfl) (fun a2 ea2 h => ?_)
        refine i_iinc (v := (v2 + (-1 : Int32))) (ls' := [some (rf X 8 0), some (.int p1), some (.int (v2 + (-1 : Int32)))]) dX8_strikes_35 rfl (by rfl) (by decide) (okp_at rfl) rfl ?_
        refine i_goto (tgt := 16) dX8_strikes_38 (by decide) ?_
        exact ih _ _ h hk
def f_X8_strikes  (p1 : Int32) (σ : Mem) : Option Mem :=
  (bnd (f_X8_sets p1 (0 : Int32) (5 : Int32) σ) (fun a1 => (bnd (ix 3108 (3 : Int32)) (fun j1 => (f_X8_strikes_16 p1 FU ((a1 22 0 j1) - (1 : Int32)) a1 (fun σ_1 => (some σ_1)))))))
set_option maxRecDepth 100000 in
set_option maxHeartbeats 4000000 in
theorem F_X8_strikes {X : Cx} {p1 : Int32} {σ : Mem} {res : Mem}  (h : f_X8_strikes p1 σ = some res) : Tri X 2 mX8_strikes [rf X 8 0, .int p1] σ none res := by
  unfold f_X8_strikes at h
  refine Tri.of (ls := [some (rf X 8 0), some (.int p1), none]) (by decide) (Nat.le_of_ble_eq_true rfl) rfl ?_
  refine i_aload_n dX8_strikes_0 rfl ?_
  refine i_iload_n dX8_strikes_1 rfl ?_
  refine i_iconst (v := 0) dX8_strikes_2 (by decide) ?_
  refine i_iconst (v := 5) dX8_strikes_3 (by decide) ?_
  refine cV_vw dX8_strikes_4 cw_X8_76 ci_X8_sets rfl rfl (by decide) (show 0 < 1 by omega) h (fun a1 e => F_X8_sets  e) (Nat.le_of_ble_eq_true rfl) rfl rfl (Nat.le_of_ble_eq_true rfl) (fun a1 ea1 h => ?_)
  refine i_aload_n dX8_strikes_7 rfl ?_
  refine gf_X8_7 rfl (by omega) dX8_strikes_8 ?_
  refine i_iconst (v := 3) dX8_strikes_11 (by decide) ?_
  refine al_22 dX8_strikes_12 (by omega) h (fun j1 lj1 h => ?_)
  refine i_iconst (v := 1) dX8_strikes_13 (by decide) ?_
  refine i_isub dX8_strikes_14 ?_
  refine i_istore_n (ls' := [some (rf X 8 0), some (.int p1), some (.int ((a1 22 0 j1) - (1 : Int32)))]) dX8_strikes_15 (by decide) (okp_at rfl) rfl ?_
  refine L_X8_strikes_16  FU _ _ h (fun σ_1 h => ?_)
  exact e_vw rfl dX8_strikes_41 h
def f_X8_vow  (p1 : Int32) (p2 : Int32) (p3 : Int32) (σ : Mem) : Option (Int32 × Mem) :=
  (bnd (f_X8_isOne p1 σ) (fun a1 => (if a1 = 0 then (some ((-1000000001 : Int32), σ)) else (bnd (f_X8_isOne p2 σ) (fun a2 => (if a2 = 0 then (some ((-1000000001 : Int32), σ)) else (if p1 = p2 then (some ((-1000000001 : Int32), σ)) else (bnd (f_X8_isIn ((p3).toInt64) ((0 : Int64)) ((2 : Int64)) σ) (fun a3 => (if a3 = 0 then (some ((-1000000001 : Int32), σ)) else (bnd (f_X8_of p1 (0 : Int32) σ) (fun a4 => (if a4 = (5 : Int32) then (some ((-1000000002 : Int32), σ)) else (bnd (f_X8_of p1 (4 : Int32) σ) (fun a5 => (bnd (ix 3108 (2 : Int32)) (fun j1 => (if a5 = (σ 22 0 j1) then (bnd (f_X8_strikes p1 σ) (fun a8 => (some ((-1000000005 : Int32), a8)))) else (bnd (ix 3108 (3 : Int32)) (fun j2 => (if (σ 22 0 j2) = (16 : Int32) then (some ((-1000000003 : Int32), σ)) else (bnd (f_X8_gives p1 p2 p3 σ) (fun a6 => (bnd (ix 3108 (2 : Int32)) (fun j3 => (bnd (f_X8_sets p1 (4 : Int32) (a6 22 0 j3) a6) (fun a7 => (bnd (ix 3108 (3 : Int32)) (fun j4 => (some (((a7 22 0 j4) - (1 : Int32)), a7)))))))))))))))))))))))))))))))
set_option maxRecDepth 100000 in
set_option maxHeartbeats 4000000 in
theorem F_X8_vow {X : Cx} {p1 : Int32} {p2 : Int32} {p3 : Int32} {σ : Mem} {res : (Int32 × Mem)}  (h : f_X8_vow p1 p2 p3 σ = some res) : Tri X 3 mX8_vow [rf X 8 0, .int p1, .int p2, .int p3] σ (some (.int res.1)) res.2 := by
  obtain ⟨r0, σ2⟩ := res
  unfold f_X8_vow at h
  refine Tri.of (ls := [some (rf X 8 0), some (.int p1), some (.int p2), some (.int p3)]) (by decide) (Nat.le_of_ble_eq_true rfl) rfl ?_
  refine i_aload_n dX8_vow_0 rfl ?_
  refine i_iload_n dX8_vow_1 rfl ?_
  refine cV_ir dX8_vow_2 cw_X8_112 ci_X8_isOne rfl rfl (by decide) (show 0 < 1 by omega) h (fun a1 e => F_X8_isOne  e) (Nat.le_of_ble_eq_true rfl) rfl rfl (Nat.le_of_ble_eq_true rfl) (fun a1 ea1 h => ?_)
  refine r_if_eq (tgt := 33) dX8_vow_5 (by decide) h (fun c1 h => ?_) (fun c1 h => ?_)
  · refine i_ldc (v := (-1000000001)) dX8_vow_33 k_X8_86 ?_
    exact e_iw rfl dX8_vow_35 h
  · refine i_aload_n dX8_vow_8 rfl ?_
    refine i_iload_n dX8_vow_9 rfl ?_
    refine cV_ir dX8_vow_10 cw_X8_112 ci_X8_isOne rfl rfl (by decide) (show 0 < 1 by omega) h (fun a2 e => F_X8_isOne  e) (Nat.le_of_ble_eq_true rfl) rfl rfl (Nat.le_of_ble_eq_true rfl) (fun a2 ea2 h => ?_)
    refine r_if_eq (tgt := 33) dX8_vow_13 (by decide) h (fun c2 h => ?_) (fun c2 h => ?_)
    · refine i_ldc (v := (-1000000001)) dX8_vow_33 k_X8_86 ?_
      exact e_iw rfl dX8_vow_35 h
    · refine i_iload_n dX8_vow_16 rfl ?_
      refine i_iload_n dX8_vow_17 rfl ?_
      refine r_icmp_eq (tgt := 33) dX8_vow_18 (by decide) h (fun c3 h => ?_) (fun c3 h => ?_)
      · refine i_ldc (v := (-1000000001)) dX8_vow_33 k_X8_86 ?_
        exact e_iw rfl dX8_vow_35 h
      · refine i_iload_n dX8_vow_21 rfl ?_
        refine i_i2l dX8_vow_22 ?_
        refine i_lconst (v := 0) dX8_vow_23 (by decide) ?_
        refine i_ldc2 (v := 2) dX8_vow_24 k_X8_143 ?_
        refine cS_ir dX8_vow_27 cw_X8_71 ci_X8_isIn h (fun a3 e => F_X8_isIn  e) (Nat.le_of_ble_eq_true rfl) rfl rfl (Nat.le_of_ble_eq_true rfl) (fun a3 ea3 h => ?_)
        refine r_if_ne (tgt := 36) dX8_vow_30 (by decide) h (fun c4 h => ?_) (fun c4 h => ?_)
        · refine i_aload_n dX8_vow_36 rfl ?_
          refine i_iload_n dX8_vow_37 rfl ?_
          refine i_iconst (v := 0) dX8_vow_38 (by decide) ?_
          refine cV_ir dX8_vow_39 cw_X8_98 ci_X8_of rfl rfl (by decide) (show 0 < 1 by omega) h (fun a4 e => F_X8_of  e) (Nat.le_of_ble_eq_true rfl) rfl rfl (Nat.le_of_ble_eq_true rfl) (fun a4 ea4 h => ?_)
          refine i_iconst (v := 5) dX8_vow_42 (by decide) ?_
          refine r_icmp_ne (tgt := 49) dX8_vow_43 (by decide) h (fun c5 h => ?_) (fun c5 h => ?_)
          · refine i_aload_n dX8_vow_49 rfl ?_
            refine i_iload_n dX8_vow_50 rfl ?_
            refine i_iconst (v := 4) dX8_vow_51 (by decide) ?_
            refine cV_ir dX8_vow_52 cw_X8_98 ci_X8_of rfl rfl (by decide) (show 0 < 1 by omega) h (fun a5 e => F_X8_of  e) (Nat.le_of_ble_eq_true rfl) rfl rfl (Nat.le_of_ble_eq_true rfl) (fun a5 ea5 h => ?_)
            refine i_aload_n dX8_vow_55 rfl ?_
            refine gf_X8_7 rfl (by omega) dX8_vow_56 ?_
            refine i_iconst (v := 2) dX8_vow_59 (by decide) ?_
            refine al_22 dX8_vow_60 (by omega) h (fun j1 lj1 h => ?_)
            refine r_icmp_ne (tgt := 72) dX8_vow_61 (by decide) h (fun c6 h => ?_) (fun c6 h => ?_)
            · refine i_aload_n dX8_vow_72 rfl ?_
              refine gf_X8_7 rfl (by omega) dX8_vow_73 ?_
              refine i_iconst (v := 3) dX8_vow_76 (by decide) ?_
              refine al_22 dX8_vow_77 (by omega) h (fun j2 lj2 h => ?_)
              refine i_bipush (v := 16) dX8_vow_78 (by decide) ?_
              refine r_icmp_ne (tgt := 86) dX8_vow_80 (by decide) h (fun c7 h => ?_) (fun c7 h => ?_)
              · refine i_aload_n dX8_vow_86 rfl ?_
                refine i_iload_n dX8_vow_87 rfl ?_
                refine i_iload_n dX8_vow_88 rfl ?_
                refine i_iload_n dX8_vow_89 rfl ?_
                refine cV_vw dX8_vow_90 cw_X8_149 ci_X8_gives rfl rfl (by decide) (show 0 < 1 by omega) h (fun a6 e => F_X8_gives  e) (Nat.le_of_ble_eq_true rfl) rfl rfl (Nat.le_of_ble_eq_true rfl) (fun a6 ea6 h => ?_)
                refine i_aload_n dX8_vow_93 rfl ?_
                refine i_iload_n dX8_vow_94 rfl ?_
                refine i_iconst (v := 4) dX8_vow_95 (by decide) ?_
                refine i_aload_n dX8_vow_96 rfl ?_
                refine gf_X8_7 rfl (by omega) dX8_vow_97 ?_
                refine i_iconst (v := 2) dX8_vow_100 (by decide) ?_
                refine al_22 dX8_vow_101 (by omega) h (fun j3 lj3 h => ?_)
                refine cV_vw dX8_vow_102 cw_X8_76 ci_X8_sets rfl rfl (by decide) (show 0 < 1 by omega) h (fun a7 e => F_X8_sets  e) (Nat.le_of_ble_eq_true rfl) rfl rfl (Nat.le_of_ble_eq_true rfl) (fun a7 ea7 h => ?_)
                refine i_aload_n dX8_vow_105 rfl ?_
                refine gf_X8_7 rfl (by omega) dX8_vow_106 ?_
                refine i_iconst (v := 3) dX8_vow_109 (by decide) ?_
                refine al_22 dX8_vow_110 (by omega) h (fun j4 lj4 h => ?_)
                refine i_iconst (v := 1) dX8_vow_111 (by decide) ?_
                refine i_isub dX8_vow_112 ?_
                exact e_iw rfl dX8_vow_113 h
              · refine i_ldc (v := (-1000000003)) dX8_vow_83 k_X8_87 ?_
                exact e_iw rfl dX8_vow_85 h
            · refine i_aload_n dX8_vow_64 rfl ?_
              refine i_iload_n dX8_vow_65 rfl ?_
              refine cV_vw dX8_vow_66 cw_X8_146 ci_X8_strikes rfl rfl (by decide) (show 0 < 1 by omega) h (fun a8 e => F_X8_strikes  e) (Nat.le_of_ble_eq_true rfl) rfl rfl (Nat.le_of_ble_eq_true rfl) (fun a8 ea8 h => ?_)
              refine i_ldc (v := (-1000000005)) dX8_vow_69 k_X8_70 ?_
              exact e_iw rfl dX8_vow_71 h
          · refine i_ldc (v := (-1000000002)) dX8_vow_46 k_X8_145 ?_
            exact e_iw rfl dX8_vow_48 h
        · refine i_ldc (v := (-1000000001)) dX8_vow_33 k_X8_86 ?_
          exact e_iw rfl dX8_vow_35 h
def f_X8_vowOf  (p1 : Int32) (p2 : Int32) (σ : Mem) : Option (Int32 × Mem) :=
  (bnd (f_X8_isVow p1 σ) (fun a1 => (if a1 = 0 then (some ((-1000000001 : Int32), σ)) else (bnd (f_X8_isIn ((p2).toInt64) ((0 : Int64)) ((3 : Int64)) σ) (fun a2 => (if a2 = 0 then (some ((-1000000001 : Int32), σ)) else (if p2 = (3 : Int32) then (bnd (f_X8_keeps p1 σ) (fun a4 => (some (a4.1, a4.2)))) else (bnd (f_X8_vowIs p1 p2 σ) (fun a3 => (some (a3, σ)))))))))))
set_option maxRecDepth 100000 in
set_option maxHeartbeats 4000000 in
theorem F_X8_vowOf {X : Cx} {p1 : Int32} {p2 : Int32} {σ : Mem} {res : (Int32 × Mem)}  (h : f_X8_vowOf p1 p2 σ = some res) : Tri X 4 mX8_vowOf [rf X 8 0, .int p1, .int p2] σ (some (.int res.1)) res.2 := by
  obtain ⟨r0, σ2⟩ := res
  unfold f_X8_vowOf at h
  refine Tri.of (ls := [some (rf X 8 0), some (.int p1), some (.int p2)]) (by decide) (Nat.le_of_ble_eq_true rfl) rfl ?_
  refine i_aload_n dX8_vowOf_0 rfl ?_
  refine i_iload_n dX8_vowOf_1 rfl ?_
  refine cV_ir dX8_vowOf_2 cw_X8_152 ci_X8_isVow rfl rfl (by decide) (show 0 < 1 by omega) h (fun a1 e => F_X8_isVow  e) (Nat.le_of_ble_eq_true rfl) rfl rfl (Nat.le_of_ble_eq_true rfl) (fun a1 ea1 h => ?_)
  refine r_if_eq (tgt := 20) dX8_vowOf_5 (by decide) h (fun c1 h => ?_) (fun c1 h => ?_)
  · refine i_ldc (v := (-1000000001)) dX8_vowOf_20 k_X8_86 ?_
    exact e_iw rfl dX8_vowOf_22 h
  · refine i_iload_n dX8_vowOf_8 rfl ?_
    refine i_i2l dX8_vowOf_9 ?_
    refine i_lconst (v := 0) dX8_vowOf_10 (by decide) ?_
    refine i_ldc2 (v := 3) dX8_vowOf_11 k_X8_133 ?_
    refine cS_ir dX8_vowOf_14 cw_X8_71 ci_X8_isIn h (fun a2 e => F_X8_isIn  e) (Nat.le_of_ble_eq_true rfl) rfl rfl (Nat.le_of_ble_eq_true rfl) (fun a2 ea2 h => ?_)
    refine r_if_ne (tgt := 23) dX8_vowOf_17 (by decide) h (fun c2 h => ?_) (fun c2 h => ?_)
    · refine i_iload_n dX8_vowOf_23 rfl ?_
      refine i_iconst (v := 3) dX8_vowOf_24 (by decide) ?_
      refine r_icmp_ne (tgt := 36) dX8_vowOf_25 (by decide) h (fun c3 h => ?_) (fun c3 h => ?_)
      · refine i_aload_n dX8_vowOf_36 rfl ?_
        refine i_iload_n dX8_vowOf_37 rfl ?_
        refine i_iload_n dX8_vowOf_38 rfl ?_
        refine cV_ir dX8_vowOf_39 cw_X8_91 ci_X8_vowIs rfl rfl (by decide) (show 0 < 1 by omega) h (fun a3 e => F_X8_vowIs  e) (Nat.le_of_ble_eq_true rfl) rfl rfl (Nat.le_of_ble_eq_true rfl) (fun a3 ea3 h => ?_)
        exact e_iw rfl dX8_vowOf_42 h
      · refine i_aload_n dX8_vowOf_28 rfl ?_
        refine i_iload_n dX8_vowOf_29 rfl ?_
        refine cV_iw dX8_vowOf_30 cw_X8_155 ci_X8_keeps rfl rfl (by decide) (show 0 < 1 by omega) h (fun a4 e => F_X8_keeps  e) (Nat.le_of_ble_eq_true rfl) rfl rfl (Nat.le_of_ble_eq_true rfl) (fun a4 ea4 h => ?_)
        refine i_goto (tgt := 42) dX8_vowOf_33 (by decide) ?_
        exact e_iw rfl dX8_vowOf_42 h
    · refine i_ldc (v := (-1000000001)) dX8_vowOf_20 k_X8_86 ?_
      exact e_iw rfl dX8_vowOf_22 h
def f_X8_breaks  (p1 : Int32) (σ : Mem) : Option (Int32 × Mem) :=
  (bnd (f_X8_isVow p1 σ) (fun a1 => (if a1 = 0 then (some ((-1000000001 : Int32), σ)) else (bnd (f_X8_goes p1 σ) (fun a2 => (bnd (ix 3108 (3 : Int32)) (fun j1 => (some ((a2 22 0 j1), a2)))))))))
set_option maxRecDepth 100000 in
set_option maxHeartbeats 4000000 in
theorem F_X8_breaks {X : Cx} {p1 : Int32} {σ : Mem} {res : (Int32 × Mem)}  (h : f_X8_breaks p1 σ = some res) : Tri X 3 mX8_breaks [rf X 8 0, .int p1] σ (some (.int res.1)) res.2 := by
  obtain ⟨r0, σ2⟩ := res
  unfold f_X8_breaks at h
  refine Tri.of (ls := [some (rf X 8 0), some (.int p1)]) (by decide) (Nat.le_of_ble_eq_true rfl) rfl ?_
  refine i_aload_n dX8_breaks_0 rfl ?_
  refine i_iload_n dX8_breaks_1 rfl ?_
  refine cV_ir dX8_breaks_2 cw_X8_152 ci_X8_isVow rfl rfl (by decide) (show 0 < 1 by omega) h (fun a1 e => F_X8_isVow  e) (Nat.le_of_ble_eq_true rfl) rfl rfl (Nat.le_of_ble_eq_true rfl) (fun a1 ea1 h => ?_)
  refine r_if_ne (tgt := 11) dX8_breaks_5 (by decide) h (fun c1 h => ?_) (fun c1 h => ?_)
  · refine i_aload_n dX8_breaks_11 rfl ?_
    refine i_iload_n dX8_breaks_12 rfl ?_
    refine cV_vw dX8_breaks_13 cw_X8_139 ci_X8_goes rfl rfl (by decide) (show 0 < 1 by omega) h (fun a2 e => F_X8_goes  e) (Nat.le_of_ble_eq_true rfl) rfl rfl (Nat.le_of_ble_eq_true rfl) (fun a2 ea2 h => ?_)
    refine i_aload_n dX8_breaks_16 rfl ?_
    refine gf_X8_7 rfl (by omega) dX8_breaks_17 ?_
    refine i_iconst (v := 3) dX8_breaks_20 (by decide) ?_
    refine al_22 dX8_breaks_21 (by omega) h (fun j1 lj1 h => ?_)
    exact e_iw rfl dX8_breaks_22 h
  · refine i_ldc (v := (-1000000001)) dX8_breaks_8 k_X8_86 ?_
    exact e_iw rfl dX8_breaks_10 h
def f_X8_eclipse   (σ : Mem) : Option (Int32 × Mem) :=
  (bnd (ix 3108 (3 : Int32)) (fun j1 => (bnd (ix 3108 (3 : Int32)) (fun j2 => (bnd (ix 3108 (5 : Int32)) (fun j3 => (bnd (ix 3108 (5 : Int32)) (fun j4 => (bnd (some (mput (mput σ 22 0 j2 (0 : Int32)) 22 0 j4 (((mput σ 22 0 j2 (0 : Int32)) 22 0 j3) + (σ 22 0 j1)))) (fun s1 => (some ((σ 22 0 j1), s1))))))))))))
set_option maxRecDepth 100000 in
set_option maxHeartbeats 4000000 in
theorem F_X8_eclipse {X : Cx}  {σ : Mem} {res : (Int32 × Mem)}  (h : f_X8_eclipse σ = some res) : Tri X 1 mX8_eclipse [rf X 8 0] σ (some (.int res.1)) res.2 := by
  obtain ⟨r0, σ2⟩ := res
  unfold f_X8_eclipse at h
  refine Tri.of (ls := [some (rf X 8 0), none]) (by decide) (Nat.le_of_ble_eq_true rfl) rfl ?_
  refine i_aload_n dX8_eclipse_0 rfl ?_
  refine gf_X8_7 rfl (by omega) dX8_eclipse_1 ?_
  refine i_iconst (v := 3) dX8_eclipse_4 (by decide) ?_
  refine al_22 dX8_eclipse_5 (by omega) h (fun j1 lj1 h => ?_)
  refine i_istore_n (ls' := [some (rf X 8 0), some (.int (σ 22 0 j1))]) dX8_eclipse_6 (by decide) (okp_at rfl) rfl ?_
  refine i_aload_n dX8_eclipse_7 rfl ?_
  refine gf_X8_7 rfl (by omega) dX8_eclipse_8 ?_
  refine i_iconst (v := 3) dX8_eclipse_11 (by decide) ?_
  refine i_iconst (v := 0) dX8_eclipse_12 (by decide) ?_
  refine as_22 dX8_eclipse_13 (by omega) h (fun j2 lj2 h => ?_)
  refine i_aload_n dX8_eclipse_14 rfl ?_
  refine gf_X8_7 rfl (by omega) dX8_eclipse_15 ?_
  refine i_iconst (v := 5) dX8_eclipse_18 (by decide) ?_
  refine i_dup2 dX8_eclipse_19 rfl rfl ?_
  refine al_22 dX8_eclipse_20 (by omega) h (fun j3 lj3 h => ?_)
  refine i_iload_n dX8_eclipse_21 rfl ?_
  refine i_iadd dX8_eclipse_22 ?_
  refine as_22 dX8_eclipse_23 (by omega) h (fun j4 lj4 h => ?_)
  refine r_mem h (fun s1 _ h => ?_)
  refine i_iload_n dX8_eclipse_24 rfl ?_
  exact e_iw rfl dX8_eclipse_25 h
def f_X8_deal_17 (p1 : Int32) : Nat → Int32 → Mem → (Int32 → Mem → Option (Int32 × Mem)) → Option (Int32 × Mem)
  | 0, _, _, _ => none
  | n + 1, v2, σ, k =>
    (if p1 ≤ v2 then (k v2 σ) else (bnd (ix 3108 (0 : Int32)) (fun j1 => (if (10 : Int32) ≤ (σ 22 0 j1) then (k v2 σ) else (bnd (f_X8_drawn σ) (fun a1 => (bnd (f_X8_drawn a1.2) (fun a2 => (bnd (f_X8_drawn a2.2) (fun a3 => (bnd (f_X8_comes (a1.1 - a1.1 / (6 : Int32) * (6 : Int32)) (a2.1 - a2.1 / (24 : Int32) * (24 : Int32)) (a3.1 - a3.1 / (100 : Int32) * (100 : Int32)) a3.2) (fun a4 => (f_X8_deal_17 p1 n (v2 + (1 : Int32)) a4 k)))))))))))))
set_option maxRecDepth 100000 in
set_option maxHeartbeats 4000000 in
theorem L_X8_deal_17 {X : Cx} {p1 : Int32} {r0 : Int32} {σ2 : Mem} {k : Int32 → Mem → Option (Int32 × Mem)}  : ∀ (n : Nat) (v2 : Int32) (σ : Mem), f_X8_deal_17 p1 n v2 σ k = some (r0, σ2) → (∀ (x2 : Int32) (σ1 : Mem), k x2 σ1 = some (r0, σ2) → At X 3 mX8_deal 70 [none, none, some (.int x2), none, none] [] σ1 (some (.int r0)) σ2) → At X 3 mX8_deal 17 [some (rf X 8 0), some (.int p1), some (.int v2), none, none] [] σ (some (.int r0)) σ2 := by
  intro n
  induction n with
  | zero =>
    intro v2 σ h
    cases h
  | succ n ih =>
    intro v2 σ h hk
    rw [f_X8_deal_17.eq_2] at h
    refine i_iload_n dX8_deal_17 rfl ?_
    refine i_iload_n dX8_deal_18 rfl ?_
    refine r_icmp_ge (tgt := 70) dX8_deal_19 (by decide) h (fun c1 h => ?_) (fun c1 h => ?_)
    · refine At.fewer (ls' := [none, none, some (.int v2), none, none]) (And.intro rfl trivial) ?_
      exact hk _ _ h
    · refine i_aload_n dX8_deal_22 rfl ?_
      refine gf_X8_7 rfl (by omega) dX8_deal_23 ?_
      refine i_iconst (v := 0) dX8_deal_26 (by decide) ?_
      refine al_22 dX8_deal_27 (by omega) h (fun j1 lj1 h => ?_)
      refine i_bipush (v := 10) dX8_deal_28 (by decide) ?_
      refine r_icmp_ge (tgt := 70) dX8_deal_30 (by decide) h (fun c2 h => ?_) (fun c2 h => ?_)
      · refine At.fewer (ls' := [none, none, some (.int v2), none, none]) (And.intro rfl trivial) ?_
        exact hk _ _ h
      · refine i_aload_n dX8_deal_33 rfl ?_
        refine cV_iw dX8_deal_34 cw_X8_160 ci_X8_drawn rfl rfl (by decide) (show 0 < 1 by omega) h (fun a1 e => F_X8_drawn  e) (Nat.le_of_ble_eq_true rfl) rfl rfl (Nat.le_of_ble_eq_true rfl) (fun a1 ea1 h => ?_)
        refine i_bipush (v := 6) dX8_deal_37 (by decide) ?_
        refine i_irem dX8_deal_39 (by decide) ?_
        refine i_istore_n (ls' := [some (rf X 8 0), some (.int p1), some (.int v2), some (.int (a1.1 - a1.1 / (6 : Int32) * (6 : Int32))), none]) dX8_deal_40 (by decide) (okp_at rfl) rfl ?_
        refine i_aload_n dX8_deal_41 rfl ?_
        refine cV_iw dX8_deal_42 cw_X8_160 ci_X8_drawn rfl rfl (by decide) (show 0 < 1 by omega) h (fun a2 e => F_X8_drawn  e) (Nat.le_of_ble_eq_true rfl) rfl rfl (Nat.le_of_ble_eq_true rfl) (fun a2 ea2 h => ?_)
        refine i_bipush (v := 24) dX8_deal_45 (by decide) ?_
        refine i_irem dX8_deal_47 (by decide) ?_
        refine i_istore (ls' := [some (rf X 8 0), some (.int p1), some (.int v2), some (.int (a1.1 - a1.1 / (6 : Int32) * (6 : Int32))), some (.int (a2.1 - a2.1 / (24 : Int32) * (24 : Int32)))]) dX8_deal_48 (by decide) (okp_at rfl) rfl ?_
        refine i_aload_n dX8_deal_50 rfl ?_
        refine i_iload_n dX8_deal_51 rfl ?_
        refine i_iload dX8_deal_52 rfl ?_
        refine i_aload_n dX8_deal_54 rfl ?_
        refine cV_iw dX8_deal_55 cw_X8_160 ci_X8_drawn rfl rfl (by decide) (show 0 < 1 by omega) h (fun a3 e => F_X8_drawn  e) (Nat.le_of_ble_eq_true rfl) rfl rfl (Nat.le_of_ble_eq_true rfl) (fun a3 ea3 h => ?_)
        refine i_bipush (v := 100) dX8_deal_58 (by decide) ?_
        refine i_irem dX8_deal_60 (by decide) ?_
        refine cV_vw dX8_deal_61 cw_X8_88 ci_X8_comes rfl rfl (by decide) (show 0 < 1 by omega) h (fun a4 e => F_X8_comes  e) (Nat.le_of_ble_eq_true rfl) rfl rfl (Nat.le_of_ble_eq_true rfl) (fun a4 ea4 h => ?_)
        refine i_iinc (v := (v2 + (1 : Int32))) (ls' := [some (rf X 8 0), some (.int p1), some (.int (v2 + (1 : Int32))), some (.int (a1.1 - a1.1 / (6 : Int32) * (6 : Int32))), some (.int (a2.1 - a2.1 / (24 : Int32) * (24 : Int32)))]) dX8_deal_64 rfl (by rfl) (by decide) (okp_at rfl) rfl ?_
        refine i_goto (tgt := 17) dX8_deal_67 (by decide) ?_
        refine At.fewer (ls' := [some (rf X 8 0), some (.int p1), some (.int (v2 + (1 : Int32))), none, none]) (And.intro rfl (And.intro rfl (And.intro rfl trivial))) ?_
        exact ih _ _ h hk
def f_X8_deal  (p1 : Int32) (σ : Mem) : Option (Int32 × Mem) :=
  (bnd (f_X8_isIn ((p1).toInt64) ((1 : Int64)) ((10 : Int64)) σ) (fun a1 => (if a1 = 0 then (some ((-1000000001 : Int32), σ)) else (f_X8_deal_17 p1 FU (0 : Int32) σ (fun e1 σ_1 => (some (e1, σ_1)))))))
set_option maxRecDepth 100000 in
set_option maxHeartbeats 4000000 in
theorem F_X8_deal {X : Cx} {p1 : Int32} {σ : Mem} {res : (Int32 × Mem)}  (h : f_X8_deal p1 σ = some res) : Tri X 3 mX8_deal [rf X 8 0, .int p1] σ (some (.int res.1)) res.2 := by
  obtain ⟨r0, σ2⟩ := res
  unfold f_X8_deal at h
  refine Tri.of (ls := [some (rf X 8 0), some (.int p1), none, none, none]) (by decide) (Nat.le_of_ble_eq_true rfl) rfl ?_
  refine i_iload_n dX8_deal_0 rfl ?_
  refine i_i2l dX8_deal_1 ?_
  refine i_lconst (v := 1) dX8_deal_2 (by decide) ?_
  refine i_ldc2 (v := 10) dX8_deal_3 k_X8_158 ?_
  refine cS_ir dX8_deal_6 cw_X8_71 ci_X8_isIn h (fun a1 e => F_X8_isIn  e) (Nat.le_of_ble_eq_true rfl) rfl rfl (Nat.le_of_ble_eq_true rfl) (fun a1 ea1 h => ?_)
  refine r_if_ne (tgt := 15) dX8_deal_9 (by decide) h (fun c1 h => ?_) (fun c1 h => ?_)
  · refine i_iconst (v := 0) dX8_deal_15 (by decide) ?_
    refine i_istore_n (ls' := [some (rf X 8 0), some (.int p1), some (.int (0 : Int32)), none, none]) dX8_deal_16 (by decide) (okp_at rfl) rfl ?_
    refine L_X8_deal_17  FU _ _ h (fun e1 σ_1 h => ?_)
    refine i_iload_n dX8_deal_70 rfl ?_
    exact e_iw rfl dX8_deal_71 h
  · refine i_ldc (v := (-1000000001)) dX8_deal_12 k_X8_86 ?_
    exact e_iw rfl dX8_deal_14 h
def f_X8_seed  (p1 : Int32) (σ : Mem) : Option (Int32 × Mem) :=
  (bnd (f_X8_becomes (6 : Int32) p1 σ) (fun a1 => (some (a1.1, a1.2))))
set_option maxRecDepth 100000 in
set_option maxHeartbeats 4000000 in
theorem F_X8_seed {X : Cx} {p1 : Int32} {σ : Mem} {res : (Int32 × Mem)}  (h : f_X8_seed p1 σ = some res) : Tri X 2 mX8_seed [rf X 8 0, .int p1] σ (some (.int res.1)) res.2 := by
  obtain ⟨r0, σ2⟩ := res
  unfold f_X8_seed at h
  refine Tri.of (ls := [some (rf X 8 0), some (.int p1)]) (by decide) (Nat.le_of_ble_eq_true rfl) rfl ?_
  refine i_aload_n dX8_seed_0 rfl ?_
  refine i_bipush (v := 6) dX8_seed_1 (by decide) ?_
  refine i_iload_n dX8_seed_3 rfl ?_
  refine cV_iw dX8_seed_4 cw_X8_130 ci_X8_becomes rfl rfl (by decide) (show 0 < 1 by omega) h (fun a1 e => F_X8_becomes  e) (Nat.le_of_ble_eq_true rfl) rfl rfl (Nat.le_of_ble_eq_true rfl) (fun a1 ea1 h => ?_)
  exact e_iw rfl dX8_seed_7 h
def f_X8_earns  (p1 : Int32) (p2 : Int32) (σ : Mem) : Option Mem :=
  (bnd (f_X8_of p1 (3 : Int32) σ) (fun a1 => (bnd (f_X8_within (a1 + p2) (-9999 : Int32) (9999 : Int32) σ) (fun a2 => (bnd (f_X8_sets p1 (3 : Int32) a2 σ) (fun a3 => (some a3)))))))
set_option maxRecDepth 100000 in
set_option maxHeartbeats 4000000 in
theorem F_X8_earns {X : Cx} {p1 : Int32} {p2 : Int32} {σ : Mem} {res : Mem}  (h : f_X8_earns p1 p2 σ = some res) : Tri X 2 mX8_earns [rf X 8 0, .int p1, .int p2] σ none res := by
  unfold f_X8_earns at h
  refine Tri.of (ls := [some (rf X 8 0), some (.int p1), some (.int p2)]) (by decide) (Nat.le_of_ble_eq_true rfl) rfl ?_
  refine i_aload_n dX8_earns_0 rfl ?_
  refine i_iload_n dX8_earns_1 rfl ?_
  refine i_iconst (v := 3) dX8_earns_2 (by decide) ?_
  refine i_aload_n dX8_earns_3 rfl ?_
  refine i_iload_n dX8_earns_4 rfl ?_
  refine i_iconst (v := 3) dX8_earns_5 (by decide) ?_
  refine cV_ir dX8_earns_6 cw_X8_98 ci_X8_of rfl rfl (by decide) (show 0 < 1 by omega) h (fun a1 e => F_X8_of  e) (Nat.le_of_ble_eq_true rfl) rfl rfl (Nat.le_of_ble_eq_true rfl) (fun a1 ea1 h => ?_)
  refine i_iload_n dX8_earns_9 rfl ?_
  refine i_iadd dX8_earns_10 ?_
  refine i_sipush (v := (-9999)) dX8_earns_11 (by decide) ?_
  refine i_sipush (v := 9999) dX8_earns_14 (by decide) ?_
  refine cS_ir dX8_earns_17 cw_X8_108 ci_X8_within h (fun a2 e => F_X8_within  e) (Nat.le_of_ble_eq_true rfl) rfl rfl (Nat.le_of_ble_eq_true rfl) (fun a2 ea2 h => ?_)
  refine cV_vw dX8_earns_20 cw_X8_76 ci_X8_sets rfl rfl (by decide) (show 0 < 1 by omega) h (fun a3 e => F_X8_sets  e) (Nat.le_of_ble_eq_true rfl) rfl rfl (Nat.le_of_ble_eq_true rfl) (fun a3 ea3 h => ?_)
  exact e_vw rfl dX8_earns_23 h
def f_X8_goesOn_12  : Nat → Int32 → Mem → (Mem → Option Mem) → Option Mem
  | 0, _, _, _ => none
  | n + 1, v1, σ, k =>
    (bnd (ix 3108 (3 : Int32)) (fun j1 => (if (σ 22 0 j1) ≤ v1 then (k σ) else (bnd (f_X8_vowIs v1 (0 : Int32) σ) (fun a1 => (bnd (f_X8_noon a1 σ) (fun a2 => (bnd (ix 3108 (2 : Int32)) (fun j2 => (if a2 = ((σ 22 0 j2) - (σ 22 0 j2) / (24 : Int32) * (24 : Int32)) then (bnd (f_X8_drawn σ) (fun a3 => (bnd (f_X8_keeps v1 a3.2) (fun a4 => (if (a3.1 - a3.1 / (100 : Int32) * (100 : Int32)) < a4.1 then (bnd (ix 3108 (4 : Int32)) (fun j5 => (bnd (ix 3108 (4 : Int32)) (fun j6 => (f_X8_goesOn_12 n (v1 + (1 : Int32)) (mput a4.2 22 0 j6 ((a4.2 22 0 j5) + (1 : Int32))) k))))) else (bnd (f_X8_goes v1 a4.2) (fun a5 => (f_X8_goesOn_12 n v1 a5 k)))))))) else (bnd (ix 3108 (4 : Int32)) (fun j3 => (bnd (ix 3108 (4 : Int32)) (fun j4 => (f_X8_goesOn_12 n (v1 + (1 : Int32)) (mput σ 22 0 j4 ((σ 22 0 j3) + (0 : Int32))) k)))))))))))))))
set_option maxRecDepth 100000 in
set_option maxHeartbeats 4000000 in
theorem L_X8_goesOn_12 {X : Cx}  {σ2 : Mem} {k : Mem → Option Mem}  : ∀ (n : Nat) (v1 : Int32) (σ : Mem), f_X8_goesOn_12  n v1 σ k = some σ2 → (∀ (σ1 : Mem), k σ1 = some σ2 → At X 4 mX8_goesOn 101 [some (rf X 8 0), none, none] [] σ1 none σ2) → At X 4 mX8_goesOn 12 [some (rf X 8 0), some (.int v1), none] [] σ none σ2 := by
  intro n
  induction n with
  | zero =>
    intro v1 σ h
    cases h
  | succ n ih =>
    intro v1 σ h hk
    rw [f_X8_goesOn_12.eq_2] at h
    refine i_iload_n dX8_goesOn_12 rfl ?_
    refine i_aload_n dX8_goesOn_13 rfl ?_
    refine gf_X8_7 rfl (by omega) dX8_goesOn_14 ?_
    refine i_iconst (v := 3) dX8_goesOn_17 (by decide) ?_
    refine al_22 dX8_goesOn_18 (by omega) h (fun j1 lj1 h => ?_)
    refine r_icmp_ge (tgt := 101) dX8_goesOn_19 (by decide) h (fun c1 h => ?_) (fun c1 h => ?_)
    · refine At.fewer (ls' := [some (rf X 8 0), none, none]) (And.intro rfl trivial) ?_
      exact hk _ h
    · refine i_aload_n dX8_goesOn_22 rfl ?_
      refine i_aload_n dX8_goesOn_23 rfl ?_
      refine i_iload_n dX8_goesOn_24 rfl ?_
      refine i_iconst (v := 0) dX8_goesOn_25 (by decide) ?_
      refine cV_ir dX8_goesOn_26 cw_X8_91 ci_X8_vowIs rfl rfl (by decide) (show 0 < 1 by omega) h (fun a1 e => F_X8_vowIs  e) (Nat.le_of_ble_eq_true rfl) rfl rfl (Nat.le_of_ble_eq_true rfl) (fun a1 ea1 h => ?_)
      refine cV_ir dX8_goesOn_29 cw_X8_116 ci_X8_noon rfl rfl (by decide) (show 0 < 1 by omega) h (fun a2 e => F_X8_noon  e) (Nat.le_of_ble_eq_true rfl) rfl rfl (Nat.le_of_ble_eq_true rfl) (fun a2 ea2 h => ?_)
      refine i_aload_n dX8_goesOn_32 rfl ?_
      refine gf_X8_7 rfl (by omega) dX8_goesOn_33 ?_
      refine i_iconst (v := 2) dX8_goesOn_36 (by decide) ?_
      refine al_22 dX8_goesOn_37 (by omega) h (fun j2 lj2 h => ?_)
      refine i_bipush (v := 24) dX8_goesOn_38 (by decide) ?_
      refine i_irem dX8_goesOn_40 (by decide) ?_
      refine r_icmp_ne (tgt := 48) dX8_goesOn_41 (by decide) h (fun c2 h => ?_) (fun c2 h => ?_)
      · refine i_iconst (v := 0) dX8_goesOn_48 (by decide) ?_
        refine i_istore_n (ls' := [some (rf X 8 0), some (.int v1), some (.int (0 : Int32))]) dX8_goesOn_49 (by decide) (okp_at rfl) rfl ?_
        refine i_iload_n dX8_goesOn_50 rfl ?_
        refine i_if_eq (tgt := 77) dX8_goesOn_51 (by decide) (fun _ => ?_) (fun c => absurd c (by decide))
        refine i_aload_n dX8_goesOn_77 rfl ?_
        refine gf_X8_7 rfl (by omega) dX8_goesOn_78 ?_
        refine i_iconst (v := 4) dX8_goesOn_81 (by decide) ?_
        refine i_dup2 dX8_goesOn_82 rfl rfl ?_
        refine al_22 dX8_goesOn_83 (by omega) h (fun j3 lj3 h => ?_)
        refine i_iload_n dX8_goesOn_84 rfl ?_
        refine i_if_eq (tgt := 92) dX8_goesOn_85 (by decide) (fun _ => ?_) (fun c => absurd c (by decide))
        refine i_iconst (v := 0) dX8_goesOn_92 (by decide) ?_
        refine i_iadd dX8_goesOn_93 ?_
        refine as_22 dX8_goesOn_94 (by omega) h (fun j4 lj4 h => ?_)
        refine i_iinc (v := (v1 + (1 : Int32))) (ls' := [some (rf X 8 0), some (.int (v1 + (1 : Int32))), some (.int (0 : Int32))]) dX8_goesOn_95 rfl (by rfl) (by decide) (okp_at rfl) rfl ?_
        refine i_goto (tgt := 12) dX8_goesOn_98 (by decide) ?_
        refine At.fewer (ls' := [some (rf X 8 0), some (.int (v1 + (1 : Int32))), none]) (And.intro rfl (And.intro rfl trivial)) ?_
        exact ih _ _ h hk
      · refine i_iconst (v := 1) dX8_goesOn_44 (by decide) ?_
        refine i_goto (tgt := 49) dX8_goesOn_45 (by decide) ?_
        refine i_istore_n (ls' := [some (rf X 8 0), some (.int v1), some (.int (1 : Int32))]) dX8_goesOn_49 (by decide) (okp_at rfl) rfl ?_
        refine i_iload_n dX8_goesOn_50 rfl ?_
        refine i_if_eq (tgt := 77) dX8_goesOn_51 (by decide) (fun c => absurd c (by decide)) (fun _ => ?_)
        refine i_aload_n dX8_goesOn_54 rfl ?_
        refine cV_iw dX8_goesOn_55 cw_X8_160 ci_X8_drawn rfl rfl (by decide) (show 0 < 1 by omega) h (fun a3 e => F_X8_drawn  e) (Nat.le_of_ble_eq_true rfl) rfl rfl (Nat.le_of_ble_eq_true rfl) (fun a3 ea3 h => ?_)
        refine i_bipush (v := 100) dX8_goesOn_58 (by decide) ?_
        refine i_irem dX8_goesOn_60 (by decide) ?_
        refine i_aload_n dX8_goesOn_61 rfl ?_
        refine i_iload_n dX8_goesOn_62 rfl ?_
        refine cV_iw dX8_goesOn_63 cw_X8_155 ci_X8_keeps rfl rfl (by decide) (show 0 < 1 by omega) h (fun a4 e => F_X8_keeps  e) (Nat.le_of_ble_eq_true rfl) rfl rfl (Nat.le_of_ble_eq_true rfl) (fun a4 ea4 h => ?_)
        refine r_icmp_lt (tgt := 77) dX8_goesOn_66 (by decide) h (fun c3 h => ?_) (fun c3 h => ?_)
        · refine i_aload_n dX8_goesOn_77 rfl ?_
          refine gf_X8_7 rfl (by omega) dX8_goesOn_78 ?_
          refine i_iconst (v := 4) dX8_goesOn_81 (by decide) ?_
          refine i_dup2 dX8_goesOn_82 rfl rfl ?_
          refine al_22 dX8_goesOn_83 (by omega) h (fun j5 lj5 h => ?_)
          refine i_iload_n dX8_goesOn_84 rfl ?_
          refine i_if_eq (tgt := 92) dX8_goesOn_85 (by decide) (fun c => absurd c (by decide)) (fun _ => ?_)
          refine i_iconst (v := 1) dX8_goesOn_88 (by decide) ?_
          refine i_goto (tgt := 93) dX8_goesOn_89 (by decide) ?_
          refine i_iadd dX8_goesOn_93 ?_
          refine as_22 dX8_goesOn_94 (by omega) h (fun j6 lj6 h => ?_)
          refine i_iinc (v := (v1 + (1 : Int32))) (ls' := [some (rf X 8 0), some (.int (v1 + (1 : Int32))), some (.int (1 : Int32))]) dX8_goesOn_95 rfl (by rfl) (by decide) (okp_at rfl) rfl ?_
          refine i_goto (tgt := 12) dX8_goesOn_98 (by decide) ?_
          refine At.fewer (ls' := [some (rf X 8 0), some (.int (v1 + (1 : Int32))), none]) (And.intro rfl (And.intro rfl trivial)) ?_
          exact ih _ _ h hk
        · refine i_aload_n dX8_goesOn_69 rfl ?_
          refine i_iload_n dX8_goesOn_70 rfl ?_
          refine cV_vw dX8_goesOn_71 cw_X8_139 ci_X8_goes rfl rfl (by decide) (show 0 < 1 by omega) h (fun a5 e => F_X8_goes  e) (Nat.le_of_ble_eq_true rfl) rfl rfl (Nat.le_of_ble_eq_true rfl) (fun a5 ea5 h => ?_)
          refine i_goto (tgt := 98) dX8_goesOn_74 (by decide) ?_
          refine i_goto (tgt := 12) dX8_goesOn_98 (by decide) ?_
          refine At.fewer (ls' := [some (rf X 8 0), some (.int v1), none]) (And.intro rfl (And.intro rfl trivial)) ?_
          exact ih _ _ h hk
def f_X8_goesOn_103  : Nat → Int32 → Mem → (Mem → Option Mem) → Option Mem
  | 0, _, _, _ => none
  | n + 1, v1, σ, k =>
    (bnd (ix 3108 (3 : Int32)) (fun j1 => (if (σ 22 0 j1) ≤ v1 then (k σ) else (bnd (f_X8_vowIs v1 (2 : Int32) σ) (fun a1 => (if a1 = (2 : Int32) then (bnd (f_X8_vowIs v1 (0 : Int32) σ) (fun a2 => (bnd (f_X8_pays a2 σ) (fun a3 => (bnd (f_X8_vowIs v1 (0 : Int32) σ) (fun a4 => (bnd (f_X8_earns a4 (-a3) σ) (fun a5 => (bnd (f_X8_vowIs v1 (1 : Int32) a5) (fun a6 => (bnd (f_X8_earns a6 a3 a5) (fun a7 => (f_X8_goesOn_103 n (v1 + (1 : Int32)) a7 k))))))))))))) else (f_X8_goesOn_103 n (v1 + (1 : Int32)) σ k)))))))
set_option maxRecDepth 100000 in
set_option maxHeartbeats 4000000 in
theorem L_X8_goesOn_103 {X : Cx}  {σ2 : Mem} {k : Mem → Option Mem}  : ∀ (n : Nat) (v1 : Int32) (σ : Mem), f_X8_goesOn_103  n v1 σ k = some σ2 → (∀ (σ1 : Mem), k σ1 = some σ2 → At X 4 mX8_goesOn 163 [none, none, none] [] σ1 none σ2) → At X 4 mX8_goesOn 103 [some (rf X 8 0), some (.int v1), none] [] σ none σ2 := by
  intro n
  induction n with
  | zero =>
    intro v1 σ h
    cases h
  | succ n ih =>
    intro v1 σ h hk
    rw [f_X8_goesOn_103.eq_2] at h
    refine i_iload_n dX8_goesOn_103 rfl ?_
    refine i_aload_n dX8_goesOn_104 rfl ?_
    refine gf_X8_7 rfl (by omega) dX8_goesOn_105 ?_
    refine i_iconst (v := 3) dX8_goesOn_108 (by decide) ?_
    refine al_22 dX8_goesOn_109 (by omega) h (fun j1 lj1 h => ?_)
    refine r_icmp_ge (tgt := 163) dX8_goesOn_110 (by decide) h (fun c1 h => ?_) (fun c1 h => ?_)
    · refine At.fewer (ls' := [none, none, none]) trivial ?_
      exact hk _ h
    · refine i_aload_n dX8_goesOn_113 rfl ?_
      refine i_iload_n dX8_goesOn_114 rfl ?_
      refine i_iconst (v := 2) dX8_goesOn_115 (by decide) ?_
      refine cV_ir dX8_goesOn_116 cw_X8_91 ci_X8_vowIs rfl rfl (by decide) (show 0 < 1 by omega) h (fun a1 e => F_X8_vowIs  e) (Nat.le_of_ble_eq_true rfl) rfl rfl (Nat.le_of_ble_eq_true rfl) (fun a1 ea1 h => ?_)
      refine i_iconst (v := 2) dX8_goesOn_119 (by decide) ?_
      refine r_icmp_ne (tgt := 157) dX8_goesOn_120 (by decide) h (fun c2 h => ?_) (fun c2 h => ?_)
      · refine i_iinc (v := (v1 + (1 : Int32))) (ls' := [some (rf X 8 0), some (.int (v1 + (1 : Int32))), none]) dX8_goesOn_157 rfl (by rfl) (by decide) (okp_at rfl) rfl ?_
        refine i_goto (tgt := 103) dX8_goesOn_160 (by decide) ?_
        exact ih _ _ h hk
      · refine i_aload_n dX8_goesOn_123 rfl ?_
        refine i_aload_n dX8_goesOn_124 rfl ?_
        refine i_iload_n dX8_goesOn_125 rfl ?_
        refine i_iconst (v := 0) dX8_goesOn_126 (by decide) ?_
        refine cV_ir dX8_goesOn_127 cw_X8_91 ci_X8_vowIs rfl rfl (by decide) (show 0 < 1 by omega) h (fun a2 e => F_X8_vowIs  e) (Nat.le_of_ble_eq_true rfl) rfl rfl (Nat.le_of_ble_eq_true rfl) (fun a2 ea2 h => ?_)
        refine cV_ir dX8_goesOn_130 cw_X8_119 ci_X8_pays rfl rfl (by decide) (show 0 < 1 by omega) h (fun a3 e => F_X8_pays  e) (Nat.le_of_ble_eq_true rfl) rfl rfl (Nat.le_of_ble_eq_true rfl) (fun a3 ea3 h => ?_)
        refine i_istore_n (ls' := [some (rf X 8 0), some (.int v1), some (.int a3)]) dX8_goesOn_133 (by decide) (okp_at rfl) rfl ?_
        refine i_aload_n dX8_goesOn_134 rfl ?_
        refine i_aload_n dX8_goesOn_135 rfl ?_
        refine i_iload_n dX8_goesOn_136 rfl ?_
        refine i_iconst (v := 0) dX8_goesOn_137 (by decide) ?_
        refine cV_ir dX8_goesOn_138 cw_X8_91 ci_X8_vowIs rfl rfl (by decide) (show 0 < 1 by omega) h (fun a4 e => F_X8_vowIs  e) (Nat.le_of_ble_eq_true rfl) rfl rfl (Nat.le_of_ble_eq_true rfl) (fun a4 ea4 h => ?_)
        refine i_iload_n dX8_goesOn_141 rfl ?_
        refine i_ineg dX8_goesOn_142 ?_
        refine cV_vw dX8_goesOn_143 cw_X8_164 ci_X8_earns rfl rfl (by decide) (show 0 < 1 by omega) h (fun a5 e => F_X8_earns  e) (Nat.le_of_ble_eq_true rfl) rfl rfl (Nat.le_of_ble_eq_true rfl) (fun a5 ea5 h => ?_)
        refine i_aload_n dX8_goesOn_146 rfl ?_
        refine i_aload_n dX8_goesOn_147 rfl ?_
        refine i_iload_n dX8_goesOn_148 rfl ?_
        refine i_iconst (v := 1) dX8_goesOn_149 (by decide) ?_
        refine cV_ir dX8_goesOn_150 cw_X8_91 ci_X8_vowIs rfl rfl (by decide) (show 0 < 1 by omega) h (fun a6 e => F_X8_vowIs  e) (Nat.le_of_ble_eq_true rfl) rfl rfl (Nat.le_of_ble_eq_true rfl) (fun a6 ea6 h => ?_)
        refine i_iload_n dX8_goesOn_153 rfl ?_
        refine cV_vw dX8_goesOn_154 cw_X8_164 ci_X8_earns rfl rfl (by decide) (show 0 < 1 by omega) h (fun a7 e => F_X8_earns  e) (Nat.le_of_ble_eq_true rfl) rfl rfl (Nat.le_of_ble_eq_true rfl) (fun a7 ea7 h => ?_)
        refine i_iinc (v := (v1 + (1 : Int32))) (ls' := [some (rf X 8 0), some (.int (v1 + (1 : Int32))), some (.int a3)]) dX8_goesOn_157 rfl (by rfl) (by decide) (okp_at rfl) rfl ?_
        refine i_goto (tgt := 103) dX8_goesOn_160 (by decide) ?_
        refine At.fewer (ls' := [some (rf X 8 0), some (.int (v1 + (1 : Int32))), none]) (And.intro rfl (And.intro rfl trivial)) ?_
        exact ih _ _ h hk
def f_X8_goesOn   (σ : Mem) : Option Mem :=
  (bnd (ix 3108 (2 : Int32)) (fun j1 => (bnd (ix 3108 (2 : Int32)) (fun j2 => (f_X8_goesOn_12 FU (0 : Int32) (mput σ 22 0 j2 ((σ 22 0 j1) + (1 : Int32))) (fun σ_1 => (f_X8_goesOn_103 FU (0 : Int32) σ_1 (fun σ_2 => (some σ_2)))))))))
set_option maxRecDepth 100000 in
set_option maxHeartbeats 4000000 in
theorem F_X8_goesOn {X : Cx}  {σ : Mem} {res : Mem}  (h : f_X8_goesOn σ = some res) : Tri X 4 mX8_goesOn [rf X 8 0] σ none res := by
  unfold f_X8_goesOn at h
  refine Tri.of (ls := [some (rf X 8 0), none, none]) (by decide) (Nat.le_of_ble_eq_true rfl) rfl ?_
  refine i_aload_n dX8_goesOn_0 rfl ?_
  refine gf_X8_7 rfl (by omega) dX8_goesOn_1 ?_
  refine i_iconst (v := 2) dX8_goesOn_4 (by decide) ?_
  refine i_dup2 dX8_goesOn_5 rfl rfl ?_
  refine al_22 dX8_goesOn_6 (by omega) h (fun j1 lj1 h => ?_)
  refine i_iconst (v := 1) dX8_goesOn_7 (by decide) ?_
  refine i_iadd dX8_goesOn_8 ?_
  refine as_22 dX8_goesOn_9 (by omega) h (fun j2 lj2 h => ?_)
  refine i_iconst (v := 0) dX8_goesOn_10 (by decide) ?_
  refine i_istore_n (ls' := [some (rf X 8 0), some (.int (0 : Int32)), none]) dX8_goesOn_11 (by decide) (okp_at rfl) rfl ?_
  refine L_X8_goesOn_12  FU _ _ h (fun σ_1 h => ?_)
  refine i_iconst (v := 0) dX8_goesOn_101 (by decide) ?_
  refine i_istore_n (ls' := [some (rf X 8 0), some (.int (0 : Int32)), none]) dX8_goesOn_102 (by decide) (okp_at rfl) rfl ?_
  refine L_X8_goesOn_103  FU _ _ h (fun σ_2 h => ?_)
  exact e_vw rfl dX8_goesOn_163 h
def f_X8_goesOnMany_2 (p1 : Int32) : Nat → Int32 → Mem → (Mem → Option Mem) → Option Mem
  | 0, _, _, _ => none
  | n + 1, v2, σ, k =>
    (if p1 ≤ v2 then (k σ) else (bnd (f_X8_goesOn σ) (fun a1 => (f_X8_goesOnMany_2 p1 n (v2 + (1 : Int32)) a1 k))))
set_option maxRecDepth 100000 in
set_option maxHeartbeats 4000000 in
theorem L_X8_goesOnMany_2 {X : Cx} {p1 : Int32} {σ2 : Mem} {k : Mem → Option Mem}  : ∀ (n : Nat) (v2 : Int32) (σ : Mem), f_X8_goesOnMany_2 p1 n v2 σ k = some σ2 → (∀ (σ1 : Mem), k σ1 = some σ2 → At X 5 mX8_goesOnMany 17 [none, none, none] [] σ1 none σ2) → At X 5 mX8_goesOnMany 2 [some (rf X 8 0), some (.int p1), some (.int v2)] [] σ none σ2 := by
  intro n
  induction n with
  | zero =>
    intro v2 σ h
    cases h
  | succ n ih =>
    intro v2 σ h hk
    rw [f_X8_goesOnMany_2.eq_2] at h
    refine i_iload_n dX8_goesOnMany_2 rfl ?_
    refine i_iload_n dX8_goesOnMany_3 rfl ?_
    refine r_icmp_ge (tgt := 17) dX8_goesOnMany_4 (by decide) h (fun c1 h => ?_) (fun c1 h => ?_)
    · refine At.fewer (ls' := [none, none, none]) trivial ?_
      exact hk _ h
    · refine i_aload_n dX8_goesOnMany_7 rfl ?_
      refine cV_vw dX8_goesOnMany_8 cw_X8_168 ci_X8_goesOn rfl rfl (by decide) (show 0 < 1 by omega) h (fun a1 e => F_X8_goesOn  e) (Nat.le_of_ble_eq_true rfl) rfl rfl (Nat.le_of_ble_eq_true rfl) (fun a1 ea1 h => ?_)
      refine i_iinc (v := (v2 + (1 : Int32))) (ls' := [some (rf X 8 0), some (.int p1), some (.int (v2 + (1 : Int32)))]) dX8_goesOnMany_11 rfl (by rfl) (by decide) (okp_at rfl) rfl ?_
      refine i_goto (tgt := 2) dX8_goesOnMany_14 (by decide) ?_
      exact ih _ _ h hk
def f_X8_goesOnMany  (p1 : Int32) (σ : Mem) : Option Mem :=
  (f_X8_goesOnMany_2 p1 FU (0 : Int32) σ (fun σ_1 => (some σ_1)))
set_option maxRecDepth 100000 in
set_option maxHeartbeats 4000000 in
theorem F_X8_goesOnMany {X : Cx} {p1 : Int32} {σ : Mem} {res : Mem}  (h : f_X8_goesOnMany p1 σ = some res) : Tri X 5 mX8_goesOnMany [rf X 8 0, .int p1] σ none res := by
  unfold f_X8_goesOnMany at h
  refine Tri.of (ls := [some (rf X 8 0), some (.int p1), none]) (by decide) (Nat.le_of_ble_eq_true rfl) rfl ?_
  refine i_iconst (v := 0) dX8_goesOnMany_0 (by decide) ?_
  refine i_istore_n (ls' := [some (rf X 8 0), some (.int p1), some (.int (0 : Int32))]) dX8_goesOnMany_1 (by decide) (okp_at rfl) rfl ?_
  refine L_X8_goesOnMany_2  FU _ _ h (fun σ_1 h => ?_)
  exact e_vw rfl dX8_goesOnMany_17 h
def f_X8_hours_24 (p1 : Int32) (p2 : Int32) : Nat → Int32 → Mem → (Mem → Option (Int32 × Mem)) → Option (Int32 × Mem)
  | 0, _, _, _ => none
  | n + 1, v3, σ, k =>
    (if p1 ≤ v3 then (k σ) else (bnd (ix 3108 (2 : Int32)) (fun j1 => (if (9999 : Int32) ≤ (σ 22 0 j1) then (k σ) else (bnd (f_X8_goesOn σ) (fun a1 => (f_X8_hours_24 p1 p2 n (v3 + (1 : Int32)) a1 k)))))))
set_option maxRecDepth 100000 in
set_option maxHeartbeats 4000000 in
theorem L_X8_hours_24 {X : Cx} {p1 : Int32} {p2 : Int32} {r0 : Int32} {σ2 : Mem} {k : Mem → Option (Int32 × Mem)}  : ∀ (n : Nat) (v3 : Int32) (σ : Mem), f_X8_hours_24 p1 p2 n v3 σ k = some (r0, σ2) → (∀ (σ1 : Mem), k σ1 = some (r0, σ2) → At X 5 mX8_hours 51 [some (rf X 8 0), none, some (.int p2), none] [] σ1 (some (.int r0)) σ2) → At X 5 mX8_hours 24 [some (rf X 8 0), some (.int p1), some (.int p2), some (.int v3)] [] σ (some (.int r0)) σ2 := by
  intro n
  induction n with
  | zero =>
    intro v3 σ h
    cases h
  | succ n ih =>
    intro v3 σ h hk
    rw [f_X8_hours_24.eq_2] at h
    refine i_iload_n dX8_hours_24 rfl ?_
    refine i_iload_n dX8_hours_25 rfl ?_
    refine r_icmp_ge (tgt := 51) dX8_hours_26 (by decide) h (fun c1 h => ?_) (fun c1 h => ?_)
    · refine At.fewer (ls' := [some (rf X 8 0), none, some (.int p2), none]) (And.intro rfl (And.intro rfl trivial)) ?_
      exact hk _ h
    · refine i_aload_n dX8_hours_29 rfl ?_
      refine gf_X8_7 rfl (by omega) dX8_hours_30 ?_
      refine i_iconst (v := 2) dX8_hours_33 (by decide) ?_
      refine al_22 dX8_hours_34 (by omega) h (fun j1 lj1 h => ?_)
      refine i_sipush (v := 9999) dX8_hours_35 (by decide) ?_
      refine r_icmp_ge (tgt := 51) dX8_hours_38 (by decide) h (fun c2 h => ?_) (fun c2 h => ?_)
      · refine At.fewer (ls' := [some (rf X 8 0), none, some (.int p2), none]) (And.intro rfl (And.intro rfl trivial)) ?_
        exact hk _ h
      · refine i_aload_n dX8_hours_41 rfl ?_
        refine cV_vw dX8_hours_42 cw_X8_168 ci_X8_goesOn rfl rfl (by decide) (show 0 < 1 by omega) h (fun a1 e => F_X8_goesOn  e) (Nat.le_of_ble_eq_true rfl) rfl rfl (Nat.le_of_ble_eq_true rfl) (fun a1 ea1 h => ?_)
        refine i_iinc (v := (v3 + (1 : Int32))) (ls' := [some (rf X 8 0), some (.int p1), some (.int p2), some (.int (v3 + (1 : Int32)))]) dX8_hours_45 rfl (by rfl) (by decide) (okp_at rfl) rfl ?_
        refine i_goto (tgt := 24) dX8_hours_48 (by decide) ?_
        exact ih _ _ h hk
def f_X8_hours  (p1 : Int32) (σ : Mem) : Option (Int32 × Mem) :=
  (bnd (f_X8_isIn ((p1).toInt64) ((1 : Int64)) ((100 : Int64)) σ) (fun a1 => (if a1 = 0 then (some ((-1000000001 : Int32), σ)) else (bnd (ix 3108 (5 : Int32)) (fun j1 => (f_X8_hours_24 p1 (σ 22 0 j1) FU (0 : Int32) σ (fun σ_1 => (bnd (ix 3108 (5 : Int32)) (fun j2 => (some (((σ_1 22 0 j2) - (σ 22 0 j1)), σ_1)))))))))))
set_option maxRecDepth 100000 in
set_option maxHeartbeats 4000000 in
theorem F_X8_hours {X : Cx} {p1 : Int32} {σ : Mem} {res : (Int32 × Mem)}  (h : f_X8_hours p1 σ = some res) : Tri X 5 mX8_hours [rf X 8 0, .int p1] σ (some (.int res.1)) res.2 := by
  obtain ⟨r0, σ2⟩ := res
  unfold f_X8_hours at h
  refine Tri.of (ls := [some (rf X 8 0), some (.int p1), none, none]) (by decide) (Nat.le_of_ble_eq_true rfl) rfl ?_
  refine i_iload_n dX8_hours_0 rfl ?_
  refine i_i2l dX8_hours_1 ?_
  refine i_lconst (v := 1) dX8_hours_2 (by decide) ?_
  refine i_ldc2 (v := 100) dX8_hours_3 k_X8_171 ?_
  refine cS_ir dX8_hours_6 cw_X8_71 ci_X8_isIn h (fun a1 e => F_X8_isIn  e) (Nat.le_of_ble_eq_true rfl) rfl rfl (Nat.le_of_ble_eq_true rfl) (fun a1 ea1 h => ?_)
  refine r_if_ne (tgt := 15) dX8_hours_9 (by decide) h (fun c1 h => ?_) (fun c1 h => ?_)
  · refine i_aload_n dX8_hours_15 rfl ?_
    refine gf_X8_7 rfl (by omega) dX8_hours_16 ?_
    refine i_iconst (v := 5) dX8_hours_19 (by decide) ?_
    refine al_22 dX8_hours_20 (by omega) h (fun j1 lj1 h => ?_)
    refine i_istore_n (ls' := [some (rf X 8 0), some (.int p1), some (.int (σ 22 0 j1)), none]) dX8_hours_21 (by decide) (okp_at rfl) rfl ?_
    refine i_iconst (v := 0) dX8_hours_22 (by decide) ?_
    refine i_istore_n (ls' := [some (rf X 8 0), some (.int p1), some (.int (σ 22 0 j1)), some (.int (0 : Int32))]) dX8_hours_23 (by decide) (okp_at rfl) rfl ?_
    refine L_X8_hours_24  FU _ _ h (fun σ_1 h => ?_)
    refine i_aload_n dX8_hours_51 rfl ?_
    refine gf_X8_7 rfl (by omega) dX8_hours_52 ?_
    refine i_iconst (v := 5) dX8_hours_55 (by decide) ?_
    refine al_22 dX8_hours_56 (by omega) h (fun j2 lj2 h => ?_)
    refine i_iload_n dX8_hours_57 rfl ?_
    refine i_isub dX8_hours_58 ?_
    exact e_iw rfl dX8_hours_59 h
  · refine i_ldc (v := (-1000000001)) dX8_hours_12 k_X8_86 ?_
    exact e_iw rfl dX8_hours_14 h
def f_X8_setBy_4 (p1 : Int32) (σ : Mem) : Nat → Int32 → Int32 → (Int32 → Option Int32) → Option Int32
  | 0, _, _, _ => none
  | n + 1, v2, v3, k =>
    (bnd (ix 3108 (3 : Int32)) (fun j1 => (if (σ 22 0 j1) ≤ v3 then (k v2) else (bnd (f_X8_vowIs v3 p1 σ) (fun a1 => (f_X8_setBy_4 p1 σ n (v2 ||| ((1 : Int32) <<< (a1 &&& (31 : Int32)))) (v3 + (1 : Int32)) k))))))
set_option maxRecDepth 100000 in
set_option maxHeartbeats 4000000 in
theorem L_X8_setBy_4 {X : Cx} {p1 : Int32} {σ : Mem} {r0 : Int32} {k : Int32 → Option Int32}  : ∀ (n : Nat) (v2 : Int32) (v3 : Int32), f_X8_setBy_4 p1 σ n v2 v3 k = some r0 → (∀ (x2 : Int32), k x2 = some r0 → At X 2 mX8_setBy 31 [none, none, some (.int x2), none] [] σ (some (.int r0)) σ) → At X 2 mX8_setBy 4 [some (rf X 8 0), some (.int p1), some (.int v2), some (.int v3)] [] σ (some (.int r0)) σ := by
  intro n
  induction n with
  | zero =>
    intro v2 v3 h
    cases h
  | succ n ih =>
    intro v2 v3 h hk
    rw [f_X8_setBy_4.eq_2] at h
    refine i_iload_n dX8_setBy_4 rfl ?_
    refine i_aload_n dX8_setBy_5 rfl ?_
    refine gf_X8_7 rfl (by omega) dX8_setBy_6 ?_
    refine i_iconst (v := 3) dX8_setBy_9 (by decide) ?_
    refine al_22 dX8_setBy_10 (by omega) h (fun j1 lj1 h => ?_)
    refine r_icmp_ge (tgt := 31) dX8_setBy_11 (by decide) h (fun c1 h => ?_) (fun c1 h => ?_)
    · refine At.fewer (ls' := [none, none, some (.int v2), none]) (And.intro rfl trivial) ?_
      exact hk _ h
    · refine i_iload_n dX8_setBy_14 rfl ?_
      refine i_iconst (v := 1) dX8_setBy_15 (by decide) ?_
      refine i_aload_n dX8_setBy_16 rfl ?_
      refine i_iload_n dX8_setBy_17 rfl ?_
      refine i_iload_n dX8_setBy_18 rfl ?_
      refine cV_ir dX8_setBy_19 cw_X8_91 ci_X8_vowIs rfl rfl (by decide) (show 0 < 1 by omega) h (fun a1 e => F_X8_vowIs  e) (Nat.le_of_ble_eq_true rfl) rfl rfl (Nat.le_of_ble_eq_true rfl) (fun a1 ea1 h => ?_)
      refine i_ishl dX8_setBy_22 ?_
      refine i_ior dX8_setBy_23 ?_
      refine i_istore_n (ls' := [some (rf X 8 0), some (.int p1), some (.int (v2 ||| ((1 : Int32) <<< (a1 &&& (31 : Int32))))), some (.int v3)]) dX8_setBy_24 (by decide) (okp_at rfl) rfl ?_
      refine i_iinc (v := (v3 + (1 : Int32))) (ls' := [some (rf X 8 0), some (.int p1), some (.int (v2 ||| ((1 : Int32) <<< (a1 &&& (31 : Int32))))), some (.int (v3 + (1 : Int32)))]) dX8_setBy_25 rfl (by rfl) (by decide) (okp_at rfl) rfl ?_
      refine i_goto (tgt := 4) dX8_setBy_28 (by decide) ?_
      exact ih _ _ h hk
def f_X8_setBy  (p1 : Int32) (σ : Mem) : Option Int32 :=
  (f_X8_setBy_4 p1 σ FU (0 : Int32) (0 : Int32) (fun e1 => (some e1)))
set_option maxRecDepth 100000 in
set_option maxHeartbeats 4000000 in
theorem F_X8_setBy {X : Cx} {p1 : Int32} {σ : Mem} {res : Int32}  (h : f_X8_setBy p1 σ = some res) : Tri X 2 mX8_setBy [rf X 8 0, .int p1] σ (some (.int res)) σ := by
  unfold f_X8_setBy at h
  refine Tri.of (ls := [some (rf X 8 0), some (.int p1), none, none]) (by decide) (Nat.le_of_ble_eq_true rfl) rfl ?_
  refine i_iconst (v := 0) dX8_setBy_0 (by decide) ?_
  refine i_istore_n (ls' := [some (rf X 8 0), some (.int p1), some (.int (0 : Int32)), none]) dX8_setBy_1 (by decide) (okp_at rfl) rfl ?_
  refine i_iconst (v := 0) dX8_setBy_2 (by decide) ?_
  refine i_istore_n (ls' := [some (rf X 8 0), some (.int p1), some (.int (0 : Int32)), some (.int (0 : Int32))]) dX8_setBy_3 (by decide) (okp_at rfl) rfl ?_
  refine L_X8_setBy_4  FU _ _ h (fun e1 h => ?_)
  refine i_iload_n dX8_setBy_31 rfl ?_
  exact e_ir rfl dX8_setBy_32 h
def f_X8_findSworn_2  : Nat → Int32 → Mem → (Mem → Option Mem) → Option Mem
  | 0, _, _, _ => none
  | n + 1, v1, σ, k =>
    (bnd (ix 3108 (0 : Int32)) (fun j1 => (if (σ 22 0 j1) ≤ v1 then (k σ) else (bnd (ix 10 v1) (fun j2 => (f_X8_findSworn_2 n (v1 + (1 : Int32)) (mput σ 33 0 j2 (0 : Int32)) k))))))
set_option maxRecDepth 100000 in
set_option maxHeartbeats 4000000 in
theorem L_X8_findSworn_2 {X : Cx}  {σ2 : Mem} {k : Mem → Option Mem}  : ∀ (n : Nat) (v1 : Int32) (σ : Mem), f_X8_findSworn_2  n v1 σ k = some σ2 → (∀ (σ1 : Mem), k σ1 = some σ2 → At X 2 mX8_findSworn 25 [some (rf X 8 0), none] [] σ1 none σ2) → At X 2 mX8_findSworn 2 [some (rf X 8 0), some (.int v1)] [] σ none σ2 := by
  intro n
  induction n with
  | zero =>
    intro v1 σ h
    cases h
  | succ n ih =>
    intro v1 σ h hk
    rw [f_X8_findSworn_2.eq_2] at h
    refine i_iload_n dX8_findSworn_2 rfl ?_
    refine i_aload_n dX8_findSworn_3 rfl ?_
    refine gf_X8_7 rfl (by omega) dX8_findSworn_4 ?_
    refine i_iconst (v := 0) dX8_findSworn_7 (by decide) ?_
    refine al_22 dX8_findSworn_8 (by omega) h (fun j1 lj1 h => ?_)
    refine r_icmp_ge (tgt := 25) dX8_findSworn_9 (by decide) h (fun c1 h => ?_) (fun c1 h => ?_)
    · refine At.fewer (ls' := [some (rf X 8 0), none]) (And.intro rfl trivial) ?_
      exact hk _ h
    · refine i_aload_n dX8_findSworn_12 rfl ?_
      refine gf_X8_43 rfl (by omega) dX8_findSworn_13 ?_
      refine i_iload_n dX8_findSworn_16 rfl ?_
      refine i_iconst (v := 0) dX8_findSworn_17 (by decide) ?_
      refine as_33 dX8_findSworn_18 (by omega) h (fun j2 lj2 h => ?_)
      refine i_iinc (v := (v1 + (1 : Int32))) (ls' := [some (rf X 8 0), some (.int (v1 + (1 : Int32)))]) dX8_findSworn_19 rfl (by rfl) (by decide) (okp_at rfl) rfl ?_
      refine i_goto (tgt := 2) dX8_findSworn_22 (by decide) ?_
      exact ih _ _ h hk
def f_X8_findSworn_27  : Nat → Int32 → Mem → (Mem → Option Mem) → Option Mem
  | 0, _, _, _ => none
  | n + 1, v1, σ, k =>
    (bnd (ix 3108 (3 : Int32)) (fun j1 => (if (σ 22 0 j1) ≤ v1 then (k σ) else (bnd (f_X8_vowIs v1 (0 : Int32) σ) (fun a1 => (bnd (ix 10 a1) (fun j2 => (bnd (f_X8_vowIs v1 (1 : Int32) σ) (fun a2 => (bnd (ix 10 a1) (fun j3 => (f_X8_findSworn_27 n (v1 + (1 : Int32)) (mput σ 33 0 j3 ((σ 33 0 j2) ||| ((1 : Int32) <<< (a2 &&& (31 : Int32))))) k))))))))))))
set_option maxRecDepth 100000 in
set_option maxHeartbeats 4000000 in
theorem L_X8_findSworn_27 {X : Cx}  {σ2 : Mem} {k : Mem → Option Mem}  : ∀ (n : Nat) (v1 : Int32) (σ : Mem), f_X8_findSworn_27  n v1 σ k = some σ2 → (∀ (σ1 : Mem), k σ1 = some σ2 → At X 2 mX8_findSworn 65 [none, none] [] σ1 none σ2) → At X 2 mX8_findSworn 27 [some (rf X 8 0), some (.int v1)] [] σ none σ2 := by
  intro n
  induction n with
  | zero =>
    intro v1 σ h
    cases h
  | succ n ih =>
    intro v1 σ h hk
    rw [f_X8_findSworn_27.eq_2] at h
    refine i_iload_n dX8_findSworn_27 rfl ?_
    refine i_aload_n dX8_findSworn_28 rfl ?_
    refine gf_X8_7 rfl (by omega) dX8_findSworn_29 ?_
    refine i_iconst (v := 3) dX8_findSworn_32 (by decide) ?_
    refine al_22 dX8_findSworn_33 (by omega) h (fun j1 lj1 h => ?_)
    refine r_icmp_ge (tgt := 65) dX8_findSworn_34 (by decide) h (fun c1 h => ?_) (fun c1 h => ?_)
    · refine At.fewer (ls' := [none, none]) trivial ?_
      exact hk _ h
    · refine i_aload_n dX8_findSworn_37 rfl ?_
      refine gf_X8_43 rfl (by omega) dX8_findSworn_38 ?_
      refine i_aload_n dX8_findSworn_41 rfl ?_
      refine i_iload_n dX8_findSworn_42 rfl ?_
      refine i_iconst (v := 0) dX8_findSworn_43 (by decide) ?_
      refine cV_ir dX8_findSworn_44 cw_X8_91 ci_X8_vowIs rfl rfl (by decide) (show 0 < 1 by omega) h (fun a1 e => F_X8_vowIs  e) (Nat.le_of_ble_eq_true rfl) rfl rfl (Nat.le_of_ble_eq_true rfl) (fun a1 ea1 h => ?_)
      refine i_dup2 dX8_findSworn_47 rfl rfl ?_
      refine al_33 dX8_findSworn_48 (by omega) h (fun j2 lj2 h => ?_)
      refine i_iconst (v := 1) dX8_findSworn_49 (by decide) ?_
      refine i_aload_n dX8_findSworn_50 rfl ?_
      refine i_iload_n dX8_findSworn_51 rfl ?_
      refine i_iconst (v := 1) dX8_findSworn_52 (by decide) ?_
      refine cV_ir dX8_findSworn_53 cw_X8_91 ci_X8_vowIs rfl rfl (by decide) (show 0 < 1 by omega) h (fun a2 e => F_X8_vowIs  e) (Nat.le_of_ble_eq_true rfl) rfl rfl (Nat.le_of_ble_eq_true rfl) (fun a2 ea2 h => ?_)
      refine i_ishl dX8_findSworn_56 ?_
      refine i_ior dX8_findSworn_57 ?_
      refine as_33 dX8_findSworn_58 (by omega) h (fun j3 lj3 h => ?_)
      refine i_iinc (v := (v1 + (1 : Int32))) (ls' := [some (rf X 8 0), some (.int (v1 + (1 : Int32)))]) dX8_findSworn_59 rfl (by rfl) (by decide) (okp_at rfl) rfl ?_
      refine i_goto (tgt := 27) dX8_findSworn_62 (by decide) ?_
      exact ih _ _ h hk
def f_X8_findSworn   (σ : Mem) : Option Mem :=
  (f_X8_findSworn_2 FU (0 : Int32) σ (fun σ_1 => (f_X8_findSworn_27 FU (0 : Int32) σ_1 (fun σ_2 => (some σ_2)))))
set_option maxRecDepth 100000 in
set_option maxHeartbeats 4000000 in
theorem F_X8_findSworn {X : Cx}  {σ : Mem} {res : Mem}  (h : f_X8_findSworn σ = some res) : Tri X 2 mX8_findSworn [rf X 8 0] σ none res := by
  unfold f_X8_findSworn at h
  refine Tri.of (ls := [some (rf X 8 0), none]) (by decide) (Nat.le_of_ble_eq_true rfl) rfl ?_
  refine i_iconst (v := 0) dX8_findSworn_0 (by decide) ?_
  refine i_istore_n (ls' := [some (rf X 8 0), some (.int (0 : Int32))]) dX8_findSworn_1 (by decide) (okp_at rfl) rfl ?_
  refine L_X8_findSworn_2  FU _ _ h (fun σ_1 h => ?_)
  refine i_iconst (v := 0) dX8_findSworn_25 (by decide) ?_
  refine i_istore_n (ls' := [some (rf X 8 0), some (.int (0 : Int32))]) dX8_findSworn_26 (by decide) (okp_at rfl) rfl ?_
  refine L_X8_findSworn_27  FU _ _ h (fun σ_2 h => ?_)
  exact e_vw rfl dX8_findSworn_65 h
def f_X8_manyIn_4 (σ : Mem) : Nat → Int32 → Int32 → (Int32 → Option Int32) → Option Int32
  | 0, _, _, _ => none
  | n + 1, v1, v2, k =>
    (if v2 = 0 then (k v1) else (f_X8_manyIn_4 σ n (v1 + (1 : Int32)) (v2 &&& (v2 - (1 : Int32))) k))
set_option maxRecDepth 100000 in
set_option maxHeartbeats 4000000 in
theorem L_X8_manyIn_4 {X : Cx} {σ : Mem} {r0 : Int32} {k : Int32 → Option Int32}  : ∀ (n : Nat) (v1 : Int32) (v2 : Int32), f_X8_manyIn_4 σ n v1 v2 k = some r0 → (∀ (x1 : Int32), k x1 = some r0 → At X 1 mX8_manyIn 20 [none, some (.int x1), none] [] σ (some (.int r0)) σ) → At X 1 mX8_manyIn 4 [none, some (.int v1), some (.int v2)] [] σ (some (.int r0)) σ := by
  intro n
  induction n with
  | zero =>
    intro v1 v2 h
    cases h
  | succ n ih =>
    intro v1 v2 h hk
    rw [f_X8_manyIn_4.eq_2] at h
    refine i_iload_n dX8_manyIn_4 rfl ?_
    refine r_if_eq (tgt := 20) dX8_manyIn_5 (by decide) h (fun c1 h => ?_) (fun c1 h => ?_)
    · refine At.fewer (ls' := [none, some (.int v1), none]) (And.intro rfl trivial) ?_
      exact hk _ h
    · refine i_iinc (v := (v1 + (1 : Int32))) (ls' := [none, some (.int (v1 + (1 : Int32))), some (.int v2)]) dX8_manyIn_8 rfl (by rfl) (by decide) (okp_at rfl) rfl ?_
      refine i_iload_n dX8_manyIn_11 rfl ?_
      refine i_iload_n dX8_manyIn_12 rfl ?_
      refine i_iconst (v := 1) dX8_manyIn_13 (by decide) ?_
      refine i_isub dX8_manyIn_14 ?_
      refine i_iand dX8_manyIn_15 ?_
      refine i_istore_n (ls' := [none, some (.int (v1 + (1 : Int32))), some (.int (v2 &&& (v2 - (1 : Int32))))]) dX8_manyIn_16 (by decide) (okp_at rfl) rfl ?_
      refine i_goto (tgt := 4) dX8_manyIn_17 (by decide) ?_
      exact ih _ _ h hk
def f_X8_manyIn  (p0 : Int32) (σ : Mem) : Option Int32 :=
  (f_X8_manyIn_4 σ FU (0 : Int32) p0 (fun e1 => (some e1)))
set_option maxRecDepth 100000 in
set_option maxHeartbeats 4000000 in
theorem F_X8_manyIn {X : Cx} {p0 : Int32} {σ : Mem} {res : Int32}  (h : f_X8_manyIn p0 σ = some res) : Tri X 1 mX8_manyIn [.int p0] σ (some (.int res)) σ := by
  unfold f_X8_manyIn at h
  refine Tri.of (ls := [some (.int p0), none, none]) (by decide) (Nat.le_of_ble_eq_true rfl) rfl ?_
  refine i_iconst (v := 0) dX8_manyIn_0 (by decide) ?_
  refine i_istore_n (ls' := [some (.int p0), some (.int (0 : Int32)), none]) dX8_manyIn_1 (by decide) (okp_at rfl) rfl ?_
  refine i_iload_n dX8_manyIn_2 rfl ?_
  refine i_istore_n (ls' := [some (.int p0), some (.int (0 : Int32)), some (.int p0)]) dX8_manyIn_3 (by decide) (okp_at rfl) rfl ?_
  refine At.fewer (ls' := [none, some (.int (0 : Int32)), some (.int p0)]) (And.intro rfl (And.intro rfl trivial)) ?_
  refine L_X8_manyIn_4  FU _ _ h (fun e1 h => ?_)
  refine i_iload_n dX8_manyIn_20 rfl ?_
  exact e_ir rfl dX8_manyIn_21 h
end
