noncomputable section
def f_X8_isIn  (p0 : Int64) (p2 : Int64) (p4 : Int64) (σ : Mem) : Option Int32 :=
  (if (lg_cmp p0 p2) < 0 then (some (0 : Int32)) else (if 0 < (lg_cmp p0 p4) then (some (0 : Int32)) else (some (1 : Int32))))
set_option maxRecDepth 100000 in
set_option maxHeartbeats 4000000 in
theorem F_X8_isIn {X : Cx} {p0 : Int64} {p2 : Int64} {p4 : Int64} {σ : Mem} {res : Int32}  (h : f_X8_isIn p0 p2 p4 σ = some res) : Tri X 1 mX8_isIn [.long p0, .long p2, .long p4] σ (some (.int res)) σ := by
  unfold f_X8_isIn at h
  refine Tri.of (ls := [some (.long p0), none, some (.long p2), none, some (.long p4), none]) (by decide) (Nat.le_of_ble_eq_true rfl) rfl ?_
  refine i_lload_n dX8_isIn_0 rfl ?_
  refine i_lload_n dX8_isIn_1 rfl ?_
  refine i_lcmp dX8_isIn_2 ?_
  refine r_if_lt (tgt := 17) dX8_isIn_3 (by decide) h (fun c1 h => ?_) (fun c1 h => ?_)
  · refine i_iconst (v := 0) dX8_isIn_17 (by decide) ?_
    exact e_zr rfl (by decide) dX8_isIn_18 h
  · refine i_lload_n dX8_isIn_6 rfl ?_
    refine i_lload dX8_isIn_7 rfl ?_
    refine i_lcmp dX8_isIn_9 ?_
    refine r_if_gt (tgt := 17) dX8_isIn_10 (by decide) h (fun c2 h => ?_) (fun c2 h => ?_)
    · refine i_iconst (v := 0) dX8_isIn_17 (by decide) ?_
      exact e_zr rfl (by decide) dX8_isIn_18 h
    · refine i_iconst (v := 1) dX8_isIn_13 (by decide) ?_
      refine i_goto (tgt := 18) dX8_isIn_14 (by decide) ?_
      exact e_zr rfl (by decide) dX8_isIn_18 h
def f_X8_orNone  (p0 : Int32) (σ : Mem) : Option Int32 :=
  (if 0 ≤ p0 then (some p0) else (some (-1000000005 : Int32)))
set_option maxRecDepth 100000 in
set_option maxHeartbeats 4000000 in
theorem F_X8_orNone {X : Cx} {p0 : Int32} {σ : Mem} {res : Int32}  (h : f_X8_orNone p0 σ = some res) : Tri X 1 mX8_orNone [.int p0] σ (some (.int res)) σ := by
  unfold f_X8_orNone at h
  refine Tri.of (ls := [some (.int p0)]) (by decide) (Nat.le_of_ble_eq_true rfl) rfl ?_
  refine i_iload_n dX8_orNone_0 rfl ?_
  refine r_if_ge (tgt := 9) dX8_orNone_1 (by decide) h (fun c1 h => ?_) (fun c1 h => ?_)
  · refine i_iload_n dX8_orNone_9 rfl ?_
    exact e_ir rfl dX8_orNone_10 h
  · refine i_ldc (v := (-1000000005)) dX8_orNone_4 k_X8_70 ?_
    refine i_goto (tgt := 10) dX8_orNone_6 (by decide) ?_
    exact e_ir rfl dX8_orNone_10 h
def f_X8_within  (p0 : Int32) (p1 : Int32) (p2 : Int32) (σ : Mem) : Option Int32 :=
  (if p1 ≤ p0 then (if p0 ≤ p2 then (some p0) else (some p2)) else (some p1))
set_option maxRecDepth 100000 in
set_option maxHeartbeats 4000000 in
theorem F_X8_within {X : Cx} {p0 : Int32} {p1 : Int32} {p2 : Int32} {σ : Mem} {res : Int32}  (h : f_X8_within p0 p1 p2 σ = some res) : Tri X 1 mX8_within [.int p0, .int p1, .int p2] σ (some (.int res)) σ := by
  unfold f_X8_within at h
  refine Tri.of (ls := [some (.int p0), some (.int p1), some (.int p2)]) (by decide) (Nat.le_of_ble_eq_true rfl) rfl ?_
  refine i_iload_n dX8_within_0 rfl ?_
  refine i_iload_n dX8_within_1 rfl ?_
  refine r_icmp_ge (tgt := 9) dX8_within_2 (by decide) h (fun c1 h => ?_) (fun c1 h => ?_)
  · refine i_iload_n dX8_within_9 rfl ?_
    refine i_iload_n dX8_within_10 rfl ?_
    refine r_icmp_le (tgt := 18) dX8_within_11 (by decide) h (fun c2 h => ?_) (fun c2 h => ?_)
    · refine i_iload_n dX8_within_18 rfl ?_
      exact e_ir rfl dX8_within_19 h
    · refine i_iload_n dX8_within_14 rfl ?_
      refine i_goto (tgt := 19) dX8_within_15 (by decide) ?_
      exact e_ir rfl dX8_within_19 h
  · refine i_iload_n dX8_within_5 rfl ?_
    refine i_goto (tgt := 19) dX8_within_6 (by decide) ?_
    exact e_ir rfl dX8_within_19 h
def f_X8_off  (p0 : Int32) (p1 : Int32) (σ : Mem) : Option Int32 :=
  (if p1 ≤ p0 then (some (p0 - p1)) else (some (p1 - p0)))
set_option maxRecDepth 100000 in
set_option maxHeartbeats 4000000 in
theorem F_X8_off {X : Cx} {p0 : Int32} {p1 : Int32} {σ : Mem} {res : Int32}  (h : f_X8_off p0 p1 σ = some res) : Tri X 1 mX8_off [.int p0, .int p1] σ (some (.int res)) σ := by
  unfold f_X8_off at h
  refine Tri.of (ls := [some (.int p0), some (.int p1)]) (by decide) (Nat.le_of_ble_eq_true rfl) rfl ?_
  refine i_iload_n dX8_off_0 rfl ?_
  refine i_iload_n dX8_off_1 rfl ?_
  refine r_icmp_ge (tgt := 11) dX8_off_2 (by decide) h (fun c1 h => ?_) (fun c1 h => ?_)
  · refine i_iload_n dX8_off_11 rfl ?_
    refine i_iload_n dX8_off_12 rfl ?_
    refine i_isub dX8_off_13 ?_
    exact e_ir rfl dX8_off_14 h
  · refine i_iload_n dX8_off_5 rfl ?_
    refine i_iload_n dX8_off_6 rfl ?_
    refine i_isub dX8_off_7 ?_
    refine i_goto (tgt := 14) dX8_off_8 (by decide) ?_
    exact e_ir rfl dX8_off_14 h
def f_X8_becomes  (p1 : Int32) (p2 : Int32) (σ : Mem) : Option (Int32 × Mem) :=
  (bnd (ix 3108 p1) (fun j1 => (bnd (ix 3108 p1) (fun j2 => (some ((σ 22 0 j1), (mput σ 22 0 j2 p2)))))))
set_option maxRecDepth 100000 in
set_option maxHeartbeats 4000000 in
theorem F_X8_becomes {X : Cx} {p1 : Int32} {p2 : Int32} {σ : Mem} {res : (Int32 × Mem)}  (h : f_X8_becomes p1 p2 σ = some res) : Tri X 1 mX8_becomes [rf X 8 0, .int p1, .int p2] σ (some (.int res.1)) res.2 := by
  obtain ⟨r0, σ2⟩ := res
  unfold f_X8_becomes at h
  refine Tri.of (ls := [some (rf X 8 0), some (.int p1), some (.int p2), none]) (by decide) (Nat.le_of_ble_eq_true rfl) rfl ?_
  refine i_aload_n dX8_becomes_0 rfl ?_
  refine gf_X8_7 rfl (by omega) dX8_becomes_1 ?_
  refine i_iload_n dX8_becomes_4 rfl ?_
  refine al_22 dX8_becomes_5 (by omega) h (fun j1 lj1 h => ?_)
  refine i_istore_n (ls' := [some (rf X 8 0), some (.int p1), some (.int p2), some (.int (σ 22 0 j1))]) dX8_becomes_6 (by decide) (okp_at rfl) rfl ?_
  refine i_aload_n dX8_becomes_7 rfl ?_
  refine gf_X8_7 rfl (by omega) dX8_becomes_8 ?_
  refine i_iload_n dX8_becomes_11 rfl ?_
  refine i_iload_n dX8_becomes_12 rfl ?_
  refine as_22 dX8_becomes_13 (by omega) h (fun j2 lj2 h => ?_)
  refine i_iload_n dX8_becomes_14 rfl ?_
  exact e_iw rfl dX8_becomes_15 h
def f_X8_textAt  (p1 : Int32) (σ : Mem) : Option Int32 :=
  (some ((108 : Int32) + ((200 : Int32) * p1)))
set_option maxRecDepth 100000 in
set_option maxHeartbeats 4000000 in
theorem F_X8_textAt {X : Cx} {p1 : Int32} {σ : Mem} {res : Int32}  (h : f_X8_textAt p1 σ = some res) : Tri X 1 mX8_textAt [rf X 8 0, .int p1] σ (some (.int res)) σ := by
  unfold f_X8_textAt at h
  refine Tri.of (ls := [some (rf X 8 0), some (.int p1)]) (by decide) (Nat.le_of_ble_eq_true rfl) rfl ?_
  refine i_bipush (v := 108) dX8_textAt_0 (by decide) ?_
  refine i_sipush (v := 200) dX8_textAt_2 (by decide) ?_
  refine i_iload_n dX8_textAt_5 rfl ?_
  refine i_imul dX8_textAt_6 ?_
  refine i_iadd dX8_textAt_7 ?_
  exact e_ir rfl dX8_textAt_8 h
def f_X8_of  (p1 : Int32) (p2 : Int32) (σ : Mem) : Option Int32 :=
  (bnd (ix 3108 (((7 : Int32) + ((5 : Int32) * p1)) + p2)) (fun j1 => (some (σ 22 0 j1))))
set_option maxRecDepth 100000 in
set_option maxHeartbeats 4000000 in
theorem F_X8_of {X : Cx} {p1 : Int32} {p2 : Int32} {σ : Mem} {res : Int32}  (h : f_X8_of p1 p2 σ = some res) : Tri X 1 mX8_of [rf X 8 0, .int p1, .int p2] σ (some (.int res)) σ := by
  unfold f_X8_of at h
  refine Tri.of (ls := [some (rf X 8 0), some (.int p1), some (.int p2)]) (by decide) (Nat.le_of_ble_eq_true rfl) rfl ?_
  refine i_aload_n dX8_of_0 rfl ?_
  refine gf_X8_7 rfl (by omega) dX8_of_1 ?_
  refine i_bipush (v := 7) dX8_of_4 (by decide) ?_
  refine i_iconst (v := 5) dX8_of_6 (by decide) ?_
  refine i_iload_n dX8_of_7 rfl ?_
  refine i_imul dX8_of_8 ?_
  refine i_iadd dX8_of_9 ?_
  refine i_iload_n dX8_of_10 rfl ?_
  refine i_iadd dX8_of_11 ?_
  refine al_22 dX8_of_12 (by omega) h (fun j1 lj1 h => ?_)
  exact e_ir rfl dX8_of_13 h
def f_X8_sets  (p1 : Int32) (p2 : Int32) (p3 : Int32) (σ : Mem) : Option Mem :=
  (bnd (ix 3108 (((7 : Int32) + ((5 : Int32) * p1)) + p2)) (fun j1 => (some (mput σ 22 0 j1 p3))))
set_option maxRecDepth 100000 in
set_option maxHeartbeats 4000000 in
theorem F_X8_sets {X : Cx} {p1 : Int32} {p2 : Int32} {p3 : Int32} {σ : Mem} {res : Mem}  (h : f_X8_sets p1 p2 p3 σ = some res) : Tri X 1 mX8_sets [rf X 8 0, .int p1, .int p2, .int p3] σ none res := by
  unfold f_X8_sets at h
  refine Tri.of (ls := [some (rf X 8 0), some (.int p1), some (.int p2), some (.int p3)]) (by decide) (Nat.le_of_ble_eq_true rfl) rfl ?_
  refine i_aload_n dX8_sets_0 rfl ?_
  refine gf_X8_7 rfl (by omega) dX8_sets_1 ?_
  refine i_bipush (v := 7) dX8_sets_4 (by decide) ?_
  refine i_iconst (v := 5) dX8_sets_6 (by decide) ?_
  refine i_iload_n dX8_sets_7 rfl ?_
  refine i_imul dX8_sets_8 ?_
  refine i_iadd dX8_sets_9 ?_
  refine i_iload_n dX8_sets_10 rfl ?_
  refine i_iadd dX8_sets_11 ?_
  refine i_iload_n dX8_sets_12 rfl ?_
  refine as_22 dX8_sets_13 (by omega) h (fun j1 lj1 h => ?_)
  exact e_vw rfl dX8_sets_14 h
def f_X8_vowIs  (p1 : Int32) (p2 : Int32) (σ : Mem) : Option Int32 :=
  (bnd (ix 3108 (((57 : Int32) + ((3 : Int32) * p1)) + p2)) (fun j1 => (some (σ 22 0 j1))))
set_option maxRecDepth 100000 in
set_option maxHeartbeats 4000000 in
theorem F_X8_vowIs {X : Cx} {p1 : Int32} {p2 : Int32} {σ : Mem} {res : Int32}  (h : f_X8_vowIs p1 p2 σ = some res) : Tri X 1 mX8_vowIs [rf X 8 0, .int p1, .int p2] σ (some (.int res)) σ := by
  unfold f_X8_vowIs at h
  refine Tri.of (ls := [some (rf X 8 0), some (.int p1), some (.int p2)]) (by decide) (Nat.le_of_ble_eq_true rfl) rfl ?_
  refine i_aload_n dX8_vowIs_0 rfl ?_
  refine gf_X8_7 rfl (by omega) dX8_vowIs_1 ?_
  refine i_bipush (v := 57) dX8_vowIs_4 (by decide) ?_
  refine i_iconst (v := 3) dX8_vowIs_6 (by decide) ?_
  refine i_iload_n dX8_vowIs_7 rfl ?_
  refine i_imul dX8_vowIs_8 ?_
  refine i_iadd dX8_vowIs_9 ?_
  refine i_iload_n dX8_vowIs_10 rfl ?_
  refine i_iadd dX8_vowIs_11 ?_
  refine al_22 dX8_vowIs_12 (by omega) h (fun j1 lj1 h => ?_)
  exact e_ir rfl dX8_vowIs_13 h
def f_X8_isOne  (p1 : Int32) (σ : Mem) : Option Int32 :=
  (bnd (ix 3108 (0 : Int32)) (fun j1 => (bnd (f_X8_isIn ((p1).toInt64) ((0 : Int64)) ((((σ 22 0 j1) - (1 : Int32))).toInt64) σ) (fun a1 => (if isB a1 = true then (some a1) else none)))))
set_option maxRecDepth 100000 in
set_option maxHeartbeats 4000000 in
theorem F_X8_isOne {X : Cx} {p1 : Int32} {σ : Mem} {res : Int32}  (h : f_X8_isOne p1 σ = some res) : Tri X 2 mX8_isOne [rf X 8 0, .int p1] σ (some (.int res)) σ := by
  unfold f_X8_isOne at h
  refine Tri.of (ls := [some (rf X 8 0), some (.int p1)]) (by decide) (Nat.le_of_ble_eq_true rfl) rfl ?_
  refine i_iload_n dX8_isOne_0 rfl ?_
  refine i_i2l dX8_isOne_1 ?_
  refine i_lconst (v := 0) dX8_isOne_2 (by decide) ?_
  refine i_aload_n dX8_isOne_3 rfl ?_
  refine gf_X8_7 rfl (by omega) dX8_isOne_4 ?_
  refine i_iconst (v := 0) dX8_isOne_7 (by decide) ?_
  refine al_22 dX8_isOne_8 (by omega) h (fun j1 lj1 h => ?_)
  refine i_iconst (v := 1) dX8_isOne_9 (by decide) ?_
  refine i_isub dX8_isOne_10 ?_
  refine i_i2l dX8_isOne_11 ?_
  refine cS_ir dX8_isOne_12 cw_X8_71 ci_X8_isIn h (fun a1 e => F_X8_isIn  e) (Nat.le_of_ble_eq_true rfl) rfl rfl (Nat.le_of_ble_eq_true rfl) (fun a1 ea1 h => ?_)
  exact e_br rfl dX8_isOne_15 h
def f_X8_isVow  (p1 : Int32) (σ : Mem) : Option Int32 :=
  (bnd (ix 3108 (3 : Int32)) (fun j1 => (bnd (f_X8_isIn ((p1).toInt64) ((0 : Int64)) ((((σ 22 0 j1) - (1 : Int32))).toInt64) σ) (fun a1 => (if isB a1 = true then (some a1) else none)))))
set_option maxRecDepth 100000 in
set_option maxHeartbeats 4000000 in
theorem F_X8_isVow {X : Cx} {p1 : Int32} {σ : Mem} {res : Int32}  (h : f_X8_isVow p1 σ = some res) : Tri X 2 mX8_isVow [rf X 8 0, .int p1] σ (some (.int res)) σ := by
  unfold f_X8_isVow at h
  refine Tri.of (ls := [some (rf X 8 0), some (.int p1)]) (by decide) (Nat.le_of_ble_eq_true rfl) rfl ?_
  refine i_iload_n dX8_isVow_0 rfl ?_
  refine i_i2l dX8_isVow_1 ?_
  refine i_lconst (v := 0) dX8_isVow_2 (by decide) ?_
  refine i_aload_n dX8_isVow_3 rfl ?_
  refine gf_X8_7 rfl (by omega) dX8_isVow_4 ?_
  refine i_iconst (v := 3) dX8_isVow_7 (by decide) ?_
  refine al_22 dX8_isVow_8 (by omega) h (fun j1 lj1 h => ?_)
  refine i_iconst (v := 1) dX8_isVow_9 (by decide) ?_
  refine i_isub dX8_isVow_10 ?_
  refine i_i2l dX8_isVow_11 ?_
  refine cS_ir dX8_isVow_12 cw_X8_71 ci_X8_isIn h (fun a1 e => F_X8_isIn  e) (Nat.le_of_ble_eq_true rfl) rfl rfl (Nat.le_of_ble_eq_true rfl) (fun a1 ea1 h => ?_)
  exact e_br rfl dX8_isVow_15 h
def f_X8_isText  (p1 : Int32) (σ : Mem) : Option Int32 :=
  (bnd (ix 3108 (1 : Int32)) (fun j1 => (bnd (f_X8_isIn ((p1).toInt64) ((0 : Int64)) ((((σ 22 0 j1) - (1 : Int32))).toInt64) σ) (fun a1 => (if isB a1 = true then (some a1) else none)))))
set_option maxRecDepth 100000 in
set_option maxHeartbeats 4000000 in
theorem F_X8_isText {X : Cx} {p1 : Int32} {σ : Mem} {res : Int32}  (h : f_X8_isText p1 σ = some res) : Tri X 2 mX8_isText [rf X 8 0, .int p1] σ (some (.int res)) σ := by
  unfold f_X8_isText at h
  refine Tri.of (ls := [some (rf X 8 0), some (.int p1)]) (by decide) (Nat.le_of_ble_eq_true rfl) rfl ?_
  refine i_iload_n dX8_isText_0 rfl ?_
  refine i_i2l dX8_isText_1 ?_
  refine i_lconst (v := 0) dX8_isText_2 (by decide) ?_
  refine i_aload_n dX8_isText_3 rfl ?_
  refine gf_X8_7 rfl (by omega) dX8_isText_4 ?_
  refine i_iconst (v := 1) dX8_isText_7 (by decide) ?_
  refine al_22 dX8_isText_8 (by omega) h (fun j1 lj1 h => ?_)
  refine i_iconst (v := 1) dX8_isText_9 (by decide) ?_
  refine i_isub dX8_isText_10 ?_
  refine i_i2l dX8_isText_11 ?_
  refine cS_ir dX8_isText_12 cw_X8_71 ci_X8_isIn h (fun a1 e => F_X8_isIn  e) (Nat.le_of_ble_eq_true rfl) rfl rfl (Nat.le_of_ble_eq_true rfl) (fun a1 ea1 h => ?_)
  exact e_br rfl dX8_isText_15 h
def f_X8_drawn   (σ : Mem) : Option (Int32 × Mem) :=
  (bnd (ix 3108 (6 : Int32)) (fun j1 => (bnd (ix 3108 (6 : Int32)) (fun j2 => (bnd (ix 3108 (6 : Int32)) (fun j3 => (some ((((((mput σ 22 0 j2 (((σ 22 0 j1) * (1103515245 : Int32)) + (12345 : Int32))) 22 0 j3)).toUInt32 >>> (((8 : Int32)).toUInt32 &&& Int32.toUInt32 31)).toInt32), (mput σ 22 0 j2 (((σ 22 0 j1) * (1103515245 : Int32)) + (12345 : Int32)))))))))))
set_option maxRecDepth 100000 in
set_option maxHeartbeats 4000000 in
theorem F_X8_drawn {X : Cx}  {σ : Mem} {res : (Int32 × Mem)}  (h : f_X8_drawn σ = some res) : Tri X 1 mX8_drawn [rf X 8 0] σ (some (.int res.1)) res.2 := by
  obtain ⟨r0, σ2⟩ := res
  unfold f_X8_drawn at h
  refine Tri.of (ls := [some (rf X 8 0)]) (by decide) (Nat.le_of_ble_eq_true rfl) rfl ?_
  refine i_aload_n dX8_drawn_0 rfl ?_
  refine gf_X8_7 rfl (by omega) dX8_drawn_1 ?_
  refine i_bipush (v := 6) dX8_drawn_4 (by decide) ?_
  refine i_aload_n dX8_drawn_6 rfl ?_
  refine gf_X8_7 rfl (by omega) dX8_drawn_7 ?_
  refine i_bipush (v := 6) dX8_drawn_10 (by decide) ?_
  refine al_22 dX8_drawn_12 (by omega) h (fun j1 lj1 h => ?_)
  refine i_ldc (v := 1103515245) dX8_drawn_13 k_X8_75 ?_
  refine i_imul dX8_drawn_15 ?_
  refine i_sipush (v := 12345) dX8_drawn_16 (by decide) ?_
  refine i_iadd dX8_drawn_19 ?_
  refine as_22 dX8_drawn_20 (by omega) h (fun j2 lj2 h => ?_)
  refine i_aload_n dX8_drawn_21 rfl ?_
  refine gf_X8_7 rfl (by omega) dX8_drawn_22 ?_
  refine i_bipush (v := 6) dX8_drawn_25 (by decide) ?_
  refine al_22 dX8_drawn_27 (by omega) h (fun j3 lj3 h => ?_)
  refine i_bipush (v := 8) dX8_drawn_28 (by decide) ?_
  refine i_iushr dX8_drawn_30 ?_
  exact e_iw rfl dX8_drawn_31 h
def f_X8_comes  (p1 : Int32) (p2 : Int32) (p3 : Int32) (σ : Mem) : Option Mem :=
  (bnd (ix 3108 (0 : Int32)) (fun j1 => (bnd (ix 3108 (0 : Int32)) (fun j2 => (bnd (ix 3108 (0 : Int32)) (fun j3 => (bnd (f_X8_sets (σ 22 0 j1) (0 : Int32) p1 (mput σ 22 0 j3 ((σ 22 0 j2) + (1 : Int32)))) (fun a1 => (bnd (f_X8_sets (σ 22 0 j1) (1 : Int32) p2 a1) (fun a2 => (bnd (f_X8_sets (σ 22 0 j1) (2 : Int32) p3 a2) (fun a3 => (bnd (f_X8_sets (σ 22 0 j1) (3 : Int32) (0 : Int32) a3) (fun a4 => (bnd (f_X8_sets (σ 22 0 j1) (4 : Int32) (-1 : Int32) a4) (fun a5 => (some a5)))))))))))))))))
set_option maxRecDepth 100000 in
set_option maxHeartbeats 4000000 in
theorem F_X8_comes {X : Cx} {p1 : Int32} {p2 : Int32} {p3 : Int32} {σ : Mem} {res : Mem}  (h : f_X8_comes p1 p2 p3 σ = some res) : Tri X 2 mX8_comes [rf X 8 0, .int p1, .int p2, .int p3] σ none res := by
  unfold f_X8_comes at h
  refine Tri.of (ls := [some (rf X 8 0), some (.int p1), some (.int p2), some (.int p3), none]) (by decide) (Nat.le_of_ble_eq_true rfl) rfl ?_
  refine i_aload_n dX8_comes_0 rfl ?_
  refine gf_X8_7 rfl (by omega) dX8_comes_1 ?_
  refine i_iconst (v := 0) dX8_comes_4 (by decide) ?_
  refine al_22 dX8_comes_5 (by omega) h (fun j1 lj1 h => ?_)
  refine i_istore (ls' := [some (rf X 8 0), some (.int p1), some (.int p2), some (.int p3), some (.int (σ 22 0 j1))]) dX8_comes_6 (by decide) (okp_at rfl) rfl ?_
  refine i_aload_n dX8_comes_8 rfl ?_
  refine gf_X8_7 rfl (by omega) dX8_comes_9 ?_
  refine i_iconst (v := 0) dX8_comes_12 (by decide) ?_
  refine i_dup2 dX8_comes_13 rfl rfl ?_
  refine al_22 dX8_comes_14 (by omega) h (fun j2 lj2 h => ?_)
  refine i_iconst (v := 1) dX8_comes_15 (by decide) ?_
  refine i_iadd dX8_comes_16 ?_
  refine as_22 dX8_comes_17 (by omega) h (fun j3 lj3 h => ?_)
  refine i_aload_n dX8_comes_18 rfl ?_
  refine i_iload dX8_comes_19 rfl ?_
  refine i_iconst (v := 0) dX8_comes_21 (by decide) ?_
  refine i_iload_n dX8_comes_22 rfl ?_
  refine cV_vw dX8_comes_23 cw_X8_76 ci_X8_sets rfl rfl (by decide) (show 0 < 1 by omega) h (fun a1 e => F_X8_sets  e) (Nat.le_of_ble_eq_true rfl) rfl rfl (Nat.le_of_ble_eq_true rfl) (fun a1 ea1 h => ?_)
  refine i_aload_n dX8_comes_26 rfl ?_
  refine i_iload dX8_comes_27 rfl ?_
  refine i_iconst (v := 1) dX8_comes_29 (by decide) ?_
  refine i_iload_n dX8_comes_30 rfl ?_
  refine cV_vw dX8_comes_31 cw_X8_76 ci_X8_sets rfl rfl (by decide) (show 0 < 1 by omega) h (fun a2 e => F_X8_sets  e) (Nat.le_of_ble_eq_true rfl) rfl rfl (Nat.le_of_ble_eq_true rfl) (fun a2 ea2 h => ?_)
  refine i_aload_n dX8_comes_34 rfl ?_
  refine i_iload dX8_comes_35 rfl ?_
  refine i_iconst (v := 2) dX8_comes_37 (by decide) ?_
  refine i_iload_n dX8_comes_38 rfl ?_
  refine cV_vw dX8_comes_39 cw_X8_76 ci_X8_sets rfl rfl (by decide) (show 0 < 1 by omega) h (fun a3 e => F_X8_sets  e) (Nat.le_of_ble_eq_true rfl) rfl rfl (Nat.le_of_ble_eq_true rfl) (fun a3 ea3 h => ?_)
  refine i_aload_n dX8_comes_42 rfl ?_
  refine i_iload dX8_comes_43 rfl ?_
  refine i_iconst (v := 3) dX8_comes_45 (by decide) ?_
  refine i_iconst (v := 0) dX8_comes_46 (by decide) ?_
  refine cV_vw dX8_comes_47 cw_X8_76 ci_X8_sets rfl rfl (by decide) (show 0 < 1 by omega) h (fun a4 e => F_X8_sets  e) (Nat.le_of_ble_eq_true rfl) rfl rfl (Nat.le_of_ble_eq_true rfl) (fun a4 ea4 h => ?_)
  refine i_aload_n dX8_comes_50 rfl ?_
  refine i_iload dX8_comes_51 rfl ?_
  refine i_iconst (v := 4) dX8_comes_53 (by decide) ?_
  refine i_iconst (v := (-1)) dX8_comes_54 (by decide) ?_
  refine cV_vw dX8_comes_55 cw_X8_76 ci_X8_sets rfl rfl (by decide) (show 0 < 1 by omega) h (fun a5 e => F_X8_sets  e) (Nat.le_of_ble_eq_true rfl) rfl rfl (Nat.le_of_ble_eq_true rfl) (fun a5 ea5 h => ?_)
  exact e_vw rfl dX8_comes_58 h
def f_X8_person  (p1 : Int32) (p2 : Int32) (p3 : Int32) (σ : Mem) : Option (Int32 × Mem) :=
  (bnd (f_X8_isIn ((p1).toInt64) ((0 : Int64)) ((5 : Int64)) σ) (fun a1 => (if a1 = 0 then (some ((-1000000001 : Int32), σ)) else (bnd (f_X8_isIn ((p2).toInt64) ((0 : Int64)) ((23 : Int64)) σ) (fun a2 => (if a2 = 0 then (some ((-1000000001 : Int32), σ)) else (bnd (f_X8_isIn ((p3).toInt64) ((0 : Int64)) ((99 : Int64)) σ) (fun a3 => (if a3 = 0 then (some ((-1000000001 : Int32), σ)) else (bnd (ix 3108 (0 : Int32)) (fun j1 => (if (σ 22 0 j1) = (10 : Int32) then (some ((-1000000003 : Int32), σ)) else (bnd (f_X8_comes p1 p2 p3 σ) (fun a4 => (bnd (ix 3108 (0 : Int32)) (fun j2 => (some (((a4 22 0 j2) - (1 : Int32)), a4))))))))))))))))))
set_option maxRecDepth 100000 in
set_option maxHeartbeats 4000000 in
theorem F_X8_person {X : Cx} {p1 : Int32} {p2 : Int32} {p3 : Int32} {σ : Mem} {res : (Int32 × Mem)}  (h : f_X8_person p1 p2 p3 σ = some res) : Tri X 3 mX8_person [rf X 8 0, .int p1, .int p2, .int p3] σ (some (.int res.1)) res.2 := by
  obtain ⟨r0, σ2⟩ := res
  unfold f_X8_person at h
  refine Tri.of (ls := [some (rf X 8 0), some (.int p1), some (.int p2), some (.int p3)]) (by decide) (Nat.le_of_ble_eq_true rfl) rfl ?_
  refine i_iload_n dX8_person_0 rfl ?_
  refine i_i2l dX8_person_1 ?_
  refine i_lconst (v := 0) dX8_person_2 (by decide) ?_
  refine i_ldc2 (v := 5) dX8_person_3 k_X8_80 ?_
  refine cS_ir dX8_person_6 cw_X8_71 ci_X8_isIn h (fun a1 e => F_X8_isIn  e) (Nat.le_of_ble_eq_true rfl) rfl rfl (Nat.le_of_ble_eq_true rfl) (fun a1 ea1 h => ?_)
  refine r_if_eq (tgt := 36) dX8_person_9 (by decide) h (fun c1 h => ?_) (fun c1 h => ?_)
  · refine i_ldc (v := (-1000000001)) dX8_person_36 k_X8_86 ?_
    exact e_iw rfl dX8_person_38 h
  · refine i_iload_n dX8_person_12 rfl ?_
    refine i_i2l dX8_person_13 ?_
    refine i_lconst (v := 0) dX8_person_14 (by decide) ?_
    refine i_ldc2 (v := 23) dX8_person_15 k_X8_82 ?_
    refine cS_ir dX8_person_18 cw_X8_71 ci_X8_isIn h (fun a2 e => F_X8_isIn  e) (Nat.le_of_ble_eq_true rfl) rfl rfl (Nat.le_of_ble_eq_true rfl) (fun a2 ea2 h => ?_)
    refine r_if_eq (tgt := 36) dX8_person_21 (by decide) h (fun c2 h => ?_) (fun c2 h => ?_)
    · refine i_ldc (v := (-1000000001)) dX8_person_36 k_X8_86 ?_
      exact e_iw rfl dX8_person_38 h
    · refine i_iload_n dX8_person_24 rfl ?_
      refine i_i2l dX8_person_25 ?_
      refine i_lconst (v := 0) dX8_person_26 (by decide) ?_
      refine i_ldc2 (v := 99) dX8_person_27 k_X8_84 ?_
      refine cS_ir dX8_person_30 cw_X8_71 ci_X8_isIn h (fun a3 e => F_X8_isIn  e) (Nat.le_of_ble_eq_true rfl) rfl rfl (Nat.le_of_ble_eq_true rfl) (fun a3 ea3 h => ?_)
      refine r_if_ne (tgt := 39) dX8_person_33 (by decide) h (fun c3 h => ?_) (fun c3 h => ?_)
      · refine i_aload_n dX8_person_39 rfl ?_
        refine gf_X8_7 rfl (by omega) dX8_person_40 ?_
        refine i_iconst (v := 0) dX8_person_43 (by decide) ?_
        refine al_22 dX8_person_44 (by omega) h (fun j1 lj1 h => ?_)
        refine i_bipush (v := 10) dX8_person_45 (by decide) ?_
        refine r_icmp_ne (tgt := 53) dX8_person_47 (by decide) h (fun c4 h => ?_) (fun c4 h => ?_)
        · refine i_aload_n dX8_person_53 rfl ?_
          refine i_iload_n dX8_person_54 rfl ?_
          refine i_iload_n dX8_person_55 rfl ?_
          refine i_iload_n dX8_person_56 rfl ?_
          refine cV_vw dX8_person_57 cw_X8_88 ci_X8_comes rfl rfl (by decide) (show 0 < 1 by omega) h (fun a4 e => F_X8_comes  e) (Nat.le_of_ble_eq_true rfl) rfl rfl (Nat.le_of_ble_eq_true rfl) (fun a4 ea4 h => ?_)
          refine i_aload_n dX8_person_60 rfl ?_
          refine gf_X8_7 rfl (by omega) dX8_person_61 ?_
          refine i_iconst (v := 0) dX8_person_64 (by decide) ?_
          refine al_22 dX8_person_65 (by omega) h (fun j2 lj2 h => ?_)
          refine i_iconst (v := 1) dX8_person_66 (by decide) ?_
          refine i_isub dX8_person_67 ?_
          exact e_iw rfl dX8_person_68 h
        · refine i_ldc (v := (-1000000003)) dX8_person_50 k_X8_87 ?_
          exact e_iw rfl dX8_person_52 h
      · refine i_ldc (v := (-1000000001)) dX8_person_36 k_X8_86 ?_
        exact e_iw rfl dX8_person_38 h
def f_X8_manyBy_5 (p1 : Int32) (p2 : Int32) (σ : Mem) : Nat → Int32 → Int32 → (Int32 → Option Int32) → Option Int32
  | 0, _, _, _ => none
  | n + 1, v3, v4, k =>
    (bnd (ix 3108 (3 : Int32)) (fun j1 => (if (σ 22 0 j1) ≤ v4 then (k v3) else (bnd (f_X8_vowIs v4 p2 σ) (fun a1 => (if a1 = p1 then (f_X8_manyBy_5 p1 p2 σ n (v3 + (1 : Int32)) (v4 + (1 : Int32)) k) else (f_X8_manyBy_5 p1 p2 σ n (v3 + (0 : Int32)) (v4 + (1 : Int32)) k)))))))
set_option maxRecDepth 100000 in
set_option maxHeartbeats 4000000 in
theorem L_X8_manyBy_5 {X : Cx} {p1 : Int32} {p2 : Int32} {σ : Mem} {r0 : Int32} {k : Int32 → Option Int32}  : ∀ (n : Nat) (v3 : Int32) (v4 : Int32), f_X8_manyBy_5 p1 p2 σ n v3 v4 k = some r0 → (∀ (x3 : Int32), k x3 = some r0 → At X 2 mX8_manyBy 41 [none, none, none, some (.int x3), none] [] σ (some (.int r0)) σ) → At X 2 mX8_manyBy 5 [some (rf X 8 0), some (.int p1), some (.int p2), some (.int v3), some (.int v4)] [] σ (some (.int r0)) σ := by
  intro n
  induction n with
  | zero =>
    intro v3 v4 h
    cases h
  | succ n ih =>
    intro v3 v4 h hk
    rw [f_X8_manyBy_5.eq_2] at h
    refine i_iload dX8_manyBy_5 rfl ?_
    refine i_aload_n dX8_manyBy_7 rfl ?_
    refine gf_X8_7 rfl (by omega) dX8_manyBy_8 ?_
    refine i_iconst (v := 3) dX8_manyBy_11 (by decide) ?_
    refine al_22 dX8_manyBy_12 (by omega) h (fun j1 lj1 h => ?_)
    refine r_icmp_ge (tgt := 41) dX8_manyBy_13 (by decide) h (fun c1 h => ?_) (fun c1 h => ?_)
    · refine At.fewer (ls' := [none, none, none, some (.int v3), none]) (And.intro rfl trivial) ?_
      exact hk _ h
    · refine i_iload_n dX8_manyBy_16 rfl ?_
      refine i_aload_n dX8_manyBy_17 rfl ?_
      refine i_iload dX8_manyBy_18 rfl ?_
      refine i_iload_n dX8_manyBy_20 rfl ?_
      refine cV_ir dX8_manyBy_21 cw_X8_91 ci_X8_vowIs rfl rfl (by decide) (show 0 < 1 by omega) h (fun a1 e => F_X8_vowIs  e) (Nat.le_of_ble_eq_true rfl) rfl rfl (Nat.le_of_ble_eq_true rfl) (fun a1 ea1 h => ?_)
      refine i_iload_n dX8_manyBy_24 rfl ?_
      refine r_icmp_ne (tgt := 32) dX8_manyBy_25 (by decide) h (fun c2 h => ?_) (fun c2 h => ?_)
      · refine i_iconst (v := 0) dX8_manyBy_32 (by decide) ?_
        refine i_iadd dX8_manyBy_33 ?_
        refine i_istore_n (ls' := [some (rf X 8 0), some (.int p1), some (.int p2), some (.int (v3 + (0 : Int32))), some (.int v4)]) dX8_manyBy_34 (by decide) (okp_at rfl) rfl ?_
        refine i_iinc (v := (v4 + (1 : Int32))) (ls' := [some (rf X 8 0), some (.int p1), some (.int p2), some (.int (v3 + (0 : Int32))), some (.int (v4 + (1 : Int32)))]) dX8_manyBy_35 rfl (by rfl) (by decide) (okp_at rfl) rfl ?_
        refine i_goto (tgt := 5) dX8_manyBy_38 (by decide) ?_
        exact ih _ _ h hk
      · refine i_iconst (v := 1) dX8_manyBy_28 (by decide) ?_
        refine i_goto (tgt := 33) dX8_manyBy_29 (by decide) ?_
        refine i_iadd dX8_manyBy_33 ?_
        refine i_istore_n (ls' := [some (rf X 8 0), some (.int p1), some (.int p2), some (.int (v3 + (1 : Int32))), some (.int v4)]) dX8_manyBy_34 (by decide) (okp_at rfl) rfl ?_
        refine i_iinc (v := (v4 + (1 : Int32))) (ls' := [some (rf X 8 0), some (.int p1), some (.int p2), some (.int (v3 + (1 : Int32))), some (.int (v4 + (1 : Int32)))]) dX8_manyBy_35 rfl (by rfl) (by decide) (okp_at rfl) rfl ?_
        refine i_goto (tgt := 5) dX8_manyBy_38 (by decide) ?_
        exact ih _ _ h hk
def f_X8_manyBy  (p1 : Int32) (p2 : Int32) (σ : Mem) : Option Int32 :=
  (f_X8_manyBy_5 p1 p2 σ FU (0 : Int32) (0 : Int32) (fun e1 => (some e1)))
set_option maxRecDepth 100000 in
set_option maxHeartbeats 4000000 in
theorem F_X8_manyBy {X : Cx} {p1 : Int32} {p2 : Int32} {σ : Mem} {res : Int32}  (h : f_X8_manyBy p1 p2 σ = some res) : Tri X 2 mX8_manyBy [rf X 8 0, .int p1, .int p2] σ (some (.int res)) σ := by
  unfold f_X8_manyBy at h
  refine Tri.of (ls := [some (rf X 8 0), some (.int p1), some (.int p2), none, none]) (by decide) (Nat.le_of_ble_eq_true rfl) rfl ?_
  refine i_iconst (v := 0) dX8_manyBy_0 (by decide) ?_
  refine i_istore_n (ls' := [some (rf X 8 0), some (.int p1), some (.int p2), some (.int (0 : Int32)), none]) dX8_manyBy_1 (by decide) (okp_at rfl) rfl ?_
  refine i_iconst (v := 0) dX8_manyBy_2 (by decide) ?_
  refine i_istore (ls' := [some (rf X 8 0), some (.int p1), some (.int p2), some (.int (0 : Int32)), some (.int (0 : Int32))]) dX8_manyBy_3 (by decide) (okp_at rfl) rfl ?_
  refine L_X8_manyBy_5  FU _ _ h (fun e1 h => ?_)
  refine i_iload_n dX8_manyBy_41 rfl ?_
  exact e_ir rfl dX8_manyBy_42 h
def f_X8_counts_4 (p1 : Int32) (σ : Mem) : Nat → Int32 → Int32 → (Int32 → Option Int32) → Option Int32
  | 0, _, _, _ => none
  | n + 1, v2, v3, k =>
    (bnd (ix 3108 (1 : Int32)) (fun j1 => (if (σ 22 0 j1) ≤ v3 then (k v2) else (bnd (f_X8_textAt v3 σ) (fun a1 => (bnd (ix 3108 a1) (fun j2 => (if (σ 22 0 j2) = p1 then (f_X8_counts_4 p1 σ n v3 (v3 + (1 : Int32)) k) else (f_X8_counts_4 p1 σ n v2 (v3 + (1 : Int32)) k)))))))))
set_option maxRecDepth 100000 in
set_option maxHeartbeats 4000000 in
theorem L_X8_counts_4 {X : Cx} {p1 : Int32} {σ : Mem} {r0 : Int32} {k : Int32 → Option Int32}  : ∀ (n : Nat) (v2 : Int32) (v3 : Int32), f_X8_counts_4 p1 σ n v2 v3 k = some r0 → (∀ (x2 : Int32), k x2 = some r0 → At X 2 mX8_counts 40 [none, none, some (.int x2), none] [] σ (some (.int r0)) σ) → At X 2 mX8_counts 4 [some (rf X 8 0), some (.int p1), some (.int v2), some (.int v3)] [] σ (some (.int r0)) σ := by
  intro n
  induction n with
  | zero =>
    intro v2 v3 h
    cases h
  | succ n ih =>
    intro v2 v3 h hk
    rw [f_X8_counts_4.eq_2] at h
    refine i_iload_n dX8_counts_4 rfl ?_
    refine i_aload_n dX8_counts_5 rfl ?_
    refine gf_X8_7 rfl (by omega) dX8_counts_6 ?_
    refine i_iconst (v := 1) dX8_counts_9 (by decide) ?_
    refine al_22 dX8_counts_10 (by omega) h (fun j1 lj1 h => ?_)
    refine r_icmp_ge (tgt := 40) dX8_counts_11 (by decide) h (fun c1 h => ?_) (fun c1 h => ?_)
    · refine At.fewer (ls' := [none, none, some (.int v2), none]) (And.intro rfl trivial) ?_
      exact hk _ h
    · refine i_aload_n dX8_counts_14 rfl ?_
      refine gf_X8_7 rfl (by omega) dX8_counts_15 ?_
      refine i_aload_n dX8_counts_18 rfl ?_
      refine i_iload_n dX8_counts_19 rfl ?_
      refine cV_ir dX8_counts_20 cw_X8_283 ci_X8_textAt rfl rfl (by decide) (show 0 < 1 by omega) h (fun a1 e => F_X8_textAt  e) (Nat.le_of_ble_eq_true rfl) rfl rfl (Nat.le_of_ble_eq_true rfl) (fun a1 ea1 h => ?_)
      refine al_22 dX8_counts_23 (by omega) h (fun j2 lj2 h => ?_)
      refine i_iload_n dX8_counts_24 rfl ?_
      refine r_icmp_ne (tgt := 32) dX8_counts_25 (by decide) h (fun c2 h => ?_) (fun c2 h => ?_)
      · refine i_iload_n dX8_counts_32 rfl ?_
        refine i_istore_n (ls' := [some (rf X 8 0), some (.int p1), some (.int v2), some (.int v3)]) dX8_counts_33 (by decide) (okp_at rfl) rfl ?_
        refine i_iinc (v := (v3 + (1 : Int32))) (ls' := [some (rf X 8 0), some (.int p1), some (.int v2), some (.int (v3 + (1 : Int32)))]) dX8_counts_34 rfl (by rfl) (by decide) (okp_at rfl) rfl ?_
        refine i_goto (tgt := 4) dX8_counts_37 (by decide) ?_
        exact ih _ _ h hk
      · refine i_iload_n dX8_counts_28 rfl ?_
        refine i_goto (tgt := 33) dX8_counts_29 (by decide) ?_
        refine i_istore_n (ls' := [some (rf X 8 0), some (.int p1), some (.int v3), some (.int v3)]) dX8_counts_33 (by decide) (okp_at rfl) rfl ?_
        refine i_iinc (v := (v3 + (1 : Int32))) (ls' := [some (rf X 8 0), some (.int p1), some (.int v3), some (.int (v3 + (1 : Int32)))]) dX8_counts_34 rfl (by rfl) (by decide) (okp_at rfl) rfl ?_
        refine i_goto (tgt := 4) dX8_counts_37 (by decide) ?_
        exact ih _ _ h hk
def f_X8_counts  (p1 : Int32) (σ : Mem) : Option Int32 :=
  (f_X8_counts_4 p1 σ FU (-1 : Int32) (0 : Int32) (fun e1 => (some e1)))
set_option maxRecDepth 100000 in
set_option maxHeartbeats 4000000 in
theorem F_X8_counts {X : Cx} {p1 : Int32} {σ : Mem} {res : Int32}  (h : f_X8_counts p1 σ = some res) : Tri X 2 mX8_counts [rf X 8 0, .int p1] σ (some (.int res)) σ := by
  unfold f_X8_counts at h
  refine Tri.of (ls := [some (rf X 8 0), some (.int p1), none, none]) (by decide) (Nat.le_of_ble_eq_true rfl) rfl ?_
  refine i_iconst (v := (-1)) dX8_counts_0 (by decide) ?_
  refine i_istore_n (ls' := [some (rf X 8 0), some (.int p1), some (.int (-1 : Int32)), none]) dX8_counts_1 (by decide) (okp_at rfl) rfl ?_
  refine i_iconst (v := 0) dX8_counts_2 (by decide) ?_
  refine i_istore_n (ls' := [some (rf X 8 0), some (.int p1), some (.int (-1 : Int32)), some (.int (0 : Int32))]) dX8_counts_3 (by decide) (okp_at rfl) rfl ?_
  refine L_X8_counts_4  FU _ _ h (fun e1 h => ?_)
  refine i_iload_n dX8_counts_40 rfl ?_
  exact e_ir rfl dX8_counts_41 h
def f_X8_joined  (p0 : Int32) (p1 : Int32) (p2 : Int32) (σ : Mem) : Option Int32 :=
  (if p0 = (38 : Int32) then (if p1 = 0 then (some (0 : Int32)) else (if p2 = 0 then (some (0 : Int32)) else (some (1 : Int32)))) else (if p0 = (39 : Int32) then (if p1 = 0 then (if p2 = 0 then (some (0 : Int32)) else (some (1 : Int32))) else (some (1 : Int32))) else (if p0 = (40 : Int32) then (if p1 = 0 then (if p2 = 0 then (some (0 : Int32)) else (some (1 : Int32))) else (some (1 : Int32))) else (if p0 = (41 : Int32) then (if p1 = 0 then (if p2 = 0 then (some (0 : Int32)) else (some (1 : Int32))) else (some (1 : Int32))) else (if p0 = (42 : Int32) then (some (p1 * p2)) else (if p0 = (43 : Int32) then (some (p1 + p2)) else (if p0 = (44 : Int32) then (if p1 = 0 then (if p2 = 0 then (some (0 : Int32)) else (some (1 : Int32))) else (some (1 : Int32))) else (if p0 = (45 : Int32) then (some (p1 - p2)) else (if p0 = (46 : Int32) then (if p1 = 0 then (if p2 = 0 then (some (0 : Int32)) else (some (1 : Int32))) else (some (1 : Int32))) else (if p0 = (47 : Int32) then (if p2 = 0 then (some (0 : Int32)) else (if p2 = (-1 : Int32) then (some (-p1)) else (if p2 = 0 then none else (some (p1 / p2))))) else (if p0 = (48 : Int32) then (if p1 = 0 then (if p2 = 0 then (some (0 : Int32)) else (some (1 : Int32))) else (some (1 : Int32))) else (if p0 = (49 : Int32) then (if p1 = 0 then (if p2 = 0 then (some (0 : Int32)) else (some (1 : Int32))) else (some (1 : Int32))) else (if p0 = (50 : Int32) then (if p1 = 0 then (if p2 = 0 then (some (0 : Int32)) else (some (1 : Int32))) else (some (1 : Int32))) else (if p0 = (51 : Int32) then (if p1 = 0 then (if p2 = 0 then (some (0 : Int32)) else (some (1 : Int32))) else (some (1 : Int32))) else (if p0 = (52 : Int32) then (if p1 = 0 then (if p2 = 0 then (some (0 : Int32)) else (some (1 : Int32))) else (some (1 : Int32))) else (if p0 = (53 : Int32) then (if p1 = 0 then (if p2 = 0 then (some (0 : Int32)) else (some (1 : Int32))) else (some (1 : Int32))) else (if p0 = (54 : Int32) then (if p1 = 0 then (if p2 = 0 then (some (0 : Int32)) else (some (1 : Int32))) else (some (1 : Int32))) else (if p0 = (55 : Int32) then (if p1 = 0 then (if p2 = 0 then (some (0 : Int32)) else (some (1 : Int32))) else (some (1 : Int32))) else (if p0 = (56 : Int32) then (if p1 = 0 then (if p2 = 0 then (some (0 : Int32)) else (some (1 : Int32))) else (some (1 : Int32))) else (if p0 = (57 : Int32) then (if p1 = 0 then (if p2 = 0 then (some (0 : Int32)) else (some (1 : Int32))) else (some (1 : Int32))) else (if p0 = (58 : Int32) then (if p1 = 0 then (if p2 = 0 then (some (0 : Int32)) else (some (1 : Int32))) else (some (1 : Int32))) else (if p0 = (59 : Int32) then (if p1 = 0 then (if p2 = 0 then (some (0 : Int32)) else (some (1 : Int32))) else (some (1 : Int32))) else (if p0 = (60 : Int32) then (if p2 ≤ p1 then (some (0 : Int32)) else (some (1 : Int32))) else (if p0 = (61 : Int32) then (if p1 = p2 then (some (1 : Int32)) else (some (0 : Int32))) else (if p0 = (62 : Int32) then (if p1 ≤ p2 then (some (0 : Int32)) else (some (1 : Int32))) else (if p1 = 0 then (if p2 = 0 then (some (0 : Int32)) else (some (1 : Int32))) else (some (1 : Int32))))))))))))))))))))))))))))
set_option maxRecDepth 100000 in
set_option maxHeartbeats 4000000 in
theorem F_X8_joined {X : Cx} {p0 : Int32} {p1 : Int32} {p2 : Int32} {σ : Mem} {res : Int32}  (h : f_X8_joined p0 p1 p2 σ = some res) : Tri X 1 mX8_joined [.int p0, .int p1, .int p2] σ (some (.int res)) σ := by
  unfold f_X8_joined at h
  refine Tri.of (ls := [some (.int p0), some (.int p1), some (.int p2)]) (by decide) (Nat.le_of_ble_eq_true rfl) rfl ?_
  refine i_iload_n dX8_joined_0 rfl ?_
  refine r_case (c := p0 = (38 : Int32)) h (fun c1 h => ?_) (fun c1 h => ?_)
  · refine i_tin (tgt := 183) (off := 182) dX8_joined_1 (38 : Int32) c1 (by decide) (by decide) (by decide) (by decide) ?_
    refine i_iload_n dX8_joined_183 rfl ?_
    refine r_if_eq (tgt := 195) dX8_joined_184 (by decide) h (fun c2 h => ?_) (fun c2 h => ?_)
    · refine i_iconst (v := 0) dX8_joined_195 (by decide) ?_
      exact e_ir rfl dX8_joined_196 h
    · refine i_iload_n dX8_joined_187 rfl ?_
      refine r_if_eq (tgt := 195) dX8_joined_188 (by decide) h (fun c3 h => ?_) (fun c3 h => ?_)
      · refine i_iconst (v := 0) dX8_joined_195 (by decide) ?_
        exact e_ir rfl dX8_joined_196 h
      · refine i_iconst (v := 1) dX8_joined_191 (by decide) ?_
        refine i_goto (tgt := 196) dX8_joined_192 (by decide) ?_
        exact e_ir rfl dX8_joined_196 h
  · refine r_case (c := p0 = (39 : Int32)) h (fun c4 h => ?_) (fun c4 h => ?_)
    · refine i_tin (tgt := 197) (off := 196) dX8_joined_1 (39 : Int32) c4 (by decide) (by decide) (by decide) (by decide) ?_
      refine i_iload_n dX8_joined_197 rfl ?_
      refine r_if_ne (tgt := 205) dX8_joined_198 (by decide) h (fun c5 h => ?_) (fun c5 h => ?_)
      · refine i_iconst (v := 1) dX8_joined_205 (by decide) ?_
        refine i_goto (tgt := 210) dX8_joined_206 (by decide) ?_
        exact e_ir rfl dX8_joined_210 h
      · refine i_iload_n dX8_joined_201 rfl ?_
        refine r_if_eq (tgt := 209) dX8_joined_202 (by decide) h (fun c6 h => ?_) (fun c6 h => ?_)
        · refine i_iconst (v := 0) dX8_joined_209 (by decide) ?_
          exact e_ir rfl dX8_joined_210 h
        · refine i_iconst (v := 1) dX8_joined_205 (by decide) ?_
          refine i_goto (tgt := 210) dX8_joined_206 (by decide) ?_
          exact e_ir rfl dX8_joined_210 h
    · refine r_case (c := p0 = (40 : Int32)) h (fun c7 h => ?_) (fun c7 h => ?_)
      · refine i_tin (tgt := 197) (off := 196) dX8_joined_1 (40 : Int32) c7 (by decide) (by decide) (by decide) (by decide) ?_
        refine i_iload_n dX8_joined_197 rfl ?_
        refine r_if_ne (tgt := 205) dX8_joined_198 (by decide) h (fun c8 h => ?_) (fun c8 h => ?_)
        · refine i_iconst (v := 1) dX8_joined_205 (by decide) ?_
          refine i_goto (tgt := 210) dX8_joined_206 (by decide) ?_
          exact e_ir rfl dX8_joined_210 h
        · refine i_iload_n dX8_joined_201 rfl ?_
          refine r_if_eq (tgt := 209) dX8_joined_202 (by decide) h (fun c9 h => ?_) (fun c9 h => ?_)
          · refine i_iconst (v := 0) dX8_joined_209 (by decide) ?_
            exact e_ir rfl dX8_joined_210 h
          · refine i_iconst (v := 1) dX8_joined_205 (by decide) ?_
            refine i_goto (tgt := 210) dX8_joined_206 (by decide) ?_
            exact e_ir rfl dX8_joined_210 h
      · refine r_case (c := p0 = (41 : Int32)) h (fun c10 h => ?_) (fun c10 h => ?_)
        · refine i_tin (tgt := 197) (off := 196) dX8_joined_1 (41 : Int32) c10 (by decide) (by decide) (by decide) (by decide) ?_
          refine i_iload_n dX8_joined_197 rfl ?_
          refine r_if_ne (tgt := 205) dX8_joined_198 (by decide) h (fun c11 h => ?_) (fun c11 h => ?_)
          · refine i_iconst (v := 1) dX8_joined_205 (by decide) ?_
            refine i_goto (tgt := 210) dX8_joined_206 (by decide) ?_
            exact e_ir rfl dX8_joined_210 h
          · refine i_iload_n dX8_joined_201 rfl ?_
            refine r_if_eq (tgt := 209) dX8_joined_202 (by decide) h (fun c12 h => ?_) (fun c12 h => ?_)
            · refine i_iconst (v := 0) dX8_joined_209 (by decide) ?_
              exact e_ir rfl dX8_joined_210 h
            · refine i_iconst (v := 1) dX8_joined_205 (by decide) ?_
              refine i_goto (tgt := 210) dX8_joined_206 (by decide) ?_
              exact e_ir rfl dX8_joined_210 h
        · refine r_case (c := p0 = (42 : Int32)) h (fun c13 h => ?_) (fun c13 h => ?_)
          · refine i_tin (tgt := 124) (off := 123) dX8_joined_1 (42 : Int32) c13 (by decide) (by decide) (by decide) (by decide) ?_
            refine i_iload_n dX8_joined_124 rfl ?_
            refine i_iload_n dX8_joined_125 rfl ?_
            refine i_imul dX8_joined_126 ?_
            exact e_ir rfl dX8_joined_127 h
          · refine r_case (c := p0 = (43 : Int32)) h (fun c14 h => ?_) (fun c14 h => ?_)
            · refine i_tin (tgt := 116) (off := 115) dX8_joined_1 (43 : Int32) c14 (by decide) (by decide) (by decide) (by decide) ?_
              refine i_iload_n dX8_joined_116 rfl ?_
              refine i_iload_n dX8_joined_117 rfl ?_
              refine i_iadd dX8_joined_118 ?_
              exact e_ir rfl dX8_joined_119 h
            · refine r_case (c := p0 = (44 : Int32)) h (fun c15 h => ?_) (fun c15 h => ?_)
              · refine i_tin (tgt := 197) (off := 196) dX8_joined_1 (44 : Int32) c15 (by decide) (by decide) (by decide) (by decide) ?_
                refine i_iload_n dX8_joined_197 rfl ?_
                refine r_if_ne (tgt := 205) dX8_joined_198 (by decide) h (fun c16 h => ?_) (fun c16 h => ?_)
                · refine i_iconst (v := 1) dX8_joined_205 (by decide) ?_
                  refine i_goto (tgt := 210) dX8_joined_206 (by decide) ?_
                  exact e_ir rfl dX8_joined_210 h
                · refine i_iload_n dX8_joined_201 rfl ?_
                  refine r_if_eq (tgt := 209) dX8_joined_202 (by decide) h (fun c17 h => ?_) (fun c17 h => ?_)
                  · refine i_iconst (v := 0) dX8_joined_209 (by decide) ?_
                    exact e_ir rfl dX8_joined_210 h
                  · refine i_iconst (v := 1) dX8_joined_205 (by decide) ?_
                    refine i_goto (tgt := 210) dX8_joined_206 (by decide) ?_
                    exact e_ir rfl dX8_joined_210 h
              · refine r_case (c := p0 = (45 : Int32)) h (fun c18 h => ?_) (fun c18 h => ?_)
                · refine i_tin (tgt := 120) (off := 119) dX8_joined_1 (45 : Int32) c18 (by decide) (by decide) (by decide) (by decide) ?_
                  refine i_iload_n dX8_joined_120 rfl ?_
                  refine i_iload_n dX8_joined_121 rfl ?_
                  refine i_isub dX8_joined_122 ?_
                  exact e_ir rfl dX8_joined_123 h
                · refine r_case (c := p0 = (46 : Int32)) h (fun c19 h => ?_) (fun c19 h => ?_)
                  · refine i_tin (tgt := 197) (off := 196) dX8_joined_1 (46 : Int32) c19 (by decide) (by decide) (by decide) (by decide) ?_
                    refine i_iload_n dX8_joined_197 rfl ?_
                    refine r_if_ne (tgt := 205) dX8_joined_198 (by decide) h (fun c20 h => ?_) (fun c20 h => ?_)
                    · refine i_iconst (v := 1) dX8_joined_205 (by decide) ?_
                      refine i_goto (tgt := 210) dX8_joined_206 (by decide) ?_
                      exact e_ir rfl dX8_joined_210 h
                    · refine i_iload_n dX8_joined_201 rfl ?_
                      refine r_if_eq (tgt := 209) dX8_joined_202 (by decide) h (fun c21 h => ?_) (fun c21 h => ?_)
                      · refine i_iconst (v := 0) dX8_joined_209 (by decide) ?_
                        exact e_ir rfl dX8_joined_210 h
                      · refine i_iconst (v := 1) dX8_joined_205 (by decide) ?_
                        refine i_goto (tgt := 210) dX8_joined_206 (by decide) ?_
                        exact e_ir rfl dX8_joined_210 h
                  · refine r_case (c := p0 = (47 : Int32)) h (fun c22 h => ?_) (fun c22 h => ?_)
                    · refine i_tin (tgt := 128) (off := 127) dX8_joined_1 (47 : Int32) c22 (by decide) (by decide) (by decide) (by decide) ?_
                      refine i_iload_n dX8_joined_128 rfl ?_
                      refine r_if_ne (tgt := 136) dX8_joined_129 (by decide) h (fun c23 h => ?_) (fun c23 h => ?_)
                      · refine i_iload_n dX8_joined_136 rfl ?_
                        refine i_iconst (v := (-1)) dX8_joined_137 (by decide) ?_
                        refine r_icmp_ne (tgt := 146) dX8_joined_138 (by decide) h (fun c24 h => ?_) (fun c24 h => ?_)
                        · refine i_iload_n dX8_joined_146 rfl ?_
                          refine i_iload_n dX8_joined_147 rfl ?_
                          refine r_idiv dX8_joined_148 h (fun h => ?_)
                          exact e_ir rfl dX8_joined_149 h
                        · refine i_iload_n dX8_joined_141 rfl ?_
                          refine i_ineg dX8_joined_142 ?_
                          refine i_goto (tgt := 149) dX8_joined_143 (by decide) ?_
                          exact e_ir rfl dX8_joined_149 h
                      · refine i_iconst (v := 0) dX8_joined_132 (by decide) ?_
                        refine i_goto (tgt := 149) dX8_joined_133 (by decide) ?_
                        exact e_ir rfl dX8_joined_149 h
                    · refine r_case (c := p0 = (48 : Int32)) h (fun c25 h => ?_) (fun c25 h => ?_)
                      · refine i_tin (tgt := 197) (off := 196) dX8_joined_1 (48 : Int32) c25 (by decide) (by decide) (by decide) (by decide) ?_
                        refine i_iload_n dX8_joined_197 rfl ?_
                        refine r_if_ne (tgt := 205) dX8_joined_198 (by decide) h (fun c26 h => ?_) (fun c26 h => ?_)
                        · refine i_iconst (v := 1) dX8_joined_205 (by decide) ?_
                          refine i_goto (tgt := 210) dX8_joined_206 (by decide) ?_
                          exact e_ir rfl dX8_joined_210 h
                        · refine i_iload_n dX8_joined_201 rfl ?_
                          refine r_if_eq (tgt := 209) dX8_joined_202 (by decide) h (fun c27 h => ?_) (fun c27 h => ?_)
                          · refine i_iconst (v := 0) dX8_joined_209 (by decide) ?_
                            exact e_ir rfl dX8_joined_210 h
                          · refine i_iconst (v := 1) dX8_joined_205 (by decide) ?_
                            refine i_goto (tgt := 210) dX8_joined_206 (by decide) ?_
                            exact e_ir rfl dX8_joined_210 h
                      · refine r_case (c := p0 = (49 : Int32)) h (fun c28 h => ?_) (fun c28 h => ?_)
                        · refine i_tin (tgt := 197) (off := 196) dX8_joined_1 (49 : Int32) c28 (by decide) (by decide) (by decide) (by decide) ?_
                          refine i_iload_n dX8_joined_197 rfl ?_
                          refine r_if_ne (tgt := 205) dX8_joined_198 (by decide) h (fun c29 h => ?_) (fun c29 h => ?_)
                          · refine i_iconst (v := 1) dX8_joined_205 (by decide) ?_
                            refine i_goto (tgt := 210) dX8_joined_206 (by decide) ?_
                            exact e_ir rfl dX8_joined_210 h
                          · refine i_iload_n dX8_joined_201 rfl ?_
                            refine r_if_eq (tgt := 209) dX8_joined_202 (by decide) h (fun c30 h => ?_) (fun c30 h => ?_)
                            · refine i_iconst (v := 0) dX8_joined_209 (by decide) ?_
                              exact e_ir rfl dX8_joined_210 h
                            · refine i_iconst (v := 1) dX8_joined_205 (by decide) ?_
                              refine i_goto (tgt := 210) dX8_joined_206 (by decide) ?_
                              exact e_ir rfl dX8_joined_210 h
                        · refine r_case (c := p0 = (50 : Int32)) h (fun c31 h => ?_) (fun c31 h => ?_)
                          · refine i_tin (tgt := 197) (off := 196) dX8_joined_1 (50 : Int32) c31 (by decide) (by decide) (by decide) (by decide) ?_
                            refine i_iload_n dX8_joined_197 rfl ?_
                            refine r_if_ne (tgt := 205) dX8_joined_198 (by decide) h (fun c32 h => ?_) (fun c32 h => ?_)
                            · refine i_iconst (v := 1) dX8_joined_205 (by decide) ?_
                              refine i_goto (tgt := 210) dX8_joined_206 (by decide) ?_
                              exact e_ir rfl dX8_joined_210 h
                            · refine i_iload_n dX8_joined_201 rfl ?_
                              refine r_if_eq (tgt := 209) dX8_joined_202 (by decide) h (fun c33 h => ?_) (fun c33 h => ?_)
                              · refine i_iconst (v := 0) dX8_joined_209 (by decide) ?_
                                exact e_ir rfl dX8_joined_210 h
                              · refine i_iconst (v := 1) dX8_joined_205 (by decide) ?_
                                refine i_goto (tgt := 210) dX8_joined_206 (by decide) ?_
                                exact e_ir rfl dX8_joined_210 h
                          · refine r_case (c := p0 = (51 : Int32)) h (fun c34 h => ?_) (fun c34 h => ?_)
                            · refine i_tin (tgt := 197) (off := 196) dX8_joined_1 (51 : Int32) c34 (by decide) (by decide) (by decide) (by decide) ?_
                              refine i_iload_n dX8_joined_197 rfl ?_
                              refine r_if_ne (tgt := 205) dX8_joined_198 (by decide) h (fun c35 h => ?_) (fun c35 h => ?_)
                              · refine i_iconst (v := 1) dX8_joined_205 (by decide) ?_
                                refine i_goto (tgt := 210) dX8_joined_206 (by decide) ?_
                                exact e_ir rfl dX8_joined_210 h
                              · refine i_iload_n dX8_joined_201 rfl ?_
                                refine r_if_eq (tgt := 209) dX8_joined_202 (by decide) h (fun c36 h => ?_) (fun c36 h => ?_)
                                · refine i_iconst (v := 0) dX8_joined_209 (by decide) ?_
                                  exact e_ir rfl dX8_joined_210 h
                                · refine i_iconst (v := 1) dX8_joined_205 (by decide) ?_
                                  refine i_goto (tgt := 210) dX8_joined_206 (by decide) ?_
                                  exact e_ir rfl dX8_joined_210 h
                            · refine r_case (c := p0 = (52 : Int32)) h (fun c37 h => ?_) (fun c37 h => ?_)
                              · refine i_tin (tgt := 197) (off := 196) dX8_joined_1 (52 : Int32) c37 (by decide) (by decide) (by decide) (by decide) ?_
                                refine i_iload_n dX8_joined_197 rfl ?_
                                refine r_if_ne (tgt := 205) dX8_joined_198 (by decide) h (fun c38 h => ?_) (fun c38 h => ?_)
                                · refine i_iconst (v := 1) dX8_joined_205 (by decide) ?_
                                  refine i_goto (tgt := 210) dX8_joined_206 (by decide) ?_
                                  exact e_ir rfl dX8_joined_210 h
                                · refine i_iload_n dX8_joined_201 rfl ?_
                                  refine r_if_eq (tgt := 209) dX8_joined_202 (by decide) h (fun c39 h => ?_) (fun c39 h => ?_)
                                  · refine i_iconst (v := 0) dX8_joined_209 (by decide) ?_
                                    exact e_ir rfl dX8_joined_210 h
                                  · refine i_iconst (v := 1) dX8_joined_205 (by decide) ?_
                                    refine i_goto (tgt := 210) dX8_joined_206 (by decide) ?_
                                    exact e_ir rfl dX8_joined_210 h
                              · refine r_case (c := p0 = (53 : Int32)) h (fun c40 h => ?_) (fun c40 h => ?_)
                                · refine i_tin (tgt := 197) (off := 196) dX8_joined_1 (53 : Int32) c40 (by decide) (by decide) (by decide) (by decide) ?_
                                  refine i_iload_n dX8_joined_197 rfl ?_
                                  refine r_if_ne (tgt := 205) dX8_joined_198 (by decide) h (fun c41 h => ?_) (fun c41 h => ?_)
                                  · refine i_iconst (v := 1) dX8_joined_205 (by decide) ?_
                                    refine i_goto (tgt := 210) dX8_joined_206 (by decide) ?_
                                    exact e_ir rfl dX8_joined_210 h
                                  · refine i_iload_n dX8_joined_201 rfl ?_
                                    refine r_if_eq (tgt := 209) dX8_joined_202 (by decide) h (fun c42 h => ?_) (fun c42 h => ?_)
                                    · refine i_iconst (v := 0) dX8_joined_209 (by decide) ?_
                                      exact e_ir rfl dX8_joined_210 h
                                    · refine i_iconst (v := 1) dX8_joined_205 (by decide) ?_
                                      refine i_goto (tgt := 210) dX8_joined_206 (by decide) ?_
                                      exact e_ir rfl dX8_joined_210 h
                                · refine r_case (c := p0 = (54 : Int32)) h (fun c43 h => ?_) (fun c43 h => ?_)
                                  · refine i_tin (tgt := 197) (off := 196) dX8_joined_1 (54 : Int32) c43 (by decide) (by decide) (by decide) (by decide) ?_
                                    refine i_iload_n dX8_joined_197 rfl ?_
                                    refine r_if_ne (tgt := 205) dX8_joined_198 (by decide) h (fun c44 h => ?_) (fun c44 h => ?_)
                                    · refine i_iconst (v := 1) dX8_joined_205 (by decide) ?_
                                      refine i_goto (tgt := 210) dX8_joined_206 (by decide) ?_
                                      exact e_ir rfl dX8_joined_210 h
                                    · refine i_iload_n dX8_joined_201 rfl ?_
                                      refine r_if_eq (tgt := 209) dX8_joined_202 (by decide) h (fun c45 h => ?_) (fun c45 h => ?_)
                                      · refine i_iconst (v := 0) dX8_joined_209 (by decide) ?_
                                        exact e_ir rfl dX8_joined_210 h
                                      · refine i_iconst (v := 1) dX8_joined_205 (by decide) ?_
                                        refine i_goto (tgt := 210) dX8_joined_206 (by decide) ?_
                                        exact e_ir rfl dX8_joined_210 h
                                  · refine r_case (c := p0 = (55 : Int32)) h (fun c46 h => ?_) (fun c46 h => ?_)
                                    · refine i_tin (tgt := 197) (off := 196) dX8_joined_1 (55 : Int32) c46 (by decide) (by decide) (by decide) (by decide) ?_
                                      refine i_iload_n dX8_joined_197 rfl ?_
                                      refine r_if_ne (tgt := 205) dX8_joined_198 (by decide) h (fun c47 h => ?_) (fun c47 h => ?_)
                                      · refine i_iconst (v := 1) dX8_joined_205 (by decide) ?_
                                        refine i_goto (tgt := 210) dX8_joined_206 (by decide) ?_
                                        exact e_ir rfl dX8_joined_210 h
                                      · refine i_iload_n dX8_joined_201 rfl ?_
                                        refine r_if_eq (tgt := 209) dX8_joined_202 (by decide) h (fun c48 h => ?_) (fun c48 h => ?_)
                                        · refine i_iconst (v := 0) dX8_joined_209 (by decide) ?_
                                          exact e_ir rfl dX8_joined_210 h
                                        · refine i_iconst (v := 1) dX8_joined_205 (by decide) ?_
                                          refine i_goto (tgt := 210) dX8_joined_206 (by decide) ?_
                                          exact e_ir rfl dX8_joined_210 h
                                    · refine r_case (c := p0 = (56 : Int32)) h (fun c49 h => ?_) (fun c49 h => ?_)
                                      · refine i_tin (tgt := 197) (off := 196) dX8_joined_1 (56 : Int32) c49 (by decide) (by decide) (by decide) (by decide) ?_
                                        refine i_iload_n dX8_joined_197 rfl ?_
                                        refine r_if_ne (tgt := 205) dX8_joined_198 (by decide) h (fun c50 h => ?_) (fun c50 h => ?_)
                                        · refine i_iconst (v := 1) dX8_joined_205 (by decide) ?_
                                          refine i_goto (tgt := 210) dX8_joined_206 (by decide) ?_
                                          exact e_ir rfl dX8_joined_210 h
                                        · refine i_iload_n dX8_joined_201 rfl ?_
                                          refine r_if_eq (tgt := 209) dX8_joined_202 (by decide) h (fun c51 h => ?_) (fun c51 h => ?_)
                                          · refine i_iconst (v := 0) dX8_joined_209 (by decide) ?_
                                            exact e_ir rfl dX8_joined_210 h
                                          · refine i_iconst (v := 1) dX8_joined_205 (by decide) ?_
                                            refine i_goto (tgt := 210) dX8_joined_206 (by decide) ?_
                                            exact e_ir rfl dX8_joined_210 h
                                      · refine r_case (c := p0 = (57 : Int32)) h (fun c52 h => ?_) (fun c52 h => ?_)
                                        · refine i_tin (tgt := 197) (off := 196) dX8_joined_1 (57 : Int32) c52 (by decide) (by decide) (by decide) (by decide) ?_
                                          refine i_iload_n dX8_joined_197 rfl ?_
                                          refine r_if_ne (tgt := 205) dX8_joined_198 (by decide) h (fun c53 h => ?_) (fun c53 h => ?_)
                                          · refine i_iconst (v := 1) dX8_joined_205 (by decide) ?_
                                            refine i_goto (tgt := 210) dX8_joined_206 (by decide) ?_
                                            exact e_ir rfl dX8_joined_210 h
                                          · refine i_iload_n dX8_joined_201 rfl ?_
                                            refine r_if_eq (tgt := 209) dX8_joined_202 (by decide) h (fun c54 h => ?_) (fun c54 h => ?_)
                                            · refine i_iconst (v := 0) dX8_joined_209 (by decide) ?_
                                              exact e_ir rfl dX8_joined_210 h
                                            · refine i_iconst (v := 1) dX8_joined_205 (by decide) ?_
                                              refine i_goto (tgt := 210) dX8_joined_206 (by decide) ?_
                                              exact e_ir rfl dX8_joined_210 h
                                        · refine r_case (c := p0 = (58 : Int32)) h (fun c55 h => ?_) (fun c55 h => ?_)
                                          · refine i_tin (tgt := 197) (off := 196) dX8_joined_1 (58 : Int32) c55 (by decide) (by decide) (by decide) (by decide) ?_
                                            refine i_iload_n dX8_joined_197 rfl ?_
                                            refine r_if_ne (tgt := 205) dX8_joined_198 (by decide) h (fun c56 h => ?_) (fun c56 h => ?_)
                                            · refine i_iconst (v := 1) dX8_joined_205 (by decide) ?_
                                              refine i_goto (tgt := 210) dX8_joined_206 (by decide) ?_
                                              exact e_ir rfl dX8_joined_210 h
                                            · refine i_iload_n dX8_joined_201 rfl ?_
                                              refine r_if_eq (tgt := 209) dX8_joined_202 (by decide) h (fun c57 h => ?_) (fun c57 h => ?_)
                                              · refine i_iconst (v := 0) dX8_joined_209 (by decide) ?_
                                                exact e_ir rfl dX8_joined_210 h
                                              · refine i_iconst (v := 1) dX8_joined_205 (by decide) ?_
                                                refine i_goto (tgt := 210) dX8_joined_206 (by decide) ?_
                                                exact e_ir rfl dX8_joined_210 h
                                          · refine r_case (c := p0 = (59 : Int32)) h (fun c58 h => ?_) (fun c58 h => ?_)
                                            · refine i_tin (tgt := 197) (off := 196) dX8_joined_1 (59 : Int32) c58 (by decide) (by decide) (by decide) (by decide) ?_
                                              refine i_iload_n dX8_joined_197 rfl ?_
                                              refine r_if_ne (tgt := 205) dX8_joined_198 (by decide) h (fun c59 h => ?_) (fun c59 h => ?_)
                                              · refine i_iconst (v := 1) dX8_joined_205 (by decide) ?_
                                                refine i_goto (tgt := 210) dX8_joined_206 (by decide) ?_
                                                exact e_ir rfl dX8_joined_210 h
                                              · refine i_iload_n dX8_joined_201 rfl ?_
                                                refine r_if_eq (tgt := 209) dX8_joined_202 (by decide) h (fun c60 h => ?_) (fun c60 h => ?_)
                                                · refine i_iconst (v := 0) dX8_joined_209 (by decide) ?_
                                                  exact e_ir rfl dX8_joined_210 h
                                                · refine i_iconst (v := 1) dX8_joined_205 (by decide) ?_
                                                  refine i_goto (tgt := 210) dX8_joined_206 (by decide) ?_
                                                  exact e_ir rfl dX8_joined_210 h
                                            · refine r_case (c := p0 = (60 : Int32)) h (fun c61 h => ?_) (fun c61 h => ?_)
                                              · refine i_tin (tgt := 150) (off := 149) dX8_joined_1 (60 : Int32) c61 (by decide) (by decide) (by decide) (by decide) ?_
                                                refine i_iload_n dX8_joined_150 rfl ?_
                                                refine i_iload_n dX8_joined_151 rfl ?_
                                                refine r_icmp_ge (tgt := 159) dX8_joined_152 (by decide) h (fun c62 h => ?_) (fun c62 h => ?_)
                                                · refine i_iconst (v := 0) dX8_joined_159 (by decide) ?_
                                                  exact e_ir rfl dX8_joined_160 h
                                                · refine i_iconst (v := 1) dX8_joined_155 (by decide) ?_
                                                  refine i_goto (tgt := 160) dX8_joined_156 (by decide) ?_
                                                  exact e_ir rfl dX8_joined_160 h
                                              · refine r_case (c := p0 = (61 : Int32)) h (fun c63 h => ?_) (fun c63 h => ?_)
                                                · refine i_tin (tgt := 172) (off := 171) dX8_joined_1 (61 : Int32) c63 (by decide) (by decide) (by decide) (by decide) ?_
                                                  refine i_iload_n dX8_joined_172 rfl ?_
                                                  refine i_iload_n dX8_joined_173 rfl ?_
                                                  refine r_icmp_ne (tgt := 181) dX8_joined_174 (by decide) h (fun c64 h => ?_) (fun c64 h => ?_)
                                                  · refine i_iconst (v := 0) dX8_joined_181 (by decide) ?_
                                                    exact e_ir rfl dX8_joined_182 h
                                                  · refine i_iconst (v := 1) dX8_joined_177 (by decide) ?_
                                                    refine i_goto (tgt := 182) dX8_joined_178 (by decide) ?_
                                                    exact e_ir rfl dX8_joined_182 h
                                                · refine r_case (c := p0 = (62 : Int32)) h (fun c65 h => ?_) (fun c65 h => ?_)
                                                  · refine i_tin (tgt := 161) (off := 160) dX8_joined_1 (62 : Int32) c65 (by decide) (by decide) (by decide) (by decide) ?_
                                                    refine i_iload_n dX8_joined_161 rfl ?_
                                                    refine i_iload_n dX8_joined_162 rfl ?_
                                                    refine r_icmp_le (tgt := 170) dX8_joined_163 (by decide) h (fun c66 h => ?_) (fun c66 h => ?_)
                                                    · refine i_iconst (v := 0) dX8_joined_170 (by decide) ?_
                                                      exact e_ir rfl dX8_joined_171 h
                                                    · refine i_iconst (v := 1) dX8_joined_166 (by decide) ?_
                                                      refine i_goto (tgt := 171) dX8_joined_167 (by decide) ?_
                                                      exact e_ir rfl dX8_joined_171 h
                                                  · refine i_tout (tgt := 197) dX8_joined_1 (tsw_38_62 c1 c4 c7 c10 c13 c14 c15 c18 c19 c22 c25 c28 c31 c34 c37 c40 c43 c46 c49 c52 c55 c58 c61 c63 c65) (by decide) ?_
                                                    refine i_iload_n dX8_joined_197 rfl ?_
                                                    refine r_if_ne (tgt := 205) dX8_joined_198 (by decide) h (fun c67 h => ?_) (fun c67 h => ?_)
                                                    · refine i_iconst (v := 1) dX8_joined_205 (by decide) ?_
                                                      refine i_goto (tgt := 210) dX8_joined_206 (by decide) ?_
                                                      exact e_ir rfl dX8_joined_210 h
                                                    · refine i_iload_n dX8_joined_201 rfl ?_
                                                      refine r_if_eq (tgt := 209) dX8_joined_202 (by decide) h (fun c68 h => ?_) (fun c68 h => ?_)
                                                      · refine i_iconst (v := 0) dX8_joined_209 (by decide) ?_
                                                        exact e_ir rfl dX8_joined_210 h
                                                      · refine i_iconst (v := 1) dX8_joined_205 (by decide) ?_
                                                        refine i_goto (tgt := 210) dX8_joined_206 (by decide) ?_
                                                        exact e_ir rfl dX8_joined_210 h
def f_X8_worked_4 (p1 : Int32) : Nat → Int32 → Int32 → Mem → (Mem → Option (Int32 × Mem)) → Option (Int32 × Mem)
  | 0, _, _, _, _ => none
  | n + 1, v2, v3, σ, k =>
    (bnd (f_X8_textAt p1 σ) (fun a1 => (bnd (ix 3108 (a1 + (2 : Int32))) (fun j1 => (if (σ 22 0 j1) ≤ v3 then (k σ) else (bnd (f_X8_textAt p1 σ) (fun a2 => (bnd (ix 3108 ((a2 + (4 : Int32)) + ((2 : Int32) * v3))) (fun j2 => (bnd (f_X8_textAt p1 σ) (fun a3 => (bnd (ix 3108 (((a3 + (4 : Int32)) + ((2 : Int32) * v3)) + (1 : Int32))) (fun j3 => (if (σ 22 0 j2) = (2 : Int32) then (if (σ 22 0 j3) = (33 : Int32) then (bnd (ix 100 (v2 - (1 : Int32))) (fun j7 => (if (σ 38 0 j7) = 0 then (bnd (ix 100 (v2 - (1 : Int32))) (fun j9 => (f_X8_worked_4 p1 n v2 (v3 + (1 : Int32)) (mput σ 38 0 j9 (1 : Int32)) k))) else (bnd (ix 100 (v2 - (1 : Int32))) (fun j8 => (f_X8_worked_4 p1 n v2 (v3 + (1 : Int32)) (mput σ 38 0 j8 (0 : Int32)) k)))))) else (bnd (ix 100 ((v2 + (-1 : Int32)) - (1 : Int32))) (fun j4 => (bnd (ix 100 (v2 + (-1 : Int32))) (fun j5 => (bnd (f_X8_joined (σ 22 0 j3) (σ 38 0 j4) (σ 38 0 j5) σ) (fun a4 => (bnd (ix 100 ((v2 + (-1 : Int32)) - (1 : Int32))) (fun j6 => (f_X8_worked_4 p1 n (v2 + (-1 : Int32)) (v3 + (1 : Int32)) (mput σ 38 0 j6 a4) k)))))))))) else (if (σ 22 0 j2) = 0 then (bnd (ix 100 v2) (fun j12 => (f_X8_worked_4 p1 n (v2 + (1 : Int32)) (v3 + (1 : Int32)) (mput σ 38 0 j12 (σ 22 0 j3)) k))) else (bnd (ix 128 (σ 22 0 j3)) (fun j10 => (bnd (ix 100 v2) (fun j11 => (f_X8_worked_4 p1 n (v2 + (1 : Int32)) (v3 + (1 : Int32)) (mput σ 38 0 j11 (σ 37 0 j10)) k))))))))))))))))))))
set_option maxRecDepth 100000 in
set_option maxHeartbeats 4000000 in
theorem L_X8_worked_4 {X : Cx} {p1 : Int32} {r0 : Int32} {σ2 : Mem} {k : Mem → Option (Int32 × Mem)}  : ∀ (n : Nat) (v2 : Int32) (v3 : Int32) (σ : Mem), f_X8_worked_4 p1 n v2 v3 σ k = some (r0, σ2) → (∀ (σ1 : Mem), k σ1 = some (r0, σ2) → At X 2 mX8_worked 163 [some (rf X 8 0), none, none, none, none, none] [] σ1 (some (.int r0)) σ2) → At X 2 mX8_worked 4 [some (rf X 8 0), some (.int p1), some (.int v2), some (.int v3), none, none] [] σ (some (.int r0)) σ2 := by
  intro n
  induction n with
  | zero =>
    intro v2 v3 σ h
    cases h
  | succ n ih =>
    intro v2 v3 σ h hk
    rw [f_X8_worked_4.eq_2] at h
    refine i_iload_n dX8_worked_4 rfl ?_
    refine i_aload_n dX8_worked_5 rfl ?_
    refine gf_X8_7 rfl (by omega) dX8_worked_6 ?_
    refine i_aload_n dX8_worked_9 rfl ?_
    refine i_iload_n dX8_worked_10 rfl ?_
    refine cV_ir dX8_worked_11 cw_X8_283 ci_X8_textAt rfl rfl (by decide) (show 0 < 1 by omega) h (fun a1 e => F_X8_textAt  e) (Nat.le_of_ble_eq_true rfl) rfl rfl (Nat.le_of_ble_eq_true rfl) (fun a1 ea1 h => ?_)
    refine i_iconst (v := 2) dX8_worked_14 (by decide) ?_
    refine i_iadd dX8_worked_15 ?_
    refine al_22 dX8_worked_16 (by omega) h (fun j1 lj1 h => ?_)
    refine r_icmp_ge (tgt := 163) dX8_worked_17 (by decide) h (fun c1 h => ?_) (fun c1 h => ?_)
    · refine At.fewer (ls' := [some (rf X 8 0), none, none, none, none, none]) (And.intro rfl trivial) ?_
      exact hk _ h
    · refine i_aload_n dX8_worked_20 rfl ?_
      refine gf_X8_7 rfl (by omega) dX8_worked_21 ?_
      refine i_aload_n dX8_worked_24 rfl ?_
      refine i_iload_n dX8_worked_25 rfl ?_
      refine cV_ir dX8_worked_26 cw_X8_283 ci_X8_textAt rfl rfl (by decide) (show 0 < 1 by omega) h (fun a2 e => F_X8_textAt  e) (Nat.le_of_ble_eq_true rfl) rfl rfl (Nat.le_of_ble_eq_true rfl) (fun a2 ea2 h => ?_)
      refine i_iconst (v := 4) dX8_worked_29 (by decide) ?_
      refine i_iadd dX8_worked_30 ?_
      refine i_iconst (v := 2) dX8_worked_31 (by decide) ?_
      refine i_iload_n dX8_worked_32 rfl ?_
      refine i_imul dX8_worked_33 ?_
      refine i_iadd dX8_worked_34 ?_
      refine al_22 dX8_worked_35 (by omega) h (fun j2 lj2 h => ?_)
      refine i_istore (ls' := [some (rf X 8 0), some (.int p1), some (.int v2), some (.int v3), some (.int (σ 22 0 j2)), none]) dX8_worked_36 (by decide) (okp_at rfl) rfl ?_
      refine i_aload_n dX8_worked_38 rfl ?_
      refine gf_X8_7 rfl (by omega) dX8_worked_39 ?_
      refine i_aload_n dX8_worked_42 rfl ?_
      refine i_iload_n dX8_worked_43 rfl ?_
      refine cV_ir dX8_worked_44 cw_X8_283 ci_X8_textAt rfl rfl (by decide) (show 0 < 1 by omega) h (fun a3 e => F_X8_textAt  e) (Nat.le_of_ble_eq_true rfl) rfl rfl (Nat.le_of_ble_eq_true rfl) (fun a3 ea3 h => ?_)
      refine i_iconst (v := 4) dX8_worked_47 (by decide) ?_
      refine i_iadd dX8_worked_48 ?_
      refine i_iconst (v := 2) dX8_worked_49 (by decide) ?_
      refine i_iload_n dX8_worked_50 rfl ?_
      refine i_imul dX8_worked_51 ?_
      refine i_iadd dX8_worked_52 ?_
      refine i_iconst (v := 1) dX8_worked_53 (by decide) ?_
      refine i_iadd dX8_worked_54 ?_
      refine al_22 dX8_worked_55 (by omega) h (fun j3 lj3 h => ?_)
      refine i_istore (ls' := [some (rf X 8 0), some (.int p1), some (.int v2), some (.int v3), some (.int (σ 22 0 j2)), some (.int (σ 22 0 j3))]) dX8_worked_56 (by decide) (okp_at rfl) rfl ?_
      refine i_iload dX8_worked_58 rfl ?_
      refine i_iconst (v := 2) dX8_worked_60 (by decide) ?_
      refine r_icmp_eq (tgt := 93) dX8_worked_61 (by decide) h (fun c2 h => ?_) (fun c2 h => ?_)
      · refine i_iload dX8_worked_93 rfl ?_
        refine i_bipush (v := 33) dX8_worked_95 (by decide) ?_
        refine r_icmp_ne (tgt := 127) dX8_worked_97 (by decide) h (fun c3 h => ?_) (fun c3 h => ?_)
        · refine i_iinc (v := (v2 + (-1 : Int32))) (ls' := [some (rf X 8 0), some (.int p1), some (.int (v2 + (-1 : Int32))), some (.int v3), some (.int (σ 22 0 j2)), some (.int (σ 22 0 j3))]) dX8_worked_127 rfl (by rfl) (by decide) (okp_at rfl) rfl ?_
          refine i_aload_n dX8_worked_130 rfl ?_
          refine gf_X8_58 rfl (by omega) dX8_worked_131 ?_
          refine i_iload_n dX8_worked_134 rfl ?_
          refine i_iconst (v := 1) dX8_worked_135 (by decide) ?_
          refine i_isub dX8_worked_136 ?_
          refine i_iload dX8_worked_137 rfl ?_
          refine i_aload_n dX8_worked_139 rfl ?_
          refine gf_X8_58 rfl (by omega) dX8_worked_140 ?_
          refine i_iload_n dX8_worked_143 rfl ?_
          refine i_iconst (v := 1) dX8_worked_144 (by decide) ?_
          refine i_isub dX8_worked_145 ?_
          refine al_38 dX8_worked_146 (by omega) h (fun j4 lj4 h => ?_)
          refine i_aload_n dX8_worked_147 rfl ?_
          refine gf_X8_58 rfl (by omega) dX8_worked_148 ?_
          refine i_iload_n dX8_worked_151 rfl ?_
          refine al_38 dX8_worked_152 (by omega) h (fun j5 lj5 h => ?_)
          refine cS_ir dX8_worked_153 cw_X8_295 ci_X8_joined h (fun a4 e => F_X8_joined  e) (Nat.le_of_ble_eq_true rfl) rfl rfl (Nat.le_of_ble_eq_true rfl) (fun a4 ea4 h => ?_)
          refine as_38 dX8_worked_156 (by omega) h (fun j6 lj6 h => ?_)
          refine i_iinc (v := (v3 + (1 : Int32))) (ls' := [some (rf X 8 0), some (.int p1), some (.int (v2 + (-1 : Int32))), some (.int (v3 + (1 : Int32))), some (.int (σ 22 0 j2)), some (.int (σ 22 0 j3))]) dX8_worked_157 rfl (by rfl) (by decide) (okp_at rfl) rfl ?_
          refine i_goto (tgt := 4) dX8_worked_160 (by decide) ?_
          refine At.fewer (ls' := [some (rf X 8 0), some (.int p1), some (.int (v2 + (-1 : Int32))), some (.int (v3 + (1 : Int32))), none, none]) (And.intro rfl (And.intro rfl (And.intro rfl (And.intro rfl trivial)))) ?_
          exact ih _ _ _ h hk
        · refine i_aload_n dX8_worked_100 rfl ?_
          refine gf_X8_58 rfl (by omega) dX8_worked_101 ?_
          refine i_iload_n dX8_worked_104 rfl ?_
          refine i_iconst (v := 1) dX8_worked_105 (by decide) ?_
          refine i_isub dX8_worked_106 ?_
          refine i_aload_n dX8_worked_107 rfl ?_
          refine gf_X8_58 rfl (by omega) dX8_worked_108 ?_
          refine i_iload_n dX8_worked_111 rfl ?_
          refine i_iconst (v := 1) dX8_worked_112 (by decide) ?_
          refine i_isub dX8_worked_113 ?_
          refine al_38 dX8_worked_114 (by omega) h (fun j7 lj7 h => ?_)
          refine r_if_ne (tgt := 122) dX8_worked_115 (by decide) h (fun c4 h => ?_) (fun c4 h => ?_)
          · refine i_iconst (v := 0) dX8_worked_122 (by decide) ?_
            refine as_38 dX8_worked_123 (by omega) h (fun j8 lj8 h => ?_)
            refine i_goto (tgt := 157) dX8_worked_124 (by decide) ?_
            refine i_iinc (v := (v3 + (1 : Int32))) (ls' := [some (rf X 8 0), some (.int p1), some (.int v2), some (.int (v3 + (1 : Int32))), some (.int (σ 22 0 j2)), some (.int (σ 22 0 j3))]) dX8_worked_157 rfl (by rfl) (by decide) (okp_at rfl) rfl ?_
            refine i_goto (tgt := 4) dX8_worked_160 (by decide) ?_
            refine At.fewer (ls' := [some (rf X 8 0), some (.int p1), some (.int v2), some (.int (v3 + (1 : Int32))), none, none]) (And.intro rfl (And.intro rfl (And.intro rfl (And.intro rfl trivial)))) ?_
            exact ih _ _ _ h hk
          · refine i_iconst (v := 1) dX8_worked_118 (by decide) ?_
            refine i_goto (tgt := 123) dX8_worked_119 (by decide) ?_
            refine as_38 dX8_worked_123 (by omega) h (fun j9 lj9 h => ?_)
            refine i_goto (tgt := 157) dX8_worked_124 (by decide) ?_
            refine i_iinc (v := (v3 + (1 : Int32))) (ls' := [some (rf X 8 0), some (.int p1), some (.int v2), some (.int (v3 + (1 : Int32))), some (.int (σ 22 0 j2)), some (.int (σ 22 0 j3))]) dX8_worked_157 rfl (by rfl) (by decide) (okp_at rfl) rfl ?_
            refine i_goto (tgt := 4) dX8_worked_160 (by decide) ?_
            refine At.fewer (ls' := [some (rf X 8 0), some (.int p1), some (.int v2), some (.int (v3 + (1 : Int32))), none, none]) (And.intro rfl (And.intro rfl (And.intro rfl (And.intro rfl trivial)))) ?_
            exact ih _ _ _ h hk
      · refine i_aload_n dX8_worked_64 rfl ?_
        refine gf_X8_58 rfl (by omega) dX8_worked_65 ?_
        refine i_iload_n dX8_worked_68 rfl ?_
        refine i_iload dX8_worked_69 rfl ?_
        refine r_if_ne (tgt := 79) dX8_worked_71 (by decide) h (fun c5 h => ?_) (fun c5 h => ?_)
        · refine i_aload_n dX8_worked_79 rfl ?_
          refine gf_X8_55 rfl (by omega) dX8_worked_80 ?_
          refine i_iload dX8_worked_83 rfl ?_
          refine al_37 dX8_worked_85 (by omega) h (fun j10 lj10 h => ?_)
          refine as_38 dX8_worked_86 (by omega) h (fun j11 lj11 h => ?_)
          refine i_iinc (v := (v2 + (1 : Int32))) (ls' := [some (rf X 8 0), some (.int p1), some (.int (v2 + (1 : Int32))), some (.int v3), some (.int (σ 22 0 j2)), some (.int (σ 22 0 j3))]) dX8_worked_87 rfl (by rfl) (by decide) (okp_at rfl) rfl ?_
          refine i_goto (tgt := 157) dX8_worked_90 (by decide) ?_
          refine i_iinc (v := (v3 + (1 : Int32))) (ls' := [some (rf X 8 0), some (.int p1), some (.int (v2 + (1 : Int32))), some (.int (v3 + (1 : Int32))), some (.int (σ 22 0 j2)), some (.int (σ 22 0 j3))]) dX8_worked_157 rfl (by rfl) (by decide) (okp_at rfl) rfl ?_
          refine i_goto (tgt := 4) dX8_worked_160 (by decide) ?_
          refine At.fewer (ls' := [some (rf X 8 0), some (.int p1), some (.int (v2 + (1 : Int32))), some (.int (v3 + (1 : Int32))), none, none]) (And.intro rfl (And.intro rfl (And.intro rfl (And.intro rfl trivial)))) ?_
          exact ih _ _ _ h hk
        · refine i_iload dX8_worked_74 rfl ?_
          refine i_goto (tgt := 86) dX8_worked_76 (by decide) ?_
          refine as_38 dX8_worked_86 (by omega) h (fun j12 lj12 h => ?_)
          refine i_iinc (v := (v2 + (1 : Int32))) (ls' := [some (rf X 8 0), some (.int p1), some (.int (v2 + (1 : Int32))), some (.int v3), some (.int (σ 22 0 j2)), some (.int (σ 22 0 j3))]) dX8_worked_87 rfl (by rfl) (by decide) (okp_at rfl) rfl ?_
          refine i_goto (tgt := 157) dX8_worked_90 (by decide) ?_
          refine i_iinc (v := (v3 + (1 : Int32))) (ls' := [some (rf X 8 0), some (.int p1), some (.int (v2 + (1 : Int32))), some (.int (v3 + (1 : Int32))), some (.int (σ 22 0 j2)), some (.int (σ 22 0 j3))]) dX8_worked_157 rfl (by rfl) (by decide) (okp_at rfl) rfl ?_
          refine i_goto (tgt := 4) dX8_worked_160 (by decide) ?_
          refine At.fewer (ls' := [some (rf X 8 0), some (.int p1), some (.int (v2 + (1 : Int32))), some (.int (v3 + (1 : Int32))), none, none]) (And.intro rfl (And.intro rfl (And.intro rfl (And.intro rfl trivial)))) ?_
          exact ih _ _ _ h hk
def f_X8_worked  (p1 : Int32) (σ : Mem) : Option (Int32 × Mem) :=
  (f_X8_worked_4 p1 FU (0 : Int32) (0 : Int32) σ (fun σ_1 => (bnd (ix 100 (0 : Int32)) (fun j1 => (some ((σ_1 38 0 j1), σ_1))))))
set_option maxRecDepth 100000 in
set_option maxHeartbeats 4000000 in
theorem F_X8_worked {X : Cx} {p1 : Int32} {σ : Mem} {res : (Int32 × Mem)}  (h : f_X8_worked p1 σ = some res) : Tri X 2 mX8_worked [rf X 8 0, .int p1] σ (some (.int res.1)) res.2 := by
  obtain ⟨r0, σ2⟩ := res
  unfold f_X8_worked at h
  refine Tri.of (ls := [some (rf X 8 0), some (.int p1), none, none, none, none]) (by decide) (Nat.le_of_ble_eq_true rfl) rfl ?_
  refine i_iconst (v := 0) dX8_worked_0 (by decide) ?_
  refine i_istore_n (ls' := [some (rf X 8 0), some (.int p1), some (.int (0 : Int32)), none, none, none]) dX8_worked_1 (by decide) (okp_at rfl) rfl ?_
  refine i_iconst (v := 0) dX8_worked_2 (by decide) ?_
  refine i_istore_n (ls' := [some (rf X 8 0), some (.int p1), some (.int (0 : Int32)), some (.int (0 : Int32)), none, none]) dX8_worked_3 (by decide) (okp_at rfl) rfl ?_
  refine L_X8_worked_4  FU _ _ _ h (fun σ_1 h => ?_)
  refine i_aload_n dX8_worked_163 rfl ?_
  refine gf_X8_58 rfl (by omega) dX8_worked_164 ?_
  refine i_iconst (v := 0) dX8_worked_167 (by decide) ?_
  refine al_38 dX8_worked_168 (by omega) h (fun j1 lj1 h => ?_)
  exact e_iw rfl dX8_worked_169 h
def f_X8_keeps  (p1 : Int32) (σ : Mem) : Option (Int32 × Mem) :=
  (bnd (f_X8_vowIs p1 (0 : Int32) σ) (fun a1 => (bnd (f_X8_manyBy a1 (0 : Int32) σ) (fun a2 => (bnd (f_X8_of a1 (2 : Int32) σ) (fun a3 => (if ((5 : Int32) * a2) ≤ a3 then (bnd (f_X8_of a1 (2 : Int32) σ) (fun a4 => (bnd (f_X8_counts (0 : Int32) σ) (fun a5 => (if a5 < 0 then (bnd (f_X8_within ((a4 - ((5 : Int32) * a2)) + (10 : Int32)) (0 : Int32) (100 : Int32) σ) (fun a6 => (bnd (f_X8_within ((a4 - ((5 : Int32) * a2)) - (20 : Int32)) (0 : Int32) (100 : Int32) σ) (fun a7 => (bnd (f_X8_of a1 (0 : Int32) σ) (fun a8 => (if a8 = (1 : Int32) then (some (a6, σ)) else (if a8 = (2 : Int32) then (some (a7, σ)) else (if a8 = (3 : Int32) then (some ((a6 / (2 : Int32)), σ)) else (if a8 = (4 : Int32) then (bnd (f_X8_within (a7 + (30 : Int32)) (0 : Int32) (100 : Int32) σ) (fun a9 => (some (a9, σ)))) else (if a8 = (5 : Int32) then (some ((0 : Int32), σ)) else (some ((a4 - ((5 : Int32) * a2)), σ))))))))))))) else (bnd (f_X8_of a1 (2 : Int32) σ) (fun a10 => (bnd (ix 128 (102 : Int32)) (fun j1 => (bnd (ix 128 (110 : Int32)) (fun j2 => (bnd (f_X8_vowIs p1 (2 : Int32) (mput (mput σ 37 0 j1 a10) 37 0 j2 a2)) (fun a11 => (bnd (ix 128 (119 : Int32)) (fun j3 => (bnd (f_X8_worked a5 (mput (mput (mput σ 37 0 j1 a10) 37 0 j2 a2) 37 0 j3 a11)) (fun a12 => (bnd (f_X8_within a12.1 (0 : Int32) (100 : Int32) a12.2) (fun a13 => (bnd (f_X8_within (a13 + (10 : Int32)) (0 : Int32) (100 : Int32) a12.2) (fun a14 => (bnd (f_X8_within (a13 - (20 : Int32)) (0 : Int32) (100 : Int32) a12.2) (fun a15 => (bnd (f_X8_of a1 (0 : Int32) a12.2) (fun a16 => (if a16 = (1 : Int32) then (some (a14, a12.2)) else (if a16 = (2 : Int32) then (some (a15, a12.2)) else (if a16 = (3 : Int32) then (some ((a14 / (2 : Int32)), a12.2)) else (if a16 = (4 : Int32) then (bnd (f_X8_within (a15 + (30 : Int32)) (0 : Int32) (100 : Int32) a12.2) (fun a17 => (some (a17, a12.2)))) else (if a16 = (5 : Int32) then (some ((0 : Int32), a12.2)) else (some (a13, a12.2)))))))))))))))))))))))))))))))) else (bnd (f_X8_counts (0 : Int32) σ) (fun a18 => (if a18 < 0 then (bnd (f_X8_within ((0 : Int32) + (10 : Int32)) (0 : Int32) (100 : Int32) σ) (fun a19 => (bnd (f_X8_within ((0 : Int32) - (20 : Int32)) (0 : Int32) (100 : Int32) σ) (fun a20 => (bnd (f_X8_of a1 (0 : Int32) σ) (fun a21 => (if a21 = (1 : Int32) then (some (a19, σ)) else (if a21 = (2 : Int32) then (some (a20, σ)) else (if a21 = (3 : Int32) then (some ((a19 / (2 : Int32)), σ)) else (if a21 = (4 : Int32) then (bnd (f_X8_within (a20 + (30 : Int32)) (0 : Int32) (100 : Int32) σ) (fun a22 => (some (a22, σ)))) else (if a21 = (5 : Int32) then (some ((0 : Int32), σ)) else (some ((0 : Int32), σ))))))))))))) else (bnd (f_X8_of a1 (2 : Int32) σ) (fun a23 => (bnd (ix 128 (102 : Int32)) (fun j4 => (bnd (ix 128 (110 : Int32)) (fun j5 => (bnd (f_X8_vowIs p1 (2 : Int32) (mput (mput σ 37 0 j4 a23) 37 0 j5 a2)) (fun a24 => (bnd (ix 128 (119 : Int32)) (fun j6 => (bnd (f_X8_worked a18 (mput (mput (mput σ 37 0 j4 a23) 37 0 j5 a2) 37 0 j6 a24)) (fun a25 => (bnd (f_X8_within a25.1 (0 : Int32) (100 : Int32) a25.2) (fun a26 => (bnd (f_X8_within (a26 + (10 : Int32)) (0 : Int32) (100 : Int32) a25.2) (fun a27 => (bnd (f_X8_within (a26 - (20 : Int32)) (0 : Int32) (100 : Int32) a25.2) (fun a28 => (bnd (f_X8_of a1 (0 : Int32) a25.2) (fun a29 => (if a29 = (1 : Int32) then (some (a27, a25.2)) else (if a29 = (2 : Int32) then (some (a28, a25.2)) else (if a29 = (3 : Int32) then (some ((a27 / (2 : Int32)), a25.2)) else (if a29 = (4 : Int32) then (bnd (f_X8_within (a28 + (30 : Int32)) (0 : Int32) (100 : Int32) a25.2) (fun a30 => (some (a30, a25.2)))) else (if a29 = (5 : Int32) then (some ((0 : Int32), a25.2)) else (some (a26, a25.2)))))))))))))))))))))))))))))))))))))
set_option maxRecDepth 100000 in
set_option maxHeartbeats 4000000 in
theorem F_X8_keeps {X : Cx} {p1 : Int32} {σ : Mem} {res : (Int32 × Mem)}  (h : f_X8_keeps p1 σ = some res) : Tri X 3 mX8_keeps [rf X 8 0, .int p1] σ (some (.int res.1)) res.2 := by
  obtain ⟨r0, σ2⟩ := res
  unfold f_X8_keeps at h
  refine Tri.of (ls := [some (rf X 8 0), some (.int p1), none, none, none, none, none, none]) (by decide) (Nat.le_of_ble_eq_true rfl) rfl ?_
  refine i_aload_n dX8_keeps_0 rfl ?_
  refine i_iload_n dX8_keeps_1 rfl ?_
  refine i_iconst (v := 0) dX8_keeps_2 (by decide) ?_
  refine cV_ir dX8_keeps_3 cw_X8_91 ci_X8_vowIs rfl rfl (by decide) (show 0 < 1 by omega) h (fun a1 e => F_X8_vowIs  e) (Nat.le_of_ble_eq_true rfl) rfl rfl (Nat.le_of_ble_eq_true rfl) (fun a1 ea1 h => ?_)
  refine i_istore_n (ls' := [some (rf X 8 0), some (.int p1), some (.int a1), none, none, none, none, none]) dX8_keeps_6 (by decide) (okp_at rfl) rfl ?_
  refine i_aload_n dX8_keeps_7 rfl ?_
  refine i_iload_n dX8_keeps_8 rfl ?_
  refine i_iconst (v := 0) dX8_keeps_9 (by decide) ?_
  refine cV_ir dX8_keeps_10 cw_X8_95 ci_X8_manyBy rfl rfl (by decide) (show 0 < 1 by omega) h (fun a2 e => F_X8_manyBy  e) (Nat.le_of_ble_eq_true rfl) rfl rfl (Nat.le_of_ble_eq_true rfl) (fun a2 ea2 h => ?_)
  refine i_istore_n (ls' := [some (rf X 8 0), some (.int p1), some (.int a1), some (.int a2), none, none, none, none]) dX8_keeps_13 (by decide) (okp_at rfl) rfl ?_
  refine i_aload_n dX8_keeps_14 rfl ?_
  refine i_iload_n dX8_keeps_15 rfl ?_
  refine i_iconst (v := 2) dX8_keeps_16 (by decide) ?_
  refine cV_ir dX8_keeps_17 cw_X8_98 ci_X8_of rfl rfl (by decide) (show 0 < 1 by omega) h (fun a3 e => F_X8_of  e) (Nat.le_of_ble_eq_true rfl) rfl rfl (Nat.le_of_ble_eq_true rfl) (fun a3 ea3 h => ?_)
  refine i_iconst (v := 5) dX8_keeps_20 (by decide) ?_
  refine i_iload_n dX8_keeps_21 rfl ?_
  refine i_imul dX8_keeps_22 ?_
  refine r_icmp_ge (tgt := 30) dX8_keeps_23 (by decide) h (fun c1 h => ?_) (fun c1 h => ?_)
  · refine i_aload_n dX8_keeps_30 rfl ?_
    refine i_iload_n dX8_keeps_31 rfl ?_
    refine i_iconst (v := 2) dX8_keeps_32 (by decide) ?_
    refine cV_ir dX8_keeps_33 cw_X8_98 ci_X8_of rfl rfl (by decide) (show 0 < 1 by omega) h (fun a4 e => F_X8_of  e) (Nat.le_of_ble_eq_true rfl) rfl rfl (Nat.le_of_ble_eq_true rfl) (fun a4 ea4 h => ?_)
    refine i_iconst (v := 5) dX8_keeps_36 (by decide) ?_
    refine i_iload_n dX8_keeps_37 rfl ?_
    refine i_imul dX8_keeps_38 ?_
    refine i_isub dX8_keeps_39 ?_
    refine i_istore (ls' := [some (rf X 8 0), some (.int p1), some (.int a1), some (.int a2), some (.int (a4 - ((5 : Int32) * a2))), none, none, none]) dX8_keeps_40 (by decide) (okp_at rfl) rfl ?_
    refine i_aload_n dX8_keeps_42 rfl ?_
    refine i_iconst (v := 0) dX8_keeps_43 (by decide) ?_
    refine cV_ir dX8_keeps_44 cw_X8_101 ci_X8_counts rfl rfl (by decide) (show 0 < 1 by omega) h (fun a5 e => F_X8_counts  e) (Nat.le_of_ble_eq_true rfl) rfl rfl (Nat.le_of_ble_eq_true rfl) (fun a5 ea5 h => ?_)
    refine i_istore (ls' := [some (rf X 8 0), some (.int p1), some (.int a1), some (.int a2), some (.int (a4 - ((5 : Int32) * a2))), some (.int a5), none, none]) dX8_keeps_47 (by decide) (okp_at rfl) rfl ?_
    refine i_iload dX8_keeps_49 rfl ?_
    refine r_if_lt (tgt := 102) dX8_keeps_51 (by decide) h (fun c2 h => ?_) (fun c2 h => ?_)
    · refine i_iload dX8_keeps_102 rfl ?_
      refine i_bipush (v := 10) dX8_keeps_104 (by decide) ?_
      refine i_iadd dX8_keeps_106 ?_
      refine i_iconst (v := 0) dX8_keeps_107 (by decide) ?_
      refine i_bipush (v := 100) dX8_keeps_108 (by decide) ?_
      refine cS_ir dX8_keeps_110 cw_X8_108 ci_X8_within h (fun a6 e => F_X8_within  e) (Nat.le_of_ble_eq_true rfl) rfl rfl (Nat.le_of_ble_eq_true rfl) (fun a6 ea6 h => ?_)
      refine i_istore (ls' := [some (rf X 8 0), some (.int p1), some (.int a1), some (.int a2), some (.int (a4 - ((5 : Int32) * a2))), some (.int a5), some (.int a6), none]) dX8_keeps_113 (by decide) (okp_at rfl) rfl ?_
      refine i_iload dX8_keeps_115 rfl ?_
      refine i_bipush (v := 20) dX8_keeps_117 (by decide) ?_
      refine i_isub dX8_keeps_119 ?_
      refine i_iconst (v := 0) dX8_keeps_120 (by decide) ?_
      refine i_bipush (v := 100) dX8_keeps_121 (by decide) ?_
      refine cS_ir dX8_keeps_123 cw_X8_108 ci_X8_within h (fun a7 e => F_X8_within  e) (Nat.le_of_ble_eq_true rfl) rfl rfl (Nat.le_of_ble_eq_true rfl) (fun a7 ea7 h => ?_)
      refine i_istore (ls' := [some (rf X 8 0), some (.int p1), some (.int a1), some (.int a2), some (.int (a4 - ((5 : Int32) * a2))), some (.int a5), some (.int a6), some (.int a7)]) dX8_keeps_126 (by decide) (okp_at rfl) rfl ?_
      refine i_aload_n dX8_keeps_128 rfl ?_
      refine i_iload_n dX8_keeps_129 rfl ?_
      refine i_iconst (v := 0) dX8_keeps_130 (by decide) ?_
      refine cV_ir dX8_keeps_131 cw_X8_98 ci_X8_of rfl rfl (by decide) (show 0 < 1 by omega) h (fun a8 e => F_X8_of  e) (Nat.le_of_ble_eq_true rfl) rfl rfl (Nat.le_of_ble_eq_true rfl) (fun a8 ea8 h => ?_)
      refine r_case (c := a8 = (1 : Int32)) h (fun c3 h => ?_) (fun c3 h => ?_)
      · refine i_tin (tgt := 168) (off := 34) dX8_keeps_134 (1 : Int32) c3 (by decide) (by decide) (by decide) (by decide) ?_
        refine i_iload dX8_keeps_168 rfl ?_
        exact e_iw rfl dX8_keeps_170 h
      · refine r_case (c := a8 = (2 : Int32)) h (fun c4 h => ?_) (fun c4 h => ?_)
        · refine i_tin (tgt := 171) (off := 37) dX8_keeps_134 (2 : Int32) c4 (by decide) (by decide) (by decide) (by decide) ?_
          refine i_iload dX8_keeps_171 rfl ?_
          exact e_iw rfl dX8_keeps_173 h
        · refine r_case (c := a8 = (3 : Int32)) h (fun c5 h => ?_) (fun c5 h => ?_)
          · refine i_tin (tgt := 174) (off := 40) dX8_keeps_134 (3 : Int32) c5 (by decide) (by decide) (by decide) (by decide) ?_
            refine i_iload dX8_keeps_174 rfl ?_
            refine i_iconst (v := 2) dX8_keeps_176 (by decide) ?_
            refine i_idiv dX8_keeps_177 (by decide) ?_
            exact e_iw rfl dX8_keeps_178 h
          · refine r_case (c := a8 = (4 : Int32)) h (fun c6 h => ?_) (fun c6 h => ?_)
            · refine i_tin (tgt := 179) (off := 45) dX8_keeps_134 (4 : Int32) c6 (by decide) (by decide) (by decide) (by decide) ?_
              refine i_iload dX8_keeps_179 rfl ?_
              refine i_bipush (v := 30) dX8_keeps_181 (by decide) ?_
              refine i_iadd dX8_keeps_183 ?_
              refine i_iconst (v := 0) dX8_keeps_184 (by decide) ?_
              refine i_bipush (v := 100) dX8_keeps_185 (by decide) ?_
              refine cS_ir dX8_keeps_187 cw_X8_108 ci_X8_within h (fun a9 e => F_X8_within  e) (Nat.le_of_ble_eq_true rfl) rfl rfl (Nat.le_of_ble_eq_true rfl) (fun a9 ea9 h => ?_)
              exact e_iw rfl dX8_keeps_190 h
            · refine r_case (c := a8 = (5 : Int32)) h (fun c7 h => ?_) (fun c7 h => ?_)
              · refine i_tin (tgt := 191) (off := 57) dX8_keeps_134 (5 : Int32) c7 (by decide) (by decide) (by decide) (by decide) ?_
                refine i_iconst (v := 0) dX8_keeps_191 (by decide) ?_
                exact e_iw rfl dX8_keeps_192 h
              · refine i_tout (tgt := 193) dX8_keeps_134 (tsw_1_5 c3 c4 c5 c6 c7) (by decide) ?_
                refine i_iload dX8_keeps_193 rfl ?_
                exact e_iw rfl dX8_keeps_195 h
    · refine i_aload_n dX8_keeps_54 rfl ?_
      refine gf_X8_55 rfl (by omega) dX8_keeps_55 ?_
      refine i_bipush (v := 102) dX8_keeps_58 (by decide) ?_
      refine i_aload_n dX8_keeps_60 rfl ?_
      refine i_iload_n dX8_keeps_61 rfl ?_
      refine i_iconst (v := 2) dX8_keeps_62 (by decide) ?_
      refine cV_ir dX8_keeps_63 cw_X8_98 ci_X8_of rfl rfl (by decide) (show 0 < 1 by omega) h (fun a10 e => F_X8_of  e) (Nat.le_of_ble_eq_true rfl) rfl rfl (Nat.le_of_ble_eq_true rfl) (fun a10 ea10 h => ?_)
      refine as_37 dX8_keeps_66 (by omega) h (fun j1 lj1 h => ?_)
      refine i_aload_n dX8_keeps_67 rfl ?_
      refine gf_X8_55 rfl (by omega) dX8_keeps_68 ?_
      refine i_bipush (v := 110) dX8_keeps_71 (by decide) ?_
      refine i_iload_n dX8_keeps_73 rfl ?_
      refine as_37 dX8_keeps_74 (by omega) h (fun j2 lj2 h => ?_)
      refine i_aload_n dX8_keeps_75 rfl ?_
      refine gf_X8_55 rfl (by omega) dX8_keeps_76 ?_
      refine i_bipush (v := 119) dX8_keeps_79 (by decide) ?_
      refine i_aload_n dX8_keeps_81 rfl ?_
      refine i_iload_n dX8_keeps_82 rfl ?_
      refine i_iconst (v := 2) dX8_keeps_83 (by decide) ?_
      refine cV_ir dX8_keeps_84 cw_X8_91 ci_X8_vowIs rfl rfl (by decide) (show 0 < 1 by omega) h (fun a11 e => F_X8_vowIs  e) (Nat.le_of_ble_eq_true rfl) rfl rfl (Nat.le_of_ble_eq_true rfl) (fun a11 ea11 h => ?_)
      refine as_37 dX8_keeps_87 (by omega) h (fun j3 lj3 h => ?_)
      refine i_aload_n dX8_keeps_88 rfl ?_
      refine i_iload dX8_keeps_89 rfl ?_
      refine cV_iw dX8_keeps_91 cw_X8_105 ci_X8_worked rfl rfl (by decide) (show 0 < 1 by omega) h (fun a12 e => F_X8_worked  e) (Nat.le_of_ble_eq_true rfl) rfl rfl (Nat.le_of_ble_eq_true rfl) (fun a12 ea12 h => ?_)
      refine i_iconst (v := 0) dX8_keeps_94 (by decide) ?_
      refine i_bipush (v := 100) dX8_keeps_95 (by decide) ?_
      refine cS_ir dX8_keeps_97 cw_X8_108 ci_X8_within h (fun a13 e => F_X8_within  e) (Nat.le_of_ble_eq_true rfl) rfl rfl (Nat.le_of_ble_eq_true rfl) (fun a13 ea13 h => ?_)
      refine i_istore (ls' := [some (rf X 8 0), some (.int p1), some (.int a1), some (.int a2), some (.int a13), some (.int a5), none, none]) dX8_keeps_100 (by decide) (okp_at rfl) rfl ?_
      refine i_iload dX8_keeps_102 rfl ?_
      refine i_bipush (v := 10) dX8_keeps_104 (by decide) ?_
      refine i_iadd dX8_keeps_106 ?_
      refine i_iconst (v := 0) dX8_keeps_107 (by decide) ?_
      refine i_bipush (v := 100) dX8_keeps_108 (by decide) ?_
      refine cS_ir dX8_keeps_110 cw_X8_108 ci_X8_within h (fun a14 e => F_X8_within  e) (Nat.le_of_ble_eq_true rfl) rfl rfl (Nat.le_of_ble_eq_true rfl) (fun a14 ea14 h => ?_)
      refine i_istore (ls' := [some (rf X 8 0), some (.int p1), some (.int a1), some (.int a2), some (.int a13), some (.int a5), some (.int a14), none]) dX8_keeps_113 (by decide) (okp_at rfl) rfl ?_
      refine i_iload dX8_keeps_115 rfl ?_
      refine i_bipush (v := 20) dX8_keeps_117 (by decide) ?_
      refine i_isub dX8_keeps_119 ?_
      refine i_iconst (v := 0) dX8_keeps_120 (by decide) ?_
      refine i_bipush (v := 100) dX8_keeps_121 (by decide) ?_
      refine cS_ir dX8_keeps_123 cw_X8_108 ci_X8_within h (fun a15 e => F_X8_within  e) (Nat.le_of_ble_eq_true rfl) rfl rfl (Nat.le_of_ble_eq_true rfl) (fun a15 ea15 h => ?_)
      refine i_istore (ls' := [some (rf X 8 0), some (.int p1), some (.int a1), some (.int a2), some (.int a13), some (.int a5), some (.int a14), some (.int a15)]) dX8_keeps_126 (by decide) (okp_at rfl) rfl ?_
      refine i_aload_n dX8_keeps_128 rfl ?_
      refine i_iload_n dX8_keeps_129 rfl ?_
      refine i_iconst (v := 0) dX8_keeps_130 (by decide) ?_
      refine cV_ir dX8_keeps_131 cw_X8_98 ci_X8_of rfl rfl (by decide) (show 0 < 1 by omega) h (fun a16 e => F_X8_of  e) (Nat.le_of_ble_eq_true rfl) rfl rfl (Nat.le_of_ble_eq_true rfl) (fun a16 ea16 h => ?_)
      refine r_case (c := a16 = (1 : Int32)) h (fun c8 h => ?_) (fun c8 h => ?_)
      · refine i_tin (tgt := 168) (off := 34) dX8_keeps_134 (1 : Int32) c8 (by decide) (by decide) (by decide) (by decide) ?_
        refine i_iload dX8_keeps_168 rfl ?_
        exact e_iw rfl dX8_keeps_170 h
      · refine r_case (c := a16 = (2 : Int32)) h (fun c9 h => ?_) (fun c9 h => ?_)
        · refine i_tin (tgt := 171) (off := 37) dX8_keeps_134 (2 : Int32) c9 (by decide) (by decide) (by decide) (by decide) ?_
          refine i_iload dX8_keeps_171 rfl ?_
          exact e_iw rfl dX8_keeps_173 h
        · refine r_case (c := a16 = (3 : Int32)) h (fun c10 h => ?_) (fun c10 h => ?_)
          · refine i_tin (tgt := 174) (off := 40) dX8_keeps_134 (3 : Int32) c10 (by decide) (by decide) (by decide) (by decide) ?_
            refine i_iload dX8_keeps_174 rfl ?_
            refine i_iconst (v := 2) dX8_keeps_176 (by decide) ?_
            refine i_idiv dX8_keeps_177 (by decide) ?_
            exact e_iw rfl dX8_keeps_178 h
          · refine r_case (c := a16 = (4 : Int32)) h (fun c11 h => ?_) (fun c11 h => ?_)
            · refine i_tin (tgt := 179) (off := 45) dX8_keeps_134 (4 : Int32) c11 (by decide) (by decide) (by decide) (by decide) ?_
              refine i_iload dX8_keeps_179 rfl ?_
              refine i_bipush (v := 30) dX8_keeps_181 (by decide) ?_
              refine i_iadd dX8_keeps_183 ?_
              refine i_iconst (v := 0) dX8_keeps_184 (by decide) ?_
              refine i_bipush (v := 100) dX8_keeps_185 (by decide) ?_
              refine cS_ir dX8_keeps_187 cw_X8_108 ci_X8_within h (fun a17 e => F_X8_within  e) (Nat.le_of_ble_eq_true rfl) rfl rfl (Nat.le_of_ble_eq_true rfl) (fun a17 ea17 h => ?_)
              exact e_iw rfl dX8_keeps_190 h
            · refine r_case (c := a16 = (5 : Int32)) h (fun c12 h => ?_) (fun c12 h => ?_)
              · refine i_tin (tgt := 191) (off := 57) dX8_keeps_134 (5 : Int32) c12 (by decide) (by decide) (by decide) (by decide) ?_
                refine i_iconst (v := 0) dX8_keeps_191 (by decide) ?_
                exact e_iw rfl dX8_keeps_192 h
              · refine i_tout (tgt := 193) dX8_keeps_134 (tsw_1_5 c8 c9 c10 c11 c12) (by decide) ?_
                refine i_iload dX8_keeps_193 rfl ?_
                exact e_iw rfl dX8_keeps_195 h
  · refine i_iconst (v := 0) dX8_keeps_26 (by decide) ?_
    refine i_goto (tgt := 40) dX8_keeps_27 (by decide) ?_
    refine i_istore (ls' := [some (rf X 8 0), some (.int p1), some (.int a1), some (.int a2), some (.int (0 : Int32)), none, none, none]) dX8_keeps_40 (by decide) (okp_at rfl) rfl ?_
    refine i_aload_n dX8_keeps_42 rfl ?_
    refine i_iconst (v := 0) dX8_keeps_43 (by decide) ?_
    refine cV_ir dX8_keeps_44 cw_X8_101 ci_X8_counts rfl rfl (by decide) (show 0 < 1 by omega) h (fun a18 e => F_X8_counts  e) (Nat.le_of_ble_eq_true rfl) rfl rfl (Nat.le_of_ble_eq_true rfl) (fun a18 ea18 h => ?_)
    refine i_istore (ls' := [some (rf X 8 0), some (.int p1), some (.int a1), some (.int a2), some (.int (0 : Int32)), some (.int a18), none, none]) dX8_keeps_47 (by decide) (okp_at rfl) rfl ?_
    refine i_iload dX8_keeps_49 rfl ?_
    refine r_if_lt (tgt := 102) dX8_keeps_51 (by decide) h (fun c13 h => ?_) (fun c13 h => ?_)
    · refine i_iload dX8_keeps_102 rfl ?_
      refine i_bipush (v := 10) dX8_keeps_104 (by decide) ?_
      refine i_iadd dX8_keeps_106 ?_
      refine i_iconst (v := 0) dX8_keeps_107 (by decide) ?_
      refine i_bipush (v := 100) dX8_keeps_108 (by decide) ?_
      refine cS_ir dX8_keeps_110 cw_X8_108 ci_X8_within h (fun a19 e => F_X8_within  e) (Nat.le_of_ble_eq_true rfl) rfl rfl (Nat.le_of_ble_eq_true rfl) (fun a19 ea19 h => ?_)
      refine i_istore (ls' := [some (rf X 8 0), some (.int p1), some (.int a1), some (.int a2), some (.int (0 : Int32)), some (.int a18), some (.int a19), none]) dX8_keeps_113 (by decide) (okp_at rfl) rfl ?_
      refine i_iload dX8_keeps_115 rfl ?_
      refine i_bipush (v := 20) dX8_keeps_117 (by decide) ?_
      refine i_isub dX8_keeps_119 ?_
      refine i_iconst (v := 0) dX8_keeps_120 (by decide) ?_
      refine i_bipush (v := 100) dX8_keeps_121 (by decide) ?_
      refine cS_ir dX8_keeps_123 cw_X8_108 ci_X8_within h (fun a20 e => F_X8_within  e) (Nat.le_of_ble_eq_true rfl) rfl rfl (Nat.le_of_ble_eq_true rfl) (fun a20 ea20 h => ?_)
      refine i_istore (ls' := [some (rf X 8 0), some (.int p1), some (.int a1), some (.int a2), some (.int (0 : Int32)), some (.int a18), some (.int a19), some (.int a20)]) dX8_keeps_126 (by decide) (okp_at rfl) rfl ?_
      refine i_aload_n dX8_keeps_128 rfl ?_
      refine i_iload_n dX8_keeps_129 rfl ?_
      refine i_iconst (v := 0) dX8_keeps_130 (by decide) ?_
      refine cV_ir dX8_keeps_131 cw_X8_98 ci_X8_of rfl rfl (by decide) (show 0 < 1 by omega) h (fun a21 e => F_X8_of  e) (Nat.le_of_ble_eq_true rfl) rfl rfl (Nat.le_of_ble_eq_true rfl) (fun a21 ea21 h => ?_)
      refine r_case (c := a21 = (1 : Int32)) h (fun c14 h => ?_) (fun c14 h => ?_)
      · refine i_tin (tgt := 168) (off := 34) dX8_keeps_134 (1 : Int32) c14 (by decide) (by decide) (by decide) (by decide) ?_
        refine i_iload dX8_keeps_168 rfl ?_
        exact e_iw rfl dX8_keeps_170 h
      · refine r_case (c := a21 = (2 : Int32)) h (fun c15 h => ?_) (fun c15 h => ?_)
        · refine i_tin (tgt := 171) (off := 37) dX8_keeps_134 (2 : Int32) c15 (by decide) (by decide) (by decide) (by decide) ?_
          refine i_iload dX8_keeps_171 rfl ?_
          exact e_iw rfl dX8_keeps_173 h
        · refine r_case (c := a21 = (3 : Int32)) h (fun c16 h => ?_) (fun c16 h => ?_)
          · refine i_tin (tgt := 174) (off := 40) dX8_keeps_134 (3 : Int32) c16 (by decide) (by decide) (by decide) (by decide) ?_
            refine i_iload dX8_keeps_174 rfl ?_
            refine i_iconst (v := 2) dX8_keeps_176 (by decide) ?_
            refine i_idiv dX8_keeps_177 (by decide) ?_
            exact e_iw rfl dX8_keeps_178 h
          · refine r_case (c := a21 = (4 : Int32)) h (fun c17 h => ?_) (fun c17 h => ?_)
            · refine i_tin (tgt := 179) (off := 45) dX8_keeps_134 (4 : Int32) c17 (by decide) (by decide) (by decide) (by decide) ?_
              refine i_iload dX8_keeps_179 rfl ?_
              refine i_bipush (v := 30) dX8_keeps_181 (by decide) ?_
              refine i_iadd dX8_keeps_183 ?_
              refine i_iconst (v := 0) dX8_keeps_184 (by decide) ?_
              refine i_bipush (v := 100) dX8_keeps_185 (by decide) ?_
              refine cS_ir dX8_keeps_187 cw_X8_108 ci_X8_within h (fun a22 e => F_X8_within  e) (Nat.le_of_ble_eq_true rfl) rfl rfl (Nat.le_of_ble_eq_true rfl) (fun a22 ea22 h => ?_)
              exact e_iw rfl dX8_keeps_190 h
            · refine r_case (c := a21 = (5 : Int32)) h (fun c18 h => ?_) (fun c18 h => ?_)
              · refine i_tin (tgt := 191) (off := 57) dX8_keeps_134 (5 : Int32) c18 (by decide) (by decide) (by decide) (by decide) ?_
                refine i_iconst (v := 0) dX8_keeps_191 (by decide) ?_
                exact e_iw rfl dX8_keeps_192 h
              · refine i_tout (tgt := 193) dX8_keeps_134 (tsw_1_5 c14 c15 c16 c17 c18) (by decide) ?_
                refine i_iload dX8_keeps_193 rfl ?_
                exact e_iw rfl dX8_keeps_195 h
    · refine i_aload_n dX8_keeps_54 rfl ?_
      refine gf_X8_55 rfl (by omega) dX8_keeps_55 ?_
      refine i_bipush (v := 102) dX8_keeps_58 (by decide) ?_
      refine i_aload_n dX8_keeps_60 rfl ?_
      refine i_iload_n dX8_keeps_61 rfl ?_
      refine i_iconst (v := 2) dX8_keeps_62 (by decide) ?_
      refine cV_ir dX8_keeps_63 cw_X8_98 ci_X8_of rfl rfl (by decide) (show 0 < 1 by omega) h (fun a23 e => F_X8_of  e) (Nat.le_of_ble_eq_true rfl) rfl rfl (Nat.le_of_ble_eq_true rfl) (fun a23 ea23 h => ?_)
      refine as_37 dX8_keeps_66 (by omega) h (fun j4 lj4 h => ?_)
      refine i_aload_n dX8_keeps_67 rfl ?_
      refine gf_X8_55 rfl (by omega) dX8_keeps_68 ?_
      refine i_bipush (v := 110) dX8_keeps_71 (by decide) ?_
      refine i_iload_n dX8_keeps_73 rfl ?_
      refine as_37 dX8_keeps_74 (by omega) h (fun j5 lj5 h => ?_)
      refine i_aload_n dX8_keeps_75 rfl ?_
      refine gf_X8_55 rfl (by omega) dX8_keeps_76 ?_
      refine i_bipush (v := 119) dX8_keeps_79 (by decide) ?_
      refine i_aload_n dX8_keeps_81 rfl ?_
      refine i_iload_n dX8_keeps_82 rfl ?_
      refine i_iconst (v := 2) dX8_keeps_83 (by decide) ?_
      refine cV_ir dX8_keeps_84 cw_X8_91 ci_X8_vowIs rfl rfl (by decide) (show 0 < 1 by omega) h (fun a24 e => F_X8_vowIs  e) (Nat.le_of_ble_eq_true rfl) rfl rfl (Nat.le_of_ble_eq_true rfl) (fun a24 ea24 h => ?_)
      refine as_37 dX8_keeps_87 (by omega) h (fun j6 lj6 h => ?_)
      refine i_aload_n dX8_keeps_88 rfl ?_
      refine i_iload dX8_keeps_89 rfl ?_
      refine cV_iw dX8_keeps_91 cw_X8_105 ci_X8_worked rfl rfl (by decide) (show 0 < 1 by omega) h (fun a25 e => F_X8_worked  e) (Nat.le_of_ble_eq_true rfl) rfl rfl (Nat.le_of_ble_eq_true rfl) (fun a25 ea25 h => ?_)
      refine i_iconst (v := 0) dX8_keeps_94 (by decide) ?_
      refine i_bipush (v := 100) dX8_keeps_95 (by decide) ?_
      refine cS_ir dX8_keeps_97 cw_X8_108 ci_X8_within h (fun a26 e => F_X8_within  e) (Nat.le_of_ble_eq_true rfl) rfl rfl (Nat.le_of_ble_eq_true rfl) (fun a26 ea26 h => ?_)
      refine i_istore (ls' := [some (rf X 8 0), some (.int p1), some (.int a1), some (.int a2), some (.int a26), some (.int a18), none, none]) dX8_keeps_100 (by decide) (okp_at rfl) rfl ?_
      refine i_iload dX8_keeps_102 rfl ?_
      refine i_bipush (v := 10) dX8_keeps_104 (by decide) ?_
      refine i_iadd dX8_keeps_106 ?_
      refine i_iconst (v := 0) dX8_keeps_107 (by decide) ?_
      refine i_bipush (v := 100) dX8_keeps_108 (by decide) ?_
      refine cS_ir dX8_keeps_110 cw_X8_108 ci_X8_within h (fun a27 e => F_X8_within  e) (Nat.le_of_ble_eq_true rfl) rfl rfl (Nat.le_of_ble_eq_true rfl) (fun a27 ea27 h => ?_)
      refine i_istore (ls' := [some (rf X 8 0), some (.int p1), some (.int a1), some (.int a2), some (.int a26), some (.int a18), some (.int a27), none]) dX8_keeps_113 (by decide) (okp_at rfl) rfl ?_
      refine i_iload dX8_keeps_115 rfl ?_
      refine i_bipush (v := 20) dX8_keeps_117 (by decide) ?_
      refine i_isub dX8_keeps_119 ?_
      refine i_iconst (v := 0) dX8_keeps_120 (by decide) ?_
      refine i_bipush (v := 100) dX8_keeps_121 (by decide) ?_
      refine cS_ir dX8_keeps_123 cw_X8_108 ci_X8_within h (fun a28 e => F_X8_within  e) (Nat.le_of_ble_eq_true rfl) rfl rfl (Nat.le_of_ble_eq_true rfl) (fun a28 ea28 h => ?_)
      refine i_istore (ls' := [some (rf X 8 0), some (.int p1), some (.int a1), some (.int a2), some (.int a26), some (.int a18), some (.int a27), some (.int a28)]) dX8_keeps_126 (by decide) (okp_at rfl) rfl ?_
      refine i_aload_n dX8_keeps_128 rfl ?_
      refine i_iload_n dX8_keeps_129 rfl ?_
      refine i_iconst (v := 0) dX8_keeps_130 (by decide) ?_
      refine cV_ir dX8_keeps_131 cw_X8_98 ci_X8_of rfl rfl (by decide) (show 0 < 1 by omega) h (fun a29 e => F_X8_of  e) (Nat.le_of_ble_eq_true rfl) rfl rfl (Nat.le_of_ble_eq_true rfl) (fun a29 ea29 h => ?_)
      refine r_case (c := a29 = (1 : Int32)) h (fun c19 h => ?_) (fun c19 h => ?_)
      · refine i_tin (tgt := 168) (off := 34) dX8_keeps_134 (1 : Int32) c19 (by decide) (by decide) (by decide) (by decide) ?_
        refine i_iload dX8_keeps_168 rfl ?_
        exact e_iw rfl dX8_keeps_170 h
      · refine r_case (c := a29 = (2 : Int32)) h (fun c20 h => ?_) (fun c20 h => ?_)
        · refine i_tin (tgt := 171) (off := 37) dX8_keeps_134 (2 : Int32) c20 (by decide) (by decide) (by decide) (by decide) ?_
          refine i_iload dX8_keeps_171 rfl ?_
          exact e_iw rfl dX8_keeps_173 h
        · refine r_case (c := a29 = (3 : Int32)) h (fun c21 h => ?_) (fun c21 h => ?_)
          · refine i_tin (tgt := 174) (off := 40) dX8_keeps_134 (3 : Int32) c21 (by decide) (by decide) (by decide) (by decide) ?_
            refine i_iload dX8_keeps_174 rfl ?_
            refine i_iconst (v := 2) dX8_keeps_176 (by decide) ?_
            refine i_idiv dX8_keeps_177 (by decide) ?_
            exact e_iw rfl dX8_keeps_178 h
          · refine r_case (c := a29 = (4 : Int32)) h (fun c22 h => ?_) (fun c22 h => ?_)
            · refine i_tin (tgt := 179) (off := 45) dX8_keeps_134 (4 : Int32) c22 (by decide) (by decide) (by decide) (by decide) ?_
              refine i_iload dX8_keeps_179 rfl ?_
              refine i_bipush (v := 30) dX8_keeps_181 (by decide) ?_
              refine i_iadd dX8_keeps_183 ?_
              refine i_iconst (v := 0) dX8_keeps_184 (by decide) ?_
              refine i_bipush (v := 100) dX8_keeps_185 (by decide) ?_
              refine cS_ir dX8_keeps_187 cw_X8_108 ci_X8_within h (fun a30 e => F_X8_within  e) (Nat.le_of_ble_eq_true rfl) rfl rfl (Nat.le_of_ble_eq_true rfl) (fun a30 ea30 h => ?_)
              exact e_iw rfl dX8_keeps_190 h
            · refine r_case (c := a29 = (5 : Int32)) h (fun c23 h => ?_) (fun c23 h => ?_)
              · refine i_tin (tgt := 191) (off := 57) dX8_keeps_134 (5 : Int32) c23 (by decide) (by decide) (by decide) (by decide) ?_
                refine i_iconst (v := 0) dX8_keeps_191 (by decide) ?_
                exact e_iw rfl dX8_keeps_192 h
              · refine i_tout (tgt := 193) dX8_keeps_134 (tsw_1_5 c19 c20 c21 c22 c23) (by decide) ?_
                refine i_iload dX8_keeps_193 rfl ?_
                exact e_iw rfl dX8_keeps_195 h
end
