noncomputable section
def f_X1_startAnew  (p0 : Nat) (σ : Mem) : Option Mem :=
  (some (mput (mput σ 1 p0 1 (0 : Int32)) 1 p0 3 (0 : Int32)))
set_option maxRecDepth 100000 in
set_option maxHeartbeats 4000000 in
theorem F_X1_startAnew {X : Cx} {p0 : Nat} {σ : Mem} {res : Mem} (h0 : p0 < 15) (h : f_X1_startAnew p0 σ = some res) : Tri X 1 mX1_startAnew [rf X 1 p0] σ none res := by
  unfold f_X1_startAnew at h
  refine Tri.of (ls := [some (rf X 1 p0)]) (by decide) (Nat.le_of_ble_eq_true rfl) rfl ?_
  refine i_aload_n dX1_startAnew_0 rfl ?_
  refine i_iconst (v := 0) dX1_startAnew_1 (by decide) ?_
  refine pf_X1_15 rfl (by omega) dX1_startAnew_2 ?_
  refine i_aload_n dX1_startAnew_5 rfl ?_
  refine i_iconst (v := 0) dX1_startAnew_6 (by decide) ?_
  refine pf_X1_19 rfl (by omega) dX1_startAnew_7 ?_
  exact e_vw rfl dX1_startAnew_10 h
def f_X1_put  (p0 : Nat) (p1 : Int32) (σ : Mem) : Option Mem :=
  (if (96 : Int32) ≤ (σ 1 p0 3) then (some σ) else (bnd (ix 96 (σ 1 p0 3)) (fun j1 => (bnd (some (mput (mput σ 11 p0 j1 ((((p1).toInt16.toInt32)).toInt16.toInt32)) 1 p0 3 (((mput σ 11 p0 j1 ((((p1).toInt16.toInt32)).toInt16.toInt32)) 1 p0 3) + (1 : Int32)))) (fun s1 => (some s1))))))
set_option maxRecDepth 100000 in
set_option maxHeartbeats 4000000 in
theorem F_X1_put {X : Cx} {p0 : Nat} {p1 : Int32} {σ : Mem} {res : Mem} (h0 : p0 < 15) (h : f_X1_put p0 p1 σ = some res) : Tri X 1 mX1_put [rf X 1 p0, .int p1] σ none res := by
  unfold f_X1_put at h
  refine Tri.of (ls := [some (rf X 1 p0), some (.int p1)]) (by decide) (Nat.le_of_ble_eq_true rfl) rfl ?_
  refine i_aload_n dX1_put_0 rfl ?_
  refine gf_X1_19 rfl (by omega) dX1_put_1 ?_
  refine i_bipush (v := 96) dX1_put_4 (by decide) ?_
  refine r_icmp_ge (tgt := 30) dX1_put_6 (by decide) h (fun c1 h => ?_) (fun c1 h => ?_)
  · exact e_vw rfl dX1_put_30 h
  · refine i_aload_n dX1_put_9 rfl ?_
    refine gf_X1_9 rfl (by omega) dX1_put_10 ?_
    refine i_aload_n dX1_put_13 rfl ?_
    refine gf_X1_19 rfl (by omega) dX1_put_14 ?_
    refine i_iload_n dX1_put_17 rfl ?_
    refine i_i2s dX1_put_18 ?_
    refine as_11 dX1_put_19 (by omega) h (fun j1 lj1 h => ?_)
    refine i_aload_n dX1_put_20 rfl ?_
    refine i_dup dX1_put_21 rfl ?_
    refine gf_X1_19 rfl (by omega) dX1_put_22 ?_
    refine i_iconst (v := 1) dX1_put_25 (by decide) ?_
    refine i_iadd dX1_put_26 ?_
    refine pf_X1_19 rfl (by omega) dX1_put_27 ?_
    refine r_mem h (fun s1 _ h => ?_)
    exact e_vw rfl dX1_put_30 h
def f_X1_addNumber  (p0 : Nat) (p1 : Int32) (σ : Mem) : Option Mem :=
  (bnd (f_X1_put p0 p1 σ) (fun a1 => (some (mput a1 1 p0 1 ((a1 1 p0 1) + (1 : Int32))))))
set_option maxRecDepth 100000 in
set_option maxHeartbeats 4000000 in
theorem F_X1_addNumber {X : Cx} {p0 : Nat} {p1 : Int32} {σ : Mem} {res : Mem} (h0 : p0 < 15) (h : f_X1_addNumber p0 p1 σ = some res) : Tri X 2 mX1_addNumber [rf X 1 p0, .int p1] σ none res := by
  unfold f_X1_addNumber at h
  refine Tri.of (ls := [some (rf X 1 p0), some (.int p1)]) (by decide) (Nat.le_of_ble_eq_true rfl) rfl ?_
  refine i_aload_n dX1_addNumber_0 rfl ?_
  refine i_iload_n dX1_addNumber_1 rfl ?_
  refine cV_vw dX1_addNumber_2 cw_X1_22 ci_X1_put rfl rfl (by decide) (show p0 < 15 by omega) h (fun a1 e => F_X1_put (by omega) e) (Nat.le_of_ble_eq_true rfl) rfl rfl (Nat.le_of_ble_eq_true rfl) (fun a1 ea1 h => ?_)
  refine i_aload_n dX1_addNumber_5 rfl ?_
  refine i_dup dX1_addNumber_6 rfl ?_
  refine gf_X1_15 rfl (by omega) dX1_addNumber_7 ?_
  refine i_iconst (v := 1) dX1_addNumber_10 (by decide) ?_
  refine i_iadd dX1_addNumber_11 ?_
  refine pf_X1_15 rfl (by omega) dX1_addNumber_12 ?_
  exact e_vw rfl dX1_addNumber_15 h
def f_X1_addName  (p0 : Nat) (p1 : Int32) (σ : Mem) : Option Mem :=
  (bnd (f_X1_put p0 ((-1 : Int32) - p1) σ) (fun a1 => (some (mput a1 1 p0 1 ((a1 1 p0 1) + (1 : Int32))))))
set_option maxRecDepth 100000 in
set_option maxHeartbeats 4000000 in
theorem F_X1_addName {X : Cx} {p0 : Nat} {p1 : Int32} {σ : Mem} {res : Mem} (h0 : p0 < 15) (h : f_X1_addName p0 p1 σ = some res) : Tri X 2 mX1_addName [rf X 1 p0, .int p1] σ none res := by
  unfold f_X1_addName at h
  refine Tri.of (ls := [some (rf X 1 p0), some (.int p1)]) (by decide) (Nat.le_of_ble_eq_true rfl) rfl ?_
  refine i_aload_n dX1_addName_0 rfl ?_
  refine i_iconst (v := (-1)) dX1_addName_1 (by decide) ?_
  refine i_iload_n dX1_addName_2 rfl ?_
  refine i_isub dX1_addName_3 ?_
  refine cV_vw dX1_addName_4 cw_X1_22 ci_X1_put rfl rfl (by decide) (show p0 < 15 by omega) h (fun a1 e => F_X1_put (by omega) e) (Nat.le_of_ble_eq_true rfl) rfl rfl (Nat.le_of_ble_eq_true rfl) (fun a1 ea1 h => ?_)
  refine i_aload_n dX1_addName_7 rfl ?_
  refine i_dup dX1_addName_8 rfl ?_
  refine gf_X1_15 rfl (by omega) dX1_addName_9 ?_
  refine i_iconst (v := 1) dX1_addName_12 (by decide) ?_
  refine i_iadd dX1_addName_13 ?_
  refine pf_X1_15 rfl (by omega) dX1_addName_14 ?_
  exact e_vw rfl dX1_addName_17 h
def f_X1_addSign  (p0 : Nat) (p1 : Int32) (σ : Mem) : Option Mem :=
  (bnd (f_X1_put p0 (-p1) σ) (fun a1 => (some a1)))
set_option maxRecDepth 100000 in
set_option maxHeartbeats 4000000 in
theorem F_X1_addSign {X : Cx} {p0 : Nat} {p1 : Int32} {σ : Mem} {res : Mem} (h0 : p0 < 15) (h : f_X1_addSign p0 p1 σ = some res) : Tri X 2 mX1_addSign [rf X 1 p0, .int p1] σ none res := by
  unfold f_X1_addSign at h
  refine Tri.of (ls := [some (rf X 1 p0), some (.int p1)]) (by decide) (Nat.le_of_ble_eq_true rfl) rfl ?_
  refine i_aload_n dX1_addSign_0 rfl ?_
  refine i_iload_n dX1_addSign_1 rfl ?_
  refine i_ineg dX1_addSign_2 ?_
  refine cV_vw dX1_addSign_3 cw_X1_22 ci_X1_put rfl rfl (by decide) (show p0 < 15 by omega) h (fun a1 e => F_X1_put (by omega) e) (Nat.le_of_ble_eq_true rfl) rfl rfl (Nat.le_of_ble_eq_true rfl) (fun a1 ea1 h => ?_)
  exact e_vw rfl dX1_addSign_6 h
def f_X2_join  (p0 : Int32) (p1 : Int32) (p2 : Int32) (σ : Mem) : Option Int32 :=
  (if p0 = (38 : Int32) then (if p1 = 0 then (some (0 : Int32)) else (if p2 = 0 then (some (0 : Int32)) else (some (1 : Int32)))) else (if p0 = (42 : Int32) then (some (p1 * p2)) else (if p0 = (43 : Int32) then (some (p1 + p2)) else (if p0 = (45 : Int32) then (some (p1 - p2)) else (if p0 = (60 : Int32) then (if p2 ≤ p1 then (some (0 : Int32)) else (some (1 : Int32))) else (if p0 = (61 : Int32) then (if p1 = p2 then (some (1 : Int32)) else (some (0 : Int32))) else (if p0 = (62 : Int32) then (if p1 ≤ p2 then (some (0 : Int32)) else (some (1 : Int32))) else (if p0 = (124 : Int32) then (if p1 = 0 then (if p2 = 0 then (some (0 : Int32)) else (some (1 : Int32))) else (some (1 : Int32))) else (if p2 = 0 then (some (0 : Int32)) else (if p2 = 0 then none else (some (p1 / p2))))))))))))
set_option maxRecDepth 100000 in
set_option maxHeartbeats 4000000 in
theorem F_X2_join {X : Cx} {p0 : Int32} {p1 : Int32} {p2 : Int32} {σ : Mem} {res : Int32}  (h : f_X2_join p0 p1 p2 σ = some res) : Tri X 1 mX2_join [.int p0, .int p1, .int p2] σ (some (.int res)) σ := by
  unfold f_X2_join at h
  refine Tri.of (ls := [some (.int p0), some (.int p1), some (.int p2)]) (by decide) (Nat.le_of_ble_eq_true rfl) rfl ?_
  refine i_iload_n dX2_join_0 rfl ?_
  refine r_case (c := p0 = (38 : Int32)) h (fun c1 h => ?_) (fun c1 h => ?_)
  · refine i_look (tgt := 90) (off := 89) dX2_join_1 (by decide) (by rw [c1]; decide) (by decide) ?_
    refine i_iload_n dX2_join_90 rfl ?_
    refine r_if_eq (tgt := 102) dX2_join_91 (by decide) h (fun c2 h => ?_) (fun c2 h => ?_)
    · refine i_iconst (v := 0) dX2_join_102 (by decide) ?_
      exact e_ir rfl dX2_join_103 h
    · refine i_iload_n dX2_join_94 rfl ?_
      refine r_if_eq (tgt := 102) dX2_join_95 (by decide) h (fun c3 h => ?_) (fun c3 h => ?_)
      · refine i_iconst (v := 0) dX2_join_102 (by decide) ?_
        exact e_ir rfl dX2_join_103 h
      · refine i_iconst (v := 1) dX2_join_98 (by decide) ?_
        refine i_goto (tgt := 103) dX2_join_99 (by decide) ?_
        exact e_ir rfl dX2_join_103 h
  · refine r_case (c := p0 = (42 : Int32)) h (fun c4 h => ?_) (fun c4 h => ?_)
    · refine i_look (tgt := 145) (off := 144) dX2_join_1 (by decide) (by rw [c4]; decide) (by decide) ?_
      refine i_iload_n dX2_join_145 rfl ?_
      refine i_iload_n dX2_join_146 rfl ?_
      refine i_imul dX2_join_147 ?_
      exact e_ir rfl dX2_join_148 h
    · refine r_case (c := p0 = (43 : Int32)) h (fun c5 h => ?_) (fun c5 h => ?_)
      · refine i_look (tgt := 137) (off := 136) dX2_join_1 (by decide) (by rw [c5]; decide) (by decide) ?_
        refine i_iload_n dX2_join_137 rfl ?_
        refine i_iload_n dX2_join_138 rfl ?_
        refine i_iadd dX2_join_139 ?_
        exact e_ir rfl dX2_join_140 h
      · refine r_case (c := p0 = (45 : Int32)) h (fun c6 h => ?_) (fun c6 h => ?_)
        · refine i_look (tgt := 141) (off := 140) dX2_join_1 (by decide) (by rw [c6]; decide) (by decide) ?_
          refine i_iload_n dX2_join_141 rfl ?_
          refine i_iload_n dX2_join_142 rfl ?_
          refine i_isub dX2_join_143 ?_
          exact e_ir rfl dX2_join_144 h
        · refine r_case (c := p0 = (60 : Int32)) h (fun c7 h => ?_) (fun c7 h => ?_)
          · refine i_look (tgt := 104) (off := 103) dX2_join_1 (by decide) (by rw [c7]; decide) (by decide) ?_
            refine i_iload_n dX2_join_104 rfl ?_
            refine i_iload_n dX2_join_105 rfl ?_
            refine r_icmp_ge (tgt := 113) dX2_join_106 (by decide) h (fun c8 h => ?_) (fun c8 h => ?_)
            · refine i_iconst (v := 0) dX2_join_113 (by decide) ?_
              exact e_ir rfl dX2_join_114 h
            · refine i_iconst (v := 1) dX2_join_109 (by decide) ?_
              refine i_goto (tgt := 114) dX2_join_110 (by decide) ?_
              exact e_ir rfl dX2_join_114 h
          · refine r_case (c := p0 = (61 : Int32)) h (fun c9 h => ?_) (fun c9 h => ?_)
            · refine i_look (tgt := 115) (off := 114) dX2_join_1 (by decide) (by rw [c9]; decide) (by decide) ?_
              refine i_iload_n dX2_join_115 rfl ?_
              refine i_iload_n dX2_join_116 rfl ?_
              refine r_icmp_ne (tgt := 124) dX2_join_117 (by decide) h (fun c10 h => ?_) (fun c10 h => ?_)
              · refine i_iconst (v := 0) dX2_join_124 (by decide) ?_
                exact e_ir rfl dX2_join_125 h
              · refine i_iconst (v := 1) dX2_join_120 (by decide) ?_
                refine i_goto (tgt := 125) dX2_join_121 (by decide) ?_
                exact e_ir rfl dX2_join_125 h
            · refine r_case (c := p0 = (62 : Int32)) h (fun c11 h => ?_) (fun c11 h => ?_)
              · refine i_look (tgt := 126) (off := 125) dX2_join_1 (by decide) (by rw [c11]; decide) (by decide) ?_
                refine i_iload_n dX2_join_126 rfl ?_
                refine i_iload_n dX2_join_127 rfl ?_
                refine r_icmp_le (tgt := 135) dX2_join_128 (by decide) h (fun c12 h => ?_) (fun c12 h => ?_)
                · refine i_iconst (v := 0) dX2_join_135 (by decide) ?_
                  exact e_ir rfl dX2_join_136 h
                · refine i_iconst (v := 1) dX2_join_131 (by decide) ?_
                  refine i_goto (tgt := 136) dX2_join_132 (by decide) ?_
                  exact e_ir rfl dX2_join_136 h
              · refine r_case (c := p0 = (124 : Int32)) h (fun c13 h => ?_) (fun c13 h => ?_)
                · refine i_look (tgt := 76) (off := 75) dX2_join_1 (by decide) (by rw [c13]; decide) (by decide) ?_
                  refine i_iload_n dX2_join_76 rfl ?_
                  refine r_if_ne (tgt := 84) dX2_join_77 (by decide) h (fun c14 h => ?_) (fun c14 h => ?_)
                  · refine i_iconst (v := 1) dX2_join_84 (by decide) ?_
                    refine i_goto (tgt := 89) dX2_join_85 (by decide) ?_
                    exact e_ir rfl dX2_join_89 h
                  · refine i_iload_n dX2_join_80 rfl ?_
                    refine r_if_eq (tgt := 88) dX2_join_81 (by decide) h (fun c15 h => ?_) (fun c15 h => ?_)
                    · refine i_iconst (v := 0) dX2_join_88 (by decide) ?_
                      exact e_ir rfl dX2_join_89 h
                    · refine i_iconst (v := 1) dX2_join_84 (by decide) ?_
                      refine i_goto (tgt := 89) dX2_join_85 (by decide) ?_
                      exact e_ir rfl dX2_join_89 h
                · refine i_look (tgt := 149) (off := 148) dX2_join_1 (by decide) (by
                    show Op.lookupswitch.offset [(38, 89), (42, 144), (43, 136), (45, 140), (60, 103), (61, 114), (62, 125), (124, 75)] _ _ = _
                    rw [Op.lookupswitch.offset_cons, if_neg (fun e => ne_toInt c1 (n := 38) (by decide) e.symm), Op.lookupswitch.offset_cons, if_neg (fun e => ne_toInt c4 (n := 42) (by decide) e.symm), Op.lookupswitch.offset_cons, if_neg (fun e => ne_toInt c5 (n := 43) (by decide) e.symm), Op.lookupswitch.offset_cons, if_neg (fun e => ne_toInt c6 (n := 45) (by decide) e.symm), Op.lookupswitch.offset_cons, if_neg (fun e => ne_toInt c7 (n := 60) (by decide) e.symm), Op.lookupswitch.offset_cons, if_neg (fun e => ne_toInt c9 (n := 61) (by decide) e.symm), Op.lookupswitch.offset_cons, if_neg (fun e => ne_toInt c11 (n := 62) (by decide) e.symm), Op.lookupswitch.offset_cons, if_neg (fun e => ne_toInt c13 (n := 124) (by decide) e.symm), Op.lookupswitch.offset_nil]) (by decide) ?_
                  refine i_iload_n dX2_join_149 rfl ?_
                  refine r_if_ne (tgt := 157) dX2_join_150 (by decide) h (fun c16 h => ?_) (fun c16 h => ?_)
                  · refine i_iload_n dX2_join_157 rfl ?_
                    refine i_iload_n dX2_join_158 rfl ?_
                    refine r_idiv dX2_join_159 h (fun h => ?_)
                    exact e_ir rfl dX2_join_160 h
                  · refine i_iconst (v := 0) dX2_join_153 (by decide) ?_
                    refine i_goto (tgt := 160) dX2_join_154 (by decide) ?_
                    exact e_ir rfl dX2_join_160 h
def f_X2_gives_14 (p2 : Int32) (p3 : Int32) (p4 : Int32) (p5 : Nat) : Nat → Int32 → Int32 → Mem → (Mem → Option (Int32 × Mem)) → Option (Int32 × Mem)
  | 0, _, _, _, _ => none
  | n + 1, v6, v7, σ, k =>
    (if (σ 1 p5 3) ≤ v7 then (k σ) else (bnd (ix 96 v7) (fun j1 => (if (σ 11 p5 j1) < (-3 : Int32) then (if (σ 11 p5 j1) = (-33 : Int32) then (if v6 ≤ 0 then (if v6 ≤ (1 : Int32) then (f_X2_gives_14 p2 p3 p4 p5 n v6 (v7 + (1 : Int32)) σ k) else (bnd (ix 96 ((v6 + (-1 : Int32)) - (1 : Int32))) (fun j5 => (bnd (ix 96 (v6 + (-1 : Int32))) (fun j6 => (bnd (f_X2_join ((((-(σ 11 p5 j1))).toUInt32 % 65536).toInt32) (σ 10 0 j5) (σ 10 0 j6) σ) (fun a2 => (bnd (ix 96 ((v6 + (-1 : Int32)) - (1 : Int32))) (fun j7 => (f_X2_gives_14 p2 p3 p4 p5 n (v6 + (-1 : Int32)) (v7 + (1 : Int32)) (mput σ 10 0 j7 a2) k)))))))))) else (bnd (ix 96 (v6 - (1 : Int32))) (fun j8 => (if (σ 10 0 j8) = 0 then (bnd (ix 96 (v6 - (1 : Int32))) (fun j10 => (f_X2_gives_14 p2 p3 p4 p5 n v6 (v7 + (1 : Int32)) (mput σ 10 0 j10 (1 : Int32)) k))) else (bnd (ix 96 (v6 - (1 : Int32))) (fun j9 => (f_X2_gives_14 p2 p3 p4 p5 n v6 (v7 + (1 : Int32)) (mput σ 10 0 j9 (0 : Int32)) k))))))) else (if v6 ≤ (1 : Int32) then (f_X2_gives_14 p2 p3 p4 p5 n v6 (v7 + (1 : Int32)) σ k) else (bnd (ix 96 ((v6 + (-1 : Int32)) - (1 : Int32))) (fun j2 => (bnd (ix 96 (v6 + (-1 : Int32))) (fun j3 => (bnd (f_X2_join ((((-(σ 11 p5 j1))).toUInt32 % 65536).toInt32) (σ 10 0 j2) (σ 10 0 j3) σ) (fun a1 => (bnd (ix 96 ((v6 + (-1 : Int32)) - (1 : Int32))) (fun j4 => (f_X2_gives_14 p2 p3 p4 p5 n (v6 + (-1 : Int32)) (v7 + (1 : Int32)) (mput σ 10 0 j4 a1) k))))))))))) else (if (σ 11 p5 j1) < 0 then (if (σ 11 p5 j1) = (-1 : Int32) then (bnd (ix 96 v6) (fun j13 => (f_X2_gives_14 p2 p3 p4 p5 n (v6 + (1 : Int32)) (v7 + (1 : Int32)) (mput σ 10 0 j13 p2) k))) else (if (σ 11 p5 j1) = (-2 : Int32) then (bnd (ix 96 v6) (fun j12 => (f_X2_gives_14 p2 p3 p4 p5 n (v6 + (1 : Int32)) (v7 + (1 : Int32)) (mput σ 10 0 j12 p3) k))) else (bnd (ix 96 v6) (fun j11 => (f_X2_gives_14 p2 p3 p4 p5 n (v6 + (1 : Int32)) (v7 + (1 : Int32)) (mput σ 10 0 j11 p4) k))))) else (bnd (ix 96 v6) (fun j14 => (f_X2_gives_14 p2 p3 p4 p5 n (v6 + (1 : Int32)) (v7 + (1 : Int32)) (mput σ 10 0 j14 (σ 11 p5 j1)) k))))))))
set_option maxRecDepth 100000 in
set_option maxHeartbeats 4000000 in
theorem L_X2_gives_14 {X : Cx} {p2 : Int32} {p3 : Int32} {p4 : Int32} {p5 : Nat} {r0 : Int32} {σ2 : Mem} {k : Mem → Option (Int32 × Mem)} (h5 : p5 < 15) : ∀ (n : Nat) (v6 : Int32) (v7 : Int32) (σ : Mem), f_X2_gives_14 p2 p3 p4 p5 n v6 v7 σ k = some (r0, σ2) → (∀ (σ1 : Mem), k σ1 = some (r0, σ2) → At X 2 mX2_gives 175 [some (rf X 2 0), none, none, none, none, none, none, none, none] [] σ1 (some (.int r0)) σ2) → At X 2 mX2_gives 14 [some (rf X 2 0), none, some (.int p2), some (.int p3), some (.int p4), some (rf X 1 p5), some (.int v6), some (.int v7), none] [] σ (some (.int r0)) σ2 := by
  intro n
  induction n with
  | zero =>
    intro v6 v7 σ h
    cases h
  | succ n ih =>
    intro v6 v7 σ h hk
    rw [f_X2_gives_14.eq_2] at h
    refine i_iload dX2_gives_14 rfl ?_
    refine i_aload dX2_gives_16 rfl ?_
    refine gf_X2_22 rfl (by omega) dX2_gives_18 ?_
    refine r_icmp_ge (tgt := 175) dX2_gives_21 (by decide) h (fun c1 h => ?_) (fun c1 h => ?_)
    · refine At.fewer (ls' := [some (rf X 2 0), none, none, none, none, none, none, none, none]) (And.intro rfl trivial) ?_
      exact hk _ h
    · refine i_aload dX2_gives_24 rfl ?_
      refine gf_X2_26 rfl (by omega) dX2_gives_26 ?_
      refine i_iload dX2_gives_29 rfl ?_
      refine al_11 dX2_gives_31 (by omega) h (fun j1 lj1 h => ?_)
      refine i_istore (ls' := [some (rf X 2 0), none, some (.int p2), some (.int p3), some (.int p4), some (rf X 1 p5), some (.int v6), some (.int v7), some (.int (σ 11 p5 j1))]) dX2_gives_32 (by decide) (okp_at rfl) rfl ?_
      refine i_iload dX2_gives_34 rfl ?_
      refine i_bipush (v := (-3)) dX2_gives_36 (by decide) ?_
      refine r_icmp_lt (tgt := 87) dX2_gives_38 (by decide) h (fun c2 h => ?_) (fun c2 h => ?_)
      · refine i_iload dX2_gives_87 rfl ?_
        refine i_bipush (v := (-33)) dX2_gives_89 (by decide) ?_
        refine r_icmp_ne (tgt := 128) dX2_gives_91 (by decide) h (fun c3 h => ?_) (fun c3 h => ?_)
        · refine i_iload dX2_gives_128 rfl ?_
          refine i_iconst (v := 1) dX2_gives_130 (by decide) ?_
          refine r_icmp_le (tgt := 169) dX2_gives_131 (by decide) h (fun c4 h => ?_) (fun c4 h => ?_)
          · refine i_iinc (v := (v7 + (1 : Int32))) (ls' := [some (rf X 2 0), none, some (.int p2), some (.int p3), some (.int p4), some (rf X 1 p5), some (.int v6), some (.int (v7 + (1 : Int32))), some (.int (σ 11 p5 j1))]) dX2_gives_169 rfl (by rfl) (by decide) (okp_at rfl) rfl ?_
            refine i_goto (tgt := 14) dX2_gives_172 (by decide) ?_
            refine At.fewer (ls' := [some (rf X 2 0), none, some (.int p2), some (.int p3), some (.int p4), some (rf X 1 p5), some (.int v6), some (.int (v7 + (1 : Int32))), none]) (And.intro rfl (And.intro rfl (And.intro rfl (And.intro rfl (And.intro rfl (And.intro rfl (And.intro rfl trivial))))))) ?_
            exact ih _ _ _ h hk
          · refine i_iinc (v := (v6 + (-1 : Int32))) (ls' := [some (rf X 2 0), none, some (.int p2), some (.int p3), some (.int p4), some (rf X 1 p5), some (.int (v6 + (-1 : Int32))), some (.int v7), some (.int (σ 11 p5 j1))]) dX2_gives_134 rfl (by rfl) (by decide) (okp_at rfl) rfl ?_
            refine i_aload_n dX2_gives_137 rfl ?_
            refine gf_X2_17 rfl (by omega) dX2_gives_138 ?_
            refine i_iload dX2_gives_141 rfl ?_
            refine i_iconst (v := 1) dX2_gives_143 (by decide) ?_
            refine i_isub dX2_gives_144 ?_
            refine i_iload dX2_gives_145 rfl ?_
            refine i_ineg dX2_gives_147 ?_
            refine i_i2c dX2_gives_148 ?_
            refine i_aload_n dX2_gives_149 rfl ?_
            refine gf_X2_17 rfl (by omega) dX2_gives_150 ?_
            refine i_iload dX2_gives_153 rfl ?_
            refine i_iconst (v := 1) dX2_gives_155 (by decide) ?_
            refine i_isub dX2_gives_156 ?_
            refine al_10 dX2_gives_157 (by omega) h (fun j2 lj2 h => ?_)
            refine i_aload_n dX2_gives_158 rfl ?_
            refine gf_X2_17 rfl (by omega) dX2_gives_159 ?_
            refine i_iload dX2_gives_162 rfl ?_
            refine al_10 dX2_gives_164 (by omega) h (fun j3 lj3 h => ?_)
            refine cS_ir dX2_gives_165 cw_X2_30 ci_X2_join h (fun a1 e => F_X2_join  e) (Nat.le_of_ble_eq_true rfl) rfl rfl (Nat.le_of_ble_eq_true rfl) (fun a1 ea1 h => ?_)
            refine as_10 dX2_gives_168 (by omega) h (fun j4 lj4 h => ?_)
            refine i_iinc (v := (v7 + (1 : Int32))) (ls' := [some (rf X 2 0), none, some (.int p2), some (.int p3), some (.int p4), some (rf X 1 p5), some (.int (v6 + (-1 : Int32))), some (.int (v7 + (1 : Int32))), some (.int (σ 11 p5 j1))]) dX2_gives_169 rfl (by rfl) (by decide) (okp_at rfl) rfl ?_
            refine i_goto (tgt := 14) dX2_gives_172 (by decide) ?_
            refine At.fewer (ls' := [some (rf X 2 0), none, some (.int p2), some (.int p3), some (.int p4), some (rf X 1 p5), some (.int (v6 + (-1 : Int32))), some (.int (v7 + (1 : Int32))), none]) (And.intro rfl (And.intro rfl (And.intro rfl (And.intro rfl (And.intro rfl (And.intro rfl (And.intro rfl trivial))))))) ?_
            exact ih _ _ _ h hk
        · refine i_iload dX2_gives_94 rfl ?_
          refine r_if_le (tgt := 128) dX2_gives_96 (by decide) h (fun c5 h => ?_) (fun c5 h => ?_)
          · refine i_iload dX2_gives_128 rfl ?_
            refine i_iconst (v := 1) dX2_gives_130 (by decide) ?_
            refine r_icmp_le (tgt := 169) dX2_gives_131 (by decide) h (fun c6 h => ?_) (fun c6 h => ?_)
            · refine i_iinc (v := (v7 + (1 : Int32))) (ls' := [some (rf X 2 0), none, some (.int p2), some (.int p3), some (.int p4), some (rf X 1 p5), some (.int v6), some (.int (v7 + (1 : Int32))), some (.int (σ 11 p5 j1))]) dX2_gives_169 rfl (by rfl) (by decide) (okp_at rfl) rfl ?_
              refine i_goto (tgt := 14) dX2_gives_172 (by decide) ?_
              refine At.fewer (ls' := [some (rf X 2 0), none, some (.int p2), some (.int p3), some (.int p4), some (rf X 1 p5), some (.int v6), some (.int (v7 + (1 : Int32))), none]) (And.intro rfl (And.intro rfl (And.intro rfl (And.intro rfl (And.intro rfl (And.intro rfl (And.intro rfl trivial))))))) ?_
              exact ih _ _ _ h hk
            · refine i_iinc (v := (v6 + (-1 : Int32))) (ls' := [some (rf X 2 0), none, some (.int p2), some (.int p3), some (.int p4), some (rf X 1 p5), some (.int (v6 + (-1 : Int32))), some (.int v7), some (.int (σ 11 p5 j1))]) dX2_gives_134 rfl (by rfl) (by decide) (okp_at rfl) rfl ?_
              refine i_aload_n dX2_gives_137 rfl ?_
              refine gf_X2_17 rfl (by omega) dX2_gives_138 ?_
              refine i_iload dX2_gives_141 rfl ?_
              refine i_iconst (v := 1) dX2_gives_143 (by decide) ?_
              refine i_isub dX2_gives_144 ?_
              refine i_iload dX2_gives_145 rfl ?_
              refine i_ineg dX2_gives_147 ?_
              refine i_i2c dX2_gives_148 ?_
              refine i_aload_n dX2_gives_149 rfl ?_
              refine gf_X2_17 rfl (by omega) dX2_gives_150 ?_
              refine i_iload dX2_gives_153 rfl ?_
              refine i_iconst (v := 1) dX2_gives_155 (by decide) ?_
              refine i_isub dX2_gives_156 ?_
              refine al_10 dX2_gives_157 (by omega) h (fun j5 lj5 h => ?_)
              refine i_aload_n dX2_gives_158 rfl ?_
              refine gf_X2_17 rfl (by omega) dX2_gives_159 ?_
              refine i_iload dX2_gives_162 rfl ?_
              refine al_10 dX2_gives_164 (by omega) h (fun j6 lj6 h => ?_)
              refine cS_ir dX2_gives_165 cw_X2_30 ci_X2_join h (fun a2 e => F_X2_join  e) (Nat.le_of_ble_eq_true rfl) rfl rfl (Nat.le_of_ble_eq_true rfl) (fun a2 ea2 h => ?_)
              refine as_10 dX2_gives_168 (by omega) h (fun j7 lj7 h => ?_)
              refine i_iinc (v := (v7 + (1 : Int32))) (ls' := [some (rf X 2 0), none, some (.int p2), some (.int p3), some (.int p4), some (rf X 1 p5), some (.int (v6 + (-1 : Int32))), some (.int (v7 + (1 : Int32))), some (.int (σ 11 p5 j1))]) dX2_gives_169 rfl (by rfl) (by decide) (okp_at rfl) rfl ?_
              refine i_goto (tgt := 14) dX2_gives_172 (by decide) ?_
              refine At.fewer (ls' := [some (rf X 2 0), none, some (.int p2), some (.int p3), some (.int p4), some (rf X 1 p5), some (.int (v6 + (-1 : Int32))), some (.int (v7 + (1 : Int32))), none]) (And.intro rfl (And.intro rfl (And.intro rfl (And.intro rfl (And.intro rfl (And.intro rfl (And.intro rfl trivial))))))) ?_
              exact ih _ _ _ h hk
          · refine i_aload_n dX2_gives_99 rfl ?_
            refine gf_X2_17 rfl (by omega) dX2_gives_100 ?_
            refine i_iload dX2_gives_103 rfl ?_
            refine i_iconst (v := 1) dX2_gives_105 (by decide) ?_
            refine i_isub dX2_gives_106 ?_
            refine i_aload_n dX2_gives_107 rfl ?_
            refine gf_X2_17 rfl (by omega) dX2_gives_108 ?_
            refine i_iload dX2_gives_111 rfl ?_
            refine i_iconst (v := 1) dX2_gives_113 (by decide) ?_
            refine i_isub dX2_gives_114 ?_
            refine al_10 dX2_gives_115 (by omega) h (fun j8 lj8 h => ?_)
            refine r_if_ne (tgt := 123) dX2_gives_116 (by decide) h (fun c7 h => ?_) (fun c7 h => ?_)
            · refine i_iconst (v := 0) dX2_gives_123 (by decide) ?_
              refine as_10 dX2_gives_124 (by omega) h (fun j9 lj9 h => ?_)
              refine i_goto (tgt := 169) dX2_gives_125 (by decide) ?_
              refine i_iinc (v := (v7 + (1 : Int32))) (ls' := [some (rf X 2 0), none, some (.int p2), some (.int p3), some (.int p4), some (rf X 1 p5), some (.int v6), some (.int (v7 + (1 : Int32))), some (.int (σ 11 p5 j1))]) dX2_gives_169 rfl (by rfl) (by decide) (okp_at rfl) rfl ?_
              refine i_goto (tgt := 14) dX2_gives_172 (by decide) ?_
              refine At.fewer (ls' := [some (rf X 2 0), none, some (.int p2), some (.int p3), some (.int p4), some (rf X 1 p5), some (.int v6), some (.int (v7 + (1 : Int32))), none]) (And.intro rfl (And.intro rfl (And.intro rfl (And.intro rfl (And.intro rfl (And.intro rfl (And.intro rfl trivial))))))) ?_
              exact ih _ _ _ h hk
            · refine i_iconst (v := 1) dX2_gives_119 (by decide) ?_
              refine i_goto (tgt := 124) dX2_gives_120 (by decide) ?_
              refine as_10 dX2_gives_124 (by omega) h (fun j10 lj10 h => ?_)
              refine i_goto (tgt := 169) dX2_gives_125 (by decide) ?_
              refine i_iinc (v := (v7 + (1 : Int32))) (ls' := [some (rf X 2 0), none, some (.int p2), some (.int p3), some (.int p4), some (rf X 1 p5), some (.int v6), some (.int (v7 + (1 : Int32))), some (.int (σ 11 p5 j1))]) dX2_gives_169 rfl (by rfl) (by decide) (okp_at rfl) rfl ?_
              refine i_goto (tgt := 14) dX2_gives_172 (by decide) ?_
              refine At.fewer (ls' := [some (rf X 2 0), none, some (.int p2), some (.int p3), some (.int p4), some (rf X 1 p5), some (.int v6), some (.int (v7 + (1 : Int32))), none]) (And.intro rfl (And.intro rfl (And.intro rfl (And.intro rfl (And.intro rfl (And.intro rfl (And.intro rfl trivial))))))) ?_
              exact ih _ _ _ h hk
      · refine i_aload_n dX2_gives_41 rfl ?_
        refine gf_X2_17 rfl (by omega) dX2_gives_42 ?_
        refine i_iload dX2_gives_45 rfl ?_
        refine i_iload dX2_gives_47 rfl ?_
        refine r_if_lt (tgt := 57) dX2_gives_49 (by decide) h (fun c8 h => ?_) (fun c8 h => ?_)
        · refine i_iload dX2_gives_57 rfl ?_
          refine i_iconst (v := (-1)) dX2_gives_59 (by decide) ?_
          refine r_icmp_ne (tgt := 67) dX2_gives_60 (by decide) h (fun c9 h => ?_) (fun c9 h => ?_)
          · refine i_iload dX2_gives_67 rfl ?_
            refine i_bipush (v := (-2)) dX2_gives_69 (by decide) ?_
            refine r_icmp_ne (tgt := 78) dX2_gives_71 (by decide) h (fun c10 h => ?_) (fun c10 h => ?_)
            · refine i_iload dX2_gives_78 rfl ?_
              refine as_10 dX2_gives_80 (by omega) h (fun j11 lj11 h => ?_)
              refine i_iinc (v := (v6 + (1 : Int32))) (ls' := [some (rf X 2 0), none, some (.int p2), some (.int p3), some (.int p4), some (rf X 1 p5), some (.int (v6 + (1 : Int32))), some (.int v7), some (.int (σ 11 p5 j1))]) dX2_gives_81 rfl (by rfl) (by decide) (okp_at rfl) rfl ?_
              refine i_goto (tgt := 169) dX2_gives_84 (by decide) ?_
              refine i_iinc (v := (v7 + (1 : Int32))) (ls' := [some (rf X 2 0), none, some (.int p2), some (.int p3), some (.int p4), some (rf X 1 p5), some (.int (v6 + (1 : Int32))), some (.int (v7 + (1 : Int32))), some (.int (σ 11 p5 j1))]) dX2_gives_169 rfl (by rfl) (by decide) (okp_at rfl) rfl ?_
              refine i_goto (tgt := 14) dX2_gives_172 (by decide) ?_
              refine At.fewer (ls' := [some (rf X 2 0), none, some (.int p2), some (.int p3), some (.int p4), some (rf X 1 p5), some (.int (v6 + (1 : Int32))), some (.int (v7 + (1 : Int32))), none]) (And.intro rfl (And.intro rfl (And.intro rfl (And.intro rfl (And.intro rfl (And.intro rfl (And.intro rfl trivial))))))) ?_
              exact ih _ _ _ h hk
            · refine i_iload_n dX2_gives_74 rfl ?_
              refine i_goto (tgt := 80) dX2_gives_75 (by decide) ?_
              refine as_10 dX2_gives_80 (by omega) h (fun j12 lj12 h => ?_)
              refine i_iinc (v := (v6 + (1 : Int32))) (ls' := [some (rf X 2 0), none, some (.int p2), some (.int p3), some (.int p4), some (rf X 1 p5), some (.int (v6 + (1 : Int32))), some (.int v7), some (.int (σ 11 p5 j1))]) dX2_gives_81 rfl (by rfl) (by decide) (okp_at rfl) rfl ?_
              refine i_goto (tgt := 169) dX2_gives_84 (by decide) ?_
              refine i_iinc (v := (v7 + (1 : Int32))) (ls' := [some (rf X 2 0), none, some (.int p2), some (.int p3), some (.int p4), some (rf X 1 p5), some (.int (v6 + (1 : Int32))), some (.int (v7 + (1 : Int32))), some (.int (σ 11 p5 j1))]) dX2_gives_169 rfl (by rfl) (by decide) (okp_at rfl) rfl ?_
              refine i_goto (tgt := 14) dX2_gives_172 (by decide) ?_
              refine At.fewer (ls' := [some (rf X 2 0), none, some (.int p2), some (.int p3), some (.int p4), some (rf X 1 p5), some (.int (v6 + (1 : Int32))), some (.int (v7 + (1 : Int32))), none]) (And.intro rfl (And.intro rfl (And.intro rfl (And.intro rfl (And.intro rfl (And.intro rfl (And.intro rfl trivial))))))) ?_
              exact ih _ _ _ h hk
          · refine i_iload_n dX2_gives_63 rfl ?_
            refine i_goto (tgt := 80) dX2_gives_64 (by decide) ?_
            refine as_10 dX2_gives_80 (by omega) h (fun j13 lj13 h => ?_)
            refine i_iinc (v := (v6 + (1 : Int32))) (ls' := [some (rf X 2 0), none, some (.int p2), some (.int p3), some (.int p4), some (rf X 1 p5), some (.int (v6 + (1 : Int32))), some (.int v7), some (.int (σ 11 p5 j1))]) dX2_gives_81 rfl (by rfl) (by decide) (okp_at rfl) rfl ?_
            refine i_goto (tgt := 169) dX2_gives_84 (by decide) ?_
            refine i_iinc (v := (v7 + (1 : Int32))) (ls' := [some (rf X 2 0), none, some (.int p2), some (.int p3), some (.int p4), some (rf X 1 p5), some (.int (v6 + (1 : Int32))), some (.int (v7 + (1 : Int32))), some (.int (σ 11 p5 j1))]) dX2_gives_169 rfl (by rfl) (by decide) (okp_at rfl) rfl ?_
            refine i_goto (tgt := 14) dX2_gives_172 (by decide) ?_
            refine At.fewer (ls' := [some (rf X 2 0), none, some (.int p2), some (.int p3), some (.int p4), some (rf X 1 p5), some (.int (v6 + (1 : Int32))), some (.int (v7 + (1 : Int32))), none]) (And.intro rfl (And.intro rfl (And.intro rfl (And.intro rfl (And.intro rfl (And.intro rfl (And.intro rfl trivial))))))) ?_
            exact ih _ _ _ h hk
        · refine i_iload dX2_gives_52 rfl ?_
          refine i_goto (tgt := 80) dX2_gives_54 (by decide) ?_
          refine as_10 dX2_gives_80 (by omega) h (fun j14 lj14 h => ?_)
          refine i_iinc (v := (v6 + (1 : Int32))) (ls' := [some (rf X 2 0), none, some (.int p2), some (.int p3), some (.int p4), some (rf X 1 p5), some (.int (v6 + (1 : Int32))), some (.int v7), some (.int (σ 11 p5 j1))]) dX2_gives_81 rfl (by rfl) (by decide) (okp_at rfl) rfl ?_
          refine i_goto (tgt := 169) dX2_gives_84 (by decide) ?_
          refine i_iinc (v := (v7 + (1 : Int32))) (ls' := [some (rf X 2 0), none, some (.int p2), some (.int p3), some (.int p4), some (rf X 1 p5), some (.int (v6 + (1 : Int32))), some (.int (v7 + (1 : Int32))), some (.int (σ 11 p5 j1))]) dX2_gives_169 rfl (by rfl) (by decide) (okp_at rfl) rfl ?_
          refine i_goto (tgt := 14) dX2_gives_172 (by decide) ?_
          refine At.fewer (ls' := [some (rf X 2 0), none, some (.int p2), some (.int p3), some (.int p4), some (rf X 1 p5), some (.int (v6 + (1 : Int32))), some (.int (v7 + (1 : Int32))), none]) (And.intro rfl (And.intro rfl (And.intro rfl (And.intro rfl (And.intro rfl (And.intro rfl (And.intro rfl trivial))))))) ?_
          exact ih _ _ _ h hk
def f_X2_gives  (p1 : Int32) (p2 : Int32) (p3 : Int32) (p4 : Int32) (σ : Mem) : Option (Int32 × Mem) :=
  (bnd (ix 15 p1) (fun j1 => (f_X2_gives_14 p2 p3 p4 j1 FU (0 : Int32) (0 : Int32) σ (fun σ_1 => (bnd (ix 96 (0 : Int32)) (fun j2 => (some ((σ_1 10 0 j2), σ_1))))))))
set_option maxRecDepth 100000 in
set_option maxHeartbeats 4000000 in
theorem F_X2_gives {X : Cx} {p1 : Int32} {p2 : Int32} {p3 : Int32} {p4 : Int32} {σ : Mem} {res : (Int32 × Mem)}  (h : f_X2_gives p1 p2 p3 p4 σ = some res) : Tri X 2 mX2_gives [rf X 2 0, .int p1, .int p2, .int p3, .int p4] σ (some (.int res.1)) res.2 := by
  obtain ⟨r0, σ2⟩ := res
  unfold f_X2_gives at h
  refine Tri.of (ls := [some (rf X 2 0), some (.int p1), some (.int p2), some (.int p3), some (.int p4), none, none, none, none]) (by decide) (Nat.le_of_ble_eq_true rfl) rfl ?_
  refine i_aload_n dX2_gives_0 rfl ?_
  refine gf_X2_11 rfl (by omega) dX2_gives_1 ?_
  refine i_iload_n dX2_gives_4 rfl ?_
  refine aa_9 dX2_gives_5 (by omega) h (fun j1 lj1 h => ?_)
  refine i_astore (ls' := [some (rf X 2 0), some (.int p1), some (.int p2), some (.int p3), some (.int p4), some (rf X 1 j1), none, none, none]) dX2_gives_6 (by decide) (okp_at rfl) rfl ?_
  refine i_iconst (v := 0) dX2_gives_8 (by decide) ?_
  refine i_istore (ls' := [some (rf X 2 0), some (.int p1), some (.int p2), some (.int p3), some (.int p4), some (rf X 1 j1), some (.int (0 : Int32)), none, none]) dX2_gives_9 (by decide) (okp_at rfl) rfl ?_
  refine i_iconst (v := 0) dX2_gives_11 (by decide) ?_
  refine i_istore (ls' := [some (rf X 2 0), some (.int p1), some (.int p2), some (.int p3), some (.int p4), some (rf X 1 j1), some (.int (0 : Int32)), some (.int (0 : Int32)), none]) dX2_gives_12 (by decide) (okp_at rfl) rfl ?_
  refine At.fewer (ls' := [some (rf X 2 0), none, some (.int p2), some (.int p3), some (.int p4), some (rf X 1 j1), some (.int (0 : Int32)), some (.int (0 : Int32)), none]) (And.intro rfl (And.intro rfl (And.intro rfl (And.intro rfl (And.intro rfl (And.intro rfl (And.intro rfl trivial))))))) ?_
  refine L_X2_gives_14 (by omega) FU _ _ _ h (fun σ_1 h => ?_)
  refine i_aload_n dX2_gives_175 rfl ?_
  refine gf_X2_17 rfl (by omega) dX2_gives_176 ?_
  refine i_iconst (v := 0) dX2_gives_179 (by decide) ?_
  refine al_10 dX2_gives_180 (by omega) h (fun j2 lj2 h => ?_)
  exact e_iw rfl dX2_gives_181 h
def f_X5_startAnew_12 (p0 : Nat) (p2 : Int32) : Nat → Int32 → Mem → (Mem → Option Mem) → Option Mem
  | 0, _, _, _ => none
  | n + 1, v3, σ, k =>
    (if p2 ≤ v3 then (k σ) else (bnd (ix 24 v3) (fun j1 => (f_X5_startAnew_12 p0 p2 n (v3 + (1 : Int32)) (mput σ 20 p0 j1 (0 : Int32)) k))))
set_option maxRecDepth 100000 in
set_option maxHeartbeats 4000000 in
theorem L_X5_startAnew_12 {X : Cx} {p0 : Nat} {p2 : Int32} {σ2 : Mem} {k : Mem → Option Mem} (h0 : p0 < 9) : ∀ (n : Nat) (v3 : Int32) (σ : Mem), f_X5_startAnew_12 p0 p2 n v3 σ k = some σ2 → (∀ (σ1 : Mem), k σ1 = some σ2 → At X 1 mX5_startAnew 30 [none, none, none, none] [] σ1 none σ2) → At X 1 mX5_startAnew 12 [some (rf X 5 p0), none, some (.int p2), some (.int v3)] [] σ none σ2 := by
  intro n
  induction n with
  | zero =>
    intro v3 σ h
    cases h
  | succ n ih =>
    intro v3 σ h hk
    rw [f_X5_startAnew_12.eq_2] at h
    refine i_iload_n dX5_startAnew_12 rfl ?_
    refine i_iload_n dX5_startAnew_13 rfl ?_
    refine r_icmp_ge (tgt := 30) dX5_startAnew_14 (by decide) h (fun c1 h => ?_) (fun c1 h => ?_)
    · refine At.fewer (ls' := [none, none, none, none]) trivial ?_
      exact hk _ h
    · refine i_aload_n dX5_startAnew_17 rfl ?_
      refine gf_X5_15 rfl (by omega) dX5_startAnew_18 ?_
      refine i_iload_n dX5_startAnew_21 rfl ?_
      refine i_iconst (v := 0) dX5_startAnew_22 (by decide) ?_
      refine as_20 dX5_startAnew_23 (by omega) h (fun j1 lj1 h => ?_)
      refine i_iinc (v := (v3 + (1 : Int32))) (ls' := [some (rf X 5 p0), none, some (.int p2), some (.int (v3 + (1 : Int32)))]) dX5_startAnew_24 rfl (by rfl) (by decide) (okp_at rfl) rfl ?_
      refine i_goto (tgt := 12) dX5_startAnew_27 (by decide) ?_
      exact ih _ _ h hk
def f_X5_startAnew  (p0 : Nat) (p1 : Int32) (p2 : Int32) (σ : Mem) : Option Mem :=
  (f_X5_startAnew_12 p0 p2 FU (0 : Int32) (mput (mput σ 5 p0 0 p1) 5 p0 1 p2) (fun σ_1 => (some σ_1)))
set_option maxRecDepth 100000 in
set_option maxHeartbeats 4000000 in
theorem F_X5_startAnew {X : Cx} {p0 : Nat} {p1 : Int32} {p2 : Int32} {σ : Mem} {res : Mem} (h0 : p0 < 9) (h : f_X5_startAnew p0 p1 p2 σ = some res) : Tri X 1 mX5_startAnew [rf X 5 p0, .int p1, .int p2] σ none res := by
  unfold f_X5_startAnew at h
  refine Tri.of (ls := [some (rf X 5 p0), some (.int p1), some (.int p2), none]) (by decide) (Nat.le_of_ble_eq_true rfl) rfl ?_
  refine i_aload_n dX5_startAnew_0 rfl ?_
  refine i_iload_n dX5_startAnew_1 rfl ?_
  refine pf_X5_9 rfl (by omega) dX5_startAnew_2 ?_
  refine i_aload_n dX5_startAnew_5 rfl ?_
  refine i_iload_n dX5_startAnew_6 rfl ?_
  refine pf_X5_19 rfl (by omega) dX5_startAnew_7 ?_
  refine i_iconst (v := 0) dX5_startAnew_10 (by decide) ?_
  refine i_istore_n (ls' := [some (rf X 5 p0), some (.int p1), some (.int p2), some (.int (0 : Int32))]) dX5_startAnew_11 (by decide) (okp_at rfl) rfl ?_
  refine At.fewer (ls' := [some (rf X 5 p0), none, some (.int p2), some (.int (0 : Int32))]) (And.intro rfl (And.intro rfl (And.intro rfl trivial))) ?_
  refine L_X5_startAnew_12 (by omega) FU _ _ h (fun σ_1 h => ?_)
  exact e_vw rfl dX5_startAnew_30 h
def f_X5_becomes  (p0 : Nat) (p1 : Nat) (σ : Mem) : Option Mem :=
  (if cpOK (0 : Int32) (0 : Int32) ((mput (mput σ 5 p0 0 (σ 5 p1 0)) 5 p0 1 ((mput σ 5 p0 0 (σ 5 p1 0)) 5 p1 1)) 5 p0 1) 24 24 = true then (bnd (some (mcopy (mput (mput σ 5 p0 0 (σ 5 p1 0)) 5 p0 1 ((mput σ 5 p0 0 (σ 5 p1 0)) 5 p1 1)) 20 p1 ((0 : Int32)).toNatClampNeg 20 p0 ((0 : Int32)).toNatClampNeg (((mput (mput σ 5 p0 0 (σ 5 p1 0)) 5 p0 1 ((mput σ 5 p0 0 (σ 5 p1 0)) 5 p1 1)) 5 p0 1)).toNatClampNeg)) (fun s1 => (some s1))) else none)
set_option maxRecDepth 100000 in
set_option maxHeartbeats 4000000 in
theorem F_X5_becomes {X : Cx} {p0 : Nat} {p1 : Nat} {σ : Mem} {res : Mem} (h0 : p0 < 9) (h1 : p1 < 9) (h : f_X5_becomes p0 p1 σ = some res) : Tri X 1 mX5_becomes [rf X 5 p0, rf X 5 p1] σ none res := by
  unfold f_X5_becomes at h
  refine Tri.of (ls := [some (rf X 5 p0), some (rf X 5 p1)]) (by decide) (Nat.le_of_ble_eq_true rfl) rfl ?_
  refine i_aload_n dX5_becomes_0 rfl ?_
  refine i_aload_n dX5_becomes_1 rfl ?_
  refine gf_X5_9 rfl (by omega) dX5_becomes_2 ?_
  refine pf_X5_9 rfl (by omega) dX5_becomes_5 ?_
  refine i_aload_n dX5_becomes_8 rfl ?_
  refine i_aload_n dX5_becomes_9 rfl ?_
  refine gf_X5_19 rfl (by omega) dX5_becomes_10 ?_
  refine pf_X5_19 rfl (by omega) dX5_becomes_13 ?_
  refine i_aload_n dX5_becomes_16 rfl ?_
  refine gf_X5_15 rfl (by omega) dX5_becomes_17 ?_
  refine i_iconst (v := 0) dX5_becomes_20 (by decide) ?_
  refine i_aload_n dX5_becomes_21 rfl ?_
  refine gf_X5_15 rfl (by omega) dX5_becomes_22 ?_
  refine i_iconst (v := 0) dX5_becomes_25 (by decide) ?_
  refine i_aload_n dX5_becomes_26 rfl ?_
  refine gf_X5_19 rfl (by omega) dX5_becomes_27 ?_
  refine r_acopy dX5_becomes_30 k_X5_22 (by decide) (by decide) rfl rfl rfl rfl (show p1 < 9 by omega) (show p0 < 9 by omega) (by omega) (Nat.le_of_ble_eq_true rfl) h (fun h => ?_)
  refine r_mem h (fun s1 _ h => ?_)
  exact e_vw rfl dX5_becomes_33 h
def f_X5_isMissing  (p0 : Nat) (σ : Mem) : Option Int32 :=
  (if (σ 5 p0 0) = (-1 : Int32) then (some (1 : Int32)) else (some (0 : Int32)))
set_option maxRecDepth 100000 in
set_option maxHeartbeats 4000000 in
theorem F_X5_isMissing {X : Cx} {p0 : Nat} {σ : Mem} {res : Int32} (h0 : p0 < 9) (h : f_X5_isMissing p0 σ = some res) : Tri X 1 mX5_isMissing [rf X 5 p0] σ (some (.int res)) σ := by
  unfold f_X5_isMissing at h
  refine Tri.of (ls := [some (rf X 5 p0)]) (by decide) (Nat.le_of_ble_eq_true rfl) rfl ?_
  refine i_aload_n dX5_isMissing_0 rfl ?_
  refine gf_X5_9 rfl (by omega) dX5_isMissing_1 ?_
  refine i_iconst (v := (-1)) dX5_isMissing_4 (by decide) ?_
  refine r_icmp_ne (tgt := 12) dX5_isMissing_5 (by decide) h (fun c1 h => ?_) (fun c1 h => ?_)
  · refine i_iconst (v := 0) dX5_isMissing_12 (by decide) ?_
    exact e_zr rfl (by decide) dX5_isMissing_13 h
  · refine i_iconst (v := 1) dX5_isMissing_8 (by decide) ?_
    refine i_goto (tgt := 13) dX5_isMissing_9 (by decide) ?_
    exact e_zr rfl (by decide) dX5_isMissing_13 h
def f_X5_hasPlace  (p0 : Nat) (p1 : Int32) (σ : Mem) : Option Int32 :=
  (bnd (f_X7_isWithin p1 (0 : Int32) ((σ 5 p0 1) - (1 : Int32)) σ) (fun a1 => (if isB a1 = true then (some a1) else none)))
set_option maxRecDepth 100000 in
set_option maxHeartbeats 4000000 in
theorem F_X5_hasPlace {X : Cx} {p0 : Nat} {p1 : Int32} {σ : Mem} {res : Int32} (h0 : p0 < 9) (h : f_X5_hasPlace p0 p1 σ = some res) : Tri X 2 mX5_hasPlace [rf X 5 p0, .int p1] σ (some (.int res)) σ := by
  unfold f_X5_hasPlace at h
  refine Tri.of (ls := [some (rf X 5 p0), some (.int p1)]) (by decide) (Nat.le_of_ble_eq_true rfl) rfl ?_
  refine i_iload_n dX5_hasPlace_0 rfl ?_
  refine i_iconst (v := 0) dX5_hasPlace_1 (by decide) ?_
  refine i_aload_n dX5_hasPlace_2 rfl ?_
  refine gf_X5_19 rfl (by omega) dX5_hasPlace_3 ?_
  refine i_iconst (v := 1) dX5_hasPlace_6 (by decide) ?_
  refine i_isub dX5_hasPlace_7 ?_
  refine cSN_ir dX5_hasPlace_8 cw_X5_28 ci_X7_isWithin h (fun a1 e => F_X7_isWithin  e) (Nat.le_of_ble_eq_true rfl) rfl rfl (Nat.le_of_ble_eq_true rfl) (fun a1 ea1 h => ?_)
  exact e_br rfl dX5_hasPlace_11 h
def f_X5_hasRun  (p0 : Nat) (p1 : Int32) (p2 : Int32) (σ : Mem) : Option Int32 :=
  (bnd (f_X7_isWithin p1 (0 : Int32) (σ 5 p0 1) σ) (fun a1 => (if a1 = 0 then (some (0 : Int32)) else (bnd (f_X7_isWithin p2 (0 : Int32) ((σ 5 p0 1) - p1) σ) (fun a2 => (if a2 = 0 then (some (0 : Int32)) else (some (1 : Int32))))))))
set_option maxRecDepth 100000 in
set_option maxHeartbeats 4000000 in
theorem F_X5_hasRun {X : Cx} {p0 : Nat} {p1 : Int32} {p2 : Int32} {σ : Mem} {res : Int32} (h0 : p0 < 9) (h : f_X5_hasRun p0 p1 p2 σ = some res) : Tri X 2 mX5_hasRun [rf X 5 p0, .int p1, .int p2] σ (some (.int res)) σ := by
  unfold f_X5_hasRun at h
  refine Tri.of (ls := [some (rf X 5 p0), some (.int p1), some (.int p2)]) (by decide) (Nat.le_of_ble_eq_true rfl) rfl ?_
  refine i_iload_n dX5_hasRun_0 rfl ?_
  refine i_iconst (v := 0) dX5_hasRun_1 (by decide) ?_
  refine i_aload_n dX5_hasRun_2 rfl ?_
  refine gf_X5_19 rfl (by omega) dX5_hasRun_3 ?_
  refine cSN_ir dX5_hasRun_6 cw_X5_28 ci_X7_isWithin h (fun a1 e => F_X7_isWithin  e) (Nat.le_of_ble_eq_true rfl) rfl rfl (Nat.le_of_ble_eq_true rfl) (fun a1 ea1 h => ?_)
  refine r_if_eq (tgt := 30) dX5_hasRun_9 (by decide) h (fun c1 h => ?_) (fun c1 h => ?_)
  · refine i_iconst (v := 0) dX5_hasRun_30 (by decide) ?_
    exact e_zr rfl (by decide) dX5_hasRun_31 h
  · refine i_iload_n dX5_hasRun_12 rfl ?_
    refine i_iconst (v := 0) dX5_hasRun_13 (by decide) ?_
    refine i_aload_n dX5_hasRun_14 rfl ?_
    refine gf_X5_19 rfl (by omega) dX5_hasRun_15 ?_
    refine i_iload_n dX5_hasRun_18 rfl ?_
    refine i_isub dX5_hasRun_19 ?_
    refine cSN_ir dX5_hasRun_20 cw_X5_28 ci_X7_isWithin h (fun a2 e => F_X7_isWithin  e) (Nat.le_of_ble_eq_true rfl) rfl rfl (Nat.le_of_ble_eq_true rfl) (fun a2 ea2 h => ?_)
    refine r_if_eq (tgt := 30) dX5_hasRun_23 (by decide) h (fun c2 h => ?_) (fun c2 h => ?_)
    · refine i_iconst (v := 0) dX5_hasRun_30 (by decide) ?_
      exact e_zr rfl (by decide) dX5_hasRun_31 h
    · refine i_iconst (v := 1) dX5_hasRun_26 (by decide) ?_
      refine i_goto (tgt := 31) dX5_hasRun_27 (by decide) ?_
      exact e_zr rfl (by decide) dX5_hasRun_31 h
def f_X5_isNumber  (p0 : Nat) (p1 : Int32) (σ : Mem) : Option Int32 :=
  (bnd (ix 24 p1) (fun j1 => (if (σ 20 p0 j1) = (-1000000005 : Int32) then (some (0 : Int32)) else (some (1 : Int32)))))
set_option maxRecDepth 100000 in
set_option maxHeartbeats 4000000 in
theorem F_X5_isNumber {X : Cx} {p0 : Nat} {p1 : Int32} {σ : Mem} {res : Int32} (h0 : p0 < 9) (h : f_X5_isNumber p0 p1 σ = some res) : Tri X 1 mX5_isNumber [rf X 5 p0, .int p1] σ (some (.int res)) σ := by
  unfold f_X5_isNumber at h
  refine Tri.of (ls := [some (rf X 5 p0), some (.int p1)]) (by decide) (Nat.le_of_ble_eq_true rfl) rfl ?_
  refine i_aload_n dX5_isNumber_0 rfl ?_
  refine gf_X5_15 rfl (by omega) dX5_isNumber_1 ?_
  refine i_iload_n dX5_isNumber_4 rfl ?_
  refine al_20 dX5_isNumber_5 (by omega) h (fun j1 lj1 h => ?_)
  refine i_ldc (v := (-1000000005)) dX5_isNumber_6 k_X5_32 ?_
  refine r_icmp_eq (tgt := 15) dX5_isNumber_8 (by decide) h (fun c1 h => ?_) (fun c1 h => ?_)
  · refine i_iconst (v := 0) dX5_isNumber_15 (by decide) ?_
    exact e_zr rfl (by decide) dX5_isNumber_16 h
  · refine i_iconst (v := 1) dX5_isNumber_11 (by decide) ?_
    refine i_goto (tgt := 16) dX5_isNumber_12 (by decide) ?_
    exact e_zr rfl (by decide) dX5_isNumber_16 h
end
