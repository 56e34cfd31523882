noncomputable section
def mM (t : Nat) : Mi := match t with
  | 0 => mX8_either
  | 1 => mX8_both
  | 2 => mX8_test
  | 3 => mX8_sum
  | 4 => mX8_term
  | _ => mX8_part0
def f_X8_part0 (rec : Nat → Int32 → Mem → Option (Int32 × Mem)) (p1 : Int32) (σ : Mem) : Option (Int32 × Mem) :=
  (if (σ 8 0 19) = (2 : Int32) then (bnd (f_X8_step (0 : Int32) (σ 8 0 20) σ) (fun a46 => (bnd (f_X8_nextToken (mput a46 8 0 26 ((a46 8 0 26) + (1 : Int32)))) (fun a47 => (some ((1 : Int32), a47)))))) else (if (σ 8 0 19) = (1 : Int32) then (if (σ 8 0 21) = 0 then (bnd (f_X8_isSign (33 : Int32) σ) (fun a15 => (if a15 = 0 then (bnd (f_X8_isSign (40 : Int32) σ) (fun a16 => (if a16 = 0 then (some ((0 : Int32), σ)) else (if (σ 8 0 22) = (8 : Int32) then (some ((0 : Int32), σ)) else (bnd (f_X8_nextToken (mput σ 8 0 22 ((σ 8 0 22) + (1 : Int32)))) (fun a17 => (bnd (rec 0 p1 a17) (fun a18 => (if a18.1 = 0 then (some ((0 : Int32), a18.2)) else (bnd (f_X8_isSign (41 : Int32) a18.2) (fun a19 => (if a19 = 0 then (some ((0 : Int32), a18.2)) else (bnd (f_X8_nextToken (mput a18.2 8 0 22 ((a18.2 8 0 22) - (1 : Int32)))) (fun a20 => (some ((1 : Int32), a20)))))))))))))))) else (if (8 : Int32) ≤ (σ 8 0 23) then (bnd (f_X8_isSign (40 : Int32) σ) (fun a21 => (if a21 = 0 then (some ((0 : Int32), σ)) else (if (σ 8 0 22) = (8 : Int32) then (some ((0 : Int32), σ)) else (bnd (f_X8_nextToken (mput σ 8 0 22 ((σ 8 0 22) + (1 : Int32)))) (fun a22 => (bnd (rec 0 p1 a22) (fun a23 => (if a23.1 = 0 then (some ((0 : Int32), a23.2)) else (bnd (f_X8_isSign (41 : Int32) a23.2) (fun a24 => (if a24 = 0 then (some ((0 : Int32), a23.2)) else (bnd (f_X8_nextToken (mput a23.2 8 0 22 ((a23.2 8 0 22) - (1 : Int32)))) (fun a25 => (some ((1 : Int32), a25)))))))))))))))) else (bnd (f_X8_nextToken (mput σ 8 0 23 ((σ 8 0 23) + (1 : Int32)))) (fun a26 => (bnd (rec 5 p1 a26) (fun a27 => (if a27.1 = 0 then (some ((0 : Int32), a27.2)) else (bnd (f_X8_step (2 : Int32) (33 : Int32) (mput a27.2 8 0 23 ((a27.2 8 0 23) - (1 : Int32)))) (fun a28 => (some ((1 : Int32), a28))))))))))))) else (bnd (f_X8_isName p1 (σ 8 0 21) σ) (fun a29 => (if a29 = 0 then (bnd (f_X8_isSign (33 : Int32) σ) (fun a30 => (if a30 = 0 then (bnd (f_X8_isSign (40 : Int32) σ) (fun a31 => (if a31 = 0 then (some ((0 : Int32), σ)) else (if (σ 8 0 22) = (8 : Int32) then (some ((0 : Int32), σ)) else (bnd (f_X8_nextToken (mput σ 8 0 22 ((σ 8 0 22) + (1 : Int32)))) (fun a32 => (bnd (rec 0 p1 a32) (fun a33 => (if a33.1 = 0 then (some ((0 : Int32), a33.2)) else (bnd (f_X8_isSign (41 : Int32) a33.2) (fun a34 => (if a34 = 0 then (some ((0 : Int32), a33.2)) else (bnd (f_X8_nextToken (mput a33.2 8 0 22 ((a33.2 8 0 22) - (1 : Int32)))) (fun a35 => (some ((1 : Int32), a35)))))))))))))))) else (if (8 : Int32) ≤ (σ 8 0 23) then (bnd (f_X8_isSign (40 : Int32) σ) (fun a36 => (if a36 = 0 then (some ((0 : Int32), σ)) else (if (σ 8 0 22) = (8 : Int32) then (some ((0 : Int32), σ)) else (bnd (f_X8_nextToken (mput σ 8 0 22 ((σ 8 0 22) + (1 : Int32)))) (fun a37 => (bnd (rec 0 p1 a37) (fun a38 => (if a38.1 = 0 then (some ((0 : Int32), a38.2)) else (bnd (f_X8_isSign (41 : Int32) a38.2) (fun a39 => (if a39 = 0 then (some ((0 : Int32), a38.2)) else (bnd (f_X8_nextToken (mput a38.2 8 0 22 ((a38.2 8 0 22) - (1 : Int32)))) (fun a40 => (some ((1 : Int32), a40)))))))))))))))) else (bnd (f_X8_nextToken (mput σ 8 0 23 ((σ 8 0 23) + (1 : Int32)))) (fun a41 => (bnd (rec 5 p1 a41) (fun a42 => (if a42.1 = 0 then (some ((0 : Int32), a42.2)) else (bnd (f_X8_step (2 : Int32) (33 : Int32) (mput a42.2 8 0 23 ((a42.2 8 0 23) - (1 : Int32)))) (fun a43 => (some ((1 : Int32), a43))))))))))))) else (bnd (f_X8_step (1 : Int32) (σ 8 0 21) σ) (fun a44 => (bnd (f_X8_nextToken (mput a44 8 0 26 ((a44 8 0 26) + (1 : Int32)))) (fun a45 => (some ((1 : Int32), a45)))))))))) else (bnd (f_X8_isSign (33 : Int32) σ) (fun a1 => (if a1 = 0 then (bnd (f_X8_isSign (40 : Int32) σ) (fun a2 => (if a2 = 0 then (some ((0 : Int32), σ)) else (if (σ 8 0 22) = (8 : Int32) then (some ((0 : Int32), σ)) else (bnd (f_X8_nextToken (mput σ 8 0 22 ((σ 8 0 22) + (1 : Int32)))) (fun a3 => (bnd (rec 0 p1 a3) (fun a4 => (if a4.1 = 0 then (some ((0 : Int32), a4.2)) else (bnd (f_X8_isSign (41 : Int32) a4.2) (fun a5 => (if a5 = 0 then (some ((0 : Int32), a4.2)) else (bnd (f_X8_nextToken (mput a4.2 8 0 22 ((a4.2 8 0 22) - (1 : Int32)))) (fun a6 => (some ((1 : Int32), a6)))))))))))))))) else (if (8 : Int32) ≤ (σ 8 0 23) then (bnd (f_X8_isSign (40 : Int32) σ) (fun a7 => (if a7 = 0 then (some ((0 : Int32), σ)) else (if (σ 8 0 22) = (8 : Int32) then (some ((0 : Int32), σ)) else (bnd (f_X8_nextToken (mput σ 8 0 22 ((σ 8 0 22) + (1 : Int32)))) (fun a8 => (bnd (rec 0 p1 a8) (fun a9 => (if a9.1 = 0 then (some ((0 : Int32), a9.2)) else (bnd (f_X8_isSign (41 : Int32) a9.2) (fun a10 => (if a10 = 0 then (some ((0 : Int32), a9.2)) else (bnd (f_X8_nextToken (mput a9.2 8 0 22 ((a9.2 8 0 22) - (1 : Int32)))) (fun a11 => (some ((1 : Int32), a11)))))))))))))))) else (bnd (f_X8_nextToken (mput σ 8 0 23 ((σ 8 0 23) + (1 : Int32)))) (fun a12 => (bnd (rec 5 p1 a12) (fun a13 => (if a13.1 = 0 then (some ((0 : Int32), a13.2)) else (bnd (f_X8_step (2 : Int32) (33 : Int32) (mput a13.2 8 0 23 ((a13.2 8 0 23) - (1 : Int32)))) (fun a14 => (some ((1 : Int32), a14)))))))))))))))
set_option maxRecDepth 100000 in
set_option maxHeartbeats 4000000 in
theorem F_X8_part0 {X : Cx} {D : Nat} {rec : Nat → Int32 → Mem → Option (Int32 × Mem)} {p1 : Int32} {σ : Mem} {res : (Int32 × Mem)} (hD : 3 ≤ D) (hrec : ∀ t p1 σ a, rec t p1 σ = some a → Tri X D (mM t) [rf X 8 0, .int p1] σ (some (.int a.1)) a.2) (h : f_X8_part0 rec p1 σ = some res) : Tri X (D + 1) mX8_part0 [rf X 8 0, .int p1] σ (some (.int res.1)) res.2 := by
  obtain ⟨r0, σ2⟩ := res
  unfold f_X8_part0 at h
  refine Tri.of (ls := [some (rf X 8 0), some (.int p1)]) (by decide) (Nat.le_of_ble_eq_true rfl) rfl ?_
  refine i_aload_n dX8_part0_0 rfl ?_
  refine gf_X8_216 rfl (by omega) dX8_part0_1 ?_
  refine i_iconst (v := 2) dX8_part0_4 (by decide) ?_
  refine r_icmp_ne (tgt := 33) dX8_part0_5 (by decide) h (fun c1 h => ?_) (fun c1 h => ?_)
  · refine i_aload_n dX8_part0_33 rfl ?_
    refine gf_X8_216 rfl (by omega) dX8_part0_34 ?_
    refine i_iconst (v := 1) dX8_part0_37 (by decide) ?_
    refine r_icmp_ne (tgt := 84) dX8_part0_38 (by decide) h (fun c2 h => ?_) (fun c2 h => ?_)
    · refine i_aload_n dX8_part0_84 rfl ?_
      refine i_bipush (v := 33) dX8_part0_85 (by decide) ?_
      refine cV_ir dX8_part0_87 cw_X8_247 ci_X8_isSign rfl rfl (by decide) (show 0 < 1 by omega) h (fun a1 e => F_X8_isSign  e) (by omega) rfl rfl (Nat.le_of_ble_eq_true rfl) (fun a1 ea1 h => ?_)
      refine r_if_eq (tgt := 145) dX8_part0_90 (by decide) h (fun c3 h => ?_) (fun c3 h => ?_)
      · refine i_aload_n dX8_part0_145 rfl ?_
        refine i_bipush (v := 40) dX8_part0_146 (by decide) ?_
        refine cV_ir dX8_part0_148 cw_X8_247 ci_X8_isSign rfl rfl (by decide) (show 0 < 1 by omega) h (fun a2 e => F_X8_isSign  e) (by omega) rfl rfl (Nat.le_of_ble_eq_true rfl) (fun a2 ea2 h => ?_)
        refine r_if_eq (tgt := 163) dX8_part0_151 (by decide) h (fun c4 h => ?_) (fun c4 h => ?_)
        · refine i_iconst (v := 0) dX8_part0_163 (by decide) ?_
          exact e_zw rfl (by decide) dX8_part0_164 h
        · refine i_aload_n dX8_part0_154 rfl ?_
          refine gf_X8_277 rfl (by omega) dX8_part0_155 ?_
          refine i_bipush (v := 8) dX8_part0_158 (by decide) ?_
          refine r_icmp_ne (tgt := 165) dX8_part0_160 (by decide) h (fun c5 h => ?_) (fun c5 h => ?_)
          · refine i_aload_n dX8_part0_165 rfl ?_
            refine i_dup dX8_part0_166 rfl ?_
            refine gf_X8_277 rfl (by omega) dX8_part0_167 ?_
            refine i_iconst (v := 1) dX8_part0_170 (by decide) ?_
            refine i_iadd dX8_part0_171 ?_
            refine pf_X8_277 rfl (by omega) dX8_part0_172 ?_
            refine i_aload_n dX8_part0_175 rfl ?_
            refine cV_vw dX8_part0_176 cw_X8_250 ci_X8_nextToken rfl rfl (by decide) (show 0 < 1 by omega) h (fun a3 e => F_X8_nextToken  e) (by omega) rfl rfl (Nat.le_of_ble_eq_true rfl) (fun a3 ea3 h => ?_)
            refine i_aload_n dX8_part0_179 rfl ?_
            refine i_iload_n dX8_part0_180 rfl ?_
            refine cV_iw dX8_part0_181 cw_X8_280 ci_X8_either rfl rfl (by decide) (show 0 < 1 by omega) h (fun a4 e => hrec 0 _ _ a4 e) (by omega) rfl rfl (Nat.le_of_ble_eq_true rfl) (fun a4 ea4 h => ?_)
            refine r_if_eq (tgt := 196) dX8_part0_184 (by decide) h (fun c6 h => ?_) (fun c6 h => ?_)
            · refine i_iconst (v := 0) dX8_part0_196 (by decide) ?_
              exact e_zw rfl (by decide) dX8_part0_197 h
            · refine i_aload_n dX8_part0_187 rfl ?_
              refine i_bipush (v := 41) dX8_part0_188 (by decide) ?_
              refine cV_ir dX8_part0_190 cw_X8_247 ci_X8_isSign rfl rfl (by decide) (show 0 < 1 by omega) h (fun a5 e => F_X8_isSign  e) (by omega) rfl rfl (Nat.le_of_ble_eq_true rfl) (fun a5 ea5 h => ?_)
              refine r_if_ne (tgt := 198) dX8_part0_193 (by decide) h (fun c7 h => ?_) (fun c7 h => ?_)
              · refine i_aload_n dX8_part0_198 rfl ?_
                refine i_dup dX8_part0_199 rfl ?_
                refine gf_X8_277 rfl (by omega) dX8_part0_200 ?_
                refine i_iconst (v := 1) dX8_part0_203 (by decide) ?_
                refine i_isub dX8_part0_204 ?_
                refine pf_X8_277 rfl (by omega) dX8_part0_205 ?_
                refine i_aload_n dX8_part0_208 rfl ?_
                refine cV_vw dX8_part0_209 cw_X8_250 ci_X8_nextToken rfl rfl (by decide) (show 0 < 1 by omega) h (fun a6 e => F_X8_nextToken  e) (by omega) rfl rfl (Nat.le_of_ble_eq_true rfl) (fun a6 ea6 h => ?_)
                refine i_iconst (v := 1) dX8_part0_212 (by decide) ?_
                exact e_zw rfl (by decide) dX8_part0_213 h
              · refine i_iconst (v := 0) dX8_part0_196 (by decide) ?_
                exact e_zw rfl (by decide) dX8_part0_197 h
          · refine i_iconst (v := 0) dX8_part0_163 (by decide) ?_
            exact e_zw rfl (by decide) dX8_part0_164 h
      · refine i_aload_n dX8_part0_93 rfl ?_
        refine gf_X8_274 rfl (by omega) dX8_part0_94 ?_
        refine i_bipush (v := 8) dX8_part0_97 (by decide) ?_
        refine r_icmp_ge (tgt := 145) dX8_part0_99 (by decide) h (fun c8 h => ?_) (fun c8 h => ?_)
        · refine i_aload_n dX8_part0_145 rfl ?_
          refine i_bipush (v := 40) dX8_part0_146 (by decide) ?_
          refine cV_ir dX8_part0_148 cw_X8_247 ci_X8_isSign rfl rfl (by decide) (show 0 < 1 by omega) h (fun a7 e => F_X8_isSign  e) (by omega) rfl rfl (Nat.le_of_ble_eq_true rfl) (fun a7 ea7 h => ?_)
          refine r_if_eq (tgt := 163) dX8_part0_151 (by decide) h (fun c9 h => ?_) (fun c9 h => ?_)
          · refine i_iconst (v := 0) dX8_part0_163 (by decide) ?_
            exact e_zw rfl (by decide) dX8_part0_164 h
          · refine i_aload_n dX8_part0_154 rfl ?_
            refine gf_X8_277 rfl (by omega) dX8_part0_155 ?_
            refine i_bipush (v := 8) dX8_part0_158 (by decide) ?_
            refine r_icmp_ne (tgt := 165) dX8_part0_160 (by decide) h (fun c10 h => ?_) (fun c10 h => ?_)
            · refine i_aload_n dX8_part0_165 rfl ?_
              refine i_dup dX8_part0_166 rfl ?_
              refine gf_X8_277 rfl (by omega) dX8_part0_167 ?_
              refine i_iconst (v := 1) dX8_part0_170 (by decide) ?_
              refine i_iadd dX8_part0_171 ?_
              refine pf_X8_277 rfl (by omega) dX8_part0_172 ?_
              refine i_aload_n dX8_part0_175 rfl ?_
              refine cV_vw dX8_part0_176 cw_X8_250 ci_X8_nextToken rfl rfl (by decide) (show 0 < 1 by omega) h (fun a8 e => F_X8_nextToken  e) (by omega) rfl rfl (Nat.le_of_ble_eq_true rfl) (fun a8 ea8 h => ?_)
              refine i_aload_n dX8_part0_179 rfl ?_
              refine i_iload_n dX8_part0_180 rfl ?_
              refine cV_iw dX8_part0_181 cw_X8_280 ci_X8_either rfl rfl (by decide) (show 0 < 1 by omega) h (fun a9 e => hrec 0 _ _ a9 e) (by omega) rfl rfl (Nat.le_of_ble_eq_true rfl) (fun a9 ea9 h => ?_)
              refine r_if_eq (tgt := 196) dX8_part0_184 (by decide) h (fun c11 h => ?_) (fun c11 h => ?_)
              · refine i_iconst (v := 0) dX8_part0_196 (by decide) ?_
                exact e_zw rfl (by decide) dX8_part0_197 h
              · refine i_aload_n dX8_part0_187 rfl ?_
                refine i_bipush (v := 41) dX8_part0_188 (by decide) ?_
                refine cV_ir dX8_part0_190 cw_X8_247 ci_X8_isSign rfl rfl (by decide) (show 0 < 1 by omega) h (fun a10 e => F_X8_isSign  e) (by omega) rfl rfl (Nat.le_of_ble_eq_true rfl) (fun a10 ea10 h => ?_)
                refine r_if_ne (tgt := 198) dX8_part0_193 (by decide) h (fun c12 h => ?_) (fun c12 h => ?_)
                · refine i_aload_n dX8_part0_198 rfl ?_
                  refine i_dup dX8_part0_199 rfl ?_
                  refine gf_X8_277 rfl (by omega) dX8_part0_200 ?_
                  refine i_iconst (v := 1) dX8_part0_203 (by decide) ?_
                  refine i_isub dX8_part0_204 ?_
                  refine pf_X8_277 rfl (by omega) dX8_part0_205 ?_
                  refine i_aload_n dX8_part0_208 rfl ?_
                  refine cV_vw dX8_part0_209 cw_X8_250 ci_X8_nextToken rfl rfl (by decide) (show 0 < 1 by omega) h (fun a11 e => F_X8_nextToken  e) (by omega) rfl rfl (Nat.le_of_ble_eq_true rfl) (fun a11 ea11 h => ?_)
                  refine i_iconst (v := 1) dX8_part0_212 (by decide) ?_
                  exact e_zw rfl (by decide) dX8_part0_213 h
                · refine i_iconst (v := 0) dX8_part0_196 (by decide) ?_
                  exact e_zw rfl (by decide) dX8_part0_197 h
            · refine i_iconst (v := 0) dX8_part0_163 (by decide) ?_
              exact e_zw rfl (by decide) dX8_part0_164 h
        · refine i_aload_n dX8_part0_102 rfl ?_
          refine i_dup dX8_part0_103 rfl ?_
          refine gf_X8_274 rfl (by omega) dX8_part0_104 ?_
          refine i_iconst (v := 1) dX8_part0_107 (by decide) ?_
          refine i_iadd dX8_part0_108 ?_
          refine pf_X8_274 rfl (by omega) dX8_part0_109 ?_
          refine i_aload_n dX8_part0_112 rfl ?_
          refine cV_vw dX8_part0_113 cw_X8_250 ci_X8_nextToken rfl rfl (by decide) (show 0 < 1 by omega) h (fun a12 e => F_X8_nextToken  e) (by omega) rfl rfl (Nat.le_of_ble_eq_true rfl) (fun a12 ea12 h => ?_)
          refine i_aload_n dX8_part0_116 rfl ?_
          refine i_iload_n dX8_part0_117 rfl ?_
          refine cV_iw dX8_part0_118 cw_X8_265 ci_X8_part0 rfl rfl (by decide) (show 0 < 1 by omega) h (fun a13 e => hrec 5 _ _ a13 e) (by omega) rfl rfl (Nat.le_of_ble_eq_true rfl) (fun a13 ea13 h => ?_)
          refine r_if_ne (tgt := 126) dX8_part0_121 (by decide) h (fun c13 h => ?_) (fun c13 h => ?_)
          · refine i_aload_n dX8_part0_126 rfl ?_
            refine i_dup dX8_part0_127 rfl ?_
            refine gf_X8_274 rfl (by omega) dX8_part0_128 ?_
            refine i_iconst (v := 1) dX8_part0_131 (by decide) ?_
            refine i_isub dX8_part0_132 ?_
            refine pf_X8_274 rfl (by omega) dX8_part0_133 ?_
            refine i_aload_n dX8_part0_136 rfl ?_
            refine i_iconst (v := 2) dX8_part0_137 (by decide) ?_
            refine i_bipush (v := 33) dX8_part0_138 (by decide) ?_
            refine cV_vw dX8_part0_140 cw_X8_253 ci_X8_step rfl rfl (by decide) (show 0 < 1 by omega) h (fun a14 e => F_X8_step  e) (by omega) rfl rfl (Nat.le_of_ble_eq_true rfl) (fun a14 ea14 h => ?_)
            refine i_iconst (v := 1) dX8_part0_143 (by decide) ?_
            exact e_zw rfl (by decide) dX8_part0_144 h
          · refine i_iconst (v := 0) dX8_part0_124 (by decide) ?_
            exact e_zw rfl (by decide) dX8_part0_125 h
    · refine i_aload_n dX8_part0_41 rfl ?_
      refine gf_X8_225 rfl (by omega) dX8_part0_42 ?_
      refine r_if_eq (tgt := 84) dX8_part0_45 (by decide) h (fun c14 h => ?_) (fun c14 h => ?_)
      · refine i_aload_n dX8_part0_84 rfl ?_
        refine i_bipush (v := 33) dX8_part0_85 (by decide) ?_
        refine cV_ir dX8_part0_87 cw_X8_247 ci_X8_isSign rfl rfl (by decide) (show 0 < 1 by omega) h (fun a15 e => F_X8_isSign  e) (by omega) rfl rfl (Nat.le_of_ble_eq_true rfl) (fun a15 ea15 h => ?_)
        refine r_if_eq (tgt := 145) dX8_part0_90 (by decide) h (fun c15 h => ?_) (fun c15 h => ?_)
        · refine i_aload_n dX8_part0_145 rfl ?_
          refine i_bipush (v := 40) dX8_part0_146 (by decide) ?_
          refine cV_ir dX8_part0_148 cw_X8_247 ci_X8_isSign rfl rfl (by decide) (show 0 < 1 by omega) h (fun a16 e => F_X8_isSign  e) (by omega) rfl rfl (Nat.le_of_ble_eq_true rfl) (fun a16 ea16 h => ?_)
          refine r_if_eq (tgt := 163) dX8_part0_151 (by decide) h (fun c16 h => ?_) (fun c16 h => ?_)
          · refine i_iconst (v := 0) dX8_part0_163 (by decide) ?_
            exact e_zw rfl (by decide) dX8_part0_164 h
          · refine i_aload_n dX8_part0_154 rfl ?_
            refine gf_X8_277 rfl (by omega) dX8_part0_155 ?_
            refine i_bipush (v := 8) dX8_part0_158 (by decide) ?_
            refine r_icmp_ne (tgt := 165) dX8_part0_160 (by decide) h (fun c17 h => ?_) (fun c17 h => ?_)
            · refine i_aload_n dX8_part0_165 rfl ?_
              refine i_dup dX8_part0_166 rfl ?_
              refine gf_X8_277 rfl (by omega) dX8_part0_167 ?_
              refine i_iconst (v := 1) dX8_part0_170 (by decide) ?_
              refine i_iadd dX8_part0_171 ?_
              refine pf_X8_277 rfl (by omega) dX8_part0_172 ?_
              refine i_aload_n dX8_part0_175 rfl ?_
              refine cV_vw dX8_part0_176 cw_X8_250 ci_X8_nextToken rfl rfl (by decide) (show 0 < 1 by omega) h (fun a17 e => F_X8_nextToken  e) (by omega) rfl rfl (Nat.le_of_ble_eq_true rfl) (fun a17 ea17 h => ?_)
              refine i_aload_n dX8_part0_179 rfl ?_
              refine i_iload_n dX8_part0_180 rfl ?_
              refine cV_iw dX8_part0_181 cw_X8_280 ci_X8_either rfl rfl (by decide) (show 0 < 1 by omega) h (fun a18 e => hrec 0 _ _ a18 e) (by omega) rfl rfl (Nat.le_of_ble_eq_true rfl) (fun a18 ea18 h => ?_)
              refine r_if_eq (tgt := 196) dX8_part0_184 (by decide) h (fun c18 h => ?_) (fun c18 h => ?_)
              · refine i_iconst (v := 0) dX8_part0_196 (by decide) ?_
                exact e_zw rfl (by decide) dX8_part0_197 h
              · refine i_aload_n dX8_part0_187 rfl ?_
                refine i_bipush (v := 41) dX8_part0_188 (by decide) ?_
                refine cV_ir dX8_part0_190 cw_X8_247 ci_X8_isSign rfl rfl (by decide) (show 0 < 1 by omega) h (fun a19 e => F_X8_isSign  e) (by omega) rfl rfl (Nat.le_of_ble_eq_true rfl) (fun a19 ea19 h => ?_)
                refine r_if_ne (tgt := 198) dX8_part0_193 (by decide) h (fun c19 h => ?_) (fun c19 h => ?_)
                · refine i_aload_n dX8_part0_198 rfl ?_
                  refine i_dup dX8_part0_199 rfl ?_
                  refine gf_X8_277 rfl (by omega) dX8_part0_200 ?_
                  refine i_iconst (v := 1) dX8_part0_203 (by decide) ?_
                  refine i_isub dX8_part0_204 ?_
                  refine pf_X8_277 rfl (by omega) dX8_part0_205 ?_
                  refine i_aload_n dX8_part0_208 rfl ?_
                  refine cV_vw dX8_part0_209 cw_X8_250 ci_X8_nextToken rfl rfl (by decide) (show 0 < 1 by omega) h (fun a20 e => F_X8_nextToken  e) (by omega) rfl rfl (Nat.le_of_ble_eq_true rfl) (fun a20 ea20 h => ?_)
                  refine i_iconst (v := 1) dX8_part0_212 (by decide) ?_
                  exact e_zw rfl (by decide) dX8_part0_213 h
                · refine i_iconst (v := 0) dX8_part0_196 (by decide) ?_
                  exact e_zw rfl (by decide) dX8_part0_197 h
            · refine i_iconst (v := 0) dX8_part0_163 (by decide) ?_
              exact e_zw rfl (by decide) dX8_part0_164 h
        · refine i_aload_n dX8_part0_93 rfl ?_
          refine gf_X8_274 rfl (by omega) dX8_part0_94 ?_
          refine i_bipush (v := 8) dX8_part0_97 (by decide) ?_
          refine r_icmp_ge (tgt := 145) dX8_part0_99 (by decide) h (fun c20 h => ?_) (fun c20 h => ?_)
          · refine i_aload_n dX8_part0_145 rfl ?_
            refine i_bipush (v := 40) dX8_part0_146 (by decide) ?_
            refine cV_ir dX8_part0_148 cw_X8_247 ci_X8_isSign rfl rfl (by decide) (show 0 < 1 by omega) h (fun a21 e => F_X8_isSign  e) (by omega) rfl rfl (Nat.le_of_ble_eq_true rfl) (fun a21 ea21 h => ?_)
            refine r_if_eq (tgt := 163) dX8_part0_151 (by decide) h (fun c21 h => ?_) (fun c21 h => ?_)
            · refine i_iconst (v := 0) dX8_part0_163 (by decide) ?_
              exact e_zw rfl (by decide) dX8_part0_164 h
            · refine i_aload_n dX8_part0_154 rfl ?_
              refine gf_X8_277 rfl (by omega) dX8_part0_155 ?_
              refine i_bipush (v := 8) dX8_part0_158 (by decide) ?_
              refine r_icmp_ne (tgt := 165) dX8_part0_160 (by decide) h (fun c22 h => ?_) (fun c22 h => ?_)
              · refine i_aload_n dX8_part0_165 rfl ?_
                refine i_dup dX8_part0_166 rfl ?_
                refine gf_X8_277 rfl (by omega) dX8_part0_167 ?_
                refine i_iconst (v := 1) dX8_part0_170 (by decide) ?_
                refine i_iadd dX8_part0_171 ?_
                refine pf_X8_277 rfl (by omega) dX8_part0_172 ?_
                refine i_aload_n dX8_part0_175 rfl ?_
                refine cV_vw dX8_part0_176 cw_X8_250 ci_X8_nextToken rfl rfl (by decide) (show 0 < 1 by omega) h (fun a22 e => F_X8_nextToken  e) (by omega) rfl rfl (Nat.le_of_ble_eq_true rfl) (fun a22 ea22 h => ?_)
                refine i_aload_n dX8_part0_179 rfl ?_
                refine i_iload_n dX8_part0_180 rfl ?_
                refine cV_iw dX8_part0_181 cw_X8_280 ci_X8_either rfl rfl (by decide) (show 0 < 1 by omega) h (fun a23 e => hrec 0 _ _ a23 e) (by omega) rfl rfl (Nat.le_of_ble_eq_true rfl) (fun a23 ea23 h => ?_)
                refine r_if_eq (tgt := 196) dX8_part0_184 (by decide) h (fun c23 h => ?_) (fun c23 h => ?_)
                · refine i_iconst (v := 0) dX8_part0_196 (by decide) ?_
                  exact e_zw rfl (by decide) dX8_part0_197 h
                · refine i_aload_n dX8_part0_187 rfl ?_
                  refine i_bipush (v := 41) dX8_part0_188 (by decide) ?_
                  refine cV_ir dX8_part0_190 cw_X8_247 ci_X8_isSign rfl rfl (by decide) (show 0 < 1 by omega) h (fun a24 e => F_X8_isSign  e) (by omega) rfl rfl (Nat.le_of_ble_eq_true rfl) (fun a24 ea24 h => ?_)
                  refine r_if_ne (tgt := 198) dX8_part0_193 (by decide) h (fun c24 h => ?_) (fun c24 h => ?_)
                  · refine i_aload_n dX8_part0_198 rfl ?_
                    refine i_dup dX8_part0_199 rfl ?_
                    refine gf_X8_277 rfl (by omega) dX8_part0_200 ?_
                    refine i_iconst (v := 1) dX8_part0_203 (by decide) ?_
                    refine i_isub dX8_part0_204 ?_
                    refine pf_X8_277 rfl (by omega) dX8_part0_205 ?_
                    refine i_aload_n dX8_part0_208 rfl ?_
                    refine cV_vw dX8_part0_209 cw_X8_250 ci_X8_nextToken rfl rfl (by decide) (show 0 < 1 by omega) h (fun a25 e => F_X8_nextToken  e) (by omega) rfl rfl (Nat.le_of_ble_eq_true rfl) (fun a25 ea25 h => ?_)
                    refine i_iconst (v := 1) dX8_part0_212 (by decide) ?_
                    exact e_zw rfl (by decide) dX8_part0_213 h
                  · refine i_iconst (v := 0) dX8_part0_196 (by decide) ?_
                    exact e_zw rfl (by decide) dX8_part0_197 h
              · refine i_iconst (v := 0) dX8_part0_163 (by decide) ?_
                exact e_zw rfl (by decide) dX8_part0_164 h
          · refine i_aload_n dX8_part0_102 rfl ?_
            refine i_dup dX8_part0_103 rfl ?_
            refine gf_X8_274 rfl (by omega) dX8_part0_104 ?_
            refine i_iconst (v := 1) dX8_part0_107 (by decide) ?_
            refine i_iadd dX8_part0_108 ?_
            refine pf_X8_274 rfl (by omega) dX8_part0_109 ?_
            refine i_aload_n dX8_part0_112 rfl ?_
            refine cV_vw dX8_part0_113 cw_X8_250 ci_X8_nextToken rfl rfl (by decide) (show 0 < 1 by omega) h (fun a26 e => F_X8_nextToken  e) (by omega) rfl rfl (Nat.le_of_ble_eq_true rfl) (fun a26 ea26 h => ?_)
            refine i_aload_n dX8_part0_116 rfl ?_
            refine i_iload_n dX8_part0_117 rfl ?_
            refine cV_iw dX8_part0_118 cw_X8_265 ci_X8_part0 rfl rfl (by decide) (show 0 < 1 by omega) h (fun a27 e => hrec 5 _ _ a27 e) (by omega) rfl rfl (Nat.le_of_ble_eq_true rfl) (fun a27 ea27 h => ?_)
            refine r_if_ne (tgt := 126) dX8_part0_121 (by decide) h (fun c25 h => ?_) (fun c25 h => ?_)
            · refine i_aload_n dX8_part0_126 rfl ?_
              refine i_dup dX8_part0_127 rfl ?_
              refine gf_X8_274 rfl (by omega) dX8_part0_128 ?_
              refine i_iconst (v := 1) dX8_part0_131 (by decide) ?_
              refine i_isub dX8_part0_132 ?_
              refine pf_X8_274 rfl (by omega) dX8_part0_133 ?_
              refine i_aload_n dX8_part0_136 rfl ?_
              refine i_iconst (v := 2) dX8_part0_137 (by decide) ?_
              refine i_bipush (v := 33) dX8_part0_138 (by decide) ?_
              refine cV_vw dX8_part0_140 cw_X8_253 ci_X8_step rfl rfl (by decide) (show 0 < 1 by omega) h (fun a28 e => F_X8_step  e) (by omega) rfl rfl (Nat.le_of_ble_eq_true rfl) (fun a28 ea28 h => ?_)
              refine i_iconst (v := 1) dX8_part0_143 (by decide) ?_
              exact e_zw rfl (by decide) dX8_part0_144 h
            · refine i_iconst (v := 0) dX8_part0_124 (by decide) ?_
              exact e_zw rfl (by decide) dX8_part0_125 h
      · refine i_iload_n dX8_part0_48 rfl ?_
        refine i_aload_n dX8_part0_49 rfl ?_
        refine gf_X8_225 rfl (by omega) dX8_part0_50 ?_
        refine cS_ir dX8_part0_53 cw_X8_271 ci_X8_isName h (fun a29 e => F_X8_isName  e) (by omega) rfl rfl (Nat.le_of_ble_eq_true rfl) (fun a29 ea29 h => ?_)
        refine r_if_eq (tgt := 84) dX8_part0_56 (by decide) h (fun c26 h => ?_) (fun c26 h => ?_)
        · refine i_aload_n dX8_part0_84 rfl ?_
          refine i_bipush (v := 33) dX8_part0_85 (by decide) ?_
          refine cV_ir dX8_part0_87 cw_X8_247 ci_X8_isSign rfl rfl (by decide) (show 0 < 1 by omega) h (fun a30 e => F_X8_isSign  e) (by omega) rfl rfl (Nat.le_of_ble_eq_true rfl) (fun a30 ea30 h => ?_)
          refine r_if_eq (tgt := 145) dX8_part0_90 (by decide) h (fun c27 h => ?_) (fun c27 h => ?_)
          · refine i_aload_n dX8_part0_145 rfl ?_
            refine i_bipush (v := 40) dX8_part0_146 (by decide) ?_
            refine cV_ir dX8_part0_148 cw_X8_247 ci_X8_isSign rfl rfl (by decide) (show 0 < 1 by omega) h (fun a31 e => F_X8_isSign  e) (by omega) rfl rfl (Nat.le_of_ble_eq_true rfl) (fun a31 ea31 h => ?_)
            refine r_if_eq (tgt := 163) dX8_part0_151 (by decide) h (fun c28 h => ?_) (fun c28 h => ?_)
            · refine i_iconst (v := 0) dX8_part0_163 (by decide) ?_
              exact e_zw rfl (by decide) dX8_part0_164 h
            · refine i_aload_n dX8_part0_154 rfl ?_
              refine gf_X8_277 rfl (by omega) dX8_part0_155 ?_
              refine i_bipush (v := 8) dX8_part0_158 (by decide) ?_
              refine r_icmp_ne (tgt := 165) dX8_part0_160 (by decide) h (fun c29 h => ?_) (fun c29 h => ?_)
              · refine i_aload_n dX8_part0_165 rfl ?_
                refine i_dup dX8_part0_166 rfl ?_
                refine gf_X8_277 rfl (by omega) dX8_part0_167 ?_
                refine i_iconst (v := 1) dX8_part0_170 (by decide) ?_
                refine i_iadd dX8_part0_171 ?_
                refine pf_X8_277 rfl (by omega) dX8_part0_172 ?_
                refine i_aload_n dX8_part0_175 rfl ?_
                refine cV_vw dX8_part0_176 cw_X8_250 ci_X8_nextToken rfl rfl (by decide) (show 0 < 1 by omega) h (fun a32 e => F_X8_nextToken  e) (by omega) rfl rfl (Nat.le_of_ble_eq_true rfl) (fun a32 ea32 h => ?_)
                refine i_aload_n dX8_part0_179 rfl ?_
                refine i_iload_n dX8_part0_180 rfl ?_
                refine cV_iw dX8_part0_181 cw_X8_280 ci_X8_either rfl rfl (by decide) (show 0 < 1 by omega) h (fun a33 e => hrec 0 _ _ a33 e) (by omega) rfl rfl (Nat.le_of_ble_eq_true rfl) (fun a33 ea33 h => ?_)
                refine r_if_eq (tgt := 196) dX8_part0_184 (by decide) h (fun c30 h => ?_) (fun c30 h => ?_)
                · refine i_iconst (v := 0) dX8_part0_196 (by decide) ?_
                  exact e_zw rfl (by decide) dX8_part0_197 h
                · refine i_aload_n dX8_part0_187 rfl ?_
                  refine i_bipush (v := 41) dX8_part0_188 (by decide) ?_
                  refine cV_ir dX8_part0_190 cw_X8_247 ci_X8_isSign rfl rfl (by decide) (show 0 < 1 by omega) h (fun a34 e => F_X8_isSign  e) (by omega) rfl rfl (Nat.le_of_ble_eq_true rfl) (fun a34 ea34 h => ?_)
                  refine r_if_ne (tgt := 198) dX8_part0_193 (by decide) h (fun c31 h => ?_) (fun c31 h => ?_)
                  · refine i_aload_n dX8_part0_198 rfl ?_
                    refine i_dup dX8_part0_199 rfl ?_
                    refine gf_X8_277 rfl (by omega) dX8_part0_200 ?_
                    refine i_iconst (v := 1) dX8_part0_203 (by decide) ?_
                    refine i_isub dX8_part0_204 ?_
                    refine pf_X8_277 rfl (by omega) dX8_part0_205 ?_
                    refine i_aload_n dX8_part0_208 rfl ?_
                    refine cV_vw dX8_part0_209 cw_X8_250 ci_X8_nextToken rfl rfl (by decide) (show 0 < 1 by omega) h (fun a35 e => F_X8_nextToken  e) (by omega) rfl rfl (Nat.le_of_ble_eq_true rfl) (fun a35 ea35 h => ?_)
                    refine i_iconst (v := 1) dX8_part0_212 (by decide) ?_
                    exact e_zw rfl (by decide) dX8_part0_213 h
                  · refine i_iconst (v := 0) dX8_part0_196 (by decide) ?_
                    exact e_zw rfl (by decide) dX8_part0_197 h
              · refine i_iconst (v := 0) dX8_part0_163 (by decide) ?_
                exact e_zw rfl (by decide) dX8_part0_164 h
          · refine i_aload_n dX8_part0_93 rfl ?_
            refine gf_X8_274 rfl (by omega) dX8_part0_94 ?_
            refine i_bipush (v := 8) dX8_part0_97 (by decide) ?_
            refine r_icmp_ge (tgt := 145) dX8_part0_99 (by decide) h (fun c32 h => ?_) (fun c32 h => ?_)
            · refine i_aload_n dX8_part0_145 rfl ?_
              refine i_bipush (v := 40) dX8_part0_146 (by decide) ?_
              refine cV_ir dX8_part0_148 cw_X8_247 ci_X8_isSign rfl rfl (by decide) (show 0 < 1 by omega) h (fun a36 e => F_X8_isSign  e) (by omega) rfl rfl (Nat.le_of_ble_eq_true rfl) (fun a36 ea36 h => ?_)
              refine r_if_eq (tgt := 163) dX8_part0_151 (by decide) h (fun c33 h => ?_) (fun c33 h => ?_)
              · refine i_iconst (v := 0) dX8_part0_163 (by decide) ?_
                exact e_zw rfl (by decide) dX8_part0_164 h
              · refine i_aload_n dX8_part0_154 rfl ?_
                refine gf_X8_277 rfl (by omega) dX8_part0_155 ?_
                refine i_bipush (v := 8) dX8_part0_158 (by decide) ?_
                refine r_icmp_ne (tgt := 165) dX8_part0_160 (by decide) h (fun c34 h => ?_) (fun c34 h => ?_)
                · refine i_aload_n dX8_part0_165 rfl ?_
                  refine i_dup dX8_part0_166 rfl ?_
                  refine gf_X8_277 rfl (by omega) dX8_part0_167 ?_
                  refine i_iconst (v := 1) dX8_part0_170 (by decide) ?_
                  refine i_iadd dX8_part0_171 ?_
                  refine pf_X8_277 rfl (by omega) dX8_part0_172 ?_
                  refine i_aload_n dX8_part0_175 rfl ?_
                  refine cV_vw dX8_part0_176 cw_X8_250 ci_X8_nextToken rfl rfl (by decide) (show 0 < 1 by omega) h (fun a37 e => F_X8_nextToken  e) (by omega) rfl rfl (Nat.le_of_ble_eq_true rfl) (fun a37 ea37 h => ?_)
                  refine i_aload_n dX8_part0_179 rfl ?_
                  refine i_iload_n dX8_part0_180 rfl ?_
                  refine cV_iw dX8_part0_181 cw_X8_280 ci_X8_either rfl rfl (by decide) (show 0 < 1 by omega) h (fun a38 e => hrec 0 _ _ a38 e) (by omega) rfl rfl (Nat.le_of_ble_eq_true rfl) (fun a38 ea38 h => ?_)
                  refine r_if_eq (tgt := 196) dX8_part0_184 (by decide) h (fun c35 h => ?_) (fun c35 h => ?_)
                  · refine i_iconst (v := 0) dX8_part0_196 (by decide) ?_
                    exact e_zw rfl (by decide) dX8_part0_197 h
                  · refine i_aload_n dX8_part0_187 rfl ?_
                    refine i_bipush (v := 41) dX8_part0_188 (by decide) ?_
                    refine cV_ir dX8_part0_190 cw_X8_247 ci_X8_isSign rfl rfl (by decide) (show 0 < 1 by omega) h (fun a39 e => F_X8_isSign  e) (by omega) rfl rfl (Nat.le_of_ble_eq_true rfl) (fun a39 ea39 h => ?_)
                    refine r_if_ne (tgt := 198) dX8_part0_193 (by decide) h (fun c36 h => ?_) (fun c36 h => ?_)
                    · refine i_aload_n dX8_part0_198 rfl ?_
                      refine i_dup dX8_part0_199 rfl ?_
                      refine gf_X8_277 rfl (by omega) dX8_part0_200 ?_
                      refine i_iconst (v := 1) dX8_part0_203 (by decide) ?_
                      refine i_isub dX8_part0_204 ?_
                      refine pf_X8_277 rfl (by omega) dX8_part0_205 ?_
                      refine i_aload_n dX8_part0_208 rfl ?_
                      refine cV_vw dX8_part0_209 cw_X8_250 ci_X8_nextToken rfl rfl (by decide) (show 0 < 1 by omega) h (fun a40 e => F_X8_nextToken  e) (by omega) rfl rfl (Nat.le_of_ble_eq_true rfl) (fun a40 ea40 h => ?_)
                      refine i_iconst (v := 1) dX8_part0_212 (by decide) ?_
                      exact e_zw rfl (by decide) dX8_part0_213 h
                    · refine i_iconst (v := 0) dX8_part0_196 (by decide) ?_
                      exact e_zw rfl (by decide) dX8_part0_197 h
                · refine i_iconst (v := 0) dX8_part0_163 (by decide) ?_
                  exact e_zw rfl (by decide) dX8_part0_164 h
            · refine i_aload_n dX8_part0_102 rfl ?_
              refine i_dup dX8_part0_103 rfl ?_
              refine gf_X8_274 rfl (by omega) dX8_part0_104 ?_
              refine i_iconst (v := 1) dX8_part0_107 (by decide) ?_
              refine i_iadd dX8_part0_108 ?_
              refine pf_X8_274 rfl (by omega) dX8_part0_109 ?_
              refine i_aload_n dX8_part0_112 rfl ?_
              refine cV_vw dX8_part0_113 cw_X8_250 ci_X8_nextToken rfl rfl (by decide) (show 0 < 1 by omega) h (fun a41 e => F_X8_nextToken  e) (by omega) rfl rfl (Nat.le_of_ble_eq_true rfl) (fun a41 ea41 h => ?_)
              refine i_aload_n dX8_part0_116 rfl ?_
              refine i_iload_n dX8_part0_117 rfl ?_
              refine cV_iw dX8_part0_118 cw_X8_265 ci_X8_part0 rfl rfl (by decide) (show 0 < 1 by omega) h (fun a42 e => hrec 5 _ _ a42 e) (by omega) rfl rfl (Nat.le_of_ble_eq_true rfl) (fun a42 ea42 h => ?_)
              refine r_if_ne (tgt := 126) dX8_part0_121 (by decide) h (fun c37 h => ?_) (fun c37 h => ?_)
              · refine i_aload_n dX8_part0_126 rfl ?_
                refine i_dup dX8_part0_127 rfl ?_
                refine gf_X8_274 rfl (by omega) dX8_part0_128 ?_
                refine i_iconst (v := 1) dX8_part0_131 (by decide) ?_
                refine i_isub dX8_part0_132 ?_
                refine pf_X8_274 rfl (by omega) dX8_part0_133 ?_
                refine i_aload_n dX8_part0_136 rfl ?_
                refine i_iconst (v := 2) dX8_part0_137 (by decide) ?_
                refine i_bipush (v := 33) dX8_part0_138 (by decide) ?_
                refine cV_vw dX8_part0_140 cw_X8_253 ci_X8_step rfl rfl (by decide) (show 0 < 1 by omega) h (fun a43 e => F_X8_step  e) (by omega) rfl rfl (Nat.le_of_ble_eq_true rfl) (fun a43 ea43 h => ?_)
                refine i_iconst (v := 1) dX8_part0_143 (by decide) ?_
                exact e_zw rfl (by decide) dX8_part0_144 h
              · refine i_iconst (v := 0) dX8_part0_124 (by decide) ?_
                exact e_zw rfl (by decide) dX8_part0_125 h
        · refine i_aload_n dX8_part0_59 rfl ?_
          refine i_iconst (v := 1) dX8_part0_60 (by decide) ?_
          refine i_aload_n dX8_part0_61 rfl ?_
          refine gf_X8_225 rfl (by omega) dX8_part0_62 ?_
          refine cV_vw dX8_part0_65 cw_X8_253 ci_X8_step rfl rfl (by decide) (show 0 < 1 by omega) h (fun a44 e => F_X8_step  e) (by omega) rfl rfl (Nat.le_of_ble_eq_true rfl) (fun a44 ea44 h => ?_)
          refine i_aload_n dX8_part0_68 rfl ?_
          refine i_dup dX8_part0_69 rfl ?_
          refine gf_X8_268 rfl (by omega) dX8_part0_70 ?_
          refine i_iconst (v := 1) dX8_part0_73 (by decide) ?_
          refine i_iadd dX8_part0_74 ?_
          refine pf_X8_268 rfl (by omega) dX8_part0_75 ?_
          refine i_aload_n dX8_part0_78 rfl ?_
          refine cV_vw dX8_part0_79 cw_X8_250 ci_X8_nextToken rfl rfl (by decide) (show 0 < 1 by omega) h (fun a45 e => F_X8_nextToken  e) (by omega) rfl rfl (Nat.le_of_ble_eq_true rfl) (fun a45 ea45 h => ?_)
          refine i_iconst (v := 1) dX8_part0_82 (by decide) ?_
          exact e_zw rfl (by decide) dX8_part0_83 h
  · refine i_aload_n dX8_part0_8 rfl ?_
    refine i_iconst (v := 0) dX8_part0_9 (by decide) ?_
    refine i_aload_n dX8_part0_10 rfl ?_
    refine gf_X8_231 rfl (by omega) dX8_part0_11 ?_
    refine cV_vw dX8_part0_14 cw_X8_253 ci_X8_step rfl rfl (by decide) (show 0 < 1 by omega) h (fun a46 e => F_X8_step  e) (by omega) rfl rfl (Nat.le_of_ble_eq_true rfl) (fun a46 ea46 h => ?_)
    refine i_aload_n dX8_part0_17 rfl ?_
    refine i_dup dX8_part0_18 rfl ?_
    refine gf_X8_268 rfl (by omega) dX8_part0_19 ?_
    refine i_iconst (v := 1) dX8_part0_22 (by decide) ?_
    refine i_iadd dX8_part0_23 ?_
    refine pf_X8_268 rfl (by omega) dX8_part0_24 ?_
    refine i_aload_n dX8_part0_27 rfl ?_
    refine cV_vw dX8_part0_28 cw_X8_250 ci_X8_nextToken rfl rfl (by decide) (show 0 < 1 by omega) h (fun a47 e => F_X8_nextToken  e) (by omega) rfl rfl (Nat.le_of_ble_eq_true rfl) (fun a47 ea47 h => ?_)
    refine i_iconst (v := 1) dX8_part0_31 (by decide) ?_
    exact e_zw rfl (by decide) dX8_part0_32 h
def f_X8_term_10 (rec : Nat → Int32 → Mem → Option (Int32 × Mem)) (p1 : Int32) : Nat → Mem → (Mem → Option (Int32 × Mem)) → Option (Int32 × Mem)
  | 0, _, _ => none
  | n + 1, σ, k =>
    (bnd (f_X8_isSign (42 : Int32) σ) (fun a1 => (if a1 = 0 then (bnd (f_X8_isSign (47 : Int32) σ) (fun a5 => (if a5 = 0 then (k σ) else (bnd (f_X8_nextToken σ) (fun a6 => (bnd (rec 5 p1 a6) (fun a7 => (if a7.1 = 0 then (some ((0 : Int32), a7.2)) else (bnd (f_X8_step (2 : Int32) (σ 8 0 21) a7.2) (fun a8 => (f_X8_term_10 rec p1 n a8 k))))))))))) else (bnd (f_X8_nextToken σ) (fun a2 => (bnd (rec 5 p1 a2) (fun a3 => (if a3.1 = 0 then (some ((0 : Int32), a3.2)) else (bnd (f_X8_step (2 : Int32) (σ 8 0 21) a3.2) (fun a4 => (f_X8_term_10 rec p1 n a4 k)))))))))))
set_option maxRecDepth 100000 in
set_option maxHeartbeats 4000000 in
theorem L_X8_term_10 {X : Cx} {D : Nat} {rec : Nat → Int32 → Mem → Option (Int32 × Mem)} {p1 : Int32} {r0 : Int32} {σ2 : Mem} {k : Mem → Option (Int32 × Mem)} (hD : 3 ≤ D) (hrec : ∀ t p1 σ a, rec t p1 σ = some a → Tri X D (mM t) [rf X 8 0, .int p1] σ (some (.int a.1)) a.2) : ∀ (n : Nat) (σ : Mem), f_X8_term_10 rec p1 n  σ k = some (r0, σ2) → (∀ (σ1 : Mem), k σ1 = some (r0, σ2) → At X (D + 1) mX8_term 56 [none, none, none] [] σ1 (some (.int r0)) σ2) → At X (D + 1) mX8_term 10 [some (rf X 8 0), some (.int p1), none] [] σ (some (.int r0)) σ2 := by
  intro n
  induction n with
  | zero =>
    intro  σ h
    cases h
  | succ n ih =>
    intro  σ h hk
    rw [f_X8_term_10.eq_2] at h
    refine i_aload_n dX8_term_10 rfl ?_
    refine i_bipush (v := 42) dX8_term_11 (by decide) ?_
    refine cV_ir dX8_term_13 cw_X8_247 ci_X8_isSign rfl rfl (by decide) (show 0 < 1 by omega) h (fun a1 e => F_X8_isSign  e) (by omega) rfl rfl (Nat.le_of_ble_eq_true rfl) (fun a1 ea1 h => ?_)
    refine r_if_ne (tgt := 28) dX8_term_16 (by decide) h (fun c1 h => ?_) (fun c1 h => ?_)
    · refine i_aload_n dX8_term_28 rfl ?_
      refine gf_X8_225 rfl (by omega) dX8_term_29 ?_
      refine i_istore_n (ls' := [some (rf X 8 0), some (.int p1), some (.int (σ 8 0 21))]) dX8_term_32 (by decide) (okp_at rfl) rfl ?_
      refine i_aload_n dX8_term_33 rfl ?_
      refine cV_vw dX8_term_34 cw_X8_250 ci_X8_nextToken rfl rfl (by decide) (show 0 < 1 by omega) h (fun a2 e => F_X8_nextToken  e) (by omega) rfl rfl (Nat.le_of_ble_eq_true rfl) (fun a2 ea2 h => ?_)
      refine i_aload_n dX8_term_37 rfl ?_
      refine i_iload_n dX8_term_38 rfl ?_
      refine cV_iw dX8_term_39 cw_X8_265 ci_X8_part0 rfl rfl (by decide) (show 0 < 1 by omega) h (fun a3 e => hrec 5 _ _ a3 e) (by omega) rfl rfl (Nat.le_of_ble_eq_true rfl) (fun a3 ea3 h => ?_)
      refine r_if_ne (tgt := 47) dX8_term_42 (by decide) h (fun c2 h => ?_) (fun c2 h => ?_)
      · refine i_aload_n dX8_term_47 rfl ?_
        refine i_iconst (v := 2) dX8_term_48 (by decide) ?_
        refine i_iload_n dX8_term_49 rfl ?_
        refine cV_vw dX8_term_50 cw_X8_253 ci_X8_step rfl rfl (by decide) (show 0 < 1 by omega) h (fun a4 e => F_X8_step  e) (by omega) rfl rfl (Nat.le_of_ble_eq_true rfl) (fun a4 ea4 h => ?_)
        refine i_goto (tgt := 10) dX8_term_53 (by decide) ?_
        refine At.fewer (ls' := [some (rf X 8 0), some (.int p1), none]) (And.intro rfl (And.intro rfl trivial)) ?_
        exact ih _ h hk
      · refine i_iconst (v := 0) dX8_term_45 (by decide) ?_
        exact e_zw rfl (by decide) dX8_term_46 h
    · refine i_aload_n dX8_term_19 rfl ?_
      refine i_bipush (v := 47) dX8_term_20 (by decide) ?_
      refine cV_ir dX8_term_22 cw_X8_247 ci_X8_isSign rfl rfl (by decide) (show 0 < 1 by omega) h (fun a5 e => F_X8_isSign  e) (by omega) rfl rfl (Nat.le_of_ble_eq_true rfl) (fun a5 ea5 h => ?_)
      refine r_if_eq (tgt := 56) dX8_term_25 (by decide) h (fun c3 h => ?_) (fun c3 h => ?_)
      · refine At.fewer (ls' := [none, none, none]) trivial ?_
        exact hk _ h
      · refine i_aload_n dX8_term_28 rfl ?_
        refine gf_X8_225 rfl (by omega) dX8_term_29 ?_
        refine i_istore_n (ls' := [some (rf X 8 0), some (.int p1), some (.int (σ 8 0 21))]) dX8_term_32 (by decide) (okp_at rfl) rfl ?_
        refine i_aload_n dX8_term_33 rfl ?_
        refine cV_vw dX8_term_34 cw_X8_250 ci_X8_nextToken rfl rfl (by decide) (show 0 < 1 by omega) h (fun a6 e => F_X8_nextToken  e) (by omega) rfl rfl (Nat.le_of_ble_eq_true rfl) (fun a6 ea6 h => ?_)
        refine i_aload_n dX8_term_37 rfl ?_
        refine i_iload_n dX8_term_38 rfl ?_
        refine cV_iw dX8_term_39 cw_X8_265 ci_X8_part0 rfl rfl (by decide) (show 0 < 1 by omega) h (fun a7 e => hrec 5 _ _ a7 e) (by omega) rfl rfl (Nat.le_of_ble_eq_true rfl) (fun a7 ea7 h => ?_)
        refine r_if_ne (tgt := 47) dX8_term_42 (by decide) h (fun c4 h => ?_) (fun c4 h => ?_)
        · refine i_aload_n dX8_term_47 rfl ?_
          refine i_iconst (v := 2) dX8_term_48 (by decide) ?_
          refine i_iload_n dX8_term_49 rfl ?_
          refine cV_vw dX8_term_50 cw_X8_253 ci_X8_step rfl rfl (by decide) (show 0 < 1 by omega) h (fun a8 e => F_X8_step  e) (by omega) rfl rfl (Nat.le_of_ble_eq_true rfl) (fun a8 ea8 h => ?_)
          refine i_goto (tgt := 10) dX8_term_53 (by decide) ?_
          refine At.fewer (ls' := [some (rf X 8 0), some (.int p1), none]) (And.intro rfl (And.intro rfl trivial)) ?_
          exact ih _ h hk
        · refine i_iconst (v := 0) dX8_term_45 (by decide) ?_
          exact e_zw rfl (by decide) dX8_term_46 h
def f_X8_term (rec : Nat → Int32 → Mem → Option (Int32 × Mem)) (p1 : Int32) (σ : Mem) : Option (Int32 × Mem) :=
  (bnd (rec 5 p1 σ) (fun a1 => (if a1.1 = 0 then (some ((0 : Int32), a1.2)) else (f_X8_term_10 rec p1 FU a1.2 (fun σ_1 => (some ((1 : Int32), σ_1)))))))
set_option maxRecDepth 100000 in
set_option maxHeartbeats 4000000 in
theorem F_X8_term {X : Cx} {D : Nat} {rec : Nat → Int32 → Mem → Option (Int32 × Mem)} {p1 : Int32} {σ : Mem} {res : (Int32 × Mem)} (hD : 3 ≤ D) (hrec : ∀ t p1 σ a, rec t p1 σ = some a → Tri X D (mM t) [rf X 8 0, .int p1] σ (some (.int a.1)) a.2) (h : f_X8_term rec p1 σ = some res) : Tri X (D + 1) mX8_term [rf X 8 0, .int p1] σ (some (.int res.1)) res.2 := by
  obtain ⟨r0, σ2⟩ := res
  unfold f_X8_term at h
  refine Tri.of (ls := [some (rf X 8 0), some (.int p1), none]) (by decide) (Nat.le_of_ble_eq_true rfl) rfl ?_
  refine i_aload_n dX8_term_0 rfl ?_
  refine i_iload_n dX8_term_1 rfl ?_
  refine cV_iw dX8_term_2 cw_X8_265 ci_X8_part0 rfl rfl (by decide) (show 0 < 1 by omega) h (fun a1 e => hrec 5 _ _ a1 e) (by omega) rfl rfl (Nat.le_of_ble_eq_true rfl) (fun a1 ea1 h => ?_)
  refine r_if_ne (tgt := 10) dX8_term_5 (by decide) h (fun c1 h => ?_) (fun c1 h => ?_)
  · refine L_X8_term_10 hD hrec FU _ h (fun σ_1 h => ?_)
    refine i_iconst (v := 1) dX8_term_56 (by decide) ?_
    exact e_zw rfl (by decide) dX8_term_57 h
  · refine i_iconst (v := 0) dX8_term_8 (by decide) ?_
    exact e_zw rfl (by decide) dX8_term_9 h
def f_X8_sum_10 (rec : Nat → Int32 → Mem → Option (Int32 × Mem)) (p1 : Int32) : Nat → Mem → (Mem → Option (Int32 × Mem)) → Option (Int32 × Mem)
  | 0, _, _ => none
  | n + 1, σ, k =>
    (bnd (f_X8_isSign (43 : Int32) σ) (fun a1 => (if a1 = 0 then (bnd (f_X8_isSign (45 : Int32) σ) (fun a5 => (if a5 = 0 then (k σ) else (bnd (f_X8_nextToken σ) (fun a6 => (bnd (rec 4 p1 a6) (fun a7 => (if a7.1 = 0 then (some ((0 : Int32), a7.2)) else (bnd (f_X8_step (2 : Int32) (σ 8 0 21) a7.2) (fun a8 => (f_X8_sum_10 rec p1 n a8 k))))))))))) else (bnd (f_X8_nextToken σ) (fun a2 => (bnd (rec 4 p1 a2) (fun a3 => (if a3.1 = 0 then (some ((0 : Int32), a3.2)) else (bnd (f_X8_step (2 : Int32) (σ 8 0 21) a3.2) (fun a4 => (f_X8_sum_10 rec p1 n a4 k)))))))))))
set_option maxRecDepth 100000 in
set_option maxHeartbeats 4000000 in
theorem L_X8_sum_10 {X : Cx} {D : Nat} {rec : Nat → Int32 → Mem → Option (Int32 × Mem)} {p1 : Int32} {r0 : Int32} {σ2 : Mem} {k : Mem → Option (Int32 × Mem)} (hD : 3 ≤ D) (hrec : ∀ t p1 σ a, rec t p1 σ = some a → Tri X D (mM t) [rf X 8 0, .int p1] σ (some (.int a.1)) a.2) : ∀ (n : Nat) (σ : Mem), f_X8_sum_10 rec p1 n  σ k = some (r0, σ2) → (∀ (σ1 : Mem), k σ1 = some (r0, σ2) → At X (D + 1) mX8_sum 56 [none, none, none] [] σ1 (some (.int r0)) σ2) → At X (D + 1) mX8_sum 10 [some (rf X 8 0), some (.int p1), none] [] σ (some (.int r0)) σ2 := by
  intro n
  induction n with
  | zero =>
    intro  σ h
    cases h
  | succ n ih =>
    intro  σ h hk
    rw [f_X8_sum_10.eq_2] at h
    refine i_aload_n dX8_sum_10 rfl ?_
    refine i_bipush (v := 43) dX8_sum_11 (by decide) ?_
    refine cV_ir dX8_sum_13 cw_X8_247 ci_X8_isSign rfl rfl (by decide) (show 0 < 1 by omega) h (fun a1 e => F_X8_isSign  e) (by omega) rfl rfl (Nat.le_of_ble_eq_true rfl) (fun a1 ea1 h => ?_)
    refine r_if_ne (tgt := 28) dX8_sum_16 (by decide) h (fun c1 h => ?_) (fun c1 h => ?_)
    · refine i_aload_n dX8_sum_28 rfl ?_
      refine gf_X8_225 rfl (by omega) dX8_sum_29 ?_
      refine i_istore_n (ls' := [some (rf X 8 0), some (.int p1), some (.int (σ 8 0 21))]) dX8_sum_32 (by decide) (okp_at rfl) rfl ?_
      refine i_aload_n dX8_sum_33 rfl ?_
      refine cV_vw dX8_sum_34 cw_X8_250 ci_X8_nextToken rfl rfl (by decide) (show 0 < 1 by omega) h (fun a2 e => F_X8_nextToken  e) (by omega) rfl rfl (Nat.le_of_ble_eq_true rfl) (fun a2 ea2 h => ?_)
      refine i_aload_n dX8_sum_37 rfl ?_
      refine i_iload_n dX8_sum_38 rfl ?_
      refine cV_iw dX8_sum_39 cw_X8_262 ci_X8_term rfl rfl (by decide) (show 0 < 1 by omega) h (fun a3 e => hrec 4 _ _ a3 e) (by omega) rfl rfl (Nat.le_of_ble_eq_true rfl) (fun a3 ea3 h => ?_)
      refine r_if_ne (tgt := 47) dX8_sum_42 (by decide) h (fun c2 h => ?_) (fun c2 h => ?_)
      · refine i_aload_n dX8_sum_47 rfl ?_
        refine i_iconst (v := 2) dX8_sum_48 (by decide) ?_
        refine i_iload_n dX8_sum_49 rfl ?_
        refine cV_vw dX8_sum_50 cw_X8_253 ci_X8_step rfl rfl (by decide) (show 0 < 1 by omega) h (fun a4 e => F_X8_step  e) (by omega) rfl rfl (Nat.le_of_ble_eq_true rfl) (fun a4 ea4 h => ?_)
        refine i_goto (tgt := 10) dX8_sum_53 (by decide) ?_
        refine At.fewer (ls' := [some (rf X 8 0), some (.int p1), none]) (And.intro rfl (And.intro rfl trivial)) ?_
        exact ih _ h hk
      · refine i_iconst (v := 0) dX8_sum_45 (by decide) ?_
        exact e_zw rfl (by decide) dX8_sum_46 h
    · refine i_aload_n dX8_sum_19 rfl ?_
      refine i_bipush (v := 45) dX8_sum_20 (by decide) ?_
      refine cV_ir dX8_sum_22 cw_X8_247 ci_X8_isSign rfl rfl (by decide) (show 0 < 1 by omega) h (fun a5 e => F_X8_isSign  e) (by omega) rfl rfl (Nat.le_of_ble_eq_true rfl) (fun a5 ea5 h => ?_)
      refine r_if_eq (tgt := 56) dX8_sum_25 (by decide) h (fun c3 h => ?_) (fun c3 h => ?_)
      · refine At.fewer (ls' := [none, none, none]) trivial ?_
        exact hk _ h
      · refine i_aload_n dX8_sum_28 rfl ?_
        refine gf_X8_225 rfl (by omega) dX8_sum_29 ?_
        refine i_istore_n (ls' := [some (rf X 8 0), some (.int p1), some (.int (σ 8 0 21))]) dX8_sum_32 (by decide) (okp_at rfl) rfl ?_
        refine i_aload_n dX8_sum_33 rfl ?_
        refine cV_vw dX8_sum_34 cw_X8_250 ci_X8_nextToken rfl rfl (by decide) (show 0 < 1 by omega) h (fun a6 e => F_X8_nextToken  e) (by omega) rfl rfl (Nat.le_of_ble_eq_true rfl) (fun a6 ea6 h => ?_)
        refine i_aload_n dX8_sum_37 rfl ?_
        refine i_iload_n dX8_sum_38 rfl ?_
        refine cV_iw dX8_sum_39 cw_X8_262 ci_X8_term rfl rfl (by decide) (show 0 < 1 by omega) h (fun a7 e => hrec 4 _ _ a7 e) (by omega) rfl rfl (Nat.le_of_ble_eq_true rfl) (fun a7 ea7 h => ?_)
        refine r_if_ne (tgt := 47) dX8_sum_42 (by decide) h (fun c4 h => ?_) (fun c4 h => ?_)
        · refine i_aload_n dX8_sum_47 rfl ?_
          refine i_iconst (v := 2) dX8_sum_48 (by decide) ?_
          refine i_iload_n dX8_sum_49 rfl ?_
          refine cV_vw dX8_sum_50 cw_X8_253 ci_X8_step rfl rfl (by decide) (show 0 < 1 by omega) h (fun a8 e => F_X8_step  e) (by omega) rfl rfl (Nat.le_of_ble_eq_true rfl) (fun a8 ea8 h => ?_)
          refine i_goto (tgt := 10) dX8_sum_53 (by decide) ?_
          refine At.fewer (ls' := [some (rf X 8 0), some (.int p1), none]) (And.intro rfl (And.intro rfl trivial)) ?_
          exact ih _ h hk
        · refine i_iconst (v := 0) dX8_sum_45 (by decide) ?_
          exact e_zw rfl (by decide) dX8_sum_46 h
def f_X8_sum (rec : Nat → Int32 → Mem → Option (Int32 × Mem)) (p1 : Int32) (σ : Mem) : Option (Int32 × Mem) :=
  (bnd (rec 4 p1 σ) (fun a1 => (if a1.1 = 0 then (some ((0 : Int32), a1.2)) else (f_X8_sum_10 rec p1 FU a1.2 (fun σ_1 => (some ((1 : Int32), σ_1)))))))
set_option maxRecDepth 100000 in
set_option maxHeartbeats 4000000 in
theorem F_X8_sum {X : Cx} {D : Nat} {rec : Nat → Int32 → Mem → Option (Int32 × Mem)} {p1 : Int32} {σ : Mem} {res : (Int32 × Mem)} (hD : 3 ≤ D) (hrec : ∀ t p1 σ a, rec t p1 σ = some a → Tri X D (mM t) [rf X 8 0, .int p1] σ (some (.int a.1)) a.2) (h : f_X8_sum rec p1 σ = some res) : Tri X (D + 1) mX8_sum [rf X 8 0, .int p1] σ (some (.int res.1)) res.2 := by
  obtain ⟨r0, σ2⟩ := res
  unfold f_X8_sum at h
  refine Tri.of (ls := [some (rf X 8 0), some (.int p1), none]) (by decide) (Nat.le_of_ble_eq_true rfl) rfl ?_
  refine i_aload_n dX8_sum_0 rfl ?_
  refine i_iload_n dX8_sum_1 rfl ?_
  refine cV_iw dX8_sum_2 cw_X8_262 ci_X8_term rfl rfl (by decide) (show 0 < 1 by omega) h (fun a1 e => hrec 4 _ _ a1 e) (by omega) rfl rfl (Nat.le_of_ble_eq_true rfl) (fun a1 ea1 h => ?_)
  refine r_if_ne (tgt := 10) dX8_sum_5 (by decide) h (fun c1 h => ?_) (fun c1 h => ?_)
  · refine L_X8_sum_10 hD hrec FU _ h (fun σ_1 h => ?_)
    refine i_iconst (v := 1) dX8_sum_56 (by decide) ?_
    exact e_zw rfl (by decide) dX8_sum_57 h
  · refine i_iconst (v := 0) dX8_sum_8 (by decide) ?_
    exact e_zw rfl (by decide) dX8_sum_9 h
def f_X8_test (rec : Nat → Int32 → Mem → Option (Int32 × Mem)) (p1 : Int32) (σ : Mem) : Option (Int32 × Mem) :=
  (bnd (rec 3 p1 σ) (fun a1 => (if a1.1 = 0 then (some ((0 : Int32), a1.2)) else (bnd (f_X8_isSign (60 : Int32) a1.2) (fun a2 => (if a2 = 0 then (bnd (f_X8_isSign (61 : Int32) a1.2) (fun a6 => (if a6 = 0 then (bnd (f_X8_isSign (62 : Int32) a1.2) (fun a10 => (if a10 = 0 then (some ((1 : Int32), a1.2)) else (bnd (f_X8_nextToken a1.2) (fun a11 => (bnd (rec 3 p1 a11) (fun a12 => (if a12.1 = 0 then (some ((0 : Int32), a12.2)) else (bnd (f_X8_step (2 : Int32) (a1.2 8 0 21) a12.2) (fun a13 => (some ((1 : Int32), a13)))))))))))) else (bnd (f_X8_nextToken a1.2) (fun a7 => (bnd (rec 3 p1 a7) (fun a8 => (if a8.1 = 0 then (some ((0 : Int32), a8.2)) else (bnd (f_X8_step (2 : Int32) (a1.2 8 0 21) a8.2) (fun a9 => (some ((1 : Int32), a9)))))))))))) else (bnd (f_X8_nextToken a1.2) (fun a3 => (bnd (rec 3 p1 a3) (fun a4 => (if a4.1 = 0 then (some ((0 : Int32), a4.2)) else (bnd (f_X8_step (2 : Int32) (a1.2 8 0 21) a4.2) (fun a5 => (some ((1 : Int32), a5)))))))))))))))
set_option maxRecDepth 100000 in
set_option maxHeartbeats 4000000 in
theorem F_X8_test {X : Cx} {D : Nat} {rec : Nat → Int32 → Mem → Option (Int32 × Mem)} {p1 : Int32} {σ : Mem} {res : (Int32 × Mem)} (hD : 3 ≤ D) (hrec : ∀ t p1 σ a, rec t p1 σ = some a → Tri X D (mM t) [rf X 8 0, .int p1] σ (some (.int a.1)) a.2) (h : f_X8_test rec p1 σ = some res) : Tri X (D + 1) mX8_test [rf X 8 0, .int p1] σ (some (.int res.1)) res.2 := by
  obtain ⟨r0, σ2⟩ := res
  unfold f_X8_test at h
  refine Tri.of (ls := [some (rf X 8 0), some (.int p1), none]) (by decide) (Nat.le_of_ble_eq_true rfl) rfl ?_
  refine i_aload_n dX8_test_0 rfl ?_
  refine i_iload_n dX8_test_1 rfl ?_
  refine cV_iw dX8_test_2 cw_X8_259 ci_X8_sum rfl rfl (by decide) (show 0 < 1 by omega) h (fun a1 e => hrec 3 _ _ a1 e) (by omega) rfl rfl (Nat.le_of_ble_eq_true rfl) (fun a1 ea1 h => ?_)
  refine r_if_ne (tgt := 10) dX8_test_5 (by decide) h (fun c1 h => ?_) (fun c1 h => ?_)
  · refine i_aload_n dX8_test_10 rfl ?_
    refine i_bipush (v := 60) dX8_test_11 (by decide) ?_
    refine cV_ir dX8_test_13 cw_X8_247 ci_X8_isSign rfl rfl (by decide) (show 0 < 1 by omega) h (fun a2 e => F_X8_isSign  e) (by omega) rfl rfl (Nat.le_of_ble_eq_true rfl) (fun a2 ea2 h => ?_)
    refine r_if_ne (tgt := 37) dX8_test_16 (by decide) h (fun c2 h => ?_) (fun c2 h => ?_)
    · refine i_aload_n dX8_test_37 rfl ?_
      refine gf_X8_225 rfl (by omega) dX8_test_38 ?_
      refine i_istore_n (ls' := [some (rf X 8 0), some (.int p1), some (.int (a1.2 8 0 21))]) dX8_test_41 (by decide) (okp_at rfl) rfl ?_
      refine i_aload_n dX8_test_42 rfl ?_
      refine cV_vw dX8_test_43 cw_X8_250 ci_X8_nextToken rfl rfl (by decide) (show 0 < 1 by omega) h (fun a3 e => F_X8_nextToken  e) (by omega) rfl rfl (Nat.le_of_ble_eq_true rfl) (fun a3 ea3 h => ?_)
      refine i_aload_n dX8_test_46 rfl ?_
      refine i_iload_n dX8_test_47 rfl ?_
      refine cV_iw dX8_test_48 cw_X8_259 ci_X8_sum rfl rfl (by decide) (show 0 < 1 by omega) h (fun a4 e => hrec 3 _ _ a4 e) (by omega) rfl rfl (Nat.le_of_ble_eq_true rfl) (fun a4 ea4 h => ?_)
      refine r_if_ne (tgt := 56) dX8_test_51 (by decide) h (fun c3 h => ?_) (fun c3 h => ?_)
      · refine i_aload_n dX8_test_56 rfl ?_
        refine i_iconst (v := 2) dX8_test_57 (by decide) ?_
        refine i_iload_n dX8_test_58 rfl ?_
        refine cV_vw dX8_test_59 cw_X8_253 ci_X8_step rfl rfl (by decide) (show 0 < 1 by omega) h (fun a5 e => F_X8_step  e) (by omega) rfl rfl (Nat.le_of_ble_eq_true rfl) (fun a5 ea5 h => ?_)
        refine i_iconst (v := 1) dX8_test_62 (by decide) ?_
        exact e_zw rfl (by decide) dX8_test_63 h
      · refine i_iconst (v := 0) dX8_test_54 (by decide) ?_
        exact e_zw rfl (by decide) dX8_test_55 h
    · refine i_aload_n dX8_test_19 rfl ?_
      refine i_bipush (v := 61) dX8_test_20 (by decide) ?_
      refine cV_ir dX8_test_22 cw_X8_247 ci_X8_isSign rfl rfl (by decide) (show 0 < 1 by omega) h (fun a6 e => F_X8_isSign  e) (by omega) rfl rfl (Nat.le_of_ble_eq_true rfl) (fun a6 ea6 h => ?_)
      refine r_if_ne (tgt := 37) dX8_test_25 (by decide) h (fun c4 h => ?_) (fun c4 h => ?_)
      · refine i_aload_n dX8_test_37 rfl ?_
        refine gf_X8_225 rfl (by omega) dX8_test_38 ?_
        refine i_istore_n (ls' := [some (rf X 8 0), some (.int p1), some (.int (a1.2 8 0 21))]) dX8_test_41 (by decide) (okp_at rfl) rfl ?_
        refine i_aload_n dX8_test_42 rfl ?_
        refine cV_vw dX8_test_43 cw_X8_250 ci_X8_nextToken rfl rfl (by decide) (show 0 < 1 by omega) h (fun a7 e => F_X8_nextToken  e) (by omega) rfl rfl (Nat.le_of_ble_eq_true rfl) (fun a7 ea7 h => ?_)
        refine i_aload_n dX8_test_46 rfl ?_
        refine i_iload_n dX8_test_47 rfl ?_
        refine cV_iw dX8_test_48 cw_X8_259 ci_X8_sum rfl rfl (by decide) (show 0 < 1 by omega) h (fun a8 e => hrec 3 _ _ a8 e) (by omega) rfl rfl (Nat.le_of_ble_eq_true rfl) (fun a8 ea8 h => ?_)
        refine r_if_ne (tgt := 56) dX8_test_51 (by decide) h (fun c5 h => ?_) (fun c5 h => ?_)
        · refine i_aload_n dX8_test_56 rfl ?_
          refine i_iconst (v := 2) dX8_test_57 (by decide) ?_
          refine i_iload_n dX8_test_58 rfl ?_
          refine cV_vw dX8_test_59 cw_X8_253 ci_X8_step rfl rfl (by decide) (show 0 < 1 by omega) h (fun a9 e => F_X8_step  e) (by omega) rfl rfl (Nat.le_of_ble_eq_true rfl) (fun a9 ea9 h => ?_)
          refine i_iconst (v := 1) dX8_test_62 (by decide) ?_
          exact e_zw rfl (by decide) dX8_test_63 h
        · refine i_iconst (v := 0) dX8_test_54 (by decide) ?_
          exact e_zw rfl (by decide) dX8_test_55 h
      · refine i_aload_n dX8_test_28 rfl ?_
        refine i_bipush (v := 62) dX8_test_29 (by decide) ?_
        refine cV_ir dX8_test_31 cw_X8_247 ci_X8_isSign rfl rfl (by decide) (show 0 < 1 by omega) h (fun a10 e => F_X8_isSign  e) (by omega) rfl rfl (Nat.le_of_ble_eq_true rfl) (fun a10 ea10 h => ?_)
        refine r_if_eq (tgt := 62) dX8_test_34 (by decide) h (fun c6 h => ?_) (fun c6 h => ?_)
        · refine i_iconst (v := 1) dX8_test_62 (by decide) ?_
          exact e_zw rfl (by decide) dX8_test_63 h
        · refine i_aload_n dX8_test_37 rfl ?_
          refine gf_X8_225 rfl (by omega) dX8_test_38 ?_
          refine i_istore_n (ls' := [some (rf X 8 0), some (.int p1), some (.int (a1.2 8 0 21))]) dX8_test_41 (by decide) (okp_at rfl) rfl ?_
          refine i_aload_n dX8_test_42 rfl ?_
          refine cV_vw dX8_test_43 cw_X8_250 ci_X8_nextToken rfl rfl (by decide) (show 0 < 1 by omega) h (fun a11 e => F_X8_nextToken  e) (by omega) rfl rfl (Nat.le_of_ble_eq_true rfl) (fun a11 ea11 h => ?_)
          refine i_aload_n dX8_test_46 rfl ?_
          refine i_iload_n dX8_test_47 rfl ?_
          refine cV_iw dX8_test_48 cw_X8_259 ci_X8_sum rfl rfl (by decide) (show 0 < 1 by omega) h (fun a12 e => hrec 3 _ _ a12 e) (by omega) rfl rfl (Nat.le_of_ble_eq_true rfl) (fun a12 ea12 h => ?_)
          refine r_if_ne (tgt := 56) dX8_test_51 (by decide) h (fun c7 h => ?_) (fun c7 h => ?_)
          · refine i_aload_n dX8_test_56 rfl ?_
            refine i_iconst (v := 2) dX8_test_57 (by decide) ?_
            refine i_iload_n dX8_test_58 rfl ?_
            refine cV_vw dX8_test_59 cw_X8_253 ci_X8_step rfl rfl (by decide) (show 0 < 1 by omega) h (fun a13 e => F_X8_step  e) (by omega) rfl rfl (Nat.le_of_ble_eq_true rfl) (fun a13 ea13 h => ?_)
            refine i_iconst (v := 1) dX8_test_62 (by decide) ?_
            exact e_zw rfl (by decide) dX8_test_63 h
          · refine i_iconst (v := 0) dX8_test_54 (by decide) ?_
            exact e_zw rfl (by decide) dX8_test_55 h
  · refine i_iconst (v := 0) dX8_test_8 (by decide) ?_
    exact e_zw rfl (by decide) dX8_test_9 h
def f_X8_both_10 (rec : Nat → Int32 → Mem → Option (Int32 × Mem)) (p1 : Int32) : Nat → Mem → (Mem → Option (Int32 × Mem)) → Option (Int32 × Mem)
  | 0, _, _ => none
  | n + 1, σ, k =>
    (bnd (f_X8_isSign (38 : Int32) σ) (fun a1 => (if a1 = 0 then (k σ) else (bnd (f_X8_nextToken σ) (fun a2 => (bnd (rec 2 p1 a2) (fun a3 => (if a3.1 = 0 then (some ((0 : Int32), a3.2)) else (bnd (f_X8_step (2 : Int32) (38 : Int32) a3.2) (fun a4 => (f_X8_both_10 rec p1 n a4 k)))))))))))
set_option maxRecDepth 100000 in
set_option maxHeartbeats 4000000 in
theorem L_X8_both_10 {X : Cx} {D : Nat} {rec : Nat → Int32 → Mem → Option (Int32 × Mem)} {p1 : Int32} {r0 : Int32} {σ2 : Mem} {k : Mem → Option (Int32 × Mem)} (hD : 3 ≤ D) (hrec : ∀ t p1 σ a, rec t p1 σ = some a → Tri X D (mM t) [rf X 8 0, .int p1] σ (some (.int a.1)) a.2) : ∀ (n : Nat) (σ : Mem), f_X8_both_10 rec p1 n  σ k = some (r0, σ2) → (∀ (σ1 : Mem), k σ1 = some (r0, σ2) → At X (D + 1) mX8_both 43 [none, none] [] σ1 (some (.int r0)) σ2) → At X (D + 1) mX8_both 10 [some (rf X 8 0), some (.int p1)] [] σ (some (.int r0)) σ2 := by
  intro n
  induction n with
  | zero =>
    intro  σ h
    cases h
  | succ n ih =>
    intro  σ h hk
    rw [f_X8_both_10.eq_2] at h
    refine i_aload_n dX8_both_10 rfl ?_
    refine i_bipush (v := 38) dX8_both_11 (by decide) ?_
    refine cV_ir dX8_both_13 cw_X8_247 ci_X8_isSign rfl rfl (by decide) (show 0 < 1 by omega) h (fun a1 e => F_X8_isSign  e) (by omega) rfl rfl (Nat.le_of_ble_eq_true rfl) (fun a1 ea1 h => ?_)
    refine r_if_eq (tgt := 43) dX8_both_16 (by decide) h (fun c1 h => ?_) (fun c1 h => ?_)
    · refine At.fewer (ls' := [none, none]) trivial ?_
      exact hk _ h
    · refine i_aload_n dX8_both_19 rfl ?_
      refine cV_vw dX8_both_20 cw_X8_250 ci_X8_nextToken rfl rfl (by decide) (show 0 < 1 by omega) h (fun a2 e => F_X8_nextToken  e) (by omega) rfl rfl (Nat.le_of_ble_eq_true rfl) (fun a2 ea2 h => ?_)
      refine i_aload_n dX8_both_23 rfl ?_
      refine i_iload_n dX8_both_24 rfl ?_
      refine cV_iw dX8_both_25 cw_X8_256 ci_X8_test rfl rfl (by decide) (show 0 < 1 by omega) h (fun a3 e => hrec 2 _ _ a3 e) (by omega) rfl rfl (Nat.le_of_ble_eq_true rfl) (fun a3 ea3 h => ?_)
      refine r_if_ne (tgt := 33) dX8_both_28 (by decide) h (fun c2 h => ?_) (fun c2 h => ?_)
      · refine i_aload_n dX8_both_33 rfl ?_
        refine i_iconst (v := 2) dX8_both_34 (by decide) ?_
        refine i_bipush (v := 38) dX8_both_35 (by decide) ?_
        refine cV_vw dX8_both_37 cw_X8_253 ci_X8_step rfl rfl (by decide) (show 0 < 1 by omega) h (fun a4 e => F_X8_step  e) (by omega) rfl rfl (Nat.le_of_ble_eq_true rfl) (fun a4 ea4 h => ?_)
        refine i_goto (tgt := 10) dX8_both_40 (by decide) ?_
        exact ih _ h hk
      · refine i_iconst (v := 0) dX8_both_31 (by decide) ?_
        exact e_zw rfl (by decide) dX8_both_32 h
def f_X8_both (rec : Nat → Int32 → Mem → Option (Int32 × Mem)) (p1 : Int32) (σ : Mem) : Option (Int32 × Mem) :=
  (bnd (rec 2 p1 σ) (fun a1 => (if a1.1 = 0 then (some ((0 : Int32), a1.2)) else (f_X8_both_10 rec p1 FU a1.2 (fun σ_1 => (some ((1 : Int32), σ_1)))))))
set_option maxRecDepth 100000 in
set_option maxHeartbeats 4000000 in
theorem F_X8_both {X : Cx} {D : Nat} {rec : Nat → Int32 → Mem → Option (Int32 × Mem)} {p1 : Int32} {σ : Mem} {res : (Int32 × Mem)} (hD : 3 ≤ D) (hrec : ∀ t p1 σ a, rec t p1 σ = some a → Tri X D (mM t) [rf X 8 0, .int p1] σ (some (.int a.1)) a.2) (h : f_X8_both rec p1 σ = some res) : Tri X (D + 1) mX8_both [rf X 8 0, .int p1] σ (some (.int res.1)) res.2 := by
  obtain ⟨r0, σ2⟩ := res
  unfold f_X8_both at h
  refine Tri.of (ls := [some (rf X 8 0), some (.int p1)]) (by decide) (Nat.le_of_ble_eq_true rfl) rfl ?_
  refine i_aload_n dX8_both_0 rfl ?_
  refine i_iload_n dX8_both_1 rfl ?_
  refine cV_iw dX8_both_2 cw_X8_256 ci_X8_test rfl rfl (by decide) (show 0 < 1 by omega) h (fun a1 e => hrec 2 _ _ a1 e) (by omega) rfl rfl (Nat.le_of_ble_eq_true rfl) (fun a1 ea1 h => ?_)
  refine r_if_ne (tgt := 10) dX8_both_5 (by decide) h (fun c1 h => ?_) (fun c1 h => ?_)
  · refine L_X8_both_10 hD hrec FU _ h (fun σ_1 h => ?_)
    refine i_iconst (v := 1) dX8_both_43 (by decide) ?_
    exact e_zw rfl (by decide) dX8_both_44 h
  · refine i_iconst (v := 0) dX8_both_8 (by decide) ?_
    exact e_zw rfl (by decide) dX8_both_9 h
def f_X8_either_10 (rec : Nat → Int32 → Mem → Option (Int32 × Mem)) (p1 : Int32) : Nat → Mem → (Mem → Option (Int32 × Mem)) → Option (Int32 × Mem)
  | 0, _, _ => none
  | n + 1, σ, k =>
    (bnd (f_X8_isSign (124 : Int32) σ) (fun a1 => (if a1 = 0 then (k σ) else (bnd (f_X8_nextToken σ) (fun a2 => (bnd (rec 1 p1 a2) (fun a3 => (if a3.1 = 0 then (some ((0 : Int32), a3.2)) else (bnd (f_X8_step (2 : Int32) (124 : Int32) a3.2) (fun a4 => (f_X8_either_10 rec p1 n a4 k)))))))))))
set_option maxRecDepth 100000 in
set_option maxHeartbeats 4000000 in
theorem L_X8_either_10 {X : Cx} {D : Nat} {rec : Nat → Int32 → Mem → Option (Int32 × Mem)} {p1 : Int32} {r0 : Int32} {σ2 : Mem} {k : Mem → Option (Int32 × Mem)} (hD : 3 ≤ D) (hrec : ∀ t p1 σ a, rec t p1 σ = some a → Tri X D (mM t) [rf X 8 0, .int p1] σ (some (.int a.1)) a.2) : ∀ (n : Nat) (σ : Mem), f_X8_either_10 rec p1 n  σ k = some (r0, σ2) → (∀ (σ1 : Mem), k σ1 = some (r0, σ2) → At X (D + 1) mX8_either 43 [none, none] [] σ1 (some (.int r0)) σ2) → At X (D + 1) mX8_either 10 [some (rf X 8 0), some (.int p1)] [] σ (some (.int r0)) σ2 := by
  intro n
  induction n with
  | zero =>
    intro  σ h
    cases h
  | succ n ih =>
    intro  σ h hk
    rw [f_X8_either_10.eq_2] at h
    refine i_aload_n dX8_either_10 rfl ?_
    refine i_bipush (v := 124) dX8_either_11 (by decide) ?_
    refine cV_ir dX8_either_13 cw_X8_247 ci_X8_isSign rfl rfl (by decide) (show 0 < 1 by omega) h (fun a1 e => F_X8_isSign  e) (by omega) rfl rfl (Nat.le_of_ble_eq_true rfl) (fun a1 ea1 h => ?_)
    refine r_if_eq (tgt := 43) dX8_either_16 (by decide) h (fun c1 h => ?_) (fun c1 h => ?_)
    · refine At.fewer (ls' := [none, none]) trivial ?_
      exact hk _ h
    · refine i_aload_n dX8_either_19 rfl ?_
      refine cV_vw dX8_either_20 cw_X8_250 ci_X8_nextToken rfl rfl (by decide) (show 0 < 1 by omega) h (fun a2 e => F_X8_nextToken  e) (by omega) rfl rfl (Nat.le_of_ble_eq_true rfl) (fun a2 ea2 h => ?_)
      refine i_aload_n dX8_either_23 rfl ?_
      refine i_iload_n dX8_either_24 rfl ?_
      refine cV_iw dX8_either_25 cw_X8_244 ci_X8_both rfl rfl (by decide) (show 0 < 1 by omega) h (fun a3 e => hrec 1 _ _ a3 e) (by omega) rfl rfl (Nat.le_of_ble_eq_true rfl) (fun a3 ea3 h => ?_)
      refine r_if_ne (tgt := 33) dX8_either_28 (by decide) h (fun c2 h => ?_) (fun c2 h => ?_)
      · refine i_aload_n dX8_either_33 rfl ?_
        refine i_iconst (v := 2) dX8_either_34 (by decide) ?_
        refine i_bipush (v := 124) dX8_either_35 (by decide) ?_
        refine cV_vw dX8_either_37 cw_X8_253 ci_X8_step rfl rfl (by decide) (show 0 < 1 by omega) h (fun a4 e => F_X8_step  e) (by omega) rfl rfl (Nat.le_of_ble_eq_true rfl) (fun a4 ea4 h => ?_)
        refine i_goto (tgt := 10) dX8_either_40 (by decide) ?_
        exact ih _ h hk
      · refine i_iconst (v := 0) dX8_either_31 (by decide) ?_
        exact e_zw rfl (by decide) dX8_either_32 h
def f_X8_either (rec : Nat → Int32 → Mem → Option (Int32 × Mem)) (p1 : Int32) (σ : Mem) : Option (Int32 × Mem) :=
  (bnd (rec 1 p1 σ) (fun a1 => (if a1.1 = 0 then (some ((0 : Int32), a1.2)) else (f_X8_either_10 rec p1 FU a1.2 (fun σ_1 => (some ((1 : Int32), σ_1)))))))
set_option maxRecDepth 100000 in
set_option maxHeartbeats 4000000 in
theorem F_X8_either {X : Cx} {D : Nat} {rec : Nat → Int32 → Mem → Option (Int32 × Mem)} {p1 : Int32} {σ : Mem} {res : (Int32 × Mem)} (hD : 3 ≤ D) (hrec : ∀ t p1 σ a, rec t p1 σ = some a → Tri X D (mM t) [rf X 8 0, .int p1] σ (some (.int a.1)) a.2) (h : f_X8_either rec p1 σ = some res) : Tri X (D + 1) mX8_either [rf X 8 0, .int p1] σ (some (.int res.1)) res.2 := by
  obtain ⟨r0, σ2⟩ := res
  unfold f_X8_either at h
  refine Tri.of (ls := [some (rf X 8 0), some (.int p1)]) (by decide) (Nat.le_of_ble_eq_true rfl) rfl ?_
  refine i_aload_n dX8_either_0 rfl ?_
  refine i_iload_n dX8_either_1 rfl ?_
  refine cV_iw dX8_either_2 cw_X8_244 ci_X8_both rfl rfl (by decide) (show 0 < 1 by omega) h (fun a1 e => hrec 1 _ _ a1 e) (by omega) rfl rfl (Nat.le_of_ble_eq_true rfl) (fun a1 ea1 h => ?_)
  refine r_if_ne (tgt := 10) dX8_either_5 (by decide) h (fun c1 h => ?_) (fun c1 h => ?_)
  · refine L_X8_either_10 hD hrec FU _ h (fun σ_1 h => ?_)
    refine i_iconst (v := 1) dX8_either_43 (by decide) ?_
    exact e_zw rfl (by decide) dX8_either_44 h
  · refine i_iconst (v := 0) dX8_either_8 (by decide) ?_
    exact e_zw rfl (by decide) dX8_either_9 h
def S_m : Nat → Nat → Int32 → Mem → Option (Int32 × Mem)
  | 0, _, _, _ => none
  | n + 1, t, k, σ => match t with
    | 0 => f_X8_either (S_m n) k σ
    | 1 => f_X8_both (S_m n) k σ
    | 2 => f_X8_test (S_m n) k σ
    | 3 => f_X8_sum (S_m n) k σ
    | 4 => f_X8_term (S_m n) k σ
    | _ => f_X8_part0 (S_m n) k σ
theorem FSn_m {X : Cx} : ∀ (n t : Nat) (k : Int32) (σ : Mem) (a : Int32 × Mem), S_m n t k σ = some a → Tri X (3 + n) (mM t) [rf X 8 0, .int k] σ (some (.int a.1)) a.2 := by
  intro n
  induction n with
  | zero => intro t k σ a h; cases h
  | succ n ih =>
    intro t k σ a h
    match t, h with
    | 0, h => exact F_X8_either (D := 3 + n) (Nat.le_add_right _ _) ih h
    | 1, h => exact F_X8_both (D := 3 + n) (Nat.le_add_right _ _) ih h
    | 2, h => exact F_X8_test (D := 3 + n) (Nat.le_add_right _ _) ih h
    | 3, h => exact F_X8_sum (D := 3 + n) (Nat.le_add_right _ _) ih h
    | 4, h => exact F_X8_term (D := 3 + n) (Nat.le_add_right _ _) ih h
    | t + 5, h => exact F_X8_part0 (D := 3 + n) (Nat.le_add_right _ _) ih h
theorem FS_X8_either {X : Cx} {p1 : Int32} {σ : Mem} {a : Int32 × Mem} (h : S_m 90 0 p1 σ = some a) : Tri X 93 mX8_either [rf X 8 0, .int p1] σ (some (.int a.1)) a.2 := FSn_m 90 0 p1 σ a h
def f_X8_parse   (σ : Mem) : Option (Int32 × Mem) :=
  (bnd (some (mput (mput (mput (mput σ 8 0 18 (0 : Int32)) 8 0 19 (3 : Int32)) 8 0 22 (0 : Int32)) 8 0 23 (0 : Int32))) (fun s1 => (bnd (ix 3108 (1 : Int32)) (fun j1 => (if (14 : Int32) ≤ ((mput (mput s1 8 0 24 (0 : Int32)) 8 0 26 (0 : Int32)) 22 0 j1) then (bnd (f_X8_nextToken (mput (mput (mput s1 8 0 24 (0 : Int32)) 8 0 26 (0 : Int32)) 8 0 25 (2908 : Int32))) (fun a1 => (bnd (f_X8_key a1) (fun a2 => (if a2 < 0 then (some ((-1 : Int32), (mput a1 8 0 16 (0 : Int32)))) else (bnd (f_X8_nextToken a1) (fun a3 => (bnd (S_m 90 0 a2 a3) (fun a4 => (if a4.1 = 0 then (some ((-1 : Int32), (mput a4.2 8 0 16 (0 : Int32)))) else (if (a4.2 8 0 19) = 0 then (some (a2, (mput a4.2 8 0 16 (0 : Int32)))) else (some ((-1 : Int32), (mput a4.2 8 0 16 (0 : Int32))))))))))))))) else (bnd (ix 3108 (1 : Int32)) (fun j2 => (bnd (f_X8_textAt ((mput (mput s1 8 0 24 (0 : Int32)) 8 0 26 (0 : Int32)) 22 0 j2) (mput (mput s1 8 0 24 (0 : Int32)) 8 0 26 (0 : Int32))) (fun a5 => (bnd (f_X8_nextToken (mput (mput (mput s1 8 0 24 (0 : Int32)) 8 0 26 (0 : Int32)) 8 0 25 (a5 + (4 : Int32)))) (fun a6 => (bnd (f_X8_key a6) (fun a7 => (if a7 < 0 then (some ((-1 : Int32), (mput a6 8 0 16 (0 : Int32)))) else (bnd (f_X8_nextToken a6) (fun a8 => (bnd (S_m 90 0 a7 a8) (fun a9 => (if a9.1 = 0 then (some ((-1 : Int32), (mput a9.2 8 0 16 (0 : Int32)))) else (if (a9.2 8 0 19) = 0 then (some (a7, (mput a9.2 8 0 16 (0 : Int32)))) else (some ((-1 : Int32), (mput a9.2 8 0 16 (0 : Int32))))))))))))))))))))))))
set_option maxRecDepth 100000 in
set_option maxHeartbeats 4000000 in
theorem F_X8_parse {X : Cx}  {σ : Mem} {res : (Int32 × Mem)}  (h : f_X8_parse σ = some res) : Tri X 95 mX8_parse [rf X 8 0] σ (some (.int res.1)) res.2 := by
  obtain ⟨r0, σ2⟩ := res
  unfold f_X8_parse at h
  refine Tri.of (ls := [some (rf X 8 0), none, none]) (by decide) (Nat.le_of_ble_eq_true rfl) rfl ?_
  refine i_aload_n dX8_parse_0 rfl ?_
  refine i_iconst (v := 0) dX8_parse_1 (by decide) ?_
  refine pf_X8_213 rfl (by omega) dX8_parse_2 ?_
  refine i_aload_n dX8_parse_5 rfl ?_
  refine i_iconst (v := 3) dX8_parse_6 (by decide) ?_
  refine pf_X8_216 rfl (by omega) dX8_parse_7 ?_
  refine i_aload_n dX8_parse_10 rfl ?_
  refine i_iconst (v := 0) dX8_parse_11 (by decide) ?_
  refine pf_X8_277 rfl (by omega) dX8_parse_12 ?_
  refine i_aload_n dX8_parse_15 rfl ?_
  refine i_iconst (v := 0) dX8_parse_16 (by decide) ?_
  refine pf_X8_274 rfl (by omega) dX8_parse_17 ?_
  refine r_mem h (fun s1 _ h => ?_)
  refine i_aload_n dX8_parse_20 rfl ?_
  refine i_iconst (v := 0) dX8_parse_21 (by decide) ?_
  refine pf_X8_241 rfl (by omega) dX8_parse_22 ?_
  refine i_aload_n dX8_parse_25 rfl ?_
  refine i_iconst (v := 0) dX8_parse_26 (by decide) ?_
  refine pf_X8_268 rfl (by omega) dX8_parse_27 ?_
  refine i_aload_n dX8_parse_30 rfl ?_
  refine i_aload_n dX8_parse_31 rfl ?_
  refine gf_X8_7 rfl (by omega) dX8_parse_32 ?_
  refine i_iconst (v := 1) dX8_parse_35 (by decide) ?_
  refine al_22 dX8_parse_36 (by omega) h (fun j1 lj1 h => ?_)
  refine i_bipush (v := 14) dX8_parse_37 (by decide) ?_
  refine r_icmp_ge (tgt := 57) dX8_parse_39 (by decide) h (fun c1 h => ?_) (fun c1 h => ?_)
  · refine i_sipush (v := 2908) dX8_parse_57 (by decide) ?_
    refine pf_X8_238 rfl (by omega) dX8_parse_60 ?_
    refine i_aload_n dX8_parse_63 rfl ?_
    refine cV_vw dX8_parse_64 cw_X8_250 ci_X8_nextToken rfl rfl (by decide) (show 0 < 1 by omega) h (fun a1 e => F_X8_nextToken  e) (Nat.le_of_ble_eq_true rfl) rfl rfl (Nat.le_of_ble_eq_true rfl) (fun a1 ea1 h => ?_)
    refine i_aload_n dX8_parse_67 rfl ?_
    refine cV_ir dX8_parse_68 cw_X8_286 ci_X8_key rfl rfl (by decide) (show 0 < 1 by omega) h (fun a2 e => F_X8_key  e) (Nat.le_of_ble_eq_true rfl) rfl rfl (Nat.le_of_ble_eq_true rfl) (fun a2 ea2 h => ?_)
    refine i_istore_n (ls' := [some (rf X 8 0), some (.int a2), none]) dX8_parse_71 (by decide) (okp_at rfl) rfl ?_
    refine i_iload_n dX8_parse_72 rfl ?_
    refine r_if_lt (tgt := 80) dX8_parse_73 (by decide) h (fun c2 h => ?_) (fun c2 h => ?_)
    · refine i_iconst (v := 0) dX8_parse_80 (by decide) ?_
      refine i_istore_n (ls' := [some (rf X 8 0), some (.int a2), some (.int (0 : Int32))]) dX8_parse_81 (by decide) (okp_at rfl) rfl ?_
      refine i_iload_n dX8_parse_82 rfl ?_
      refine i_if_eq (tgt := 111) dX8_parse_83 (by decide) (fun _ => ?_) (fun c => absurd c (by decide))
      refine i_aload_n dX8_parse_111 rfl ?_
      refine i_iconst (v := 0) dX8_parse_112 (by decide) ?_
      refine pf_X8_201 rfl (by omega) dX8_parse_113 ?_
      refine i_iload_n dX8_parse_116 rfl ?_
      refine i_if_eq (tgt := 124) dX8_parse_117 (by decide) (fun _ => ?_) (fun c => absurd c (by decide))
      refine i_iconst (v := (-1)) dX8_parse_124 (by decide) ?_
      exact e_iw rfl dX8_parse_125 h
    · refine i_iconst (v := 1) dX8_parse_76 (by decide) ?_
      refine i_goto (tgt := 81) dX8_parse_77 (by decide) ?_
      refine i_istore_n (ls' := [some (rf X 8 0), some (.int a2), some (.int (1 : Int32))]) dX8_parse_81 (by decide) (okp_at rfl) rfl ?_
      refine i_iload_n dX8_parse_82 rfl ?_
      refine i_if_eq (tgt := 111) dX8_parse_83 (by decide) (fun c => absurd c (by decide)) (fun _ => ?_)
      refine i_aload_n dX8_parse_86 rfl ?_
      refine cV_vw dX8_parse_87 cw_X8_250 ci_X8_nextToken rfl rfl (by decide) (show 0 < 1 by omega) h (fun a3 e => F_X8_nextToken  e) (Nat.le_of_ble_eq_true rfl) rfl rfl (Nat.le_of_ble_eq_true rfl) (fun a3 ea3 h => ?_)
      refine i_aload_n dX8_parse_90 rfl ?_
      refine i_iload_n dX8_parse_91 rfl ?_
      refine cV_iw dX8_parse_92 cw_X8_280 ci_X8_either rfl rfl (by decide) (show 0 < 1 by omega) h (fun a4 e => FS_X8_either  e) (Nat.le_of_ble_eq_true rfl) rfl rfl (Nat.le_of_ble_eq_true rfl) (fun a4 ea4 h => ?_)
      refine r_if_eq (tgt := 109) dX8_parse_95 (by decide) h (fun c3 h => ?_) (fun c3 h => ?_)
      · refine i_iconst (v := 0) dX8_parse_109 (by decide) ?_
        refine i_istore_n (ls' := [some (rf X 8 0), some (.int a2), some (.int (0 : Int32))]) dX8_parse_110 (by decide) (okp_at rfl) rfl ?_
        refine i_aload_n dX8_parse_111 rfl ?_
        refine i_iconst (v := 0) dX8_parse_112 (by decide) ?_
        refine pf_X8_201 rfl (by omega) dX8_parse_113 ?_
        refine i_iload_n dX8_parse_116 rfl ?_
        refine i_if_eq (tgt := 124) dX8_parse_117 (by decide) (fun _ => ?_) (fun c => absurd c (by decide))
        refine i_iconst (v := (-1)) dX8_parse_124 (by decide) ?_
        exact e_iw rfl dX8_parse_125 h
      · refine i_aload_n dX8_parse_98 rfl ?_
        refine gf_X8_216 rfl (by omega) dX8_parse_99 ?_
        refine r_if_ne (tgt := 109) dX8_parse_102 (by decide) h (fun c4 h => ?_) (fun c4 h => ?_)
        · refine i_iconst (v := 0) dX8_parse_109 (by decide) ?_
          refine i_istore_n (ls' := [some (rf X 8 0), some (.int a2), some (.int (0 : Int32))]) dX8_parse_110 (by decide) (okp_at rfl) rfl ?_
          refine i_aload_n dX8_parse_111 rfl ?_
          refine i_iconst (v := 0) dX8_parse_112 (by decide) ?_
          refine pf_X8_201 rfl (by omega) dX8_parse_113 ?_
          refine i_iload_n dX8_parse_116 rfl ?_
          refine i_if_eq (tgt := 124) dX8_parse_117 (by decide) (fun _ => ?_) (fun c => absurd c (by decide))
          refine i_iconst (v := (-1)) dX8_parse_124 (by decide) ?_
          exact e_iw rfl dX8_parse_125 h
        · refine i_iconst (v := 1) dX8_parse_105 (by decide) ?_
          refine i_goto (tgt := 110) dX8_parse_106 (by decide) ?_
          refine i_istore_n (ls' := [some (rf X 8 0), some (.int a2), some (.int (1 : Int32))]) dX8_parse_110 (by decide) (okp_at rfl) rfl ?_
          refine i_aload_n dX8_parse_111 rfl ?_
          refine i_iconst (v := 0) dX8_parse_112 (by decide) ?_
          refine pf_X8_201 rfl (by omega) dX8_parse_113 ?_
          refine i_iload_n dX8_parse_116 rfl ?_
          refine i_if_eq (tgt := 124) dX8_parse_117 (by decide) (fun c => absurd c (by decide)) (fun _ => ?_)
          refine i_iload_n dX8_parse_120 rfl ?_
          refine i_goto (tgt := 125) dX8_parse_121 (by decide) ?_
          exact e_iw rfl dX8_parse_125 h
  · refine i_aload_n dX8_parse_42 rfl ?_
    refine i_aload_n dX8_parse_43 rfl ?_
    refine gf_X8_7 rfl (by omega) dX8_parse_44 ?_
    refine i_iconst (v := 1) dX8_parse_47 (by decide) ?_
    refine al_22 dX8_parse_48 (by omega) h (fun j2 lj2 h => ?_)
    refine cV_ir dX8_parse_49 cw_X8_283 ci_X8_textAt rfl rfl (by decide) (show 0 < 1 by omega) h (fun a5 e => F_X8_textAt  e) (Nat.le_of_ble_eq_true rfl) rfl rfl (Nat.le_of_ble_eq_true rfl) (fun a5 ea5 h => ?_)
    refine i_iconst (v := 4) dX8_parse_52 (by decide) ?_
    refine i_iadd dX8_parse_53 ?_
    refine i_goto (tgt := 60) dX8_parse_54 (by decide) ?_
    refine pf_X8_238 rfl (by omega) dX8_parse_60 ?_
    refine i_aload_n dX8_parse_63 rfl ?_
    refine cV_vw dX8_parse_64 cw_X8_250 ci_X8_nextToken rfl rfl (by decide) (show 0 < 1 by omega) h (fun a6 e => F_X8_nextToken  e) (Nat.le_of_ble_eq_true rfl) rfl rfl (Nat.le_of_ble_eq_true rfl) (fun a6 ea6 h => ?_)
    refine i_aload_n dX8_parse_67 rfl ?_
    refine cV_ir dX8_parse_68 cw_X8_286 ci_X8_key rfl rfl (by decide) (show 0 < 1 by omega) h (fun a7 e => F_X8_key  e) (Nat.le_of_ble_eq_true rfl) rfl rfl (Nat.le_of_ble_eq_true rfl) (fun a7 ea7 h => ?_)
    refine i_istore_n (ls' := [some (rf X 8 0), some (.int a7), none]) dX8_parse_71 (by decide) (okp_at rfl) rfl ?_
    refine i_iload_n dX8_parse_72 rfl ?_
    refine r_if_lt (tgt := 80) dX8_parse_73 (by decide) h (fun c5 h => ?_) (fun c5 h => ?_)
    · refine i_iconst (v := 0) dX8_parse_80 (by decide) ?_
      refine i_istore_n (ls' := [some (rf X 8 0), some (.int a7), some (.int (0 : Int32))]) dX8_parse_81 (by decide) (okp_at rfl) rfl ?_
      refine i_iload_n dX8_parse_82 rfl ?_
      refine i_if_eq (tgt := 111) dX8_parse_83 (by decide) (fun _ => ?_) (fun c => absurd c (by decide))
      refine i_aload_n dX8_parse_111 rfl ?_
      refine i_iconst (v := 0) dX8_parse_112 (by decide) ?_
      refine pf_X8_201 rfl (by omega) dX8_parse_113 ?_
      refine i_iload_n dX8_parse_116 rfl ?_
      refine i_if_eq (tgt := 124) dX8_parse_117 (by decide) (fun _ => ?_) (fun c => absurd c (by decide))
      refine i_iconst (v := (-1)) dX8_parse_124 (by decide) ?_
      exact e_iw rfl dX8_parse_125 h
    · refine i_iconst (v := 1) dX8_parse_76 (by decide) ?_
      refine i_goto (tgt := 81) dX8_parse_77 (by decide) ?_
      refine i_istore_n (ls' := [some (rf X 8 0), some (.int a7), some (.int (1 : Int32))]) dX8_parse_81 (by decide) (okp_at rfl) rfl ?_
      refine i_iload_n dX8_parse_82 rfl ?_
      refine i_if_eq (tgt := 111) dX8_parse_83 (by decide) (fun c => absurd c (by decide)) (fun _ => ?_)
      refine i_aload_n dX8_parse_86 rfl ?_
      refine cV_vw dX8_parse_87 cw_X8_250 ci_X8_nextToken rfl rfl (by decide) (show 0 < 1 by omega) h (fun a8 e => F_X8_nextToken  e) (Nat.le_of_ble_eq_true rfl) rfl rfl (Nat.le_of_ble_eq_true rfl) (fun a8 ea8 h => ?_)
      refine i_aload_n dX8_parse_90 rfl ?_
      refine i_iload_n dX8_parse_91 rfl ?_
      refine cV_iw dX8_parse_92 cw_X8_280 ci_X8_either rfl rfl (by decide) (show 0 < 1 by omega) h (fun a9 e => FS_X8_either  e) (Nat.le_of_ble_eq_true rfl) rfl rfl (Nat.le_of_ble_eq_true rfl) (fun a9 ea9 h => ?_)
      refine r_if_eq (tgt := 109) dX8_parse_95 (by decide) h (fun c6 h => ?_) (fun c6 h => ?_)
      · refine i_iconst (v := 0) dX8_parse_109 (by decide) ?_
        refine i_istore_n (ls' := [some (rf X 8 0), some (.int a7), some (.int (0 : Int32))]) dX8_parse_110 (by decide) (okp_at rfl) rfl ?_
        refine i_aload_n dX8_parse_111 rfl ?_
        refine i_iconst (v := 0) dX8_parse_112 (by decide) ?_
        refine pf_X8_201 rfl (by omega) dX8_parse_113 ?_
        refine i_iload_n dX8_parse_116 rfl ?_
        refine i_if_eq (tgt := 124) dX8_parse_117 (by decide) (fun _ => ?_) (fun c => absurd c (by decide))
        refine i_iconst (v := (-1)) dX8_parse_124 (by decide) ?_
        exact e_iw rfl dX8_parse_125 h
      · refine i_aload_n dX8_parse_98 rfl ?_
        refine gf_X8_216 rfl (by omega) dX8_parse_99 ?_
        refine r_if_ne (tgt := 109) dX8_parse_102 (by decide) h (fun c7 h => ?_) (fun c7 h => ?_)
        · refine i_iconst (v := 0) dX8_parse_109 (by decide) ?_
          refine i_istore_n (ls' := [some (rf X 8 0), some (.int a7), some (.int (0 : Int32))]) dX8_parse_110 (by decide) (okp_at rfl) rfl ?_
          refine i_aload_n dX8_parse_111 rfl ?_
          refine i_iconst (v := 0) dX8_parse_112 (by decide) ?_
          refine pf_X8_201 rfl (by omega) dX8_parse_113 ?_
          refine i_iload_n dX8_parse_116 rfl ?_
          refine i_if_eq (tgt := 124) dX8_parse_117 (by decide) (fun _ => ?_) (fun c => absurd c (by decide))
          refine i_iconst (v := (-1)) dX8_parse_124 (by decide) ?_
          exact e_iw rfl dX8_parse_125 h
        · refine i_iconst (v := 1) dX8_parse_105 (by decide) ?_
          refine i_goto (tgt := 110) dX8_parse_106 (by decide) ?_
          refine i_istore_n (ls' := [some (rf X 8 0), some (.int a7), some (.int (1 : Int32))]) dX8_parse_110 (by decide) (okp_at rfl) rfl ?_
          refine i_aload_n dX8_parse_111 rfl ?_
          refine i_iconst (v := 0) dX8_parse_112 (by decide) ?_
          refine pf_X8_201 rfl (by omega) dX8_parse_113 ?_
          refine i_iload_n dX8_parse_116 rfl ?_
          refine i_if_eq (tgt := 124) dX8_parse_117 (by decide) (fun c => absurd c (by decide)) (fun _ => ?_)
          refine i_iload_n dX8_parse_120 rfl ?_
          refine i_goto (tgt := 125) dX8_parse_121 (by decide) ?_
          exact e_iw rfl dX8_parse_125 h
def f_X8_text   (σ : Mem) : Option (Int32 × Mem) :=
  (bnd (f_X8_parse σ) (fun a1 => (if 0 ≤ a1.1 then (bnd (ix 3108 (1 : Int32)) (fun j1 => (if (a1.2 22 0 j1) = (14 : Int32) then (some ((-1000000003 : Int32), a1.2)) else (bnd (ix 3108 (1 : Int32)) (fun j2 => (bnd (f_X8_textAt (a1.2 22 0 j2) a1.2) (fun a2 => (bnd (ix 3108 (a2 + (0 : Int32))) (fun j3 => (bnd (ix 3108 (a2 + (1 : Int32))) (fun j4 => (bnd (ix 3108 (a2 + (2 : Int32))) (fun j5 => (bnd (some (mput (mput (mput a1.2 22 0 j3 a1.1) 22 0 j4 ((mput a1.2 22 0 j3 a1.1) 8 0 26)) 22 0 j5 ((mput (mput a1.2 22 0 j3 a1.1) 22 0 j4 ((mput a1.2 22 0 j3 a1.1) 8 0 26)) 8 0 24))) (fun s1 => (bnd (ix 3108 (1 : Int32)) (fun j6 => (bnd (ix 3108 (1 : Int32)) (fun j7 => (bnd (ix 3108 (1 : Int32)) (fun j8 => (some ((((mput s1 22 0 j7 ((s1 22 0 j6) + (1 : Int32))) 22 0 j8) - (1 : Int32)), (mput s1 22 0 j7 ((s1 22 0 j6) + (1 : Int32)))))))))))))))))))))))))) else (some (((-100 : Int32) - (a1.2 8 0 17)), a1.2)))))
set_option maxRecDepth 100000 in
set_option maxHeartbeats 4000000 in
theorem F_X8_text {X : Cx}  {σ : Mem} {res : (Int32 × Mem)}  (h : f_X8_text σ = some res) : Tri X 96 mX8_text [rf X 8 0] σ (some (.int res.1)) res.2 := by
  obtain ⟨r0, σ2⟩ := res
  unfold f_X8_text at h
  refine Tri.of (ls := [some (rf X 8 0), none, none]) (by decide) (Nat.le_of_ble_eq_true rfl) rfl ?_
  refine i_aload_n dX8_text_0 rfl ?_
  refine cV_iw dX8_text_1 cw_X8_289 ci_X8_parse rfl rfl (by decide) (show 0 < 1 by omega) h (fun a1 e => F_X8_parse  e) (Nat.le_of_ble_eq_true rfl) rfl rfl (Nat.le_of_ble_eq_true rfl) (fun a1 ea1 h => ?_)
  refine i_istore_n (ls' := [some (rf X 8 0), some (.int a1.1), none]) dX8_text_4 (by decide) (okp_at rfl) rfl ?_
  refine i_iload_n dX8_text_5 rfl ?_
  refine r_if_ge (tgt := 17) dX8_text_6 (by decide) h (fun c1 h => ?_) (fun c1 h => ?_)
  · refine i_aload_n dX8_text_17 rfl ?_
    refine gf_X8_7 rfl (by omega) dX8_text_18 ?_
    refine i_iconst (v := 1) dX8_text_21 (by decide) ?_
    refine al_22 dX8_text_22 (by omega) h (fun j1 lj1 h => ?_)
    refine i_bipush (v := 14) dX8_text_23 (by decide) ?_
    refine r_icmp_ne (tgt := 31) dX8_text_25 (by decide) h (fun c2 h => ?_) (fun c2 h => ?_)
    · refine i_aload_n dX8_text_31 rfl ?_
      refine i_aload_n dX8_text_32 rfl ?_
      refine gf_X8_7 rfl (by omega) dX8_text_33 ?_
      refine i_iconst (v := 1) dX8_text_36 (by decide) ?_
      refine al_22 dX8_text_37 (by omega) h (fun j2 lj2 h => ?_)
      refine cV_ir dX8_text_38 cw_X8_283 ci_X8_textAt rfl rfl (by decide) (show 0 < 1 by omega) h (fun a2 e => F_X8_textAt  e) (Nat.le_of_ble_eq_true rfl) rfl rfl (Nat.le_of_ble_eq_true rfl) (fun a2 ea2 h => ?_)
      refine i_istore_n (ls' := [some (rf X 8 0), some (.int a1.1), some (.int a2)]) dX8_text_41 (by decide) (okp_at rfl) rfl ?_
      refine i_aload_n dX8_text_42 rfl ?_
      refine gf_X8_7 rfl (by omega) dX8_text_43 ?_
      refine i_iload_n dX8_text_46 rfl ?_
      refine i_iconst (v := 0) dX8_text_47 (by decide) ?_
      refine i_iadd dX8_text_48 ?_
      refine i_iload_n dX8_text_49 rfl ?_
      refine as_22 dX8_text_50 (by omega) h (fun j3 lj3 h => ?_)
      refine i_aload_n dX8_text_51 rfl ?_
      refine gf_X8_7 rfl (by omega) dX8_text_52 ?_
      refine i_iload_n dX8_text_55 rfl ?_
      refine i_iconst (v := 1) dX8_text_56 (by decide) ?_
      refine i_iadd dX8_text_57 ?_
      refine i_aload_n dX8_text_58 rfl ?_
      refine gf_X8_268 rfl (by omega) dX8_text_59 ?_
      refine as_22 dX8_text_62 (by omega) h (fun j4 lj4 h => ?_)
      refine i_aload_n dX8_text_63 rfl ?_
      refine gf_X8_7 rfl (by omega) dX8_text_64 ?_
      refine i_iload_n dX8_text_67 rfl ?_
      refine i_iconst (v := 2) dX8_text_68 (by decide) ?_
      refine i_iadd dX8_text_69 ?_
      refine i_aload_n dX8_text_70 rfl ?_
      refine gf_X8_241 rfl (by omega) dX8_text_71 ?_
      refine as_22 dX8_text_74 (by omega) h (fun j5 lj5 h => ?_)
      refine r_mem h (fun s1 _ h => ?_)
      refine i_aload_n dX8_text_75 rfl ?_
      refine gf_X8_7 rfl (by omega) dX8_text_76 ?_
      refine i_iconst (v := 1) dX8_text_79 (by decide) ?_
      refine i_dup2 dX8_text_80 rfl rfl ?_
      refine al_22 dX8_text_81 (by omega) h (fun j6 lj6 h => ?_)
      refine i_iconst (v := 1) dX8_text_82 (by decide) ?_
      refine i_iadd dX8_text_83 ?_
      refine as_22 dX8_text_84 (by omega) h (fun j7 lj7 h => ?_)
      refine i_aload_n dX8_text_85 rfl ?_
      refine gf_X8_7 rfl (by omega) dX8_text_86 ?_
      refine i_iconst (v := 1) dX8_text_89 (by decide) ?_
      refine al_22 dX8_text_90 (by omega) h (fun j8 lj8 h => ?_)
      refine i_iconst (v := 1) dX8_text_91 (by decide) ?_
      refine i_isub dX8_text_92 ?_
      exact e_iw rfl dX8_text_93 h
    · refine i_ldc (v := (-1000000003)) dX8_text_28 k_X8_87 ?_
      exact e_iw rfl dX8_text_30 h
  · refine i_bipush (v := (-100)) dX8_text_9 (by decide) ?_
    refine i_aload_n dX8_text_11 rfl ?_
    refine gf_X8_219 rfl (by omega) dX8_text_12 ?_
    refine i_isub dX8_text_15 ?_
    exact e_iw rfl dX8_text_16 h
end
