noncomputable section
def f_X8_sheet_69 (p1 : Int32) : Nat → Int32 → Mem → (Mem → Option (Int32 × Mem)) → Option (Int32 × Mem)
  | 0, _, _, _ => none
  | n + 1, v4, σ, k =>
    (if (24 : Int32) ≤ v4 then (k σ) else (bnd (ix 96 (((24 : Int32) * p1) + v4)) (fun j1 => (f_X8_sheet_69 p1 n (v4 + (1 : Int32)) (mput σ 27 0 j1 (0 : Int32)) k))))
set_option maxRecDepth 100000 in
set_option maxHeartbeats 4000000 in
theorem L_X8_sheet_69 {X : Cx} {p1 : Int32} {r0 : Int32} {σ2 : Mem} {k : Mem → Option (Int32 × Mem)}  : ∀ (n : Nat) (v4 : Int32) (σ : Mem), f_X8_sheet_69 p1 n v4 σ k = some (r0, σ2) → (∀ (σ1 : Mem), k σ1 = some (r0, σ2) → At X 3 mX8_sheet 95 [some (rf X 8 0), some (.int p1), none, none, none] [] σ1 (some (.int r0)) σ2) → At X 3 mX8_sheet 69 [some (rf X 8 0), some (.int p1), none, none, some (.int v4)] [] σ (some (.int r0)) σ2 := by
  intro n
  induction n with
  | zero =>
    intro v4 σ h
    cases h
  | succ n ih =>
    intro v4 σ h hk
    rw [f_X8_sheet_69.eq_2] at h
    refine i_iload dX8_sheet_69 rfl ?_
    refine i_bipush (v := 24) dX8_sheet_71 (by decide) ?_
    refine r_icmp_ge (tgt := 95) dX8_sheet_73 (by decide) h (fun c1 h => ?_) (fun c1 h => ?_)
    · refine At.fewer (ls' := [some (rf X 8 0), some (.int p1), none, none, none]) (And.intro rfl (And.intro rfl trivial)) ?_
      exact hk _ h
    · refine i_aload_n dX8_sheet_76 rfl ?_
      refine gf_X8_25 rfl (by omega) dX8_sheet_77 ?_
      refine i_bipush (v := 24) dX8_sheet_80 (by decide) ?_
      refine i_iload_n dX8_sheet_82 rfl ?_
      refine i_imul dX8_sheet_83 ?_
      refine i_iload dX8_sheet_84 rfl ?_
      refine i_iadd dX8_sheet_86 ?_
      refine i_iconst (v := 0) dX8_sheet_87 (by decide) ?_
      refine as_27 dX8_sheet_88 (by omega) h (fun j1 lj1 h => ?_)
      refine i_iinc (v := (v4 + (1 : Int32))) (ls' := [some (rf X 8 0), some (.int p1), none, none, some (.int (v4 + (1 : Int32)))]) dX8_sheet_89 rfl (by rfl) (by decide) (okp_at rfl) rfl ?_
      refine i_goto (tgt := 69) dX8_sheet_92 (by decide) ?_
      exact ih _ _ h hk
def f_X8_sheet  (p1 : Int32) (p2 : Int32) (p3 : Int32) (σ : Mem) : Option (Int32 × Mem) :=
  (bnd (f_X8_isSheet p1 σ) (fun a1 => (if a1 = 0 then (some ((-1000000001 : Int32), σ)) else (bnd (f_X8_isIn ((p2).toInt64) ((-1 : Int64)) ((1 : Int64)) σ) (fun a2 => (if a2 = 0 then (some ((-1000000001 : Int32), σ)) else (if p2 < 0 then (if p2 < 0 then (bnd (ix 4 p1) (fun j1 => (if 0 ≤ p2 then (bnd (ix 4 p1) (fun j2 => (f_X8_sheet_69 p1 FU (0 : Int32) (mput (mput σ 25 0 j1 p2) 26 0 j2 p3) (fun σ_1 => (bnd (ix 4 p1) (fun j3 => (some ((σ_1 26 0 j3), σ_1)))))))) else (bnd (ix 4 p1) (fun j4 => (f_X8_sheet_69 p1 FU (0 : Int32) (mput (mput σ 25 0 j1 p2) 26 0 j4 (0 : Int32)) (fun σ_2 => (bnd (ix 4 p1) (fun j5 => (some ((σ_2 26 0 j5), σ_2))))))))))) else (if 0 ≤ p3 then (bnd (ix 4 p1) (fun j6 => (if 0 ≤ p2 then (bnd (ix 4 p1) (fun j7 => (f_X8_sheet_69 p1 FU (0 : Int32) (mput (mput σ 25 0 j6 p2) 26 0 j7 p3) (fun σ_3 => (bnd (ix 4 p1) (fun j8 => (some ((σ_3 26 0 j8), σ_3)))))))) else (bnd (ix 4 p1) (fun j9 => (f_X8_sheet_69 p1 FU (0 : Int32) (mput (mput σ 25 0 j6 p2) 26 0 j9 (0 : Int32)) (fun σ_4 => (bnd (ix 4 p1) (fun j10 => (some ((σ_4 26 0 j10), σ_4))))))))))) else (some ((-1000000014 : Int32), σ)))) else (if p3 ≤ (24 : Int32) then (if p2 < 0 then (bnd (ix 4 p1) (fun j11 => (if 0 ≤ p2 then (bnd (ix 4 p1) (fun j12 => (f_X8_sheet_69 p1 FU (0 : Int32) (mput (mput σ 25 0 j11 p2) 26 0 j12 p3) (fun σ_5 => (bnd (ix 4 p1) (fun j13 => (some ((σ_5 26 0 j13), σ_5)))))))) else (bnd (ix 4 p1) (fun j14 => (f_X8_sheet_69 p1 FU (0 : Int32) (mput (mput σ 25 0 j11 p2) 26 0 j14 (0 : Int32)) (fun σ_6 => (bnd (ix 4 p1) (fun j15 => (some ((σ_6 26 0 j15), σ_6))))))))))) else (if 0 ≤ p3 then (bnd (ix 4 p1) (fun j16 => (if 0 ≤ p2 then (bnd (ix 4 p1) (fun j17 => (f_X8_sheet_69 p1 FU (0 : Int32) (mput (mput σ 25 0 j16 p2) 26 0 j17 p3) (fun σ_7 => (bnd (ix 4 p1) (fun j18 => (some ((σ_7 26 0 j18), σ_7)))))))) else (bnd (ix 4 p1) (fun j19 => (f_X8_sheet_69 p1 FU (0 : Int32) (mput (mput σ 25 0 j16 p2) 26 0 j19 (0 : Int32)) (fun σ_8 => (bnd (ix 4 p1) (fun j20 => (some ((σ_8 26 0 j20), σ_8))))))))))) else (some ((-1000000014 : Int32), σ)))) else (some ((-1000000001 : Int32), σ))))))))))
set_option maxRecDepth 100000 in
set_option maxHeartbeats 4000000 in
theorem F_X8_sheet {X : Cx} {p1 : Int32} {p2 : Int32} {p3 : Int32} {σ : Mem} {res : (Int32 × Mem)}  (h : f_X8_sheet p1 p2 p3 σ = some res) : Tri X 3 mX8_sheet [rf X 8 0, .int p1, .int p2, .int p3] σ (some (.int res.1)) res.2 := by
  obtain ⟨r0, σ2⟩ := res
  unfold f_X8_sheet at h
  refine Tri.of (ls := [some (rf X 8 0), some (.int p1), some (.int p2), some (.int p3), none]) (by decide) (Nat.le_of_ble_eq_true rfl) rfl ?_
  refine i_iload_n dX8_sheet_0 rfl ?_
  refine cS_ir dX8_sheet_1 cw_X8_298 ci_X8_isSheet h (fun a1 e => F_X8_isSheet  e) (Nat.le_of_ble_eq_true rfl) rfl rfl (Nat.le_of_ble_eq_true rfl) (fun a1 ea1 h => ?_)
  refine r_if_eq (tgt := 29) dX8_sheet_4 (by decide) h (fun c1 h => ?_) (fun c1 h => ?_)
  · refine i_ldc (v := (-1000000001)) dX8_sheet_29 k_X8_86 ?_
    exact e_iw rfl dX8_sheet_31 h
  · refine i_iload_n dX8_sheet_7 rfl ?_
    refine i_i2l dX8_sheet_8 ?_
    refine i_ldc2 (v := (-1)) dX8_sheet_9 k_X8_301 ?_
    refine i_lconst (v := 1) dX8_sheet_12 (by decide) ?_
    refine cS_ir dX8_sheet_13 cw_X8_71 ci_X8_isIn h (fun a2 e => F_X8_isIn  e) (Nat.le_of_ble_eq_true rfl) rfl rfl (Nat.le_of_ble_eq_true rfl) (fun a2 ea2 h => ?_)
    refine r_if_eq (tgt := 29) dX8_sheet_16 (by decide) h (fun c2 h => ?_) (fun c2 h => ?_)
    · refine i_ldc (v := (-1000000001)) dX8_sheet_29 k_X8_86 ?_
      exact e_iw rfl dX8_sheet_31 h
    · refine i_iload_n dX8_sheet_19 rfl ?_
      refine r_if_lt (tgt := 32) dX8_sheet_20 (by decide) h (fun c3 h => ?_) (fun c3 h => ?_)
      · refine i_iload_n dX8_sheet_32 rfl ?_
        refine r_if_lt (tgt := 44) dX8_sheet_33 (by decide) h (fun c4 h => ?_) (fun c4 h => ?_)
        · refine i_aload_n dX8_sheet_44 rfl ?_
          refine gf_X8_19 rfl (by omega) dX8_sheet_45 ?_
          refine i_iload_n dX8_sheet_48 rfl ?_
          refine i_iload_n dX8_sheet_49 rfl ?_
          refine as_25 dX8_sheet_50 (by omega) h (fun j1 lj1 h => ?_)
          refine i_aload_n dX8_sheet_51 rfl ?_
          refine gf_X8_22 rfl (by omega) dX8_sheet_52 ?_
          refine i_iload_n dX8_sheet_55 rfl ?_
          refine i_iload_n dX8_sheet_56 rfl ?_
          refine r_if_ge (tgt := 64) dX8_sheet_57 (by decide) h (fun c5 h => ?_) (fun c5 h => ?_)
          · refine i_iload_n dX8_sheet_64 rfl ?_
            refine as_26 dX8_sheet_65 (by omega) h (fun j2 lj2 h => ?_)
            refine i_iconst (v := 0) dX8_sheet_66 (by decide) ?_
            refine i_istore (ls' := [some (rf X 8 0), some (.int p1), some (.int p2), some (.int p3), some (.int (0 : Int32))]) dX8_sheet_67 (by decide) (okp_at rfl) rfl ?_
            refine At.fewer (ls' := [some (rf X 8 0), some (.int p1), none, none, some (.int (0 : Int32))]) (And.intro rfl (And.intro rfl (And.intro rfl trivial))) ?_
            refine L_X8_sheet_69  FU _ _ h (fun σ_1 h => ?_)
            refine i_aload_n dX8_sheet_95 rfl ?_
            refine gf_X8_22 rfl (by omega) dX8_sheet_96 ?_
            refine i_iload_n dX8_sheet_99 rfl ?_
            refine al_26 dX8_sheet_100 (by omega) h (fun j3 lj3 h => ?_)
            exact e_iw rfl dX8_sheet_101 h
          · refine i_iconst (v := 0) dX8_sheet_60 (by decide) ?_
            refine i_goto (tgt := 65) dX8_sheet_61 (by decide) ?_
            refine as_26 dX8_sheet_65 (by omega) h (fun j4 lj4 h => ?_)
            refine i_iconst (v := 0) dX8_sheet_66 (by decide) ?_
            refine i_istore (ls' := [some (rf X 8 0), some (.int p1), some (.int p2), some (.int p3), some (.int (0 : Int32))]) dX8_sheet_67 (by decide) (okp_at rfl) rfl ?_
            refine At.fewer (ls' := [some (rf X 8 0), some (.int p1), none, none, some (.int (0 : Int32))]) (And.intro rfl (And.intro rfl (And.intro rfl trivial))) ?_
            refine L_X8_sheet_69  FU _ _ h (fun σ_2 h => ?_)
            refine i_aload_n dX8_sheet_95 rfl ?_
            refine gf_X8_22 rfl (by omega) dX8_sheet_96 ?_
            refine i_iload_n dX8_sheet_99 rfl ?_
            refine al_26 dX8_sheet_100 (by omega) h (fun j5 lj5 h => ?_)
            exact e_iw rfl dX8_sheet_101 h
        · refine i_iload_n dX8_sheet_36 rfl ?_
          refine r_if_ge (tgt := 44) dX8_sheet_37 (by decide) h (fun c6 h => ?_) (fun c6 h => ?_)
          · refine i_aload_n dX8_sheet_44 rfl ?_
            refine gf_X8_19 rfl (by omega) dX8_sheet_45 ?_
            refine i_iload_n dX8_sheet_48 rfl ?_
            refine i_iload_n dX8_sheet_49 rfl ?_
            refine as_25 dX8_sheet_50 (by omega) h (fun j6 lj6 h => ?_)
            refine i_aload_n dX8_sheet_51 rfl ?_
            refine gf_X8_22 rfl (by omega) dX8_sheet_52 ?_
            refine i_iload_n dX8_sheet_55 rfl ?_
            refine i_iload_n dX8_sheet_56 rfl ?_
            refine r_if_ge (tgt := 64) dX8_sheet_57 (by decide) h (fun c7 h => ?_) (fun c7 h => ?_)
            · refine i_iload_n dX8_sheet_64 rfl ?_
              refine as_26 dX8_sheet_65 (by omega) h (fun j7 lj7 h => ?_)
              refine i_iconst (v := 0) dX8_sheet_66 (by decide) ?_
              refine i_istore (ls' := [some (rf X 8 0), some (.int p1), some (.int p2), some (.int p3), some (.int (0 : Int32))]) dX8_sheet_67 (by decide) (okp_at rfl) rfl ?_
              refine At.fewer (ls' := [some (rf X 8 0), some (.int p1), none, none, some (.int (0 : Int32))]) (And.intro rfl (And.intro rfl (And.intro rfl trivial))) ?_
              refine L_X8_sheet_69  FU _ _ h (fun σ_3 h => ?_)
              refine i_aload_n dX8_sheet_95 rfl ?_
              refine gf_X8_22 rfl (by omega) dX8_sheet_96 ?_
              refine i_iload_n dX8_sheet_99 rfl ?_
              refine al_26 dX8_sheet_100 (by omega) h (fun j8 lj8 h => ?_)
              exact e_iw rfl dX8_sheet_101 h
            · refine i_iconst (v := 0) dX8_sheet_60 (by decide) ?_
              refine i_goto (tgt := 65) dX8_sheet_61 (by decide) ?_
              refine as_26 dX8_sheet_65 (by omega) h (fun j9 lj9 h => ?_)
              refine i_iconst (v := 0) dX8_sheet_66 (by decide) ?_
              refine i_istore (ls' := [some (rf X 8 0), some (.int p1), some (.int p2), some (.int p3), some (.int (0 : Int32))]) dX8_sheet_67 (by decide) (okp_at rfl) rfl ?_
              refine At.fewer (ls' := [some (rf X 8 0), some (.int p1), none, none, some (.int (0 : Int32))]) (And.intro rfl (And.intro rfl (And.intro rfl trivial))) ?_
              refine L_X8_sheet_69  FU _ _ h (fun σ_4 h => ?_)
              refine i_aload_n dX8_sheet_95 rfl ?_
              refine gf_X8_22 rfl (by omega) dX8_sheet_96 ?_
              refine i_iload_n dX8_sheet_99 rfl ?_
              refine al_26 dX8_sheet_100 (by omega) h (fun j10 lj10 h => ?_)
              exact e_iw rfl dX8_sheet_101 h
          · refine i_ldcw (v := (-1000000014)) dX8_sheet_40 k_X8_303 ?_
            exact e_iw rfl dX8_sheet_43 h
      · refine i_iload_n dX8_sheet_23 rfl ?_
        refine i_bipush (v := 24) dX8_sheet_24 (by decide) ?_
        refine r_icmp_le (tgt := 32) dX8_sheet_26 (by decide) h (fun c8 h => ?_) (fun c8 h => ?_)
        · refine i_iload_n dX8_sheet_32 rfl ?_
          refine r_if_lt (tgt := 44) dX8_sheet_33 (by decide) h (fun c9 h => ?_) (fun c9 h => ?_)
          · refine i_aload_n dX8_sheet_44 rfl ?_
            refine gf_X8_19 rfl (by omega) dX8_sheet_45 ?_
            refine i_iload_n dX8_sheet_48 rfl ?_
            refine i_iload_n dX8_sheet_49 rfl ?_
            refine as_25 dX8_sheet_50 (by omega) h (fun j11 lj11 h => ?_)
            refine i_aload_n dX8_sheet_51 rfl ?_
            refine gf_X8_22 rfl (by omega) dX8_sheet_52 ?_
            refine i_iload_n dX8_sheet_55 rfl ?_
            refine i_iload_n dX8_sheet_56 rfl ?_
            refine r_if_ge (tgt := 64) dX8_sheet_57 (by decide) h (fun c10 h => ?_) (fun c10 h => ?_)
            · refine i_iload_n dX8_sheet_64 rfl ?_
              refine as_26 dX8_sheet_65 (by omega) h (fun j12 lj12 h => ?_)
              refine i_iconst (v := 0) dX8_sheet_66 (by decide) ?_
              refine i_istore (ls' := [some (rf X 8 0), some (.int p1), some (.int p2), some (.int p3), some (.int (0 : Int32))]) dX8_sheet_67 (by decide) (okp_at rfl) rfl ?_
              refine At.fewer (ls' := [some (rf X 8 0), some (.int p1), none, none, some (.int (0 : Int32))]) (And.intro rfl (And.intro rfl (And.intro rfl trivial))) ?_
              refine L_X8_sheet_69  FU _ _ h (fun σ_5 h => ?_)
              refine i_aload_n dX8_sheet_95 rfl ?_
              refine gf_X8_22 rfl (by omega) dX8_sheet_96 ?_
              refine i_iload_n dX8_sheet_99 rfl ?_
              refine al_26 dX8_sheet_100 (by omega) h (fun j13 lj13 h => ?_)
              exact e_iw rfl dX8_sheet_101 h
            · refine i_iconst (v := 0) dX8_sheet_60 (by decide) ?_
              refine i_goto (tgt := 65) dX8_sheet_61 (by decide) ?_
              refine as_26 dX8_sheet_65 (by omega) h (fun j14 lj14 h => ?_)
              refine i_iconst (v := 0) dX8_sheet_66 (by decide) ?_
              refine i_istore (ls' := [some (rf X 8 0), some (.int p1), some (.int p2), some (.int p3), some (.int (0 : Int32))]) dX8_sheet_67 (by decide) (okp_at rfl) rfl ?_
              refine At.fewer (ls' := [some (rf X 8 0), some (.int p1), none, none, some (.int (0 : Int32))]) (And.intro rfl (And.intro rfl (And.intro rfl trivial))) ?_
              refine L_X8_sheet_69  FU _ _ h (fun σ_6 h => ?_)
              refine i_aload_n dX8_sheet_95 rfl ?_
              refine gf_X8_22 rfl (by omega) dX8_sheet_96 ?_
              refine i_iload_n dX8_sheet_99 rfl ?_
              refine al_26 dX8_sheet_100 (by omega) h (fun j15 lj15 h => ?_)
              exact e_iw rfl dX8_sheet_101 h
          · refine i_iload_n dX8_sheet_36 rfl ?_
            refine r_if_ge (tgt := 44) dX8_sheet_37 (by decide) h (fun c11 h => ?_) (fun c11 h => ?_)
            · refine i_aload_n dX8_sheet_44 rfl ?_
              refine gf_X8_19 rfl (by omega) dX8_sheet_45 ?_
              refine i_iload_n dX8_sheet_48 rfl ?_
              refine i_iload_n dX8_sheet_49 rfl ?_
              refine as_25 dX8_sheet_50 (by omega) h (fun j16 lj16 h => ?_)
              refine i_aload_n dX8_sheet_51 rfl ?_
              refine gf_X8_22 rfl (by omega) dX8_sheet_52 ?_
              refine i_iload_n dX8_sheet_55 rfl ?_
              refine i_iload_n dX8_sheet_56 rfl ?_
              refine r_if_ge (tgt := 64) dX8_sheet_57 (by decide) h (fun c12 h => ?_) (fun c12 h => ?_)
              · refine i_iload_n dX8_sheet_64 rfl ?_
                refine as_26 dX8_sheet_65 (by omega) h (fun j17 lj17 h => ?_)
                refine i_iconst (v := 0) dX8_sheet_66 (by decide) ?_
                refine i_istore (ls' := [some (rf X 8 0), some (.int p1), some (.int p2), some (.int p3), some (.int (0 : Int32))]) dX8_sheet_67 (by decide) (okp_at rfl) rfl ?_
                refine At.fewer (ls' := [some (rf X 8 0), some (.int p1), none, none, some (.int (0 : Int32))]) (And.intro rfl (And.intro rfl (And.intro rfl trivial))) ?_
                refine L_X8_sheet_69  FU _ _ h (fun σ_7 h => ?_)
                refine i_aload_n dX8_sheet_95 rfl ?_
                refine gf_X8_22 rfl (by omega) dX8_sheet_96 ?_
                refine i_iload_n dX8_sheet_99 rfl ?_
                refine al_26 dX8_sheet_100 (by omega) h (fun j18 lj18 h => ?_)
                exact e_iw rfl dX8_sheet_101 h
              · refine i_iconst (v := 0) dX8_sheet_60 (by decide) ?_
                refine i_goto (tgt := 65) dX8_sheet_61 (by decide) ?_
                refine as_26 dX8_sheet_65 (by omega) h (fun j19 lj19 h => ?_)
                refine i_iconst (v := 0) dX8_sheet_66 (by decide) ?_
                refine i_istore (ls' := [some (rf X 8 0), some (.int p1), some (.int p2), some (.int p3), some (.int (0 : Int32))]) dX8_sheet_67 (by decide) (okp_at rfl) rfl ?_
                refine At.fewer (ls' := [some (rf X 8 0), some (.int p1), none, none, some (.int (0 : Int32))]) (And.intro rfl (And.intro rfl (And.intro rfl trivial))) ?_
                refine L_X8_sheet_69  FU _ _ h (fun σ_8 h => ?_)
                refine i_aload_n dX8_sheet_95 rfl ?_
                refine gf_X8_22 rfl (by omega) dX8_sheet_96 ?_
                refine i_iload_n dX8_sheet_99 rfl ?_
                refine al_26 dX8_sheet_100 (by omega) h (fun j20 lj20 h => ?_)
                exact e_iw rfl dX8_sheet_101 h
            · refine i_ldcw (v := (-1000000014)) dX8_sheet_40 k_X8_303 ?_
              exact e_iw rfl dX8_sheet_43 h
        · refine i_ldc (v := (-1000000001)) dX8_sheet_29 k_X8_86 ?_
          exact e_iw rfl dX8_sheet_31 h
def f_X8_mark  (p1 : Int32) (p2 : Int32) (p3 : Int32) (σ : Mem) : Option (Int32 × Mem) :=
  (bnd (f_X8_isSheet p1 σ) (fun a1 => (if a1 = 0 then (some ((-1000000001 : Int32), σ)) else (bnd (ix 4 p1) (fun j1 => (if 0 ≤ (σ 25 0 j1) then (bnd (ix 4 p1) (fun j2 => (bnd (f_X8_isIn ((p2).toInt64) ((0 : Int64)) ((((σ 26 0 j2) - (1 : Int32))).toInt64) σ) (fun a2 => (if a2 = 0 then (some ((-1000000013 : Int32), σ)) else (bnd (ix 4 p1) (fun j3 => (if (σ 25 0 j3) = 0 then (if p3 = (-1000000005 : Int32) then (some ((-1000000012 : Int32), σ)) else (bnd (ix 4 p1) (fun j14 => (if (σ 25 0 j14) = (1 : Int32) then (if p3 = (-1000000005 : Int32) then (bnd (ix 4 p1) (fun j18 => (if (σ 25 0 j18) = 0 then (bnd (ix 96 (((24 : Int32) * p1) + p2)) (fun j20 => (bnd (some (mput σ 27 0 j20 ((p3 <<< ((16 : Int32) &&& (31 : Int32))) >>> ((16 : Int32) &&& (31 : Int32))))) (fun s5 => (some ((1 : Int32), s5)))))) else (bnd (ix 96 (((24 : Int32) * p1) + p2)) (fun j19 => (some ((1 : Int32), (mput σ 27 0 j19 p3)))))))) else (bnd (f_X8_isIn ((p3).toInt64) ((-99999 : Int64)) ((99999 : Int64)) σ) (fun a4 => (if a4 = 0 then (some ((-1000000001 : Int32), σ)) else (bnd (ix 4 p1) (fun j21 => (if (σ 25 0 j21) = 0 then (bnd (ix 96 (((24 : Int32) * p1) + p2)) (fun j23 => (bnd (some (mput σ 27 0 j23 ((p3 <<< ((16 : Int32) &&& (31 : Int32))) >>> ((16 : Int32) &&& (31 : Int32))))) (fun s6 => (some ((1 : Int32), s6)))))) else (bnd (ix 96 (((24 : Int32) * p1) + p2)) (fun j22 => (some ((1 : Int32), (mput σ 27 0 j22 p3)))))))))))) else (bnd (ix 4 p1) (fun j15 => (if (σ 25 0 j15) = 0 then (bnd (ix 96 (((24 : Int32) * p1) + p2)) (fun j17 => (bnd (some (mput σ 27 0 j17 ((p3 <<< ((16 : Int32) &&& (31 : Int32))) >>> ((16 : Int32) &&& (31 : Int32))))) (fun s4 => (some ((1 : Int32), s4)))))) else (bnd (ix 96 (((24 : Int32) * p1) + p2)) (fun j16 => (some ((1 : Int32), (mput σ 27 0 j16 p3)))))))))))) else (bnd (ix 4 p1) (fun j4 => (if (σ 25 0 j4) = (1 : Int32) then (if p3 = (-1000000005 : Int32) then (bnd (ix 4 p1) (fun j8 => (if (σ 25 0 j8) = 0 then (bnd (ix 96 (((24 : Int32) * p1) + p2)) (fun j10 => (bnd (some (mput σ 27 0 j10 ((p3 <<< ((16 : Int32) &&& (31 : Int32))) >>> ((16 : Int32) &&& (31 : Int32))))) (fun s2 => (some ((1 : Int32), s2)))))) else (bnd (ix 96 (((24 : Int32) * p1) + p2)) (fun j9 => (some ((1 : Int32), (mput σ 27 0 j9 p3)))))))) else (bnd (f_X8_isIn ((p3).toInt64) ((-99999 : Int64)) ((99999 : Int64)) σ) (fun a3 => (if a3 = 0 then (some ((-1000000001 : Int32), σ)) else (bnd (ix 4 p1) (fun j11 => (if (σ 25 0 j11) = 0 then (bnd (ix 96 (((24 : Int32) * p1) + p2)) (fun j13 => (bnd (some (mput σ 27 0 j13 ((p3 <<< ((16 : Int32) &&& (31 : Int32))) >>> ((16 : Int32) &&& (31 : Int32))))) (fun s3 => (some ((1 : Int32), s3)))))) else (bnd (ix 96 (((24 : Int32) * p1) + p2)) (fun j12 => (some ((1 : Int32), (mput σ 27 0 j12 p3)))))))))))) else (bnd (ix 4 p1) (fun j5 => (if (σ 25 0 j5) = 0 then (bnd (ix 96 (((24 : Int32) * p1) + p2)) (fun j7 => (bnd (some (mput σ 27 0 j7 ((p3 <<< ((16 : Int32) &&& (31 : Int32))) >>> ((16 : Int32) &&& (31 : Int32))))) (fun s1 => (some ((1 : Int32), s1)))))) else (bnd (ix 96 (((24 : Int32) * p1) + p2)) (fun j6 => (some ((1 : Int32), (mput σ 27 0 j6 p3))))))))))))))))))) else (some ((-1000000011 : Int32), σ))))))))
set_option maxRecDepth 100000 in
set_option maxHeartbeats 4000000 in
theorem F_X8_mark {X : Cx} {p1 : Int32} {p2 : Int32} {p3 : Int32} {σ : Mem} {res : (Int32 × Mem)}  (h : f_X8_mark p1 p2 p3 σ = some res) : Tri X 3 mX8_mark [rf X 8 0, .int p1, .int p2, .int p3] σ (some (.int res.1)) res.2 := by
  obtain ⟨r0, σ2⟩ := res
  unfold f_X8_mark at h
  refine Tri.of (ls := [some (rf X 8 0), some (.int p1), some (.int p2), some (.int p3)]) (by decide) (Nat.le_of_ble_eq_true rfl) rfl ?_
  refine i_iload_n dX8_mark_0 rfl ?_
  refine cS_ir dX8_mark_1 cw_X8_298 ci_X8_isSheet h (fun a1 e => F_X8_isSheet  e) (Nat.le_of_ble_eq_true rfl) rfl rfl (Nat.le_of_ble_eq_true rfl) (fun a1 ea1 h => ?_)
  refine r_if_ne (tgt := 10) dX8_mark_4 (by decide) h (fun c1 h => ?_) (fun c1 h => ?_)
  · refine i_aload_n dX8_mark_10 rfl ?_
    refine gf_X8_19 rfl (by omega) dX8_mark_11 ?_
    refine i_iload_n dX8_mark_14 rfl ?_
    refine al_25 dX8_mark_15 (by omega) h (fun j1 lj1 h => ?_)
    refine r_if_ge (tgt := 23) dX8_mark_16 (by decide) h (fun c2 h => ?_) (fun c2 h => ?_)
    · refine i_iload_n dX8_mark_23 rfl ?_
      refine i_i2l dX8_mark_24 ?_
      refine i_lconst (v := 0) dX8_mark_25 (by decide) ?_
      refine i_aload_n dX8_mark_26 rfl ?_
      refine gf_X8_22 rfl (by omega) dX8_mark_27 ?_
      refine i_iload_n dX8_mark_30 rfl ?_
      refine al_26 dX8_mark_31 (by omega) h (fun j2 lj2 h => ?_)
      refine i_iconst (v := 1) dX8_mark_32 (by decide) ?_
      refine i_isub dX8_mark_33 ?_
      refine i_i2l dX8_mark_34 ?_
      refine cS_ir dX8_mark_35 cw_X8_71 ci_X8_isIn h (fun a2 e => F_X8_isIn  e) (Nat.le_of_ble_eq_true rfl) rfl rfl (Nat.le_of_ble_eq_true rfl) (fun a2 ea2 h => ?_)
      refine r_if_ne (tgt := 45) dX8_mark_38 (by decide) h (fun c3 h => ?_) (fun c3 h => ?_)
      · refine i_aload_n dX8_mark_45 rfl ?_
        refine gf_X8_19 rfl (by omega) dX8_mark_46 ?_
        refine i_iload_n dX8_mark_49 rfl ?_
        refine al_25 dX8_mark_50 (by omega) h (fun j3 lj3 h => ?_)
        refine r_if_ne (tgt := 63) dX8_mark_51 (by decide) h (fun c4 h => ?_) (fun c4 h => ?_)
        · refine i_aload_n dX8_mark_63 rfl ?_
          refine gf_X8_19 rfl (by omega) dX8_mark_64 ?_
          refine i_iload_n dX8_mark_67 rfl ?_
          refine al_25 dX8_mark_68 (by omega) h (fun j4 lj4 h => ?_)
          refine i_iconst (v := 1) dX8_mark_69 (by decide) ?_
          refine r_icmp_ne (tgt := 96) dX8_mark_70 (by decide) h (fun c5 h => ?_) (fun c5 h => ?_)
          · refine i_aload_n dX8_mark_96 rfl ?_
            refine gf_X8_25 rfl (by omega) dX8_mark_97 ?_
            refine i_bipush (v := 24) dX8_mark_100 (by decide) ?_
            refine i_iload_n dX8_mark_102 rfl ?_
            refine i_imul dX8_mark_103 ?_
            refine i_iload_n dX8_mark_104 rfl ?_
            refine i_iadd dX8_mark_105 ?_
            refine i_aload_n dX8_mark_106 rfl ?_
            refine gf_X8_19 rfl (by omega) dX8_mark_107 ?_
            refine i_iload_n dX8_mark_110 rfl ?_
            refine al_25 dX8_mark_111 (by omega) h (fun j5 lj5 h => ?_)
            refine r_if_ne (tgt := 125) dX8_mark_112 (by decide) h (fun c6 h => ?_) (fun c6 h => ?_)
            · refine i_iload_n dX8_mark_125 rfl ?_
              refine as_27 dX8_mark_126 (by omega) h (fun j6 lj6 h => ?_)
              refine i_iconst (v := 1) dX8_mark_127 (by decide) ?_
              exact e_iw rfl dX8_mark_128 h
            · refine i_iload_n dX8_mark_115 rfl ?_
              refine i_bipush (v := 16) dX8_mark_116 (by decide) ?_
              refine i_ishl dX8_mark_118 ?_
              refine i_bipush (v := 16) dX8_mark_119 (by decide) ?_
              refine i_ishr dX8_mark_121 ?_
              refine i_goto (tgt := 126) dX8_mark_122 (by decide) ?_
              refine as_27 dX8_mark_126 (by omega) h (fun j7 lj7 h => ?_)
              refine r_mem h (fun s1 _ h => ?_)
              refine i_iconst (v := 1) dX8_mark_127 (by decide) ?_
              exact e_iw rfl dX8_mark_128 h
          · refine i_iload_n dX8_mark_73 rfl ?_
            refine i_ldc (v := (-1000000005)) dX8_mark_74 k_X8_70 ?_
            refine r_icmp_eq (tgt := 96) dX8_mark_76 (by decide) h (fun c7 h => ?_) (fun c7 h => ?_)
            · refine i_aload_n dX8_mark_96 rfl ?_
              refine gf_X8_25 rfl (by omega) dX8_mark_97 ?_
              refine i_bipush (v := 24) dX8_mark_100 (by decide) ?_
              refine i_iload_n dX8_mark_102 rfl ?_
              refine i_imul dX8_mark_103 ?_
              refine i_iload_n dX8_mark_104 rfl ?_
              refine i_iadd dX8_mark_105 ?_
              refine i_aload_n dX8_mark_106 rfl ?_
              refine gf_X8_19 rfl (by omega) dX8_mark_107 ?_
              refine i_iload_n dX8_mark_110 rfl ?_
              refine al_25 dX8_mark_111 (by omega) h (fun j8 lj8 h => ?_)
              refine r_if_ne (tgt := 125) dX8_mark_112 (by decide) h (fun c8 h => ?_) (fun c8 h => ?_)
              · refine i_iload_n dX8_mark_125 rfl ?_
                refine as_27 dX8_mark_126 (by omega) h (fun j9 lj9 h => ?_)
                refine i_iconst (v := 1) dX8_mark_127 (by decide) ?_
                exact e_iw rfl dX8_mark_128 h
              · refine i_iload_n dX8_mark_115 rfl ?_
                refine i_bipush (v := 16) dX8_mark_116 (by decide) ?_
                refine i_ishl dX8_mark_118 ?_
                refine i_bipush (v := 16) dX8_mark_119 (by decide) ?_
                refine i_ishr dX8_mark_121 ?_
                refine i_goto (tgt := 126) dX8_mark_122 (by decide) ?_
                refine as_27 dX8_mark_126 (by omega) h (fun j10 lj10 h => ?_)
                refine r_mem h (fun s2 _ h => ?_)
                refine i_iconst (v := 1) dX8_mark_127 (by decide) ?_
                exact e_iw rfl dX8_mark_128 h
            · refine i_iload_n dX8_mark_79 rfl ?_
              refine i_i2l dX8_mark_80 ?_
              refine i_ldc2 (v := (-99999)) dX8_mark_81 k_X8_306 ?_
              refine i_ldc2 (v := 99999) dX8_mark_84 k_X8_308 ?_
              refine cS_ir dX8_mark_87 cw_X8_71 ci_X8_isIn h (fun a3 e => F_X8_isIn  e) (Nat.le_of_ble_eq_true rfl) rfl rfl (Nat.le_of_ble_eq_true rfl) (fun a3 ea3 h => ?_)
              refine r_if_ne (tgt := 96) dX8_mark_90 (by decide) h (fun c9 h => ?_) (fun c9 h => ?_)
              · refine i_aload_n dX8_mark_96 rfl ?_
                refine gf_X8_25 rfl (by omega) dX8_mark_97 ?_
                refine i_bipush (v := 24) dX8_mark_100 (by decide) ?_
                refine i_iload_n dX8_mark_102 rfl ?_
                refine i_imul dX8_mark_103 ?_
                refine i_iload_n dX8_mark_104 rfl ?_
                refine i_iadd dX8_mark_105 ?_
                refine i_aload_n dX8_mark_106 rfl ?_
                refine gf_X8_19 rfl (by omega) dX8_mark_107 ?_
                refine i_iload_n dX8_mark_110 rfl ?_
                refine al_25 dX8_mark_111 (by omega) h (fun j11 lj11 h => ?_)
                refine r_if_ne (tgt := 125) dX8_mark_112 (by decide) h (fun c10 h => ?_) (fun c10 h => ?_)
                · refine i_iload_n dX8_mark_125 rfl ?_
                  refine as_27 dX8_mark_126 (by omega) h (fun j12 lj12 h => ?_)
                  refine i_iconst (v := 1) dX8_mark_127 (by decide) ?_
                  exact e_iw rfl dX8_mark_128 h
                · refine i_iload_n dX8_mark_115 rfl ?_
                  refine i_bipush (v := 16) dX8_mark_116 (by decide) ?_
                  refine i_ishl dX8_mark_118 ?_
                  refine i_bipush (v := 16) dX8_mark_119 (by decide) ?_
                  refine i_ishr dX8_mark_121 ?_
                  refine i_goto (tgt := 126) dX8_mark_122 (by decide) ?_
                  refine as_27 dX8_mark_126 (by omega) h (fun j13 lj13 h => ?_)
                  refine r_mem h (fun s3 _ h => ?_)
                  refine i_iconst (v := 1) dX8_mark_127 (by decide) ?_
                  exact e_iw rfl dX8_mark_128 h
              · refine i_ldc (v := (-1000000001)) dX8_mark_93 k_X8_86 ?_
                exact e_iw rfl dX8_mark_95 h
        · refine i_iload_n dX8_mark_54 rfl ?_
          refine i_ldc (v := (-1000000005)) dX8_mark_55 k_X8_70 ?_
          refine r_icmp_ne (tgt := 63) dX8_mark_57 (by decide) h (fun c11 h => ?_) (fun c11 h => ?_)
          · refine i_aload_n dX8_mark_63 rfl ?_
            refine gf_X8_19 rfl (by omega) dX8_mark_64 ?_
            refine i_iload_n dX8_mark_67 rfl ?_
            refine al_25 dX8_mark_68 (by omega) h (fun j14 lj14 h => ?_)
            refine i_iconst (v := 1) dX8_mark_69 (by decide) ?_
            refine r_icmp_ne (tgt := 96) dX8_mark_70 (by decide) h (fun c12 h => ?_) (fun c12 h => ?_)
            · refine i_aload_n dX8_mark_96 rfl ?_
              refine gf_X8_25 rfl (by omega) dX8_mark_97 ?_
              refine i_bipush (v := 24) dX8_mark_100 (by decide) ?_
              refine i_iload_n dX8_mark_102 rfl ?_
              refine i_imul dX8_mark_103 ?_
              refine i_iload_n dX8_mark_104 rfl ?_
              refine i_iadd dX8_mark_105 ?_
              refine i_aload_n dX8_mark_106 rfl ?_
              refine gf_X8_19 rfl (by omega) dX8_mark_107 ?_
              refine i_iload_n dX8_mark_110 rfl ?_
              refine al_25 dX8_mark_111 (by omega) h (fun j15 lj15 h => ?_)
              refine r_if_ne (tgt := 125) dX8_mark_112 (by decide) h (fun c13 h => ?_) (fun c13 h => ?_)
              · refine i_iload_n dX8_mark_125 rfl ?_
                refine as_27 dX8_mark_126 (by omega) h (fun j16 lj16 h => ?_)
                refine i_iconst (v := 1) dX8_mark_127 (by decide) ?_
                exact e_iw rfl dX8_mark_128 h
              · refine i_iload_n dX8_mark_115 rfl ?_
                refine i_bipush (v := 16) dX8_mark_116 (by decide) ?_
                refine i_ishl dX8_mark_118 ?_
                refine i_bipush (v := 16) dX8_mark_119 (by decide) ?_
                refine i_ishr dX8_mark_121 ?_
                refine i_goto (tgt := 126) dX8_mark_122 (by decide) ?_
                refine as_27 dX8_mark_126 (by omega) h (fun j17 lj17 h => ?_)
                refine r_mem h (fun s4 _ h => ?_)
                refine i_iconst (v := 1) dX8_mark_127 (by decide) ?_
                exact e_iw rfl dX8_mark_128 h
            · refine i_iload_n dX8_mark_73 rfl ?_
              refine i_ldc (v := (-1000000005)) dX8_mark_74 k_X8_70 ?_
              refine r_icmp_eq (tgt := 96) dX8_mark_76 (by decide) h (fun c14 h => ?_) (fun c14 h => ?_)
              · refine i_aload_n dX8_mark_96 rfl ?_
                refine gf_X8_25 rfl (by omega) dX8_mark_97 ?_
                refine i_bipush (v := 24) dX8_mark_100 (by decide) ?_
                refine i_iload_n dX8_mark_102 rfl ?_
                refine i_imul dX8_mark_103 ?_
                refine i_iload_n dX8_mark_104 rfl ?_
                refine i_iadd dX8_mark_105 ?_
                refine i_aload_n dX8_mark_106 rfl ?_
                refine gf_X8_19 rfl (by omega) dX8_mark_107 ?_
                refine i_iload_n dX8_mark_110 rfl ?_
                refine al_25 dX8_mark_111 (by omega) h (fun j18 lj18 h => ?_)
                refine r_if_ne (tgt := 125) dX8_mark_112 (by decide) h (fun c15 h => ?_) (fun c15 h => ?_)
                · refine i_iload_n dX8_mark_125 rfl ?_
                  refine as_27 dX8_mark_126 (by omega) h (fun j19 lj19 h => ?_)
                  refine i_iconst (v := 1) dX8_mark_127 (by decide) ?_
                  exact e_iw rfl dX8_mark_128 h
                · refine i_iload_n dX8_mark_115 rfl ?_
                  refine i_bipush (v := 16) dX8_mark_116 (by decide) ?_
                  refine i_ishl dX8_mark_118 ?_
                  refine i_bipush (v := 16) dX8_mark_119 (by decide) ?_
                  refine i_ishr dX8_mark_121 ?_
                  refine i_goto (tgt := 126) dX8_mark_122 (by decide) ?_
                  refine as_27 dX8_mark_126 (by omega) h (fun j20 lj20 h => ?_)
                  refine r_mem h (fun s5 _ h => ?_)
                  refine i_iconst (v := 1) dX8_mark_127 (by decide) ?_
                  exact e_iw rfl dX8_mark_128 h
              · refine i_iload_n dX8_mark_79 rfl ?_
                refine i_i2l dX8_mark_80 ?_
                refine i_ldc2 (v := (-99999)) dX8_mark_81 k_X8_306 ?_
                refine i_ldc2 (v := 99999) dX8_mark_84 k_X8_308 ?_
                refine cS_ir dX8_mark_87 cw_X8_71 ci_X8_isIn h (fun a4 e => F_X8_isIn  e) (Nat.le_of_ble_eq_true rfl) rfl rfl (Nat.le_of_ble_eq_true rfl) (fun a4 ea4 h => ?_)
                refine r_if_ne (tgt := 96) dX8_mark_90 (by decide) h (fun c16 h => ?_) (fun c16 h => ?_)
                · refine i_aload_n dX8_mark_96 rfl ?_
                  refine gf_X8_25 rfl (by omega) dX8_mark_97 ?_
                  refine i_bipush (v := 24) dX8_mark_100 (by decide) ?_
                  refine i_iload_n dX8_mark_102 rfl ?_
                  refine i_imul dX8_mark_103 ?_
                  refine i_iload_n dX8_mark_104 rfl ?_
                  refine i_iadd dX8_mark_105 ?_
                  refine i_aload_n dX8_mark_106 rfl ?_
                  refine gf_X8_19 rfl (by omega) dX8_mark_107 ?_
                  refine i_iload_n dX8_mark_110 rfl ?_
                  refine al_25 dX8_mark_111 (by omega) h (fun j21 lj21 h => ?_)
                  refine r_if_ne (tgt := 125) dX8_mark_112 (by decide) h (fun c17 h => ?_) (fun c17 h => ?_)
                  · refine i_iload_n dX8_mark_125 rfl ?_
                    refine as_27 dX8_mark_126 (by omega) h (fun j22 lj22 h => ?_)
                    refine i_iconst (v := 1) dX8_mark_127 (by decide) ?_
                    exact e_iw rfl dX8_mark_128 h
                  · refine i_iload_n dX8_mark_115 rfl ?_
                    refine i_bipush (v := 16) dX8_mark_116 (by decide) ?_
                    refine i_ishl dX8_mark_118 ?_
                    refine i_bipush (v := 16) dX8_mark_119 (by decide) ?_
                    refine i_ishr dX8_mark_121 ?_
                    refine i_goto (tgt := 126) dX8_mark_122 (by decide) ?_
                    refine as_27 dX8_mark_126 (by omega) h (fun j23 lj23 h => ?_)
                    refine r_mem h (fun s6 _ h => ?_)
                    refine i_iconst (v := 1) dX8_mark_127 (by decide) ?_
                    exact e_iw rfl dX8_mark_128 h
                · refine i_ldc (v := (-1000000001)) dX8_mark_93 k_X8_86 ?_
                  exact e_iw rfl dX8_mark_95 h
          · refine i_ldc (v := (-1000000012)) dX8_mark_60 k_X8_129 ?_
            exact e_iw rfl dX8_mark_62 h
      · refine i_ldcw (v := (-1000000013)) dX8_mark_41 k_X8_305 ?_
        exact e_iw rfl dX8_mark_44 h
    · refine i_ldcw (v := (-1000000011)) dX8_mark_19 k_X8_304 ?_
      exact e_iw rfl dX8_mark_22 h
  · refine i_ldc (v := (-1000000001)) dX8_mark_7 k_X8_86 ?_
    exact e_iw rfl dX8_mark_9 h
def f_X8_pour_27 (p1 : Int32) : Nat → Int32 → Int32 → Mem → (Int32 → Mem → Option (Int32 × Mem)) → Option (Int32 × Mem)
  | 0, _, _, _, _ => none
  | n + 1, v2, v3, σ, k =>
    (bnd (ix 4 p1) (fun j1 => (if (σ 26 0 j1) ≤ v3 then (k v2 σ) else (bnd (ix 3108 (0 : Int32)) (fun j2 => (if (σ 22 0 j2) ≤ v3 then (k v2 σ) else (bnd (ix 96 (((24 : Int32) * p1) + v3)) (fun j3 => (if (σ 27 0 j3) = (-1000000005 : Int32) then (bnd (ix 3108 (((7 : Int32) + ((5 : Int32) * v3)) + (2 : Int32))) (fun j4 => (bnd (f_X8_becomes (((7 : Int32) + ((5 : Int32) * v3)) + (2 : Int32)) (σ 22 0 j4) σ) (fun a3 => (if (σ 22 0 j4) = a3.1 then (f_X8_pour_27 p1 n (v2 + (0 : Int32)) (v3 + (1 : Int32)) a3.2 k) else (f_X8_pour_27 p1 n (v2 + (1 : Int32)) (v3 + (1 : Int32)) a3.2 k)))))) else (bnd (f_X8_within (σ 27 0 j3) (0 : Int32) (99 : Int32) σ) (fun a1 => (bnd (f_X8_becomes (((7 : Int32) + ((5 : Int32) * v3)) + (2 : Int32)) a1 σ) (fun a2 => (if a1 = a2.1 then (f_X8_pour_27 p1 n (v2 + (0 : Int32)) (v3 + (1 : Int32)) a2.2 k) else (f_X8_pour_27 p1 n (v2 + (1 : Int32)) (v3 + (1 : Int32)) a2.2 k)))))))))))))))
set_option maxRecDepth 100000 in
set_option maxHeartbeats 4000000 in
theorem L_X8_pour_27 {X : Cx} {p1 : Int32} {r0 : Int32} {σ2 : Mem} {k : Int32 → Mem → Option (Int32 × Mem)}  : ∀ (n : Nat) (v2 : Int32) (v3 : Int32) (σ : Mem), f_X8_pour_27 p1 n v2 v3 σ k = some (r0, σ2) → (∀ (x2 : Int32) (σ1 : Mem), k x2 σ1 = some (r0, σ2) → At X 3 mX8_pour 126 [none, none, some (.int x2), none, none, none] [] σ1 (some (.int r0)) σ2) → At X 3 mX8_pour 27 [some (rf X 8 0), some (.int p1), some (.int v2), some (.int v3), none, none] [] σ (some (.int r0)) σ2 := by
  intro n
  induction n with
  | zero =>
    intro v2 v3 σ h
    cases h
  | succ n ih =>
    intro v2 v3 σ h hk
    rw [f_X8_pour_27.eq_2] at h
    refine i_iload_n dX8_pour_27 rfl ?_
    refine i_aload_n dX8_pour_28 rfl ?_
    refine gf_X8_22 rfl (by omega) dX8_pour_29 ?_
    refine i_iload_n dX8_pour_32 rfl ?_
    refine al_26 dX8_pour_33 (by omega) h (fun j1 lj1 h => ?_)
    refine r_icmp_ge (tgt := 126) dX8_pour_34 (by decide) h (fun c1 h => ?_) (fun c1 h => ?_)
    · refine At.fewer (ls' := [none, none, some (.int v2), none, none, none]) (And.intro rfl trivial) ?_
      exact hk _ _ h
    · refine i_iload_n dX8_pour_37 rfl ?_
      refine i_aload_n dX8_pour_38 rfl ?_
      refine gf_X8_7 rfl (by omega) dX8_pour_39 ?_
      refine i_iconst (v := 0) dX8_pour_42 (by decide) ?_
      refine al_22 dX8_pour_43 (by omega) h (fun j2 lj2 h => ?_)
      refine r_icmp_ge (tgt := 126) dX8_pour_44 (by decide) h (fun c2 h => ?_) (fun c2 h => ?_)
      · refine At.fewer (ls' := [none, none, some (.int v2), none, none, none]) (And.intro rfl trivial) ?_
        exact hk _ _ h
      · refine i_aload_n dX8_pour_47 rfl ?_
        refine gf_X8_25 rfl (by omega) dX8_pour_48 ?_
        refine i_bipush (v := 24) dX8_pour_51 (by decide) ?_
        refine i_iload_n dX8_pour_53 rfl ?_
        refine i_imul dX8_pour_54 ?_
        refine i_iload_n dX8_pour_55 rfl ?_
        refine i_iadd dX8_pour_56 ?_
        refine al_27 dX8_pour_57 (by omega) h (fun j3 lj3 h => ?_)
        refine i_istore (ls' := [some (rf X 8 0), some (.int p1), some (.int v2), some (.int v3), some (.int (σ 27 0 j3)), none]) dX8_pour_58 (by decide) (okp_at rfl) rfl ?_
        refine i_iload dX8_pour_60 rfl ?_
        refine i_ldc (v := (-1000000005)) dX8_pour_62 k_X8_70 ?_
        refine r_icmp_ne (tgt := 83) dX8_pour_64 (by decide) h (fun c3 h => ?_) (fun c3 h => ?_)
        · refine i_iload dX8_pour_83 rfl ?_
          refine i_iconst (v := 0) dX8_pour_85 (by decide) ?_
          refine i_bipush (v := 99) dX8_pour_86 (by decide) ?_
          refine cS_ir dX8_pour_88 cw_X8_108 ci_X8_within h (fun a1 e => F_X8_within  e) (Nat.le_of_ble_eq_true rfl) rfl rfl (Nat.le_of_ble_eq_true rfl) (fun a1 ea1 h => ?_)
          refine i_istore (ls' := [some (rf X 8 0), some (.int p1), some (.int v2), some (.int v3), some (.int (σ 27 0 j3)), some (.int a1)]) dX8_pour_91 (by decide) (okp_at rfl) rfl ?_
          refine i_iload_n dX8_pour_93 rfl ?_
          refine i_iload dX8_pour_94 rfl ?_
          refine i_aload_n dX8_pour_96 rfl ?_
          refine i_bipush (v := 7) dX8_pour_97 (by decide) ?_
          refine i_iconst (v := 5) dX8_pour_99 (by decide) ?_
          refine i_iload_n dX8_pour_100 rfl ?_
          refine i_imul dX8_pour_101 ?_
          refine i_iadd dX8_pour_102 ?_
          refine i_iconst (v := 2) dX8_pour_103 (by decide) ?_
          refine i_iadd dX8_pour_104 ?_
          refine i_iload dX8_pour_105 rfl ?_
          refine cV_iw dX8_pour_107 cw_X8_130 ci_X8_becomes rfl rfl (by decide) (show 0 < 1 by omega) h (fun a2 e => F_X8_becomes  e) (Nat.le_of_ble_eq_true rfl) rfl rfl (Nat.le_of_ble_eq_true rfl) (fun a2 ea2 h => ?_)
          refine r_icmp_ne (tgt := 117) dX8_pour_110 (by decide) h (fun c4 h => ?_) (fun c4 h => ?_)
          · refine i_iconst (v := 1) dX8_pour_117 (by decide) ?_
            refine i_iadd dX8_pour_118 ?_
            refine i_istore_n (ls' := [some (rf X 8 0), some (.int p1), some (.int (v2 + (1 : Int32))), some (.int v3), some (.int (σ 27 0 j3)), some (.int a1)]) dX8_pour_119 (by decide) (okp_at rfl) rfl ?_
            refine i_iinc (v := (v3 + (1 : Int32))) (ls' := [some (rf X 8 0), some (.int p1), some (.int (v2 + (1 : Int32))), some (.int (v3 + (1 : Int32))), some (.int (σ 27 0 j3)), some (.int a1)]) dX8_pour_120 rfl (by rfl) (by decide) (okp_at rfl) rfl ?_
            refine i_goto (tgt := 27) dX8_pour_123 (by decide) ?_
            refine At.fewer (ls' := [some (rf X 8 0), some (.int p1), some (.int (v2 + (1 : Int32))), some (.int (v3 + (1 : Int32))), none, none]) (And.intro rfl (And.intro rfl (And.intro rfl (And.intro rfl trivial)))) ?_
            exact ih _ _ _ h hk
          · refine i_iconst (v := 0) dX8_pour_113 (by decide) ?_
            refine i_goto (tgt := 118) dX8_pour_114 (by decide) ?_
            refine i_iadd dX8_pour_118 ?_
            refine i_istore_n (ls' := [some (rf X 8 0), some (.int p1), some (.int (v2 + (0 : Int32))), some (.int v3), some (.int (σ 27 0 j3)), some (.int a1)]) dX8_pour_119 (by decide) (okp_at rfl) rfl ?_
            refine i_iinc (v := (v3 + (1 : Int32))) (ls' := [some (rf X 8 0), some (.int p1), some (.int (v2 + (0 : Int32))), some (.int (v3 + (1 : Int32))), some (.int (σ 27 0 j3)), some (.int a1)]) dX8_pour_120 rfl (by rfl) (by decide) (okp_at rfl) rfl ?_
            refine i_goto (tgt := 27) dX8_pour_123 (by decide) ?_
            refine At.fewer (ls' := [some (rf X 8 0), some (.int p1), some (.int (v2 + (0 : Int32))), some (.int (v3 + (1 : Int32))), none, none]) (And.intro rfl (And.intro rfl (And.intro rfl (And.intro rfl trivial)))) ?_
            exact ih _ _ _ h hk
        · refine i_aload_n dX8_pour_67 rfl ?_
          refine gf_X8_7 rfl (by omega) dX8_pour_68 ?_
          refine i_bipush (v := 7) dX8_pour_71 (by decide) ?_
          refine i_iconst (v := 5) dX8_pour_73 (by decide) ?_
          refine i_iload_n dX8_pour_74 rfl ?_
          refine i_imul dX8_pour_75 ?_
          refine i_iadd dX8_pour_76 ?_
          refine i_iconst (v := 2) dX8_pour_77 (by decide) ?_
          refine i_iadd dX8_pour_78 ?_
          refine al_22 dX8_pour_79 (by omega) h (fun j4 lj4 h => ?_)
          refine i_goto (tgt := 91) dX8_pour_80 (by decide) ?_
          refine i_istore (ls' := [some (rf X 8 0), some (.int p1), some (.int v2), some (.int v3), some (.int (σ 27 0 j3)), some (.int (σ 22 0 j4))]) dX8_pour_91 (by decide) (okp_at rfl) rfl ?_
          refine i_iload_n dX8_pour_93 rfl ?_
          refine i_iload dX8_pour_94 rfl ?_
          refine i_aload_n dX8_pour_96 rfl ?_
          refine i_bipush (v := 7) dX8_pour_97 (by decide) ?_
          refine i_iconst (v := 5) dX8_pour_99 (by decide) ?_
          refine i_iload_n dX8_pour_100 rfl ?_
          refine i_imul dX8_pour_101 ?_
          refine i_iadd dX8_pour_102 ?_
          refine i_iconst (v := 2) dX8_pour_103 (by decide) ?_
          refine i_iadd dX8_pour_104 ?_
          refine i_iload dX8_pour_105 rfl ?_
          refine cV_iw dX8_pour_107 cw_X8_130 ci_X8_becomes rfl rfl (by decide) (show 0 < 1 by omega) h (fun a3 e => F_X8_becomes  e) (Nat.le_of_ble_eq_true rfl) rfl rfl (Nat.le_of_ble_eq_true rfl) (fun a3 ea3 h => ?_)
          refine r_icmp_ne (tgt := 117) dX8_pour_110 (by decide) h (fun c5 h => ?_) (fun c5 h => ?_)
          · refine i_iconst (v := 1) dX8_pour_117 (by decide) ?_
            refine i_iadd dX8_pour_118 ?_
            refine i_istore_n (ls' := [some (rf X 8 0), some (.int p1), some (.int (v2 + (1 : Int32))), some (.int v3), some (.int (σ 27 0 j3)), some (.int (σ 22 0 j4))]) dX8_pour_119 (by decide) (okp_at rfl) rfl ?_
            refine i_iinc (v := (v3 + (1 : Int32))) (ls' := [some (rf X 8 0), some (.int p1), some (.int (v2 + (1 : Int32))), some (.int (v3 + (1 : Int32))), some (.int (σ 27 0 j3)), some (.int (σ 22 0 j4))]) dX8_pour_120 rfl (by rfl) (by decide) (okp_at rfl) rfl ?_
            refine i_goto (tgt := 27) dX8_pour_123 (by decide) ?_
            refine At.fewer (ls' := [some (rf X 8 0), some (.int p1), some (.int (v2 + (1 : Int32))), some (.int (v3 + (1 : Int32))), none, none]) (And.intro rfl (And.intro rfl (And.intro rfl (And.intro rfl trivial)))) ?_
            exact ih _ _ _ h hk
          · refine i_iconst (v := 0) dX8_pour_113 (by decide) ?_
            refine i_goto (tgt := 118) dX8_pour_114 (by decide) ?_
            refine i_iadd dX8_pour_118 ?_
            refine i_istore_n (ls' := [some (rf X 8 0), some (.int p1), some (.int (v2 + (0 : Int32))), some (.int v3), some (.int (σ 27 0 j3)), some (.int (σ 22 0 j4))]) dX8_pour_119 (by decide) (okp_at rfl) rfl ?_
            refine i_iinc (v := (v3 + (1 : Int32))) (ls' := [some (rf X 8 0), some (.int p1), some (.int (v2 + (0 : Int32))), some (.int (v3 + (1 : Int32))), some (.int (σ 27 0 j3)), some (.int (σ 22 0 j4))]) dX8_pour_120 rfl (by rfl) (by decide) (okp_at rfl) rfl ?_
            refine i_goto (tgt := 27) dX8_pour_123 (by decide) ?_
            refine At.fewer (ls' := [some (rf X 8 0), some (.int p1), some (.int (v2 + (0 : Int32))), some (.int (v3 + (1 : Int32))), none, none]) (And.intro rfl (And.intro rfl (And.intro rfl (And.intro rfl trivial)))) ?_
            exact ih _ _ _ h hk
def f_X8_pour  (p1 : Int32) (σ : Mem) : Option (Int32 × Mem) :=
  (bnd (f_X8_isSheet p1 σ) (fun a1 => (if a1 = 0 then (some ((-1000000001 : Int32), σ)) else (bnd (ix 4 p1) (fun j1 => (if 0 ≤ (σ 25 0 j1) then (f_X8_pour_27 p1 FU (0 : Int32) (0 : Int32) σ (fun e1 σ_1 => (some (e1, σ_1)))) else (some ((-1000000011 : Int32), σ))))))))
set_option maxRecDepth 100000 in
set_option maxHeartbeats 4000000 in
theorem F_X8_pour {X : Cx} {p1 : Int32} {σ : Mem} {res : (Int32 × Mem)}  (h : f_X8_pour p1 σ = some res) : Tri X 3 mX8_pour [rf X 8 0, .int p1] σ (some (.int res.1)) res.2 := by
  obtain ⟨r0, σ2⟩ := res
  unfold f_X8_pour at h
  refine Tri.of (ls := [some (rf X 8 0), some (.int p1), none, none, none, none]) (by decide) (Nat.le_of_ble_eq_true rfl) rfl ?_
  refine i_iload_n dX8_pour_0 rfl ?_
  refine cS_ir dX8_pour_1 cw_X8_298 ci_X8_isSheet h (fun a1 e => F_X8_isSheet  e) (Nat.le_of_ble_eq_true rfl) rfl rfl (Nat.le_of_ble_eq_true rfl) (fun a1 ea1 h => ?_)
  refine r_if_ne (tgt := 10) dX8_pour_4 (by decide) h (fun c1 h => ?_) (fun c1 h => ?_)
  · refine i_aload_n dX8_pour_10 rfl ?_
    refine gf_X8_19 rfl (by omega) dX8_pour_11 ?_
    refine i_iload_n dX8_pour_14 rfl ?_
    refine al_25 dX8_pour_15 (by omega) h (fun j1 lj1 h => ?_)
    refine r_if_ge (tgt := 23) dX8_pour_16 (by decide) h (fun c2 h => ?_) (fun c2 h => ?_)
    · refine i_iconst (v := 0) dX8_pour_23 (by decide) ?_
      refine i_istore_n (ls' := [some (rf X 8 0), some (.int p1), some (.int (0 : Int32)), none, none, none]) dX8_pour_24 (by decide) (okp_at rfl) rfl ?_
      refine i_iconst (v := 0) dX8_pour_25 (by decide) ?_
      refine i_istore_n (ls' := [some (rf X 8 0), some (.int p1), some (.int (0 : Int32)), some (.int (0 : Int32)), none, none]) dX8_pour_26 (by decide) (okp_at rfl) rfl ?_
      refine L_X8_pour_27  FU _ _ _ h (fun e1 σ_1 h => ?_)
      refine i_iload_n dX8_pour_126 rfl ?_
      exact e_iw rfl dX8_pour_127 h
    · refine i_ldcw (v := (-1000000011)) dX8_pour_19 k_X8_304 ?_
      exact e_iw rfl dX8_pour_22 h
  · refine i_ldc (v := (-1000000001)) dX8_pour_7 k_X8_86 ?_
    exact e_iw rfl dX8_pour_9 h
def f_X8_reads_25 (p1 : Int32) (σ : Mem) : Nat → Int32 → (Option Int32) → Option Int32
  | 0, _, _ => none
  | n + 1, v2, k =>
    (bnd (ix 4 p1) (fun j1 => (if (σ 26 0 j1) ≤ v2 then (k) else (bnd (ix 96 (((24 : Int32) * p1) + v2)) (fun j2 => (if (σ 27 0 j2) = (-1000000005 : Int32) then (f_X8_reads_25 p1 σ n (v2 + (1 : Int32)) k) else (bnd (ix 3108 (0 : Int32)) (fun j3 => (if (σ 22 0 j3) ≤ v2 then (some v2) else (bnd (f_X8_noon v2 σ) (fun a1 => (if (σ 27 0 j2) = a1 then (f_X8_reads_25 p1 σ n (v2 + (1 : Int32)) k) else (some v2)))))))))))))
set_option maxRecDepth 100000 in
set_option maxHeartbeats 4000000 in
theorem L_X8_reads_25 {X : Cx} {p1 : Int32} {σ : Mem} {r0 : Int32} {k : Option Int32}  : ∀ (n : Nat) (v2 : Int32), f_X8_reads_25 p1 σ n v2 k = some r0 → (k = some r0 → At X 3 mX8_reads 80 [none, none, none, none] [] σ (some (.int r0)) σ) → At X 3 mX8_reads 25 [some (rf X 8 0), some (.int p1), some (.int v2), none] [] σ (some (.int r0)) σ := by
  intro n
  induction n with
  | zero =>
    intro v2 h
    cases h
  | succ n ih =>
    intro v2 h hk
    rw [f_X8_reads_25.eq_2] at h
    refine i_iload_n dX8_reads_25 rfl ?_
    refine i_aload_n dX8_reads_26 rfl ?_
    refine gf_X8_22 rfl (by omega) dX8_reads_27 ?_
    refine i_iload_n dX8_reads_30 rfl ?_
    refine al_26 dX8_reads_31 (by omega) h (fun j1 lj1 h => ?_)
    refine r_icmp_ge (tgt := 80) dX8_reads_32 (by decide) h (fun c1 h => ?_) (fun c1 h => ?_)
    · refine At.fewer (ls' := [none, none, none, none]) trivial ?_
      exact hk h
    · refine i_aload_n dX8_reads_35 rfl ?_
      refine gf_X8_25 rfl (by omega) dX8_reads_36 ?_
      refine i_bipush (v := 24) dX8_reads_39 (by decide) ?_
      refine i_iload_n dX8_reads_41 rfl ?_
      refine i_imul dX8_reads_42 ?_
      refine i_iload_n dX8_reads_43 rfl ?_
      refine i_iadd dX8_reads_44 ?_
      refine al_27 dX8_reads_45 (by omega) h (fun j2 lj2 h => ?_)
      refine i_istore_n (ls' := [some (rf X 8 0), some (.int p1), some (.int v2), some (.int (σ 27 0 j2))]) dX8_reads_46 (by decide) (okp_at rfl) rfl ?_
      refine i_iload_n dX8_reads_47 rfl ?_
      refine i_ldc (v := (-1000000005)) dX8_reads_48 k_X8_70 ?_
      refine r_icmp_eq (tgt := 74) dX8_reads_50 (by decide) h (fun c2 h => ?_) (fun c2 h => ?_)
      · refine i_iinc (v := (v2 + (1 : Int32))) (ls' := [some (rf X 8 0), some (.int p1), some (.int (v2 + (1 : Int32))), some (.int (σ 27 0 j2))]) dX8_reads_74 rfl (by rfl) (by decide) (okp_at rfl) rfl ?_
        refine i_goto (tgt := 25) dX8_reads_77 (by decide) ?_
        refine At.fewer (ls' := [some (rf X 8 0), some (.int p1), some (.int (v2 + (1 : Int32))), none]) (And.intro rfl (And.intro rfl (And.intro rfl trivial))) ?_
        exact ih _ h hk
      · refine i_iload_n dX8_reads_53 rfl ?_
        refine i_aload_n dX8_reads_54 rfl ?_
        refine gf_X8_7 rfl (by omega) dX8_reads_55 ?_
        refine i_iconst (v := 0) dX8_reads_58 (by decide) ?_
        refine al_22 dX8_reads_59 (by omega) h (fun j3 lj3 h => ?_)
        refine r_icmp_ge (tgt := 72) dX8_reads_60 (by decide) h (fun c3 h => ?_) (fun c3 h => ?_)
        · refine i_iload_n dX8_reads_72 rfl ?_
          exact e_ir rfl dX8_reads_73 h
        · refine i_iload_n dX8_reads_63 rfl ?_
          refine i_aload_n dX8_reads_64 rfl ?_
          refine i_iload_n dX8_reads_65 rfl ?_
          refine cV_ir dX8_reads_66 cw_X8_116 ci_X8_noon rfl rfl (by decide) (show 0 < 1 by omega) h (fun a1 e => F_X8_noon  e) (Nat.le_of_ble_eq_true rfl) rfl rfl (Nat.le_of_ble_eq_true rfl) (fun a1 ea1 h => ?_)
          refine r_icmp_eq (tgt := 74) dX8_reads_69 (by decide) h (fun c4 h => ?_) (fun c4 h => ?_)
          · refine i_iinc (v := (v2 + (1 : Int32))) (ls' := [some (rf X 8 0), some (.int p1), some (.int (v2 + (1 : Int32))), some (.int (σ 27 0 j2))]) dX8_reads_74 rfl (by rfl) (by decide) (okp_at rfl) rfl ?_
            refine i_goto (tgt := 25) dX8_reads_77 (by decide) ?_
            refine At.fewer (ls' := [some (rf X 8 0), some (.int p1), some (.int (v2 + (1 : Int32))), none]) (And.intro rfl (And.intro rfl (And.intro rfl trivial))) ?_
            exact ih _ h hk
          · refine i_iload_n dX8_reads_72 rfl ?_
            exact e_ir rfl dX8_reads_73 h
def f_X8_reads  (p1 : Int32) (σ : Mem) : Option Int32 :=
  (bnd (f_X8_isSheet p1 σ) (fun a1 => (if a1 = 0 then (some (-1000000001 : Int32)) else (bnd (ix 4 p1) (fun j1 => (if 0 ≤ (σ 25 0 j1) then (f_X8_reads_25 p1 σ FU (0 : Int32) ((some (-1000000005 : Int32)))) else (some (-1000000011 : Int32))))))))
set_option maxRecDepth 100000 in
set_option maxHeartbeats 4000000 in
theorem F_X8_reads {X : Cx} {p1 : Int32} {σ : Mem} {res : Int32}  (h : f_X8_reads p1 σ = some res) : Tri X 3 mX8_reads [rf X 8 0, .int p1] σ (some (.int res)) σ := by
  unfold f_X8_reads at h
  refine Tri.of (ls := [some (rf X 8 0), some (.int p1), none, none]) (by decide) (Nat.le_of_ble_eq_true rfl) rfl ?_
  refine i_iload_n dX8_reads_0 rfl ?_
  refine cS_ir dX8_reads_1 cw_X8_298 ci_X8_isSheet h (fun a1 e => F_X8_isSheet  e) (Nat.le_of_ble_eq_true rfl) rfl rfl (Nat.le_of_ble_eq_true rfl) (fun a1 ea1 h => ?_)
  refine r_if_ne (tgt := 10) dX8_reads_4 (by decide) h (fun c1 h => ?_) (fun c1 h => ?_)
  · refine i_aload_n dX8_reads_10 rfl ?_
    refine gf_X8_19 rfl (by omega) dX8_reads_11 ?_
    refine i_iload_n dX8_reads_14 rfl ?_
    refine al_25 dX8_reads_15 (by omega) h (fun j1 lj1 h => ?_)
    refine r_if_ge (tgt := 23) dX8_reads_16 (by decide) h (fun c2 h => ?_) (fun c2 h => ?_)
    · refine i_iconst (v := 0) dX8_reads_23 (by decide) ?_
      refine i_istore_n (ls' := [some (rf X 8 0), some (.int p1), some (.int (0 : Int32)), none]) dX8_reads_24 (by decide) (okp_at rfl) rfl ?_
      refine L_X8_reads_25  FU _ h (fun  h => ?_)
      refine i_ldc (v := (-1000000005)) dX8_reads_80 k_X8_70 ?_
      exact e_ir rfl dX8_reads_82 h
    · refine i_ldcw (v := (-1000000011)) dX8_reads_19 k_X8_304 ?_
      exact e_ir rfl dX8_reads_22 h
  · refine i_ldc (v := (-1000000001)) dX8_reads_7 k_X8_86 ?_
    exact e_ir rfl dX8_reads_9 h
def f_X8_clock_75 (p1 : Int32) (p2 : Int32) (p3 : Int32) (p4 : Int32) (p5 : Int32) (p6 : Int32) : Nat → Int32 → Int32 → Mem → (Int32 → Mem → Option (Int32 × Mem)) → Option (Int32 × Mem)
  | 0, _, _, _, _ => none
  | n + 1, v7, v8, σ, k =>
    (bnd (ix 4 p1) (fun j1 => (if (σ 26 0 j1) ≤ v8 then (k v7 σ) else (bnd (ix 96 (((24 : Int32) * p1) + v8)) (fun j2 => (if (σ 27 0 j2) = (-1000000005 : Int32) then (bnd (f_X8_goesOn σ) (fun a4 => (f_X8_clock_75 p1 p2 p3 p4 p5 p6 n (v7 + (0 : Int32)) (v8 + (1 : Int32)) a4 k))) else (bnd (f_X8_manyBy p2 (0 : Int32) σ) (fun a1 => (bnd (f_X8_off (σ 27 0 j2) a1 σ) (fun a2 => (bnd (f_X8_goesOn σ) (fun a3 => (f_X8_clock_75 p1 p2 p3 p4 p5 p6 n (v7 + a2) (v8 + (1 : Int32)) a3 k)))))))))))))
set_option maxRecDepth 100000 in
set_option maxHeartbeats 4000000 in
theorem L_X8_clock_75 {X : Cx} {p1 : Int32} {p2 : Int32} {p3 : Int32} {p4 : Int32} {p5 : Int32} {p6 : Int32} {r0 : Int32} {σ2 : Mem} {k : Int32 → Mem → Option (Int32 × Mem)}  : ∀ (n : Nat) (v7 : Int32) (v8 : Int32) (σ : Mem), f_X8_clock_75 p1 p2 p3 p4 p5 p6 n v7 v8 σ k = some (r0, σ2) → (∀ (x7 : Int32) (σ1 : Mem), k x7 σ1 = some (r0, σ2) → At X 5 mX8_clock 137 [some (rf X 8 0), some (.int p1), some (.int p2), some (.int p3), some (.int p4), some (.int p5), some (.int p6), some (.int x7), none, none] [] σ1 (some (.int r0)) σ2) → At X 5 mX8_clock 75 [some (rf X 8 0), some (.int p1), some (.int p2), some (.int p3), some (.int p4), some (.int p5), some (.int p6), some (.int v7), some (.int v8), none] [] σ (some (.int r0)) σ2 := by
  intro n
  induction n with
  | zero =>
    intro v7 v8 σ h
    cases h
  | succ n ih =>
    intro v7 v8 σ h hk
    rw [f_X8_clock_75.eq_2] at h
    refine i_iload dX8_clock_75 rfl ?_
    refine i_aload_n dX8_clock_77 rfl ?_
    refine gf_X8_22 rfl (by omega) dX8_clock_78 ?_
    refine i_iload_n dX8_clock_81 rfl ?_
    refine al_26 dX8_clock_82 (by omega) h (fun j1 lj1 h => ?_)
    refine r_icmp_ge (tgt := 137) dX8_clock_83 (by decide) h (fun c1 h => ?_) (fun c1 h => ?_)
    · refine At.fewer (ls' := [some (rf X 8 0), some (.int p1), some (.int p2), some (.int p3), some (.int p4), some (.int p5), some (.int p6), some (.int v7), none, none]) (And.intro rfl (And.intro rfl (And.intro rfl (And.intro rfl (And.intro rfl (And.intro rfl (And.intro rfl (And.intro rfl trivial)))))))) ?_
      exact hk _ _ h
    · refine i_aload_n dX8_clock_86 rfl ?_
      refine gf_X8_25 rfl (by omega) dX8_clock_87 ?_
      refine i_bipush (v := 24) dX8_clock_90 (by decide) ?_
      refine i_iload_n dX8_clock_92 rfl ?_
      refine i_imul dX8_clock_93 ?_
      refine i_iload dX8_clock_94 rfl ?_
      refine i_iadd dX8_clock_96 ?_
      refine al_27 dX8_clock_97 (by omega) h (fun j2 lj2 h => ?_)
      refine i_istore (ls' := [some (rf X 8 0), some (.int p1), some (.int p2), some (.int p3), some (.int p4), some (.int p5), some (.int p6), some (.int v7), some (.int v8), some (.int (σ 27 0 j2))]) dX8_clock_98 (by decide) (okp_at rfl) rfl ?_
      refine i_iload dX8_clock_100 rfl ?_
      refine i_iload dX8_clock_102 rfl ?_
      refine i_ldc (v := (-1000000005)) dX8_clock_104 k_X8_70 ?_
      refine r_icmp_ne (tgt := 113) dX8_clock_106 (by decide) h (fun c2 h => ?_) (fun c2 h => ?_)
      · refine i_iload dX8_clock_113 rfl ?_
        refine i_aload_n dX8_clock_115 rfl ?_
        refine i_iload_n dX8_clock_116 rfl ?_
        refine i_iconst (v := 0) dX8_clock_117 (by decide) ?_
        refine cV_ir dX8_clock_118 cw_X8_95 ci_X8_manyBy rfl rfl (by decide) (show 0 < 1 by omega) h (fun a1 e => F_X8_manyBy  e) (Nat.le_of_ble_eq_true rfl) rfl rfl (Nat.le_of_ble_eq_true rfl) (fun a1 ea1 h => ?_)
        refine cS_ir dX8_clock_121 cw_X8_310 ci_X8_off h (fun a2 e => F_X8_off  e) (Nat.le_of_ble_eq_true rfl) rfl rfl (Nat.le_of_ble_eq_true rfl) (fun a2 ea2 h => ?_)
        refine i_iadd dX8_clock_124 ?_
        refine i_istore (ls' := [some (rf X 8 0), some (.int p1), some (.int p2), some (.int p3), some (.int p4), some (.int p5), some (.int p6), some (.int (v7 + a2)), some (.int v8), some (.int (σ 27 0 j2))]) dX8_clock_125 (by decide) (okp_at rfl) rfl ?_
        refine i_aload_n dX8_clock_127 rfl ?_
        refine cV_vw dX8_clock_128 cw_X8_168 ci_X8_goesOn rfl rfl (by decide) (show 0 < 1 by omega) h (fun a3 e => F_X8_goesOn  e) (Nat.le_of_ble_eq_true rfl) rfl rfl (Nat.le_of_ble_eq_true rfl) (fun a3 ea3 h => ?_)
        refine i_iinc (v := (v8 + (1 : Int32))) (ls' := [some (rf X 8 0), some (.int p1), some (.int p2), some (.int p3), some (.int p4), some (.int p5), some (.int p6), some (.int (v7 + a2)), some (.int (v8 + (1 : Int32))), some (.int (σ 27 0 j2))]) dX8_clock_131 rfl (by rfl) (by decide) (okp_at rfl) rfl ?_
        refine i_goto (tgt := 75) dX8_clock_134 (by decide) ?_
        refine At.fewer (ls' := [some (rf X 8 0), some (.int p1), some (.int p2), some (.int p3), some (.int p4), some (.int p5), some (.int p6), some (.int (v7 + a2)), some (.int (v8 + (1 : Int32))), none]) (And.intro rfl (And.intro rfl (And.intro rfl (And.intro rfl (And.intro rfl (And.intro rfl (And.intro rfl (And.intro rfl (And.intro rfl trivial))))))))) ?_
        exact ih _ _ _ h hk
      · refine i_iconst (v := 0) dX8_clock_109 (by decide) ?_
        refine i_goto (tgt := 124) dX8_clock_110 (by decide) ?_
        refine i_iadd dX8_clock_124 ?_
        refine i_istore (ls' := [some (rf X 8 0), some (.int p1), some (.int p2), some (.int p3), some (.int p4), some (.int p5), some (.int p6), some (.int (v7 + (0 : Int32))), some (.int v8), some (.int (σ 27 0 j2))]) dX8_clock_125 (by decide) (okp_at rfl) rfl ?_
        refine i_aload_n dX8_clock_127 rfl ?_
        refine cV_vw dX8_clock_128 cw_X8_168 ci_X8_goesOn rfl rfl (by decide) (show 0 < 1 by omega) h (fun a4 e => F_X8_goesOn  e) (Nat.le_of_ble_eq_true rfl) rfl rfl (Nat.le_of_ble_eq_true rfl) (fun a4 ea4 h => ?_)
        refine i_iinc (v := (v8 + (1 : Int32))) (ls' := [some (rf X 8 0), some (.int p1), some (.int p2), some (.int p3), some (.int p4), some (.int p5), some (.int p6), some (.int (v7 + (0 : Int32))), some (.int (v8 + (1 : Int32))), some (.int (σ 27 0 j2))]) dX8_clock_131 rfl (by rfl) (by decide) (okp_at rfl) rfl ?_
        refine i_goto (tgt := 75) dX8_clock_134 (by decide) ?_
        refine At.fewer (ls' := [some (rf X 8 0), some (.int p1), some (.int p2), some (.int p3), some (.int p4), some (.int p5), some (.int p6), some (.int (v7 + (0 : Int32))), some (.int (v8 + (1 : Int32))), none]) (And.intro rfl (And.intro rfl (And.intro rfl (And.intro rfl (And.intro rfl (And.intro rfl (And.intro rfl (And.intro rfl (And.intro rfl trivial))))))))) ?_
        exact ih _ _ _ h hk
def f_X8_clock_54 (p1 : Int32) (p2 : Int32) (p3 : Int32) : Nat → Int32 → Int32 → Int32 → Mem → (Int32 → Int32 → Mem → Option (Int32 × Mem)) → Option (Int32 × Mem)
  | 0, _, _, _, _, _ => none
  | n + 1, v4, v5, v6, σ, k =>
    (if (24 : Int32) ≤ v6 then (k v4 v5 σ) else (bnd (f_X8_sets p2 (1 : Int32) v6 σ) (fun a1 => (f_X8_clock_75 p1 p2 p3 v4 v5 v6 FU (0 : Int32) (0 : Int32) a1 (fun e1 σ_1 => (bnd (f_X8_laysBack σ_1) (fun a2 => (if v4 < 0 then (f_X8_clock_54 p1 p2 p3 n v6 e1 (v6 + (1 : Int32)) a2 k) else (if v5 ≤ e1 then (f_X8_clock_54 p1 p2 p3 n v4 v5 (v6 + (1 : Int32)) a2 k) else (f_X8_clock_54 p1 p2 p3 n v6 e1 (v6 + (1 : Int32)) a2 k))))))))))
set_option maxRecDepth 100000 in
set_option maxHeartbeats 4000000 in
theorem L_X8_clock_54 {X : Cx} {p1 : Int32} {p2 : Int32} {p3 : Int32} {r0 : Int32} {σ2 : Mem} {k : Int32 → Int32 → Mem → Option (Int32 × Mem)}  : ∀ (n : Nat) (v4 : Int32) (v5 : Int32) (v6 : Int32) (σ : Mem), f_X8_clock_54 p1 p2 p3 n v4 v5 v6 σ k = some (r0, σ2) → (∀ (x4 : Int32) (x5 : Int32) (σ1 : Mem), k x4 x5 σ1 = some (r0, σ2) → At X 5 mX8_clock 167 [none, none, none, some (.int p3), some (.int x4), some (.int x5), none, none, none, none] [] σ1 (some (.int r0)) σ2) → At X 5 mX8_clock 54 [some (rf X 8 0), some (.int p1), some (.int p2), some (.int p3), some (.int v4), some (.int v5), some (.int v6), none, none, none] [] σ (some (.int r0)) σ2 := by
  intro n
  induction n with
  | zero =>
    intro v4 v5 v6 σ h
    cases h
  | succ n ih =>
    intro v4 v5 v6 σ h hk
    rw [f_X8_clock_54.eq_2] at h
    refine i_iload dX8_clock_54 rfl ?_
    refine i_bipush (v := 24) dX8_clock_56 (by decide) ?_
    refine r_icmp_ge (tgt := 167) dX8_clock_58 (by decide) h (fun c1 h => ?_) (fun c1 h => ?_)
    · refine At.fewer (ls' := [none, none, none, some (.int p3), some (.int v4), some (.int v5), none, none, none, none]) (And.intro rfl (And.intro rfl (And.intro rfl trivial))) ?_
      exact hk _ _ _ h
    · refine i_aload_n dX8_clock_61 rfl ?_
      refine i_iload_n dX8_clock_62 rfl ?_
      refine i_iconst (v := 1) dX8_clock_63 (by decide) ?_
      refine i_iload dX8_clock_64 rfl ?_
      refine cV_vw dX8_clock_66 cw_X8_76 ci_X8_sets rfl rfl (by decide) (show 0 < 1 by omega) h (fun a1 e => F_X8_sets  e) (Nat.le_of_ble_eq_true rfl) rfl rfl (Nat.le_of_ble_eq_true rfl) (fun a1 ea1 h => ?_)
      refine i_iconst (v := 0) dX8_clock_69 (by decide) ?_
      refine i_istore (ls' := [some (rf X 8 0), some (.int p1), some (.int p2), some (.int p3), some (.int v4), some (.int v5), some (.int v6), some (.int (0 : Int32)), none, none]) dX8_clock_70 (by decide) (okp_at rfl) rfl ?_
      refine i_iconst (v := 0) dX8_clock_72 (by decide) ?_
      refine i_istore (ls' := [some (rf X 8 0), some (.int p1), some (.int p2), some (.int p3), some (.int v4), some (.int v5), some (.int v6), some (.int (0 : Int32)), some (.int (0 : Int32)), none]) dX8_clock_73 (by decide) (okp_at rfl) rfl ?_
      refine L_X8_clock_75  FU _ _ _ h (fun e1 σ_1 h => ?_)
      refine i_aload_n dX8_clock_137 rfl ?_
      refine cV_vw dX8_clock_138 cw_X8_191 ci_X8_laysBack rfl rfl (by decide) (show 0 < 1 by omega) h (fun a2 e => F_X8_laysBack  e) (Nat.le_of_ble_eq_true rfl) rfl rfl (Nat.le_of_ble_eq_true rfl) (fun a2 ea2 h => ?_)
      refine i_iload dX8_clock_141 rfl ?_
      refine r_if_lt (tgt := 153) dX8_clock_143 (by decide) h (fun c2 h => ?_) (fun c2 h => ?_)
      · refine i_iload dX8_clock_153 rfl ?_
        refine i_istore (ls' := [some (rf X 8 0), some (.int p1), some (.int p2), some (.int p3), some (.int v6), some (.int v5), some (.int v6), some (.int e1), none, none]) dX8_clock_155 (by decide) (okp_at rfl) rfl ?_
        refine i_iload dX8_clock_157 rfl ?_
        refine i_istore (ls' := [some (rf X 8 0), some (.int p1), some (.int p2), some (.int p3), some (.int v6), some (.int e1), some (.int v6), some (.int e1), none, none]) dX8_clock_159 (by decide) (okp_at rfl) rfl ?_
        refine i_iinc (v := (v6 + (1 : Int32))) (ls' := [some (rf X 8 0), some (.int p1), some (.int p2), some (.int p3), some (.int v6), some (.int e1), some (.int (v6 + (1 : Int32))), some (.int e1), none, none]) dX8_clock_161 rfl (by rfl) (by decide) (okp_at rfl) rfl ?_
        refine i_goto (tgt := 54) dX8_clock_164 (by decide) ?_
        refine At.fewer (ls' := [some (rf X 8 0), some (.int p1), some (.int p2), some (.int p3), some (.int v6), some (.int e1), some (.int (v6 + (1 : Int32))), none, none, none]) (And.intro rfl (And.intro rfl (And.intro rfl (And.intro rfl (And.intro rfl (And.intro rfl (And.intro rfl trivial))))))) ?_
        exact ih _ _ _ _ h hk
      · refine i_iload dX8_clock_146 rfl ?_
        refine i_iload dX8_clock_148 rfl ?_
        refine r_icmp_ge (tgt := 161) dX8_clock_150 (by decide) h (fun c3 h => ?_) (fun c3 h => ?_)
        · refine i_iinc (v := (v6 + (1 : Int32))) (ls' := [some (rf X 8 0), some (.int p1), some (.int p2), some (.int p3), some (.int v4), some (.int v5), some (.int (v6 + (1 : Int32))), some (.int e1), none, none]) dX8_clock_161 rfl (by rfl) (by decide) (okp_at rfl) rfl ?_
          refine i_goto (tgt := 54) dX8_clock_164 (by decide) ?_
          refine At.fewer (ls' := [some (rf X 8 0), some (.int p1), some (.int p2), some (.int p3), some (.int v4), some (.int v5), some (.int (v6 + (1 : Int32))), none, none, none]) (And.intro rfl (And.intro rfl (And.intro rfl (And.intro rfl (And.intro rfl (And.intro rfl (And.intro rfl trivial))))))) ?_
          exact ih _ _ _ _ h hk
        · refine i_iload dX8_clock_153 rfl ?_
          refine i_istore (ls' := [some (rf X 8 0), some (.int p1), some (.int p2), some (.int p3), some (.int v6), some (.int v5), some (.int v6), some (.int e1), none, none]) dX8_clock_155 (by decide) (okp_at rfl) rfl ?_
          refine i_iload dX8_clock_157 rfl ?_
          refine i_istore (ls' := [some (rf X 8 0), some (.int p1), some (.int p2), some (.int p3), some (.int v6), some (.int e1), some (.int v6), some (.int e1), none, none]) dX8_clock_159 (by decide) (okp_at rfl) rfl ?_
          refine i_iinc (v := (v6 + (1 : Int32))) (ls' := [some (rf X 8 0), some (.int p1), some (.int p2), some (.int p3), some (.int v6), some (.int e1), some (.int (v6 + (1 : Int32))), some (.int e1), none, none]) dX8_clock_161 rfl (by rfl) (by decide) (okp_at rfl) rfl ?_
          refine i_goto (tgt := 54) dX8_clock_164 (by decide) ?_
          refine At.fewer (ls' := [some (rf X 8 0), some (.int p1), some (.int p2), some (.int p3), some (.int v6), some (.int e1), some (.int (v6 + (1 : Int32))), none, none, none]) (And.intro rfl (And.intro rfl (And.intro rfl (And.intro rfl (And.intro rfl (And.intro rfl (And.intro rfl trivial))))))) ?_
          exact ih _ _ _ _ h hk
def f_X8_clock  (p1 : Int32) (p2 : Int32) (p3 : Int32) (σ : Mem) : Option (Int32 × Mem) :=
  (bnd (f_X8_isSheet p1 σ) (fun a1 => (if a1 = 0 then (some ((-1000000001 : Int32), σ)) else (bnd (f_X8_isOne p2 σ) (fun a2 => (if a2 = 0 then (some ((-1000000001 : Int32), σ)) else (bnd (f_X8_isIn ((p3).toInt64) ((0 : Int64)) ((1 : Int64)) σ) (fun a3 => (if a3 = 0 then (some ((-1000000001 : Int32), σ)) else (bnd (ix 4 p1) (fun j1 => (if 0 ≤ (σ 25 0 j1) then (bnd (f_X8_laysBy σ) (fun a4 => (f_X8_clock_54 p1 p2 p3 FU (-1 : Int32) (0 : Int32) (0 : Int32) a4 (fun e1 e2 σ_1 => (if p3 = 0 then (some (e1, σ_1)) else (some (e2, σ_1))))))) else (some ((-1000000011 : Int32), σ))))))))))))))
set_option maxRecDepth 100000 in
set_option maxHeartbeats 4000000 in
theorem F_X8_clock {X : Cx} {p1 : Int32} {p2 : Int32} {p3 : Int32} {σ : Mem} {res : (Int32 × Mem)}  (h : f_X8_clock p1 p2 p3 σ = some res) : Tri X 5 mX8_clock [rf X 8 0, .int p1, .int p2, .int p3] σ (some (.int res.1)) res.2 := by
  obtain ⟨r0, σ2⟩ := res
  unfold f_X8_clock at h
  refine Tri.of (ls := [some (rf X 8 0), some (.int p1), some (.int p2), some (.int p3), none, none, none, none, none, none]) (by decide) (Nat.le_of_ble_eq_true rfl) rfl ?_
  refine i_iload_n dX8_clock_0 rfl ?_
  refine cS_ir dX8_clock_1 cw_X8_298 ci_X8_isSheet h (fun a1 e => F_X8_isSheet  e) (Nat.le_of_ble_eq_true rfl) rfl rfl (Nat.le_of_ble_eq_true rfl) (fun a1 ea1 h => ?_)
  refine r_if_eq (tgt := 25) dX8_clock_4 (by decide) h (fun c1 h => ?_) (fun c1 h => ?_)
  · refine i_ldc (v := (-1000000001)) dX8_clock_25 k_X8_86 ?_
    exact e_iw rfl dX8_clock_27 h
  · refine i_aload_n dX8_clock_7 rfl ?_
    refine i_iload_n dX8_clock_8 rfl ?_
    refine cV_ir dX8_clock_9 cw_X8_112 ci_X8_isOne rfl rfl (by decide) (show 0 < 1 by omega) h (fun a2 e => F_X8_isOne  e) (Nat.le_of_ble_eq_true rfl) rfl rfl (Nat.le_of_ble_eq_true rfl) (fun a2 ea2 h => ?_)
    refine r_if_eq (tgt := 25) dX8_clock_12 (by decide) h (fun c2 h => ?_) (fun c2 h => ?_)
    · refine i_ldc (v := (-1000000001)) dX8_clock_25 k_X8_86 ?_
      exact e_iw rfl dX8_clock_27 h
    · refine i_iload_n dX8_clock_15 rfl ?_
      refine i_i2l dX8_clock_16 ?_
      refine i_lconst (v := 0) dX8_clock_17 (by decide) ?_
      refine i_lconst (v := 1) dX8_clock_18 (by decide) ?_
      refine cS_ir dX8_clock_19 cw_X8_71 ci_X8_isIn h (fun a3 e => F_X8_isIn  e) (Nat.le_of_ble_eq_true rfl) rfl rfl (Nat.le_of_ble_eq_true rfl) (fun a3 ea3 h => ?_)
      refine r_if_ne (tgt := 28) dX8_clock_22 (by decide) h (fun c3 h => ?_) (fun c3 h => ?_)
      · refine i_aload_n dX8_clock_28 rfl ?_
        refine gf_X8_19 rfl (by omega) dX8_clock_29 ?_
        refine i_iload_n dX8_clock_32 rfl ?_
        refine al_25 dX8_clock_33 (by omega) h (fun j1 lj1 h => ?_)
        refine r_if_ge (tgt := 41) dX8_clock_34 (by decide) h (fun c4 h => ?_) (fun c4 h => ?_)
        · refine i_aload_n dX8_clock_41 rfl ?_
          refine cV_vw dX8_clock_42 cw_X8_185 ci_X8_laysBy rfl rfl (by decide) (show 0 < 1 by omega) h (fun a4 e => F_X8_laysBy  e) (Nat.le_of_ble_eq_true rfl) rfl rfl (Nat.le_of_ble_eq_true rfl) (fun a4 ea4 h => ?_)
          refine i_iconst (v := (-1)) dX8_clock_45 (by decide) ?_
          refine i_istore (ls' := [some (rf X 8 0), some (.int p1), some (.int p2), some (.int p3), some (.int (-1 : Int32)), none, none, none, none, none]) dX8_clock_46 (by decide) (okp_at rfl) rfl ?_
          refine i_iconst (v := 0) dX8_clock_48 (by decide) ?_
          refine i_istore (ls' := [some (rf X 8 0), some (.int p1), some (.int p2), some (.int p3), some (.int (-1 : Int32)), some (.int (0 : Int32)), none, none, none, none]) dX8_clock_49 (by decide) (okp_at rfl) rfl ?_
          refine i_iconst (v := 0) dX8_clock_51 (by decide) ?_
          refine i_istore (ls' := [some (rf X 8 0), some (.int p1), some (.int p2), some (.int p3), some (.int (-1 : Int32)), some (.int (0 : Int32)), some (.int (0 : Int32)), none, none, none]) dX8_clock_52 (by decide) (okp_at rfl) rfl ?_
          refine L_X8_clock_54  FU _ _ _ _ h (fun e1 e2 σ_1 h => ?_)
          refine i_iload_n dX8_clock_167 rfl ?_
          refine r_if_ne (tgt := 176) dX8_clock_168 (by decide) h (fun c5 h => ?_) (fun c5 h => ?_)
          · refine i_iload dX8_clock_176 rfl ?_
            exact e_iw rfl dX8_clock_178 h
          · refine i_iload dX8_clock_171 rfl ?_
            refine i_goto (tgt := 178) dX8_clock_173 (by decide) ?_
            exact e_iw rfl dX8_clock_178 h
        · refine i_ldcw (v := (-1000000011)) dX8_clock_37 k_X8_304 ?_
          exact e_iw rfl dX8_clock_40 h
      · refine i_ldc (v := (-1000000001)) dX8_clock_25 k_X8_86 ?_
        exact e_iw rfl dX8_clock_27 h
def f_X8_copy_113 (p1 : Int32) (p2 : Int32) (p3 : Int32) (p4 : Int32) (p5 : Int32) : Nat → Int32 → Mem → (Mem → Option (Int32 × Mem)) → Option (Int32 × Mem)
  | 0, _, _, _ => none
  | n + 1, v6, σ, k =>
    (if p5 ≤ v6 then (k σ) else (bnd (ix 96 ((((24 : Int32) * p1) + p2) + v6)) (fun j1 => (bnd (ix 24 v6) (fun j2 => (f_X8_copy_113 p1 p2 p3 p4 p5 n (v6 + (1 : Int32)) (mput σ 39 0 j2 (σ 27 0 j1)) k))))))
set_option maxRecDepth 100000 in
set_option maxHeartbeats 4000000 in
theorem L_X8_copy_113 {X : Cx} {p1 : Int32} {p2 : Int32} {p3 : Int32} {p4 : Int32} {p5 : Int32} {r0 : Int32} {σ2 : Mem} {k : Mem → Option (Int32 × Mem)}  : ∀ (n : Nat) (v6 : Int32) (σ : Mem), f_X8_copy_113 p1 p2 p3 p4 p5 n v6 σ k = some (r0, σ2) → (∀ (σ1 : Mem), k σ1 = some (r0, σ2) → At X 3 mX8_copy 147 [some (rf X 8 0), none, none, some (.int p3), some (.int p4), some (.int p5), none] [] σ1 (some (.int r0)) σ2) → At X 3 mX8_copy 113 [some (rf X 8 0), some (.int p1), some (.int p2), some (.int p3), some (.int p4), some (.int p5), some (.int v6)] [] σ (some (.int r0)) σ2 := by
  intro n
  induction n with
  | zero =>
    intro v6 σ h
    cases h
  | succ n ih =>
    intro v6 σ h hk
    rw [f_X8_copy_113.eq_2] at h
    refine i_iload dX8_copy_113 rfl ?_
    refine i_iload dX8_copy_115 rfl ?_
    refine r_icmp_ge (tgt := 147) dX8_copy_117 (by decide) h (fun c1 h => ?_) (fun c1 h => ?_)
    · refine At.fewer (ls' := [some (rf X 8 0), none, none, some (.int p3), some (.int p4), some (.int p5), none]) (And.intro rfl (And.intro rfl (And.intro rfl (And.intro rfl trivial)))) ?_
      exact hk _ h
    · refine i_aload_n dX8_copy_120 rfl ?_
      refine gf_X8_61 rfl (by omega) dX8_copy_121 ?_
      refine i_iload dX8_copy_124 rfl ?_
      refine i_aload_n dX8_copy_126 rfl ?_
      refine gf_X8_25 rfl (by omega) dX8_copy_127 ?_
      refine i_bipush (v := 24) dX8_copy_130 (by decide) ?_
      refine i_iload_n dX8_copy_132 rfl ?_
      refine i_imul dX8_copy_133 ?_
      refine i_iload_n dX8_copy_134 rfl ?_
      refine i_iadd dX8_copy_135 ?_
      refine i_iload dX8_copy_136 rfl ?_
      refine i_iadd dX8_copy_138 ?_
      refine al_27 dX8_copy_139 (by omega) h (fun j1 lj1 h => ?_)
      refine as_39 dX8_copy_140 (by omega) h (fun j2 lj2 h => ?_)
      refine i_iinc (v := (v6 + (1 : Int32))) (ls' := [some (rf X 8 0), some (.int p1), some (.int p2), some (.int p3), some (.int p4), some (.int p5), some (.int (v6 + (1 : Int32)))]) dX8_copy_141 rfl (by rfl) (by decide) (okp_at rfl) rfl ?_
      refine i_goto (tgt := 113) dX8_copy_144 (by decide) ?_
      exact ih _ _ h hk
def f_X8_copy_150 (p3 : Int32) (p4 : Int32) (p5 : Int32) : Nat → Int32 → Mem → (Mem → Option (Int32 × Mem)) → Option (Int32 × Mem)
  | 0, _, _, _ => none
  | n + 1, v6, σ, k =>
    (if p5 ≤ v6 then (k σ) else (bnd (ix 24 v6) (fun j1 => (bnd (ix 96 ((((24 : Int32) * p3) + p4) + v6)) (fun j2 => (f_X8_copy_150 p3 p4 p5 n (v6 + (1 : Int32)) (mput σ 27 0 j2 (σ 39 0 j1)) k))))))
set_option maxRecDepth 100000 in
set_option maxHeartbeats 4000000 in
theorem L_X8_copy_150 {X : Cx} {p3 : Int32} {p4 : Int32} {p5 : Int32} {r0 : Int32} {σ2 : Mem} {k : Mem → Option (Int32 × Mem)}  : ∀ (n : Nat) (v6 : Int32) (σ : Mem), f_X8_copy_150 p3 p4 p5 n v6 σ k = some (r0, σ2) → (∀ (σ1 : Mem), k σ1 = some (r0, σ2) → At X 3 mX8_copy 185 [none, none, none, none, none, some (.int p5), none] [] σ1 (some (.int r0)) σ2) → At X 3 mX8_copy 150 [some (rf X 8 0), none, none, some (.int p3), some (.int p4), some (.int p5), some (.int v6)] [] σ (some (.int r0)) σ2 := by
  intro n
  induction n with
  | zero =>
    intro v6 σ h
    cases h
  | succ n ih =>
    intro v6 σ h hk
    rw [f_X8_copy_150.eq_2] at h
    refine i_iload dX8_copy_150 rfl ?_
    refine i_iload dX8_copy_152 rfl ?_
    refine r_icmp_ge (tgt := 185) dX8_copy_154 (by decide) h (fun c1 h => ?_) (fun c1 h => ?_)
    · refine At.fewer (ls' := [none, none, none, none, none, some (.int p5), none]) (And.intro rfl trivial) ?_
      exact hk _ h
    · refine i_aload_n dX8_copy_157 rfl ?_
      refine gf_X8_25 rfl (by omega) dX8_copy_158 ?_
      refine i_bipush (v := 24) dX8_copy_161 (by decide) ?_
      refine i_iload_n dX8_copy_163 rfl ?_
      refine i_imul dX8_copy_164 ?_
      refine i_iload dX8_copy_165 rfl ?_
      refine i_iadd dX8_copy_167 ?_
      refine i_iload dX8_copy_168 rfl ?_
      refine i_iadd dX8_copy_170 ?_
      refine i_aload_n dX8_copy_171 rfl ?_
      refine gf_X8_61 rfl (by omega) dX8_copy_172 ?_
      refine i_iload dX8_copy_175 rfl ?_
      refine al_39 dX8_copy_177 (by omega) h (fun j1 lj1 h => ?_)
      refine as_27 dX8_copy_178 (by omega) h (fun j2 lj2 h => ?_)
      refine i_iinc (v := (v6 + (1 : Int32))) (ls' := [some (rf X 8 0), none, none, some (.int p3), some (.int p4), some (.int p5), some (.int (v6 + (1 : Int32)))]) dX8_copy_179 rfl (by rfl) (by decide) (okp_at rfl) rfl ?_
      refine i_goto (tgt := 150) dX8_copy_182 (by decide) ?_
      exact ih _ _ h hk
def f_X8_copy  (p1 : Int32) (p2 : Int32) (p3 : Int32) (p4 : Int32) (p5 : Int32) (σ : Mem) : Option (Int32 × Mem) :=
  (bnd (f_X8_isSheet p1 σ) (fun a1 => (if a1 = 0 then (some ((-1000000001 : Int32), σ)) else (bnd (f_X8_isSheet p3 σ) (fun a2 => (if a2 = 0 then (some ((-1000000001 : Int32), σ)) else (bnd (ix 4 p1) (fun j1 => (if (σ 25 0 j1) < 0 then (some ((-1000000011 : Int32), σ)) else (bnd (ix 4 p3) (fun j2 => (if 0 ≤ (σ 25 0 j2) then (bnd (ix 4 p1) (fun j3 => (bnd (ix 4 p3) (fun j4 => (if (σ 25 0 j3) = (σ 25 0 j4) then (if p2 < 0 then (some ((-1000000013 : Int32), σ)) else (if p4 < 0 then (some ((-1000000013 : Int32), σ)) else (if p5 < 0 then (some ((-1000000013 : Int32), σ)) else (bnd (ix 4 p1) (fun j5 => (if 0 < (lg_cmp ((p2).toInt64 + (p5).toInt64) ((σ 26 0 j5)).toInt64) then (some ((-1000000013 : Int32), σ)) else (bnd (ix 4 p3) (fun j6 => (if (lg_cmp ((p4).toInt64 + (p5).toInt64) ((σ 26 0 j6)).toInt64) ≤ 0 then (f_X8_copy_113 p1 p2 p3 p4 p5 FU (0 : Int32) σ (fun σ_1 => (f_X8_copy_150 p3 p4 p5 FU (0 : Int32) σ_1 (fun σ_2 => (some (p5, σ_2)))))) else (some ((-1000000013 : Int32), σ))))))))))) else (some ((-1000000012 : Int32), σ))))))) else (some ((-1000000011 : Int32), σ))))))))))))))
set_option maxRecDepth 100000 in
set_option maxHeartbeats 4000000 in
theorem F_X8_copy {X : Cx} {p1 : Int32} {p2 : Int32} {p3 : Int32} {p4 : Int32} {p5 : Int32} {σ : Mem} {res : (Int32 × Mem)}  (h : f_X8_copy p1 p2 p3 p4 p5 σ = some res) : Tri X 3 mX8_copy [rf X 8 0, .int p1, .int p2, .int p3, .int p4, .int p5] σ (some (.int res.1)) res.2 := by
  obtain ⟨r0, σ2⟩ := res
  unfold f_X8_copy at h
  refine Tri.of (ls := [some (rf X 8 0), some (.int p1), some (.int p2), some (.int p3), some (.int p4), some (.int p5), none]) (by decide) (Nat.le_of_ble_eq_true rfl) rfl ?_
  refine i_iload_n dX8_copy_0 rfl ?_
  refine cS_ir dX8_copy_1 cw_X8_298 ci_X8_isSheet h (fun a1 e => F_X8_isSheet  e) (Nat.le_of_ble_eq_true rfl) rfl rfl (Nat.le_of_ble_eq_true rfl) (fun a1 ea1 h => ?_)
  refine r_if_eq (tgt := 14) dX8_copy_4 (by decide) h (fun c1 h => ?_) (fun c1 h => ?_)
  · refine i_ldc (v := (-1000000001)) dX8_copy_14 k_X8_86 ?_
    exact e_iw rfl dX8_copy_16 h
  · refine i_iload_n dX8_copy_7 rfl ?_
    refine cS_ir dX8_copy_8 cw_X8_298 ci_X8_isSheet h (fun a2 e => F_X8_isSheet  e) (Nat.le_of_ble_eq_true rfl) rfl rfl (Nat.le_of_ble_eq_true rfl) (fun a2 ea2 h => ?_)
    refine r_if_ne (tgt := 17) dX8_copy_11 (by decide) h (fun c2 h => ?_) (fun c2 h => ?_)
    · refine i_aload_n dX8_copy_17 rfl ?_
      refine gf_X8_19 rfl (by omega) dX8_copy_18 ?_
      refine i_iload_n dX8_copy_21 rfl ?_
      refine al_25 dX8_copy_22 (by omega) h (fun j1 lj1 h => ?_)
      refine r_if_lt (tgt := 35) dX8_copy_23 (by decide) h (fun c3 h => ?_) (fun c3 h => ?_)
      · refine i_ldcw (v := (-1000000011)) dX8_copy_35 k_X8_304 ?_
        exact e_iw rfl dX8_copy_38 h
      · refine i_aload_n dX8_copy_26 rfl ?_
        refine gf_X8_19 rfl (by omega) dX8_copy_27 ?_
        refine i_iload_n dX8_copy_30 rfl ?_
        refine al_25 dX8_copy_31 (by omega) h (fun j2 lj2 h => ?_)
        refine r_if_ge (tgt := 39) dX8_copy_32 (by decide) h (fun c4 h => ?_) (fun c4 h => ?_)
        · refine i_aload_n dX8_copy_39 rfl ?_
          refine gf_X8_19 rfl (by omega) dX8_copy_40 ?_
          refine i_iload_n dX8_copy_43 rfl ?_
          refine al_25 dX8_copy_44 (by omega) h (fun j3 lj3 h => ?_)
          refine i_aload_n dX8_copy_45 rfl ?_
          refine gf_X8_19 rfl (by omega) dX8_copy_46 ?_
          refine i_iload_n dX8_copy_49 rfl ?_
          refine al_25 dX8_copy_50 (by omega) h (fun j4 lj4 h => ?_)
          refine r_icmp_eq (tgt := 57) dX8_copy_51 (by decide) h (fun c5 h => ?_) (fun c5 h => ?_)
          · refine i_iload_n dX8_copy_57 rfl ?_
            refine r_if_lt (tgt := 106) dX8_copy_58 (by decide) h (fun c6 h => ?_) (fun c6 h => ?_)
            · refine i_ldcw (v := (-1000000013)) dX8_copy_106 k_X8_305 ?_
              exact e_iw rfl dX8_copy_109 h
            · refine i_iload dX8_copy_61 rfl ?_
              refine r_if_lt (tgt := 106) dX8_copy_63 (by decide) h (fun c7 h => ?_) (fun c7 h => ?_)
              · refine i_ldcw (v := (-1000000013)) dX8_copy_106 k_X8_305 ?_
                exact e_iw rfl dX8_copy_109 h
              · refine i_iload dX8_copy_66 rfl ?_
                refine r_if_lt (tgt := 106) dX8_copy_68 (by decide) h (fun c8 h => ?_) (fun c8 h => ?_)
                · refine i_ldcw (v := (-1000000013)) dX8_copy_106 k_X8_305 ?_
                  exact e_iw rfl dX8_copy_109 h
                · refine i_iload_n dX8_copy_71 rfl ?_
                  refine i_i2l dX8_copy_72 ?_
                  refine i_iload dX8_copy_73 rfl ?_
                  refine i_i2l dX8_copy_75 ?_
                  refine i_ladd dX8_copy_76 ?_
                  refine i_aload_n dX8_copy_77 rfl ?_
                  refine gf_X8_22 rfl (by omega) dX8_copy_78 ?_
                  refine i_iload_n dX8_copy_81 rfl ?_
                  refine al_26 dX8_copy_82 (by omega) h (fun j5 lj5 h => ?_)
                  refine i_i2l dX8_copy_83 ?_
                  refine i_lcmp dX8_copy_84 ?_
                  refine r_if_gt (tgt := 106) dX8_copy_85 (by decide) h (fun c9 h => ?_) (fun c9 h => ?_)
                  · refine i_ldcw (v := (-1000000013)) dX8_copy_106 k_X8_305 ?_
                    exact e_iw rfl dX8_copy_109 h
                  · refine i_iload dX8_copy_88 rfl ?_
                    refine i_i2l dX8_copy_90 ?_
                    refine i_iload dX8_copy_91 rfl ?_
                    refine i_i2l dX8_copy_93 ?_
                    refine i_ladd dX8_copy_94 ?_
                    refine i_aload_n dX8_copy_95 rfl ?_
                    refine gf_X8_22 rfl (by omega) dX8_copy_96 ?_
                    refine i_iload_n dX8_copy_99 rfl ?_
                    refine al_26 dX8_copy_100 (by omega) h (fun j6 lj6 h => ?_)
                    refine i_i2l dX8_copy_101 ?_
                    refine i_lcmp dX8_copy_102 ?_
                    refine r_if_le (tgt := 110) dX8_copy_103 (by decide) h (fun c10 h => ?_) (fun c10 h => ?_)
                    · refine i_iconst (v := 0) dX8_copy_110 (by decide) ?_
                      refine i_istore (ls' := [some (rf X 8 0), some (.int p1), some (.int p2), some (.int p3), some (.int p4), some (.int p5), some (.int (0 : Int32))]) dX8_copy_111 (by decide) (okp_at rfl) rfl ?_
                      refine L_X8_copy_113  FU _ _ h (fun σ_1 h => ?_)
                      refine i_iconst (v := 0) dX8_copy_147 (by decide) ?_
                      refine i_istore (ls' := [some (rf X 8 0), none, none, some (.int p3), some (.int p4), some (.int p5), some (.int (0 : Int32))]) dX8_copy_148 (by decide) (okp_at rfl) rfl ?_
                      refine L_X8_copy_150  FU _ _ h (fun σ_2 h => ?_)
                      refine i_iload dX8_copy_185 rfl ?_
                      exact e_iw rfl dX8_copy_187 h
                    · refine i_ldcw (v := (-1000000013)) dX8_copy_106 k_X8_305 ?_
                      exact e_iw rfl dX8_copy_109 h
          · refine i_ldc (v := (-1000000012)) dX8_copy_54 k_X8_129 ?_
            exact e_iw rfl dX8_copy_56 h
        · refine i_ldcw (v := (-1000000011)) dX8_copy_35 k_X8_304 ?_
          exact e_iw rfl dX8_copy_38 h
    · refine i_ldc (v := (-1000000001)) dX8_copy_14 k_X8_86 ?_
      exact e_iw rfl dX8_copy_16 h
def f_X8_isSlot  (p0 : Int32) (σ : Mem) : Option Int32 :=
  (bnd (f_X8_isIn ((p0).toInt64) ((0 : Int64)) ((4 : Int64)) σ) (fun a1 => (if isB a1 = true then (some a1) else none)))
set_option maxRecDepth 100000 in
set_option maxHeartbeats 4000000 in
theorem F_X8_isSlot {X : Cx} {p0 : Int32} {σ : Mem} {res : Int32}  (h : f_X8_isSlot p0 σ = some res) : Tri X 2 mX8_isSlot [.int p0] σ (some (.int res)) σ := by
  unfold f_X8_isSlot at h
  refine Tri.of (ls := [some (.int p0)]) (by decide) (Nat.le_of_ble_eq_true rfl) rfl ?_
  refine i_iload_n dX8_isSlot_0 rfl ?_
  refine i_i2l dX8_isSlot_1 ?_
  refine i_lconst (v := 0) dX8_isSlot_2 (by decide) ?_
  refine i_ldc2 (v := 4) dX8_isSlot_3 k_X8_313 ?_
  refine cS_ir dX8_isSlot_6 cw_X8_71 ci_X8_isIn h (fun a1 e => F_X8_isIn  e) (Nat.le_of_ble_eq_true rfl) rfl rfl (Nat.le_of_ble_eq_true rfl) (fun a1 ea1 h => ?_)
  exact e_br rfl dX8_isSlot_9 h
end
