def f_X8_trust_37 (p1 : Int32) (p2 : Int32) : Nat → Int32 → Int32 → Int32 → Mem → (Int32 → Int32 → Mem → Option (Int32 × Mem)) → Option (Int32 × Mem)
  | 0, _, _, _, _, _ => none
  | n + 1, v3, v4, v5, σ, k =>
    (bnd (ix 3108 (0 : Int32)) (fun j1 => (if (σ 22 0 j1) ≤ v5 then (k v3 v4 σ) else (bnd (f_X8_sets v5 (2 : Int32) (99 : Int32) σ) (fun a1 => (bnd (f_X8_goesOnMany p1 a1) (fun a2 => (bnd (ix 3108 (3 : Int32)) (fun j2 => (bnd (f_X8_laysBack a2) (fun a3 => (if (a2 22 0 j2) ≤ v4 then (if (a2 22 0 j2) ≤ v4 then (f_X8_trust_37 p1 p2 n v3 v4 (v5 + (1 : Int32)) a3 k) else (f_X8_trust_37 p1 p2 n v3 (a2 22 0 j2) (v5 + (1 : Int32)) a3 k)) else (if (a2 22 0 j2) ≤ v4 then (f_X8_trust_37 p1 p2 n v5 v4 (v5 + (1 : Int32)) a3 k) else (f_X8_trust_37 p1 p2 n v5 (a2 22 0 j2) (v5 + (1 : Int32)) a3 k))))))))))))))
set_option maxRecDepth 100000 in
set_option maxHeartbeats 4000000 in
theorem L_X8_trust_37 {X : Cx} {p1 : Int32} {p2 : Int32} {r0 : Int32} {σ2 : Mem} {k : Int32 → Int32 → Mem → Option (Int32 × Mem)}  : ∀ (n : Nat) (v3 : Int32) (v4 : Int32) (v5 : Int32) (σ : Mem), f_X8_trust_37 p1 p2 n v3 v4 v5 σ k = some (r0, σ2) → (∀ (x3 : Int32) (x4 : Int32) (σ1 : Mem), k x3 x4 σ1 = some (r0, σ2) → At X 6 mX8_trust 110 [none, none, some (.int p2), some (.int x3), some (.int x4), none, none] [] σ1 (some (.int r0)) σ2) → At X 6 mX8_trust 37 [some (rf X 8 0), some (.int p1), some (.int p2), some (.int v3), some (.int v4), some (.int v5), none] [] σ (some (.int r0)) σ2 := by
  intro n
  induction n with
  | zero =>
    intro v3 v4 v5 σ h
    cases h
  | succ n ih =>
    intro v3 v4 v5 σ h hk
    rw [f_X8_trust_37.eq_2] at h
    refine i_iload dX8_trust_37 rfl ?_
    refine i_aload_n dX8_trust_39 rfl ?_
    refine gf_X8_7 rfl (by omega) dX8_trust_40 ?_
    refine i_iconst (v := 0) dX8_trust_43 (by decide) ?_
    refine al_22 dX8_trust_44 (by omega) h (fun j1 lj1 h => ?_)
    refine r_icmp_ge (tgt := 110) dX8_trust_45 (by decide) h (fun c1 h => ?_) (fun c1 h => ?_)
    · refine At.fewer (ls' := [none, none, some (.int p2), some (.int v3), some (.int v4), none, none]) (And.intro rfl (And.intro rfl (And.intro rfl trivial))) ?_
      exact hk _ _ _ h
    · refine i_aload_n dX8_trust_48 rfl ?_
      refine i_iload dX8_trust_49 rfl ?_
      refine i_iconst (v := 2) dX8_trust_51 (by decide) ?_
      refine i_bipush (v := 99) dX8_trust_52 (by decide) ?_
      refine cV_vw dX8_trust_54 cw_X8_76 ci_X8_sets rfl rfl (by decide) (show 0 < 1 by omega) h (fun a1 e => F_X8_sets  e) (Nat.le_of_ble_eq_true rfl) rfl rfl (Nat.le_of_ble_eq_true rfl) (fun a1 ea1 h => ?_)
      refine i_aload_n dX8_trust_57 rfl ?_
      refine i_iload_n dX8_trust_58 rfl ?_
      refine cV_vw dX8_trust_59 cw_X8_188 ci_X8_goesOnMany rfl rfl (by decide) (show 0 < 1 by omega) h (fun a2 e => F_X8_goesOnMany  e) (Nat.le_of_ble_eq_true rfl) rfl rfl (Nat.le_of_ble_eq_true rfl) (fun a2 ea2 h => ?_)
      refine i_aload_n dX8_trust_62 rfl ?_
      refine gf_X8_7 rfl (by omega) dX8_trust_63 ?_
      refine i_iconst (v := 3) dX8_trust_66 (by decide) ?_
      refine al_22 dX8_trust_67 (by omega) h (fun j2 lj2 h => ?_)
      refine i_istore (ls' := [some (rf X 8 0), some (.int p1), some (.int p2), some (.int v3), some (.int v4), some (.int v5), some (.int (a2 22 0 j2))]) dX8_trust_68 (by decide) (okp_at rfl) rfl ?_
      refine i_aload_n dX8_trust_70 rfl ?_
      refine cV_vw dX8_trust_71 cw_X8_191 ci_X8_laysBack rfl rfl (by decide) (show 0 < 1 by omega) h (fun a3 e => F_X8_laysBack  e) (Nat.le_of_ble_eq_true rfl) rfl rfl (Nat.le_of_ble_eq_true rfl) (fun a3 ea3 h => ?_)
      refine i_iload dX8_trust_74 rfl ?_
      refine i_iload dX8_trust_76 rfl ?_
      refine r_icmp_le (tgt := 86) dX8_trust_78 (by decide) h (fun c2 h => ?_) (fun c2 h => ?_)
      · refine i_iload_n dX8_trust_86 rfl ?_
        refine i_istore_n (ls' := [some (rf X 8 0), some (.int p1), some (.int p2), some (.int v3), some (.int v4), some (.int v5), some (.int (a2 22 0 j2))]) dX8_trust_87 (by decide) (okp_at rfl) rfl ?_
        refine i_iload dX8_trust_88 rfl ?_
        refine i_iload dX8_trust_90 rfl ?_
        refine r_icmp_le (tgt := 100) dX8_trust_92 (by decide) h (fun c3 h => ?_) (fun c3 h => ?_)
        · refine i_iload dX8_trust_100 rfl ?_
          refine i_istore (ls' := [some (rf X 8 0), some (.int p1), some (.int p2), some (.int v3), some (.int v4), some (.int v5), some (.int (a2 22 0 j2))]) dX8_trust_102 (by decide) (okp_at rfl) rfl ?_
          refine i_iinc (v := (v5 + (1 : Int32))) (ls' := [some (rf X 8 0), some (.int p1), some (.int p2), some (.int v3), some (.int v4), some (.int (v5 + (1 : Int32))), some (.int (a2 22 0 j2))]) dX8_trust_104 rfl (by rfl) (by decide) (okp_at rfl) rfl ?_
          refine i_goto (tgt := 37) dX8_trust_107 (by decide) ?_
          refine At.fewer (ls' := [some (rf X 8 0), some (.int p1), some (.int p2), some (.int v3), some (.int v4), some (.int (v5 + (1 : Int32))), none]) (And.intro rfl (And.intro rfl (And.intro rfl (And.intro rfl (And.intro rfl (And.intro rfl trivial)))))) ?_
          exact ih _ _ _ _ h hk
        · refine i_iload dX8_trust_95 rfl ?_
          refine i_goto (tgt := 102) dX8_trust_97 (by decide) ?_
          refine i_istore (ls' := [some (rf X 8 0), some (.int p1), some (.int p2), some (.int v3), some (.int (a2 22 0 j2)), some (.int v5), some (.int (a2 22 0 j2))]) dX8_trust_102 (by decide) (okp_at rfl) rfl ?_
          refine i_iinc (v := (v5 + (1 : Int32))) (ls' := [some (rf X 8 0), some (.int p1), some (.int p2), some (.int v3), some (.int (a2 22 0 j2)), some (.int (v5 + (1 : Int32))), some (.int (a2 22 0 j2))]) dX8_trust_104 rfl (by rfl) (by decide) (okp_at rfl) rfl ?_
          refine i_goto (tgt := 37) dX8_trust_107 (by decide) ?_
          refine At.fewer (ls' := [some (rf X 8 0), some (.int p1), some (.int p2), some (.int v3), some (.int (a2 22 0 j2)), some (.int (v5 + (1 : Int32))), none]) (And.intro rfl (And.intro rfl (And.intro rfl (And.intro rfl (And.intro rfl (And.intro rfl trivial)))))) ?_
          exact ih _ _ _ _ h hk
      · refine i_iload dX8_trust_81 rfl ?_
        refine i_goto (tgt := 87) dX8_trust_83 (by decide) ?_
        refine i_istore_n (ls' := [some (rf X 8 0), some (.int p1), some (.int p2), some (.int v5), some (.int v4), some (.int v5), some (.int (a2 22 0 j2))]) dX8_trust_87 (by decide) (okp_at rfl) rfl ?_
        refine i_iload dX8_trust_88 rfl ?_
        refine i_iload dX8_trust_90 rfl ?_
        refine r_icmp_le (tgt := 100) dX8_trust_92 (by decide) h (fun c4 h => ?_) (fun c4 h => ?_)
        · refine i_iload dX8_trust_100 rfl ?_
          refine i_istore (ls' := [some (rf X 8 0), some (.int p1), some (.int p2), some (.int v5), some (.int v4), some (.int v5), some (.int (a2 22 0 j2))]) dX8_trust_102 (by decide) (okp_at rfl) rfl ?_
          refine i_iinc (v := (v5 + (1 : Int32))) (ls' := [some (rf X 8 0), some (.int p1), some (.int p2), some (.int v5), some (.int v4), some (.int (v5 + (1 : Int32))), some (.int (a2 22 0 j2))]) dX8_trust_104 rfl (by rfl) (by decide) (okp_at rfl) rfl ?_
          refine i_goto (tgt := 37) dX8_trust_107 (by decide) ?_
          refine At.fewer (ls' := [some (rf X 8 0), some (.int p1), some (.int p2), some (.int v5), some (.int v4), some (.int (v5 + (1 : Int32))), none]) (And.intro rfl (And.intro rfl (And.intro rfl (And.intro rfl (And.intro rfl (And.intro rfl trivial)))))) ?_
          exact ih _ _ _ _ h hk
        · refine i_iload dX8_trust_95 rfl ?_
          refine i_goto (tgt := 102) dX8_trust_97 (by decide) ?_
          refine i_istore (ls' := [some (rf X 8 0), some (.int p1), some (.int p2), some (.int v5), some (.int (a2 22 0 j2)), some (.int v5), some (.int (a2 22 0 j2))]) dX8_trust_102 (by decide) (okp_at rfl) rfl ?_
          refine i_iinc (v := (v5 + (1 : Int32))) (ls' := [some (rf X 8 0), some (.int p1), some (.int p2), some (.int v5), some (.int (a2 22 0 j2)), some (.int (v5 + (1 : Int32))), some (.int (a2 22 0 j2))]) dX8_trust_104 rfl (by rfl) (by decide) (okp_at rfl) rfl ?_
          refine i_goto (tgt := 37) dX8_trust_107 (by decide) ?_
          refine At.fewer (ls' := [some (rf X 8 0), some (.int p1), some (.int p2), some (.int v5), some (.int (a2 22 0 j2)), some (.int (v5 + (1 : Int32))), none]) (And.intro rfl (And.intro rfl (And.intro rfl (And.intro rfl (And.intro rfl (And.intro rfl trivial)))))) ?_
          exact ih _ _ _ _ h hk
def f_X8_trust  (p1 : Int32) (p2 : Int32) (σ : Mem) : Option (Int32 × Mem) :=
  (bnd (f_X8_isIn ((p1).toInt64) ((1 : Int64)) ((60 : Int64)) σ) (fun a1 => (if a1 = 0 then (some ((-1000000001 : Int32), σ)) else (bnd (f_X8_isIn ((p2).toInt64) ((0 : Int64)) ((1 : Int64)) σ) (fun a2 => (if a2 = 0 then (some ((-1000000001 : Int32), σ)) else (bnd (f_X8_laysBy σ) (fun a3 => (f_X8_trust_37 p1 p2 FU (-1 : Int32) (-1 : Int32) (0 : Int32) a3 (fun e1 e2 σ_1 => (if 0 ≤ e1 then (if p2 = 0 then (some (e1, σ_1)) else (some (e2, σ_1))) else (some ((-1000000005 : Int32), σ_1)))))))))))))
set_option maxRecDepth 100000 in
set_option maxHeartbeats 4000000 in
theorem F_X8_trust {X : Cx} {p1 : Int32} {p2 : Int32} {σ : Mem} {res : (Int32 × Mem)}  (h : f_X8_trust p1 p2 σ = some res) : Tri X 6 mX8_trust [rf X 8 0, .int p1, .int p2] σ (some (.int res.1)) res.2 := by
  obtain ⟨r0, σ2⟩ := res
  unfold f_X8_trust at h
  refine Tri.of (ls := [some (rf X 8 0), some (.int p1), some (.int p2), none, none, none, none]) (by decide) (Nat.le_of_ble_eq_true rfl) rfl ?_
  refine i_iload_n dX8_trust_0 rfl ?_
  refine i_i2l dX8_trust_1 ?_
  refine i_lconst (v := 1) dX8_trust_2 (by decide) ?_
  refine i_ldc2 (v := 60) dX8_trust_3 k_X8_199 ?_
  refine cS_ir dX8_trust_6 cw_X8_71 ci_X8_isIn h (fun a1 e => F_X8_isIn  e) (Nat.le_of_ble_eq_true rfl) rfl rfl (Nat.le_of_ble_eq_true rfl) (fun a1 ea1 h => ?_)
  refine r_if_eq (tgt := 22) dX8_trust_9 (by decide) h (fun c1 h => ?_) (fun c1 h => ?_)
  · refine i_ldc (v := (-1000000001)) dX8_trust_22 k_X8_86 ?_
    exact e_iw rfl dX8_trust_24 h
  · refine i_iload_n dX8_trust_12 rfl ?_
    refine i_i2l dX8_trust_13 ?_
    refine i_lconst (v := 0) dX8_trust_14 (by decide) ?_
    refine i_lconst (v := 1) dX8_trust_15 (by decide) ?_
    refine cS_ir dX8_trust_16 cw_X8_71 ci_X8_isIn h (fun a2 e => F_X8_isIn  e) (Nat.le_of_ble_eq_true rfl) rfl rfl (Nat.le_of_ble_eq_true rfl) (fun a2 ea2 h => ?_)
    refine r_if_ne (tgt := 25) dX8_trust_19 (by decide) h (fun c2 h => ?_) (fun c2 h => ?_)
    · refine i_aload_n dX8_trust_25 rfl ?_
      refine cV_vw dX8_trust_26 cw_X8_185 ci_X8_laysBy rfl rfl (by decide) (show 0 < 1 by omega) h (fun a3 e => F_X8_laysBy  e) (Nat.le_of_ble_eq_true rfl) rfl rfl (Nat.le_of_ble_eq_true rfl) (fun a3 ea3 h => ?_)
      refine i_iconst (v := (-1)) dX8_trust_29 (by decide) ?_
      refine i_istore_n (ls' := [some (rf X 8 0), some (.int p1), some (.int p2), some (.int (-1 : Int32)), none, none, none]) dX8_trust_30 (by decide) (okp_at rfl) rfl ?_
      refine i_iconst (v := (-1)) dX8_trust_31 (by decide) ?_
      refine i_istore (ls' := [some (rf X 8 0), some (.int p1), some (.int p2), some (.int (-1 : Int32)), some (.int (-1 : Int32)), none, none]) dX8_trust_32 (by decide) (okp_at rfl) rfl ?_
      refine i_iconst (v := 0) dX8_trust_34 (by decide) ?_
      refine i_istore (ls' := [some (rf X 8 0), some (.int p1), some (.int p2), some (.int (-1 : Int32)), some (.int (-1 : Int32)), some (.int (0 : Int32)), none]) dX8_trust_35 (by decide) (okp_at rfl) rfl ?_
      refine L_X8_trust_37  FU _ _ _ _ h (fun e1 e2 σ_1 h => ?_)
      refine i_iload_n dX8_trust_110 rfl ?_
      refine r_if_ge (tgt := 119) dX8_trust_111 (by decide) h (fun c3 h => ?_) (fun c3 h => ?_)
      · refine i_iload_n dX8_trust_119 rfl ?_
        refine r_if_ne (tgt := 127) dX8_trust_120 (by decide) h (fun c4 h => ?_) (fun c4 h => ?_)
        · refine i_iload dX8_trust_127 rfl ?_
          exact e_iw rfl dX8_trust_129 h
        · refine i_iload_n dX8_trust_123 rfl ?_
          refine i_goto (tgt := 129) dX8_trust_124 (by decide) ?_
          exact e_iw rfl dX8_trust_129 h
      · refine i_ldc (v := (-1000000005)) dX8_trust_114 k_X8_70 ?_
        refine i_goto (tgt := 129) dX8_trust_116 (by decide) ?_
        exact e_iw rfl dX8_trust_129 h
    · refine i_ldc (v := (-1000000001)) dX8_trust_22 k_X8_86 ?_
      exact e_iw rfl dX8_trust_24 h
def f_X8_debtor_42 (p2 : Int32) (σ : Mem) : Nat → Int32 → Int32 → Int32 → (Int32 → Int32 → Option (Int32 × Mem)) → Option (Int32 × Mem)
  | 0, _, _, _, _ => none
  | n + 1, v3, v4, v5, k =>
    (bnd (ix 3108 (0 : Int32)) (fun j1 => (if (σ 22 0 j1) ≤ v5 then (k v3 v4) else (bnd (ix 108 (((7 : Int32) + ((5 : Int32) * v5)) + (3 : Int32))) (fun j2 => (bnd (f_X8_of v5 (3 : Int32) σ) (fun a1 => (if v3 < 0 then (f_X8_debtor_42 p2 σ n v5 ((σ 35 0 j2) - a1) (v5 + (1 : Int32)) k) else (if ((σ 35 0 j2) - a1) ≤ v4 then (f_X8_debtor_42 p2 σ n v3 v4 (v5 + (1 : Int32)) k) else (f_X8_debtor_42 p2 σ n v5 ((σ 35 0 j2) - a1) (v5 + (1 : Int32)) k))))))))))
set_option maxRecDepth 100000 in
set_option maxHeartbeats 4000000 in
theorem L_X8_debtor_42 {X : Cx} {p2 : Int32} {σ : Mem} {r0 : Int32} {σ2 : Mem} {k : Int32 → Int32 → Option (Int32 × Mem)}  : ∀ (n : Nat) (v3 : Int32) (v4 : Int32) (v5 : Int32), f_X8_debtor_42 p2 σ n v3 v4 v5 k = some (r0, σ2) → (∀ (x3 : Int32) (x4 : Int32), k x3 x4 = some (r0, σ2) → At X 6 mX8_debtor 101 [some (rf X 8 0), none, some (.int p2), some (.int x3), some (.int x4), none, none] [] σ (some (.int r0)) σ2) → At X 6 mX8_debtor 42 [some (rf X 8 0), none, some (.int p2), some (.int v3), some (.int v4), some (.int v5), none] [] σ (some (.int r0)) σ2 := by
  intro n
  induction n with
  | zero =>
    intro v3 v4 v5 h
    cases h
  | succ n ih =>
    intro v3 v4 v5 h hk
    rw [f_X8_debtor_42.eq_2] at h
    refine i_iload dX8_debtor_42 rfl ?_
    refine i_aload_n dX8_debtor_44 rfl ?_
    refine gf_X8_7 rfl (by omega) dX8_debtor_45 ?_
    refine i_iconst (v := 0) dX8_debtor_48 (by decide) ?_
    refine al_22 dX8_debtor_49 (by omega) h (fun j1 lj1 h => ?_)
    refine r_icmp_ge (tgt := 101) dX8_debtor_50 (by decide) h (fun c1 h => ?_) (fun c1 h => ?_)
    · refine At.fewer (ls' := [some (rf X 8 0), none, some (.int p2), some (.int v3), some (.int v4), none, none]) (And.intro rfl (And.intro rfl (And.intro rfl (And.intro rfl trivial)))) ?_
      exact hk _ _ h
    · refine i_aload_n dX8_debtor_53 rfl ?_
      refine gf_X8_49 rfl (by omega) dX8_debtor_54 ?_
      refine i_bipush (v := 7) dX8_debtor_57 (by decide) ?_
      refine i_iconst (v := 5) dX8_debtor_59 (by decide) ?_
      refine i_iload dX8_debtor_60 rfl ?_
      refine i_imul dX8_debtor_62 ?_
      refine i_iadd dX8_debtor_63 ?_
      refine i_iconst (v := 3) dX8_debtor_64 (by decide) ?_
      refine i_iadd dX8_debtor_65 ?_
      refine al_35 dX8_debtor_66 (by omega) h (fun j2 lj2 h => ?_)
      refine i_aload_n dX8_debtor_67 rfl ?_
      refine i_iload dX8_debtor_68 rfl ?_
      refine i_iconst (v := 3) dX8_debtor_70 (by decide) ?_
      refine cV_ir dX8_debtor_71 cw_X8_98 ci_X8_of rfl rfl (by decide) (show 0 < 1 by omega) h (fun a1 e => F_X8_of  e) (Nat.le_of_ble_eq_true rfl) rfl rfl (Nat.le_of_ble_eq_true rfl) (fun a1 ea1 h => ?_)
      refine i_isub dX8_debtor_74 ?_
      refine i_istore (ls' := [some (rf X 8 0), none, some (.int p2), some (.int v3), some (.int v4), some (.int v5), some (.int ((σ 35 0 j2) - a1))]) dX8_debtor_75 (by decide) (okp_at rfl) rfl ?_
      refine i_iload_n dX8_debtor_77 rfl ?_
      refine r_if_lt (tgt := 88) dX8_debtor_78 (by decide) h (fun c2 h => ?_) (fun c2 h => ?_)
      · refine i_iload dX8_debtor_88 rfl ?_
        refine i_istore_n (ls' := [some (rf X 8 0), none, some (.int p2), some (.int v5), some (.int v4), some (.int v5), some (.int ((σ 35 0 j2) - a1))]) dX8_debtor_90 (by decide) (okp_at rfl) rfl ?_
        refine i_iload dX8_debtor_91 rfl ?_
        refine i_istore (ls' := [some (rf X 8 0), none, some (.int p2), some (.int v5), some (.int ((σ 35 0 j2) - a1)), some (.int v5), some (.int ((σ 35 0 j2) - a1))]) dX8_debtor_93 (by decide) (okp_at rfl) rfl ?_
        refine i_iinc (v := (v5 + (1 : Int32))) (ls' := [some (rf X 8 0), none, some (.int p2), some (.int v5), some (.int ((σ 35 0 j2) - a1)), some (.int (v5 + (1 : Int32))), some (.int ((σ 35 0 j2) - a1))]) dX8_debtor_95 rfl (by rfl) (by decide) (okp_at rfl) rfl ?_
        refine i_goto (tgt := 42) dX8_debtor_98 (by decide) ?_
        refine At.fewer (ls' := [some (rf X 8 0), none, some (.int p2), some (.int v5), some (.int ((σ 35 0 j2) - a1)), some (.int (v5 + (1 : Int32))), none]) (And.intro rfl (And.intro rfl (And.intro rfl (And.intro rfl (And.intro rfl trivial))))) ?_
        exact ih _ _ _ h hk
      · refine i_iload dX8_debtor_81 rfl ?_
        refine i_iload dX8_debtor_83 rfl ?_
        refine r_icmp_le (tgt := 95) dX8_debtor_85 (by decide) h (fun c3 h => ?_) (fun c3 h => ?_)
        · refine i_iinc (v := (v5 + (1 : Int32))) (ls' := [some (rf X 8 0), none, some (.int p2), some (.int v3), some (.int v4), some (.int (v5 + (1 : Int32))), some (.int ((σ 35 0 j2) - a1))]) dX8_debtor_95 rfl (by rfl) (by decide) (okp_at rfl) rfl ?_
          refine i_goto (tgt := 42) dX8_debtor_98 (by decide) ?_
          refine At.fewer (ls' := [some (rf X 8 0), none, some (.int p2), some (.int v3), some (.int v4), some (.int (v5 + (1 : Int32))), none]) (And.intro rfl (And.intro rfl (And.intro rfl (And.intro rfl (And.intro rfl trivial))))) ?_
          exact ih _ _ _ h hk
        · refine i_iload dX8_debtor_88 rfl ?_
          refine i_istore_n (ls' := [some (rf X 8 0), none, some (.int p2), some (.int v5), some (.int v4), some (.int v5), some (.int ((σ 35 0 j2) - a1))]) dX8_debtor_90 (by decide) (okp_at rfl) rfl ?_
          refine i_iload dX8_debtor_91 rfl ?_
          refine i_istore (ls' := [some (rf X 8 0), none, some (.int p2), some (.int v5), some (.int ((σ 35 0 j2) - a1)), some (.int v5), some (.int ((σ 35 0 j2) - a1))]) dX8_debtor_93 (by decide) (okp_at rfl) rfl ?_
          refine i_iinc (v := (v5 + (1 : Int32))) (ls' := [some (rf X 8 0), none, some (.int p2), some (.int v5), some (.int ((σ 35 0 j2) - a1)), some (.int (v5 + (1 : Int32))), some (.int ((σ 35 0 j2) - a1))]) dX8_debtor_95 rfl (by rfl) (by decide) (okp_at rfl) rfl ?_
          refine i_goto (tgt := 42) dX8_debtor_98 (by decide) ?_
          refine At.fewer (ls' := [some (rf X 8 0), none, some (.int p2), some (.int v5), some (.int ((σ 35 0 j2) - a1)), some (.int (v5 + (1 : Int32))), none]) (And.intro rfl (And.intro rfl (And.intro rfl (And.intro rfl (And.intro rfl trivial))))) ?_
          exact ih _ _ _ h hk
def f_X8_debtor  (p1 : Int32) (p2 : Int32) (σ : Mem) : Option (Int32 × Mem) :=
  (bnd (f_X8_isIn ((p1).toInt64) ((1 : Int64)) ((60 : Int64)) σ) (fun a1 => (if a1 = 0 then (some ((-1000000001 : Int32), σ)) else (bnd (f_X8_isIn ((p2).toInt64) ((0 : Int64)) ((1 : Int64)) σ) (fun a2 => (if a2 = 0 then (some ((-1000000001 : Int32), σ)) else (bnd (f_X8_laysBy σ) (fun a3 => (bnd (f_X8_goesOnMany p1 a3) (fun a4 => (f_X8_debtor_42 p2 a4 FU (-1 : Int32) (0 : Int32) (0 : Int32) (fun e1 e2 => (bnd (f_X8_laysBack a4) (fun a5 => (if 0 ≤ e1 then (if p2 = 0 then (some (e1, a5)) else (some (e2, a5))) else (some ((-1000000005 : Int32), a5)))))))))))))))))
set_option maxRecDepth 100000 in
set_option maxHeartbeats 4000000 in
theorem F_X8_debtor {X : Cx} {p1 : Int32} {p2 : Int32} {σ : Mem} {res : (Int32 × Mem)}  (h : f_X8_debtor p1 p2 σ = some res) : Tri X 6 mX8_debtor [rf X 8 0, .int p1, .int p2] σ (some (.int res.1)) res.2 := by
  obtain ⟨r0, σ2⟩ := res
  unfold f_X8_debtor at h
  refine Tri.of (ls := [some (rf X 8 0), some (.int p1), some (.int p2), none, none, none, none]) (by decide) (Nat.le_of_ble_eq_true rfl) rfl ?_
  refine i_iload_n dX8_debtor_0 rfl ?_
  refine i_i2l dX8_debtor_1 ?_
  refine i_lconst (v := 1) dX8_debtor_2 (by decide) ?_
  refine i_ldc2 (v := 60) dX8_debtor_3 k_X8_199 ?_
  refine cS_ir dX8_debtor_6 cw_X8_71 ci_X8_isIn h (fun a1 e => F_X8_isIn  e) (Nat.le_of_ble_eq_true rfl) rfl rfl (Nat.le_of_ble_eq_true rfl) (fun a1 ea1 h => ?_)
  refine r_if_eq (tgt := 22) dX8_debtor_9 (by decide) h (fun c1 h => ?_) (fun c1 h => ?_)
  · refine i_ldc (v := (-1000000001)) dX8_debtor_22 k_X8_86 ?_
    exact e_iw rfl dX8_debtor_24 h
  · refine i_iload_n dX8_debtor_12 rfl ?_
    refine i_i2l dX8_debtor_13 ?_
    refine i_lconst (v := 0) dX8_debtor_14 (by decide) ?_
    refine i_lconst (v := 1) dX8_debtor_15 (by decide) ?_
    refine cS_ir dX8_debtor_16 cw_X8_71 ci_X8_isIn h (fun a2 e => F_X8_isIn  e) (Nat.le_of_ble_eq_true rfl) rfl rfl (Nat.le_of_ble_eq_true rfl) (fun a2 ea2 h => ?_)
    refine r_if_ne (tgt := 25) dX8_debtor_19 (by decide) h (fun c2 h => ?_) (fun c2 h => ?_)
    · refine i_aload_n dX8_debtor_25 rfl ?_
      refine cV_vw dX8_debtor_26 cw_X8_185 ci_X8_laysBy rfl rfl (by decide) (show 0 < 1 by omega) h (fun a3 e => F_X8_laysBy  e) (Nat.le_of_ble_eq_true rfl) rfl rfl (Nat.le_of_ble_eq_true rfl) (fun a3 ea3 h => ?_)
      refine i_aload_n dX8_debtor_29 rfl ?_
      refine i_iload_n dX8_debtor_30 rfl ?_
      refine cV_vw dX8_debtor_31 cw_X8_188 ci_X8_goesOnMany rfl rfl (by decide) (show 0 < 1 by omega) h (fun a4 e => F_X8_goesOnMany  e) (Nat.le_of_ble_eq_true rfl) rfl rfl (Nat.le_of_ble_eq_true rfl) (fun a4 ea4 h => ?_)
      refine i_iconst (v := (-1)) dX8_debtor_34 (by decide) ?_
      refine i_istore_n (ls' := [some (rf X 8 0), some (.int p1), some (.int p2), some (.int (-1 : Int32)), none, none, none]) dX8_debtor_35 (by decide) (okp_at rfl) rfl ?_
      refine i_iconst (v := 0) dX8_debtor_36 (by decide) ?_
      refine i_istore (ls' := [some (rf X 8 0), some (.int p1), some (.int p2), some (.int (-1 : Int32)), some (.int (0 : Int32)), none, none]) dX8_debtor_37 (by decide) (okp_at rfl) rfl ?_
      refine i_iconst (v := 0) dX8_debtor_39 (by decide) ?_
      refine i_istore (ls' := [some (rf X 8 0), some (.int p1), some (.int p2), some (.int (-1 : Int32)), some (.int (0 : Int32)), some (.int (0 : Int32)), none]) dX8_debtor_40 (by decide) (okp_at rfl) rfl ?_
      refine At.fewer (ls' := [some (rf X 8 0), none, some (.int p2), some (.int (-1 : Int32)), some (.int (0 : Int32)), some (.int (0 : Int32)), none]) (And.intro rfl (And.intro rfl (And.intro rfl (And.intro rfl (And.intro rfl trivial))))) ?_
      refine L_X8_debtor_42  FU _ _ _ h (fun e1 e2 h => ?_)
      refine i_aload_n dX8_debtor_101 rfl ?_
      refine cV_vw dX8_debtor_102 cw_X8_191 ci_X8_laysBack rfl rfl (by decide) (show 0 < 1 by omega) h (fun a5 e => F_X8_laysBack  e) (Nat.le_of_ble_eq_true rfl) rfl rfl (Nat.le_of_ble_eq_true rfl) (fun a5 ea5 h => ?_)
      refine i_iload_n dX8_debtor_105 rfl ?_
      refine r_if_ge (tgt := 114) dX8_debtor_106 (by decide) h (fun c3 h => ?_) (fun c3 h => ?_)
      · refine i_iload_n dX8_debtor_114 rfl ?_
        refine r_if_ne (tgt := 122) dX8_debtor_115 (by decide) h (fun c4 h => ?_) (fun c4 h => ?_)
        · refine i_iload dX8_debtor_122 rfl ?_
          exact e_iw rfl dX8_debtor_124 h
        · refine i_iload_n dX8_debtor_118 rfl ?_
          refine i_goto (tgt := 124) dX8_debtor_119 (by decide) ?_
          exact e_iw rfl dX8_debtor_124 h
      · refine i_ldc (v := (-1000000005)) dX8_debtor_109 k_X8_70 ?_
        refine i_goto (tgt := 124) dX8_debtor_111 (by decide) ?_
        exact e_iw rfl dX8_debtor_124 h
    · refine i_ldc (v := (-1000000001)) dX8_debtor_22 k_X8_86 ?_
      exact e_iw rfl dX8_debtor_24 h
def f_X8_fee   (σ : Mem) : Option (Int32 × Mem) :=
  (bnd (f_X8_counts (1 : Int32) σ) (fun a1 => (if 0 ≤ a1 then (bnd (ix 3108 (4 : Int32)) (fun j1 => (bnd (ix 128 (107 : Int32)) (fun j2 => (bnd (ix 3108 (5 : Int32)) (fun j3 => (bnd (ix 128 (108 : Int32)) (fun j4 => (bnd (f_X8_worked a1 (mput (mput σ 37 0 j2 (σ 22 0 j1)) 37 0 j4 ((mput σ 37 0 j2 (σ 22 0 j1)) 22 0 j3))) (fun a2 => (some (a2.1, a2.2)))))))))))) else (bnd (ix 3108 (5 : Int32)) (fun j5 => (some ((σ 22 0 j5), σ)))))))
set_option maxRecDepth 100000 in
set_option maxHeartbeats 4000000 in
theorem F_X8_fee {X : Cx}  {σ : Mem} {res : (Int32 × Mem)}  (h : f_X8_fee σ = some res) : Tri X 3 mX8_fee [rf X 8 0] σ (some (.int res.1)) res.2 := by
  obtain ⟨r0, σ2⟩ := res
  unfold f_X8_fee at h
  refine Tri.of (ls := [some (rf X 8 0), none]) (by decide) (Nat.le_of_ble_eq_true rfl) rfl ?_
  refine i_aload_n dX8_fee_0 rfl ?_
  refine i_iconst (v := 1) dX8_fee_1 (by decide) ?_
  refine cV_ir dX8_fee_2 cw_X8_101 ci_X8_counts rfl rfl (by decide) (show 0 < 1 by omega) h (fun a1 e => F_X8_counts  e) (Nat.le_of_ble_eq_true rfl) rfl rfl (Nat.le_of_ble_eq_true rfl) (fun a1 ea1 h => ?_)
  refine i_istore_n (ls' := [some (rf X 8 0), some (.int a1)]) dX8_fee_5 (by decide) (okp_at rfl) rfl ?_
  refine i_iload_n dX8_fee_6 rfl ?_
  refine r_if_ge (tgt := 17) dX8_fee_7 (by decide) h (fun c1 h => ?_) (fun c1 h => ?_)
  · refine i_aload_n dX8_fee_17 rfl ?_
    refine gf_X8_55 rfl (by omega) dX8_fee_18 ?_
    refine i_bipush (v := 107) dX8_fee_21 (by decide) ?_
    refine i_aload_n dX8_fee_23 rfl ?_
    refine gf_X8_7 rfl (by omega) dX8_fee_24 ?_
    refine i_iconst (v := 4) dX8_fee_27 (by decide) ?_
    refine al_22 dX8_fee_28 (by omega) h (fun j1 lj1 h => ?_)
    refine as_37 dX8_fee_29 (by omega) h (fun j2 lj2 h => ?_)
    refine i_aload_n dX8_fee_30 rfl ?_
    refine gf_X8_55 rfl (by omega) dX8_fee_31 ?_
    refine i_bipush (v := 108) dX8_fee_34 (by decide) ?_
    refine i_aload_n dX8_fee_36 rfl ?_
    refine gf_X8_7 rfl (by omega) dX8_fee_37 ?_
    refine i_iconst (v := 5) dX8_fee_40 (by decide) ?_
    refine al_22 dX8_fee_41 (by omega) h (fun j3 lj3 h => ?_)
    refine as_37 dX8_fee_42 (by omega) h (fun j4 lj4 h => ?_)
    refine i_aload_n dX8_fee_43 rfl ?_
    refine i_iload_n dX8_fee_44 rfl ?_
    refine cV_iw dX8_fee_45 cw_X8_105 ci_X8_worked rfl rfl (by decide) (show 0 < 1 by omega) h (fun a2 e => F_X8_worked  e) (Nat.le_of_ble_eq_true rfl) rfl rfl (Nat.le_of_ble_eq_true rfl) (fun a2 ea2 h => ?_)
    exact e_iw rfl dX8_fee_48 h
  · refine i_aload_n dX8_fee_10 rfl ?_
    refine gf_X8_7 rfl (by omega) dX8_fee_11 ?_
    refine i_iconst (v := 5) dX8_fee_14 (by decide) ?_
    refine al_22 dX8_fee_15 (by omega) h (fun j5 lj5 h => ?_)
    exact e_iw rfl dX8_fee_16 h
def f_X8_fine  (p1 : Int32) (σ : Mem) : Option (Int32 × Mem) :=
  (bnd (f_X8_isOne p1 σ) (fun a1 => (if a1 = 0 then (some ((-1000000001 : Int32), σ)) else (bnd (f_X8_counts (2 : Int32) σ) (fun a2 => (if 0 ≤ a2 then (bnd (f_X8_of p1 (3 : Int32) σ) (fun a3 => (bnd (ix 128 (112 : Int32)) (fun j1 => (bnd (f_X8_of p1 (1 : Int32) (mput σ 37 0 j1 a3)) (fun a4 => (bnd (ix 128 (101 : Int32)) (fun j2 => (bnd (f_X8_worked a2 (mput (mput σ 37 0 j1 a3) 37 0 j2 a4)) (fun a5 => (some (a5.1, a5.2)))))))))))) else (bnd (f_X8_of p1 (3 : Int32) σ) (fun a6 => (some (a6, σ))))))))))
set_option maxRecDepth 100000 in
set_option maxHeartbeats 4000000 in
theorem F_X8_fine {X : Cx} {p1 : Int32} {σ : Mem} {res : (Int32 × Mem)}  (h : f_X8_fine p1 σ = some res) : Tri X 3 mX8_fine [rf X 8 0, .int p1] σ (some (.int res.1)) res.2 := by
  obtain ⟨r0, σ2⟩ := res
  unfold f_X8_fine at h
  refine Tri.of (ls := [some (rf X 8 0), some (.int p1), none]) (by decide) (Nat.le_of_ble_eq_true rfl) rfl ?_
  refine i_aload_n dX8_fine_0 rfl ?_
  refine i_iload_n dX8_fine_1 rfl ?_
  refine cV_ir dX8_fine_2 cw_X8_112 ci_X8_isOne rfl rfl (by decide) (show 0 < 1 by omega) h (fun a1 e => F_X8_isOne  e) (Nat.le_of_ble_eq_true rfl) rfl rfl (Nat.le_of_ble_eq_true rfl) (fun a1 ea1 h => ?_)
  refine r_if_ne (tgt := 11) dX8_fine_5 (by decide) h (fun c1 h => ?_) (fun c1 h => ?_)
  · refine i_aload_n dX8_fine_11 rfl ?_
    refine i_iconst (v := 2) dX8_fine_12 (by decide) ?_
    refine cV_ir dX8_fine_13 cw_X8_101 ci_X8_counts rfl rfl (by decide) (show 0 < 1 by omega) h (fun a2 e => F_X8_counts  e) (Nat.le_of_ble_eq_true rfl) rfl rfl (Nat.le_of_ble_eq_true rfl) (fun a2 ea2 h => ?_)
    refine i_istore_n (ls' := [some (rf X 8 0), some (.int p1), some (.int a2)]) dX8_fine_16 (by decide) (okp_at rfl) rfl ?_
    refine i_iload_n dX8_fine_17 rfl ?_
    refine r_if_ge (tgt := 28) dX8_fine_18 (by decide) h (fun c2 h => ?_) (fun c2 h => ?_)
    · refine i_aload_n dX8_fine_28 rfl ?_
      refine gf_X8_55 rfl (by omega) dX8_fine_29 ?_
      refine i_bipush (v := 112) dX8_fine_32 (by decide) ?_
      refine i_aload_n dX8_fine_34 rfl ?_
      refine i_iload_n dX8_fine_35 rfl ?_
      refine i_iconst (v := 3) dX8_fine_36 (by decide) ?_
      refine cV_ir dX8_fine_37 cw_X8_98 ci_X8_of rfl rfl (by decide) (show 0 < 1 by omega) h (fun a3 e => F_X8_of  e) (Nat.le_of_ble_eq_true rfl) rfl rfl (Nat.le_of_ble_eq_true rfl) (fun a3 ea3 h => ?_)
      refine as_37 dX8_fine_40 (by omega) h (fun j1 lj1 h => ?_)
      refine i_aload_n dX8_fine_41 rfl ?_
      refine gf_X8_55 rfl (by omega) dX8_fine_42 ?_
      refine i_bipush (v := 101) dX8_fine_45 (by decide) ?_
      refine i_aload_n dX8_fine_47 rfl ?_
      refine i_iload_n dX8_fine_48 rfl ?_
      refine i_iconst (v := 1) dX8_fine_49 (by decide) ?_
      refine cV_ir dX8_fine_50 cw_X8_98 ci_X8_of rfl rfl (by decide) (show 0 < 1 by omega) h (fun a4 e => F_X8_of  e) (Nat.le_of_ble_eq_true rfl) rfl rfl (Nat.le_of_ble_eq_true rfl) (fun a4 ea4 h => ?_)
      refine as_37 dX8_fine_53 (by omega) h (fun j2 lj2 h => ?_)
      refine i_aload_n dX8_fine_54 rfl ?_
      refine i_iload_n dX8_fine_55 rfl ?_
      refine cV_iw dX8_fine_56 cw_X8_105 ci_X8_worked rfl rfl (by decide) (show 0 < 1 by omega) h (fun a5 e => F_X8_worked  e) (Nat.le_of_ble_eq_true rfl) rfl rfl (Nat.le_of_ble_eq_true rfl) (fun a5 ea5 h => ?_)
      exact e_iw rfl dX8_fine_59 h
    · refine i_aload_n dX8_fine_21 rfl ?_
      refine i_iload_n dX8_fine_22 rfl ?_
      refine i_iconst (v := 3) dX8_fine_23 (by decide) ?_
      refine cV_ir dX8_fine_24 cw_X8_98 ci_X8_of rfl rfl (by decide) (show 0 < 1 by omega) h (fun a6 e => F_X8_of  e) (Nat.le_of_ble_eq_true rfl) rfl rfl (Nat.le_of_ble_eq_true rfl) (fun a6 ea6 h => ?_)
      exact e_iw rfl dX8_fine_27 h
  · refine i_ldc (v := (-1000000001)) dX8_fine_8 k_X8_86 ?_
    exact e_iw rfl dX8_fine_10 h
def f_X8_manyStruck_4 (σ : Mem) : Nat → Int32 → Int32 → (Int32 → Option Int32) → Option Int32
  | 0, _, _, _ => none
  | n + 1, v1, v2, k =>
    (bnd (ix 3108 (0 : Int32)) (fun j1 => (if (σ 22 0 j1) ≤ v2 then (k v1) else (bnd (f_X8_of v2 (0 : Int32) σ) (fun a1 => (if a1 = (5 : Int32) then (f_X8_manyStruck_4 σ n (v1 + (1 : Int32)) (v2 + (1 : Int32)) k) else (f_X8_manyStruck_4 σ n (v1 + (0 : Int32)) (v2 + (1 : Int32)) k)))))))
set_option maxRecDepth 100000 in
set_option maxHeartbeats 4000000 in
theorem L_X8_manyStruck_4 {X : Cx} {σ : Mem} {r0 : Int32} {k : Int32 → Option Int32}  : ∀ (n : Nat) (v1 : Int32) (v2 : Int32), f_X8_manyStruck_4 σ n v1 v2 k = some r0 → (∀ (x1 : Int32), k x1 = some r0 → At X 2 mX8_manyStruck 38 [none, some (.int x1), none] [] σ (some (.int r0)) σ) → At X 2 mX8_manyStruck 4 [some (rf X 8 0), some (.int v1), some (.int v2)] [] σ (some (.int r0)) σ := by
  intro n
  induction n with
  | zero =>
    intro v1 v2 h
    cases h
  | succ n ih =>
    intro v1 v2 h hk
    rw [f_X8_manyStruck_4.eq_2] at h
    refine i_iload_n dX8_manyStruck_4 rfl ?_
    refine i_aload_n dX8_manyStruck_5 rfl ?_
    refine gf_X8_7 rfl (by omega) dX8_manyStruck_6 ?_
    refine i_iconst (v := 0) dX8_manyStruck_9 (by decide) ?_
    refine al_22 dX8_manyStruck_10 (by omega) h (fun j1 lj1 h => ?_)
    refine r_icmp_ge (tgt := 38) dX8_manyStruck_11 (by decide) h (fun c1 h => ?_) (fun c1 h => ?_)
    · refine At.fewer (ls' := [none, some (.int v1), none]) (And.intro rfl trivial) ?_
      exact hk _ h
    · refine i_iload_n dX8_manyStruck_14 rfl ?_
      refine i_aload_n dX8_manyStruck_15 rfl ?_
      refine i_iload_n dX8_manyStruck_16 rfl ?_
      refine i_iconst (v := 0) dX8_manyStruck_17 (by decide) ?_
      refine cV_ir dX8_manyStruck_18 cw_X8_98 ci_X8_of rfl rfl (by decide) (show 0 < 1 by omega) h (fun a1 e => F_X8_of  e) (Nat.le_of_ble_eq_true rfl) rfl rfl (Nat.le_of_ble_eq_true rfl) (fun a1 ea1 h => ?_)
      refine i_iconst (v := 5) dX8_manyStruck_21 (by decide) ?_
      refine r_icmp_ne (tgt := 29) dX8_manyStruck_22 (by decide) h (fun c2 h => ?_) (fun c2 h => ?_)
      · refine i_iconst (v := 0) dX8_manyStruck_29 (by decide) ?_
        refine i_iadd dX8_manyStruck_30 ?_
        refine i_istore_n (ls' := [some (rf X 8 0), some (.int (v1 + (0 : Int32))), some (.int v2)]) dX8_manyStruck_31 (by decide) (okp_at rfl) rfl ?_
        refine i_iinc (v := (v2 + (1 : Int32))) (ls' := [some (rf X 8 0), some (.int (v1 + (0 : Int32))), some (.int (v2 + (1 : Int32)))]) dX8_manyStruck_32 rfl (by rfl) (by decide) (okp_at rfl) rfl ?_
        refine i_goto (tgt := 4) dX8_manyStruck_35 (by decide) ?_
        exact ih _ _ h hk
      · refine i_iconst (v := 1) dX8_manyStruck_25 (by decide) ?_
        refine i_goto (tgt := 30) dX8_manyStruck_26 (by decide) ?_
        refine i_iadd dX8_manyStruck_30 ?_
        refine i_istore_n (ls' := [some (rf X 8 0), some (.int (v1 + (1 : Int32))), some (.int v2)]) dX8_manyStruck_31 (by decide) (okp_at rfl) rfl ?_
        refine i_iinc (v := (v2 + (1 : Int32))) (ls' := [some (rf X 8 0), some (.int (v1 + (1 : Int32))), some (.int (v2 + (1 : Int32)))]) dX8_manyStruck_32 rfl (by rfl) (by decide) (okp_at rfl) rfl ?_
        refine i_goto (tgt := 4) dX8_manyStruck_35 (by decide) ?_
        exact ih _ _ h hk
def f_X8_manyStruck   (σ : Mem) : Option Int32 :=
  (f_X8_manyStruck_4 σ FU (0 : Int32) (0 : Int32) (fun e1 => (some e1)))
set_option maxRecDepth 100000 in
set_option maxHeartbeats 4000000 in
theorem F_X8_manyStruck {X : Cx}  {σ : Mem} {res : Int32}  (h : f_X8_manyStruck σ = some res) : Tri X 2 mX8_manyStruck [rf X 8 0] σ (some (.int res)) σ := by
  unfold f_X8_manyStruck at h
  refine Tri.of (ls := [some (rf X 8 0), none, none]) (by decide) (Nat.le_of_ble_eq_true rfl) rfl ?_
  refine i_iconst (v := 0) dX8_manyStruck_0 (by decide) ?_
  refine i_istore_n (ls' := [some (rf X 8 0), some (.int (0 : Int32)), none]) dX8_manyStruck_1 (by decide) (okp_at rfl) rfl ?_
  refine i_iconst (v := 0) dX8_manyStruck_2 (by decide) ?_
  refine i_istore_n (ls' := [some (rf X 8 0), some (.int (0 : Int32)), some (.int (0 : Int32))]) dX8_manyStruck_3 (by decide) (okp_at rfl) rfl ?_
  refine L_X8_manyStruck_4  FU _ _ h (fun e1 h => ?_)
  refine i_iload_n dX8_manyStruck_38 rfl ?_
  exact e_ir rfl dX8_manyStruck_39 h
def f_X8_feed_18 (p1 : Int32) (p2 : Int32) (p3 : Int32) : Nat → Int32 → Mem → (Mem → Option (Int32 × Mem)) → Option (Int32 × Mem)
  | 0, _, _, _ => none
  | n + 1, v4, σ, k =>
    (if (12 : Int32) ≤ v4 then (k σ) else (if (4 : Int32) ≤ v4 then (if (8 : Int32) ≤ v4 then (bnd (ix 96 (σ 8 0 16)) (fun j1 => (f_X8_feed_18 p1 p2 p3 n (v4 + (1 : Int32)) (mput (mput σ 36 0 j1 ((p3 >>> (((24 : Int32) - ((8 : Int32) * (v4 - v4 / (4 : Int32) * (4 : Int32)))) &&& (31 : Int32))) &&& (255 : Int32))) 8 0 16 (((mput σ 36 0 j1 ((p3 >>> (((24 : Int32) - ((8 : Int32) * (v4 - v4 / (4 : Int32) * (4 : Int32)))) &&& (31 : Int32))) &&& (255 : Int32))) 8 0 16) + (1 : Int32))) k))) else (bnd (ix 96 (σ 8 0 16)) (fun j2 => (f_X8_feed_18 p1 p2 p3 n (v4 + (1 : Int32)) (mput (mput σ 36 0 j2 ((p2 >>> (((24 : Int32) - ((8 : Int32) * (v4 - v4 / (4 : Int32) * (4 : Int32)))) &&& (31 : Int32))) &&& (255 : Int32))) 8 0 16 (((mput σ 36 0 j2 ((p2 >>> (((24 : Int32) - ((8 : Int32) * (v4 - v4 / (4 : Int32) * (4 : Int32)))) &&& (31 : Int32))) &&& (255 : Int32))) 8 0 16) + (1 : Int32))) k)))) else (bnd (ix 96 (σ 8 0 16)) (fun j3 => (f_X8_feed_18 p1 p2 p3 n (v4 + (1 : Int32)) (mput (mput σ 36 0 j3 ((p1 >>> (((24 : Int32) - ((8 : Int32) * (v4 - v4 / (4 : Int32) * (4 : Int32)))) &&& (31 : Int32))) &&& (255 : Int32))) 8 0 16 (((mput σ 36 0 j3 ((p1 >>> (((24 : Int32) - ((8 : Int32) * (v4 - v4 / (4 : Int32) * (4 : Int32)))) &&& (31 : Int32))) &&& (255 : Int32))) 8 0 16) + (1 : Int32))) k)))))
set_option maxRecDepth 100000 in
set_option maxHeartbeats 4000000 in
theorem L_X8_feed_18 {X : Cx} {p1 : Int32} {p2 : Int32} {p3 : Int32} {r0 : Int32} {σ2 : Mem} {k : Mem → Option (Int32 × Mem)}  : ∀ (n : Nat) (v4 : Int32) (σ : Mem), f_X8_feed_18 p1 p2 p3 n v4 σ k = some (r0, σ2) → (∀ (σ1 : Mem), k σ1 = some (r0, σ2) → At X 1 mX8_feed 91 [some (rf X 8 0), none, none, none, none, none] [] σ1 (some (.int r0)) σ2) → At X 1 mX8_feed 18 [some (rf X 8 0), some (.int p1), some (.int p2), some (.int p3), some (.int v4), none] [] σ (some (.int r0)) σ2 := by
  intro n
  induction n with
  | zero =>
    intro v4 σ h
    cases h
  | succ n ih =>
    intro v4 σ h hk
    rw [f_X8_feed_18.eq_2] at h
    refine i_iload dX8_feed_18 rfl ?_
    refine i_bipush (v := 12) dX8_feed_20 (by decide) ?_
    refine r_icmp_ge (tgt := 91) dX8_feed_22 (by decide) h (fun c1 h => ?_) (fun c1 h => ?_)
    · refine At.fewer (ls' := [some (rf X 8 0), none, none, none, none, none]) (And.intro rfl trivial) ?_
      exact hk _ h
    · refine i_iload dX8_feed_25 rfl ?_
      refine i_iconst (v := 4) dX8_feed_27 (by decide) ?_
      refine r_icmp_ge (tgt := 35) dX8_feed_28 (by decide) h (fun c2 h => ?_) (fun c2 h => ?_)
      · refine i_iload dX8_feed_35 rfl ?_
        refine i_bipush (v := 8) dX8_feed_37 (by decide) ?_
        refine r_icmp_ge (tgt := 46) dX8_feed_39 (by decide) h (fun c3 h => ?_) (fun c3 h => ?_)
        · refine i_iload_n dX8_feed_46 rfl ?_
          refine i_istore (ls' := [some (rf X 8 0), some (.int p1), some (.int p2), some (.int p3), some (.int v4), some (.int p3)]) dX8_feed_47 (by decide) (okp_at rfl) rfl ?_
          refine i_aload_n dX8_feed_49 rfl ?_
          refine gf_X8_52 rfl (by omega) dX8_feed_50 ?_
          refine i_aload_n dX8_feed_53 rfl ?_
          refine gf_X8_201 rfl (by omega) dX8_feed_54 ?_
          refine i_iload dX8_feed_57 rfl ?_
          refine i_bipush (v := 24) dX8_feed_59 (by decide) ?_
          refine i_bipush (v := 8) dX8_feed_61 (by decide) ?_
          refine i_iload dX8_feed_63 rfl ?_
          refine i_iconst (v := 4) dX8_feed_65 (by decide) ?_
          refine i_irem dX8_feed_66 (by decide) ?_
          refine i_imul dX8_feed_67 ?_
          refine i_isub dX8_feed_68 ?_
          refine i_ishr dX8_feed_69 ?_
          refine i_sipush (v := 255) dX8_feed_70 (by decide) ?_
          refine i_iand dX8_feed_73 ?_
          refine as_36 dX8_feed_74 (by omega) h (fun j1 lj1 h => ?_)
          refine i_aload_n dX8_feed_75 rfl ?_
          refine i_dup dX8_feed_76 rfl ?_
          refine gf_X8_201 rfl (by omega) dX8_feed_77 ?_
          refine i_iconst (v := 1) dX8_feed_80 (by decide) ?_
          refine i_iadd dX8_feed_81 ?_
          refine pf_X8_201 rfl (by omega) dX8_feed_82 ?_
          refine i_iinc (v := (v4 + (1 : Int32))) (ls' := [some (rf X 8 0), some (.int p1), some (.int p2), some (.int p3), some (.int (v4 + (1 : Int32))), some (.int p3)]) dX8_feed_85 rfl (by rfl) (by decide) (okp_at rfl) rfl ?_
          refine i_goto (tgt := 18) dX8_feed_88 (by decide) ?_
          refine At.fewer (ls' := [some (rf X 8 0), some (.int p1), some (.int p2), some (.int p3), some (.int (v4 + (1 : Int32))), none]) (And.intro rfl (And.intro rfl (And.intro rfl (And.intro rfl (And.intro rfl trivial))))) ?_
          exact ih _ _ h hk
        · refine i_iload_n dX8_feed_42 rfl ?_
          refine i_goto (tgt := 47) dX8_feed_43 (by decide) ?_
          refine i_istore (ls' := [some (rf X 8 0), some (.int p1), some (.int p2), some (.int p3), some (.int v4), some (.int p2)]) dX8_feed_47 (by decide) (okp_at rfl) rfl ?_
          refine i_aload_n dX8_feed_49 rfl ?_
          refine gf_X8_52 rfl (by omega) dX8_feed_50 ?_
          refine i_aload_n dX8_feed_53 rfl ?_
          refine gf_X8_201 rfl (by omega) dX8_feed_54 ?_
          refine i_iload dX8_feed_57 rfl ?_
          refine i_bipush (v := 24) dX8_feed_59 (by decide) ?_
          refine i_bipush (v := 8) dX8_feed_61 (by decide) ?_
          refine i_iload dX8_feed_63 rfl ?_
          refine i_iconst (v := 4) dX8_feed_65 (by decide) ?_
          refine i_irem dX8_feed_66 (by decide) ?_
          refine i_imul dX8_feed_67 ?_
          refine i_isub dX8_feed_68 ?_
          refine i_ishr dX8_feed_69 ?_
          refine i_sipush (v := 255) dX8_feed_70 (by decide) ?_
          refine i_iand dX8_feed_73 ?_
          refine as_36 dX8_feed_74 (by omega) h (fun j2 lj2 h => ?_)
          refine i_aload_n dX8_feed_75 rfl ?_
          refine i_dup dX8_feed_76 rfl ?_
          refine gf_X8_201 rfl (by omega) dX8_feed_77 ?_
          refine i_iconst (v := 1) dX8_feed_80 (by decide) ?_
          refine i_iadd dX8_feed_81 ?_
          refine pf_X8_201 rfl (by omega) dX8_feed_82 ?_
          refine i_iinc (v := (v4 + (1 : Int32))) (ls' := [some (rf X 8 0), some (.int p1), some (.int p2), some (.int p3), some (.int (v4 + (1 : Int32))), some (.int p2)]) dX8_feed_85 rfl (by rfl) (by decide) (okp_at rfl) rfl ?_
          refine i_goto (tgt := 18) dX8_feed_88 (by decide) ?_
          refine At.fewer (ls' := [some (rf X 8 0), some (.int p1), some (.int p2), some (.int p3), some (.int (v4 + (1 : Int32))), none]) (And.intro rfl (And.intro rfl (And.intro rfl (And.intro rfl (And.intro rfl trivial))))) ?_
          exact ih _ _ h hk
      · refine i_iload_n dX8_feed_31 rfl ?_
        refine i_goto (tgt := 47) dX8_feed_32 (by decide) ?_
        refine i_istore (ls' := [some (rf X 8 0), some (.int p1), some (.int p2), some (.int p3), some (.int v4), some (.int p1)]) dX8_feed_47 (by decide) (okp_at rfl) rfl ?_
        refine i_aload_n dX8_feed_49 rfl ?_
        refine gf_X8_52 rfl (by omega) dX8_feed_50 ?_
        refine i_aload_n dX8_feed_53 rfl ?_
        refine gf_X8_201 rfl (by omega) dX8_feed_54 ?_
        refine i_iload dX8_feed_57 rfl ?_
        refine i_bipush (v := 24) dX8_feed_59 (by decide) ?_
        refine i_bipush (v := 8) dX8_feed_61 (by decide) ?_
        refine i_iload dX8_feed_63 rfl ?_
        refine i_iconst (v := 4) dX8_feed_65 (by decide) ?_
        refine i_irem dX8_feed_66 (by decide) ?_
        refine i_imul dX8_feed_67 ?_
        refine i_isub dX8_feed_68 ?_
        refine i_ishr dX8_feed_69 ?_
        refine i_sipush (v := 255) dX8_feed_70 (by decide) ?_
        refine i_iand dX8_feed_73 ?_
        refine as_36 dX8_feed_74 (by omega) h (fun j3 lj3 h => ?_)
        refine i_aload_n dX8_feed_75 rfl ?_
        refine i_dup dX8_feed_76 rfl ?_
        refine gf_X8_201 rfl (by omega) dX8_feed_77 ?_
        refine i_iconst (v := 1) dX8_feed_80 (by decide) ?_
        refine i_iadd dX8_feed_81 ?_
        refine pf_X8_201 rfl (by omega) dX8_feed_82 ?_
        refine i_iinc (v := (v4 + (1 : Int32))) (ls' := [some (rf X 8 0), some (.int p1), some (.int p2), some (.int p3), some (.int (v4 + (1 : Int32))), some (.int p1)]) dX8_feed_85 rfl (by rfl) (by decide) (okp_at rfl) rfl ?_
        refine i_goto (tgt := 18) dX8_feed_88 (by decide) ?_
        refine At.fewer (ls' := [some (rf X 8 0), some (.int p1), some (.int p2), some (.int p3), some (.int (v4 + (1 : Int32))), none]) (And.intro rfl (And.intro rfl (And.intro rfl (And.intro rfl (And.intro rfl trivial))))) ?_
        exact ih _ _ h hk
def f_X8_feed  (p1 : Int32) (p2 : Int32) (p3 : Int32) (σ : Mem) : Option (Int32 × Mem) :=
  (if ((σ 8 0 16) + (12 : Int32)) ≤ (96 : Int32) then (f_X8_feed_18 p1 p2 p3 FU (0 : Int32) σ (fun σ_1 => (some ((σ_1 8 0 16), σ_1)))) else (some ((-1000000003 : Int32), σ)))
set_option maxRecDepth 100000 in
set_option maxHeartbeats 4000000 in
theorem F_X8_feed {X : Cx} {p1 : Int32} {p2 : Int32} {p3 : Int32} {σ : Mem} {res : (Int32 × Mem)}  (h : f_X8_feed p1 p2 p3 σ = some res) : Tri X 1 mX8_feed [rf X 8 0, .int p1, .int p2, .int p3] σ (some (.int res.1)) res.2 := by
  obtain ⟨r0, σ2⟩ := res
  unfold f_X8_feed at h
  refine Tri.of (ls := [some (rf X 8 0), some (.int p1), some (.int p2), some (.int p3), none, none]) (by decide) (Nat.le_of_ble_eq_true rfl) rfl ?_
  refine i_aload_n dX8_feed_0 rfl ?_
  refine gf_X8_201 rfl (by omega) dX8_feed_1 ?_
  refine i_bipush (v := 12) dX8_feed_4 (by decide) ?_
  refine i_iadd dX8_feed_6 ?_
  refine i_bipush (v := 96) dX8_feed_7 (by decide) ?_
  refine r_icmp_le (tgt := 15) dX8_feed_9 (by decide) h (fun c1 h => ?_) (fun c1 h => ?_)
  · refine i_iconst (v := 0) dX8_feed_15 (by decide) ?_
    refine i_istore (ls' := [some (rf X 8 0), some (.int p1), some (.int p2), some (.int p3), some (.int (0 : Int32)), none]) dX8_feed_16 (by decide) (okp_at rfl) rfl ?_
    refine L_X8_feed_18  FU _ _ h (fun σ_1 h => ?_)
    refine i_aload_n dX8_feed_91 rfl ?_
    refine gf_X8_201 rfl (by omega) dX8_feed_92 ?_
    exact e_iw rfl dX8_feed_95 h
  · refine i_ldc (v := (-1000000003)) dX8_feed_12 k_X8_87 ?_
    exact e_iw rfl dX8_feed_14 h
def f_X8_trim  (p1 : Int32) (σ : Mem) : Option (Int32 × Mem) :=
  (bnd (f_X8_isIn ((p1).toInt64) ((0 : Int64)) (((σ 8 0 16)).toInt64) σ) (fun a1 => (if a1 = 0 then (some ((-1000000001 : Int32), σ)) else (some (p1, (mput σ 8 0 16 p1))))))
set_option maxRecDepth 100000 in
set_option maxHeartbeats 4000000 in
theorem F_X8_trim {X : Cx} {p1 : Int32} {σ : Mem} {res : (Int32 × Mem)}  (h : f_X8_trim p1 σ = some res) : Tri X 2 mX8_trim [rf X 8 0, .int p1] σ (some (.int res.1)) res.2 := by
  obtain ⟨r0, σ2⟩ := res
  unfold f_X8_trim at h
  refine Tri.of (ls := [some (rf X 8 0), some (.int p1)]) (by decide) (Nat.le_of_ble_eq_true rfl) rfl ?_
  refine i_iload_n dX8_trim_0 rfl ?_
  refine i_i2l dX8_trim_1 ?_
  refine i_lconst (v := 0) dX8_trim_2 (by decide) ?_
  refine i_aload_n dX8_trim_3 rfl ?_
  refine gf_X8_201 rfl (by omega) dX8_trim_4 ?_
  refine i_i2l dX8_trim_7 ?_
  refine cS_ir dX8_trim_8 cw_X8_71 ci_X8_isIn h (fun a1 e => F_X8_isIn  e) (Nat.le_of_ble_eq_true rfl) rfl rfl (Nat.le_of_ble_eq_true rfl) (fun a1 ea1 h => ?_)
  refine r_if_ne (tgt := 17) dX8_trim_11 (by decide) h (fun c1 h => ?_) (fun c1 h => ?_)
  · refine i_aload_n dX8_trim_17 rfl ?_
    refine i_iload_n dX8_trim_18 rfl ?_
    refine pf_X8_201 rfl (by omega) dX8_trim_19 ?_
    refine i_iload_n dX8_trim_22 rfl ?_
    exact e_iw rfl dX8_trim_23 h
  · refine i_ldc (v := (-1000000001)) dX8_trim_14 k_X8_86 ?_
    exact e_iw rfl dX8_trim_16 h
def f_X8_isLetter  (p1 : Int32) (σ : Mem) : Option Int32 :=
  (if (σ 8 0 16) ≤ p1 then (some (0 : Int32)) else (bnd (ix 96 p1) (fun j1 => (bnd (f_X8_isIn (((σ 36 0 j1)).toInt64) ((97 : Int64)) ((122 : Int64)) σ) (fun a1 => (if a1 = 0 then (some (0 : Int32)) else (some (1 : Int32))))))))
set_option maxRecDepth 100000 in
set_option maxHeartbeats 4000000 in
theorem F_X8_isLetter {X : Cx} {p1 : Int32} {σ : Mem} {res : Int32}  (h : f_X8_isLetter p1 σ = some res) : Tri X 2 mX8_isLetter [rf X 8 0, .int p1] σ (some (.int res)) σ := by
  unfold f_X8_isLetter at h
  refine Tri.of (ls := [some (rf X 8 0), some (.int p1)]) (by decide) (Nat.le_of_ble_eq_true rfl) rfl ?_
  refine i_iload_n dX8_isLetter_0 rfl ?_
  refine i_aload_n dX8_isLetter_1 rfl ?_
  refine gf_X8_201 rfl (by omega) dX8_isLetter_2 ?_
  refine r_icmp_ge (tgt := 31) dX8_isLetter_5 (by decide) h (fun c1 h => ?_) (fun c1 h => ?_)
  · refine i_iconst (v := 0) dX8_isLetter_31 (by decide) ?_
    exact e_zr rfl (by decide) dX8_isLetter_32 h
  · refine i_aload_n dX8_isLetter_8 rfl ?_
    refine gf_X8_52 rfl (by omega) dX8_isLetter_9 ?_
    refine i_iload_n dX8_isLetter_12 rfl ?_
    refine al_36 dX8_isLetter_13 (by omega) h (fun j1 lj1 h => ?_)
    refine i_i2l dX8_isLetter_14 ?_
    refine i_ldc2 (v := 97) dX8_isLetter_15 k_X8_205 ?_
    refine i_ldc2 (v := 122) dX8_isLetter_18 k_X8_207 ?_
    refine cS_ir dX8_isLetter_21 cw_X8_71 ci_X8_isIn h (fun a1 e => F_X8_isIn  e) (Nat.le_of_ble_eq_true rfl) rfl rfl (Nat.le_of_ble_eq_true rfl) (fun a1 ea1 h => ?_)
    refine r_if_eq (tgt := 31) dX8_isLetter_24 (by decide) h (fun c2 h => ?_) (fun c2 h => ?_)
    · refine i_iconst (v := 0) dX8_isLetter_31 (by decide) ?_
      exact e_zr rfl (by decide) dX8_isLetter_32 h
    · refine i_iconst (v := 1) dX8_isLetter_27 (by decide) ?_
      refine i_goto (tgt := 32) dX8_isLetter_28 (by decide) ?_
      exact e_zr rfl (by decide) dX8_isLetter_32 h
def f_X8_isDigit  (p1 : Int32) (σ : Mem) : Option Int32 :=
  (if (σ 8 0 16) ≤ p1 then (some (0 : Int32)) else (bnd (ix 96 p1) (fun j1 => (bnd (f_X8_isIn (((σ 36 0 j1)).toInt64) ((48 : Int64)) ((57 : Int64)) σ) (fun a1 => (if a1 = 0 then (some (0 : Int32)) else (some (1 : Int32))))))))
set_option maxRecDepth 100000 in
set_option maxHeartbeats 4000000 in
theorem F_X8_isDigit {X : Cx} {p1 : Int32} {σ : Mem} {res : Int32}  (h : f_X8_isDigit p1 σ = some res) : Tri X 2 mX8_isDigit [rf X 8 0, .int p1] σ (some (.int res)) σ := by
  unfold f_X8_isDigit at h
  refine Tri.of (ls := [some (rf X 8 0), some (.int p1)]) (by decide) (Nat.le_of_ble_eq_true rfl) rfl ?_
  refine i_iload_n dX8_isDigit_0 rfl ?_
  refine i_aload_n dX8_isDigit_1 rfl ?_
  refine gf_X8_201 rfl (by omega) dX8_isDigit_2 ?_
  refine r_icmp_ge (tgt := 31) dX8_isDigit_5 (by decide) h (fun c1 h => ?_) (fun c1 h => ?_)
  · refine i_iconst (v := 0) dX8_isDigit_31 (by decide) ?_
    exact e_zr rfl (by decide) dX8_isDigit_32 h
  · refine i_aload_n dX8_isDigit_8 rfl ?_
    refine gf_X8_52 rfl (by omega) dX8_isDigit_9 ?_
    refine i_iload_n dX8_isDigit_12 rfl ?_
    refine al_36 dX8_isDigit_13 (by omega) h (fun j1 lj1 h => ?_)
    refine i_i2l dX8_isDigit_14 ?_
    refine i_ldc2 (v := 48) dX8_isDigit_15 k_X8_209 ?_
    refine i_ldc2 (v := 57) dX8_isDigit_18 k_X8_211 ?_
    refine cS_ir dX8_isDigit_21 cw_X8_71 ci_X8_isIn h (fun a1 e => F_X8_isIn  e) (Nat.le_of_ble_eq_true rfl) rfl rfl (Nat.le_of_ble_eq_true rfl) (fun a1 ea1 h => ?_)
    refine r_if_eq (tgt := 31) dX8_isDigit_24 (by decide) h (fun c2 h => ?_) (fun c2 h => ?_)
    · refine i_iconst (v := 0) dX8_isDigit_31 (by decide) ?_
      exact e_zr rfl (by decide) dX8_isDigit_32 h
    · refine i_iconst (v := 1) dX8_isDigit_27 (by decide) ?_
      refine i_goto (tgt := 32) dX8_isDigit_28 (by decide) ?_
      exact e_zr rfl (by decide) dX8_isDigit_32 h
