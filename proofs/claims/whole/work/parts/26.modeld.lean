noncomputable section
def f_X8_feed_18 (p1 : Int32) (p2 : Int32) (p3 : Int32) : Nat → Int32 → Mem → (Mem → Option (Int32 × Mem)) → Option (Int32 × Mem)
  | 0, _, _, _ => none
  | n + 1, v4, σ, k =>
    (if (12 : Int32) ≤ v4 then (k σ) else (if (4 : Int32) ≤ v4 then (if (8 : Int32) ≤ v4 then (bnd (ix 96 (σ 8 0 16)) (fun j1 => (bnd (some (mput σ 36 0 j1 ((p3 >>> (((24 : Int32) - ((8 : Int32) * (v4 - v4 / (4 : Int32) * (4 : Int32)))) &&& (31 : Int32))) &&& (255 : Int32)))) (fun s1 => (f_X8_feed_18 p1 p2 p3 n (v4 + (1 : Int32)) (mput s1 8 0 16 ((s1 8 0 16) + (1 : Int32))) k))))) else (bnd (ix 96 (σ 8 0 16)) (fun j2 => (bnd (some (mput σ 36 0 j2 ((p2 >>> (((24 : Int32) - ((8 : Int32) * (v4 - v4 / (4 : Int32) * (4 : Int32)))) &&& (31 : Int32))) &&& (255 : Int32)))) (fun s2 => (f_X8_feed_18 p1 p2 p3 n (v4 + (1 : Int32)) (mput s2 8 0 16 ((s2 8 0 16) + (1 : Int32))) k)))))) else (bnd (ix 96 (σ 8 0 16)) (fun j3 => (bnd (some (mput σ 36 0 j3 ((p1 >>> (((24 : Int32) - ((8 : Int32) * (v4 - v4 / (4 : Int32) * (4 : Int32)))) &&& (31 : Int32))) &&& (255 : Int32)))) (fun s3 => (f_X8_feed_18 p1 p2 p3 n (v4 + (1 : Int32)) (mput s3 8 0 16 ((s3 8 0 16) + (1 : Int32))) k)))))))
set_option maxRecDepth 100000 in
set_option maxHeartbeats 4000000 in
theorem L_X8_feed_18 {X : Cx} {p1 : Int32} {p2 : Int32} {p3 : Int32} {r0 : Int32} {σ2 : Mem} {k : Mem → Option (Int32 × Mem)}  : ∀ (n : Nat) (v4 : Int32) (σ : Mem), f_X8_feed_18 p1 p2 p3 n v4 σ k = some (r0, σ2) → (∀ (σ1 : Mem), k σ1 = some (r0, σ2) → At X 1 mX8_feed 91 [some (rf X 8 0), none, none, none, none, none] [] σ1 (some (.int r0)) σ2) → At X 1 mX8_feed 18 [some (rf X 8 0), some (.int p1), some (.int p2), some (.int p3), some (.int v4), none] [] σ (some (.int r0)) σ2 := by
  intro n
  induction n with
  | zero =>
    intro v4 σ h
    cases h
  | succ n ih =>
    intro v4 σ h hk
    rw [f_X8_feed_18.eq_2] at h
    refine i_iload dX8_feed_18 rfl ?_
    refine i_bipush (v := 12) dX8_feed_20 (by decide) ?_
    refine r_icmp_ge (tgt := 91) dX8_feed_22 (by decide) h (fun c1 h => ?_) (fun c1 h => ?_)
    · refine At.fewer (ls' := [some (rf X 8 0), none, none, none, none, none]) (And.intro rfl trivial) ?_
      exact hk _ h
    · refine i_iload dX8_feed_25 rfl ?_
      refine i_iconst (v := 4) dX8_feed_27 (by decide) ?_
      refine r_icmp_ge (tgt := 35) dX8_feed_28 (by decide) h (fun c2 h => ?_) (fun c2 h => ?_)
      · refine i_iload dX8_feed_35 rfl ?_
        refine i_bipush (v := 8) dX8_feed_37 (by decide) ?_
        refine r_icmp_ge (tgt := 46) dX8_feed_39 (by decide) h (fun c3 h => ?_) (fun c3 h => ?_)
        · refine i_iload_n dX8_feed_46 rfl ?_
          refine i_istore (ls' := [some (rf X 8 0), some (.int p1), some (.int p2), some (.int p3), some (.int v4), some (.int p3)]) dX8_feed_47 (by decide) (okp_at rfl) rfl ?_
          refine i_aload_n dX8_feed_49 rfl ?_
          refine gf_X8_52 rfl (by omega) dX8_feed_50 ?_
          refine i_aload_n dX8_feed_53 rfl ?_
          refine gf_X8_201 rfl (by omega) dX8_feed_54 ?_
          refine i_iload dX8_feed_57 rfl ?_
          refine i_bipush (v := 24) dX8_feed_59 (by decide) ?_
          refine i_bipush (v := 8) dX8_feed_61 (by decide) ?_
          refine i_iload dX8_feed_63 rfl ?_
          refine i_iconst (v := 4) dX8_feed_65 (by decide) ?_
          refine i_irem dX8_feed_66 (by decide) ?_
          refine i_imul dX8_feed_67 ?_
          refine i_isub dX8_feed_68 ?_
          refine i_ishr dX8_feed_69 ?_
          refine i_sipush (v := 255) dX8_feed_70 (by decide) ?_
          refine i_iand dX8_feed_73 ?_
          refine as_36 dX8_feed_74 (by omega) h (fun j1 lj1 h => ?_)
          refine r_mem h (fun s1 _ h => ?_)
          refine i_aload_n dX8_feed_75 rfl ?_
          refine i_dup dX8_feed_76 rfl ?_
          refine gf_X8_201 rfl (by omega) dX8_feed_77 ?_
          refine i_iconst (v := 1) dX8_feed_80 (by decide) ?_
          refine i_iadd dX8_feed_81 ?_
          refine pf_X8_201 rfl (by omega) dX8_feed_82 ?_
          refine i_iinc (v := (v4 + (1 : Int32))) (ls' := [some (rf X 8 0), some (.int p1), some (.int p2), some (.int p3), some (.int (v4 + (1 : Int32))), some (.int p3)]) dX8_feed_85 rfl (by rfl) (by decide) (okp_at rfl) rfl ?_
          refine i_goto (tgt := 18) dX8_feed_88 (by decide) ?_
          refine At.fewer (ls' := [some (rf X 8 0), some (.int p1), some (.int p2), some (.int p3), some (.int (v4 + (1 : Int32))), none]) (And.intro rfl (And.intro rfl (And.intro rfl (And.intro rfl (And.intro rfl trivial))))) ?_
          exact ih _ _ h hk
        · refine i_iload_n dX8_feed_42 rfl ?_
          refine i_goto (tgt := 47) dX8_feed_43 (by decide) ?_
          refine i_istore (ls' := [some (rf X 8 0), some (.int p1), some (.int p2), some (.int p3), some (.int v4), some (.int p2)]) dX8_feed_47 (by decide) (okp_at rfl) rfl ?_
          refine i_aload_n dX8_feed_49 rfl ?_
          refine gf_X8_52 rfl (by omega) dX8_feed_50 ?_
          refine i_aload_n dX8_feed_53 rfl ?_
          refine gf_X8_201 rfl (by omega) dX8_feed_54 ?_
          refine i_iload dX8_feed_57 rfl ?_
          refine i_bipush (v := 24) dX8_feed_59 (by decide) ?_
          refine i_bipush (v := 8) dX8_feed_61 (by decide) ?_
          refine i_iload dX8_feed_63 rfl ?_
          refine i_iconst (v := 4) dX8_feed_65 (by decide) ?_
          refine i_irem dX8_feed_66 (by decide) ?_
          refine i_imul dX8_feed_67 ?_
          refine i_isub dX8_feed_68 ?_
          refine i_ishr dX8_feed_69 ?_
          refine i_sipush (v := 255) dX8_feed_70 (by decide) ?_
          refine i_iand dX8_feed_73 ?_
          refine as_36 dX8_feed_74 (by omega) h (fun j2 lj2 h => ?_)
          refine r_mem h (fun s2 _ h => ?_)
          refine i_aload_n dX8_feed_75 rfl ?_
          refine i_dup dX8_feed_76 rfl ?_
          refine gf_X8_201 rfl (by omega) dX8_feed_77 ?_
          refine i_iconst (v := 1) dX8_feed_80 (by decide) ?_
          refine i_iadd dX8_feed_81 ?_
          refine pf_X8_201 rfl (by omega) dX8_feed_82 ?_
          refine i_iinc (v := (v4 + (1 : Int32))) (ls' := [some (rf X 8 0), some (.int p1), some (.int p2), some (.int p3), some (.int (v4 + (1 : Int32))), some (.int p2)]) dX8_feed_85 rfl (by rfl) (by decide) (okp_at rfl) rfl ?_
          refine i_goto (tgt := 18) dX8_feed_88 (by decide) ?_
          refine At.fewer (ls' := [some (rf X 8 0), some (.int p1), some (.int p2), some (.int p3), some (.int (v4 + (1 : Int32))), none]) (And.intro rfl (And.intro rfl (And.intro rfl (And.intro rfl (And.intro rfl trivial))))) ?_
          exact ih _ _ h hk
      · refine i_iload_n dX8_feed_31 rfl ?_
        refine i_goto (tgt := 47) dX8_feed_32 (by decide) ?_
        refine i_istore (ls' := [some (rf X 8 0), some (.int p1), some (.int p2), some (.int p3), some (.int v4), some (.int p1)]) dX8_feed_47 (by decide) (okp_at rfl) rfl ?_
        refine i_aload_n dX8_feed_49 rfl ?_
        refine gf_X8_52 rfl (by omega) dX8_feed_50 ?_
        refine i_aload_n dX8_feed_53 rfl ?_
        refine gf_X8_201 rfl (by omega) dX8_feed_54 ?_
        refine i_iload dX8_feed_57 rfl ?_
        refine i_bipush (v := 24) dX8_feed_59 (by decide) ?_
        refine i_bipush (v := 8) dX8_feed_61 (by decide) ?_
        refine i_iload dX8_feed_63 rfl ?_
        refine i_iconst (v := 4) dX8_feed_65 (by decide) ?_
        refine i_irem dX8_feed_66 (by decide) ?_
        refine i_imul dX8_feed_67 ?_
        refine i_isub dX8_feed_68 ?_
        refine i_ishr dX8_feed_69 ?_
        refine i_sipush (v := 255) dX8_feed_70 (by decide) ?_
        refine i_iand dX8_feed_73 ?_
        refine as_36 dX8_feed_74 (by omega) h (fun j3 lj3 h => ?_)
        refine r_mem h (fun s3 _ h => ?_)
        refine i_aload_n dX8_feed_75 rfl ?_
        refine i_dup dX8_feed_76 rfl ?_
        refine gf_X8_201 rfl (by omega) dX8_feed_77 ?_
        refine i_iconst (v := 1) dX8_feed_80 (by decide) ?_
        refine i_iadd dX8_feed_81 ?_
        refine pf_X8_201 rfl (by omega) dX8_feed_82 ?_
        refine i_iinc (v := (v4 + (1 : Int32))) (ls' := [some (rf X 8 0), some (.int p1), some (.int p2), some (.int p3), some (.int (v4 + (1 : Int32))), some (.int p1)]) dX8_feed_85 rfl (by rfl) (by decide) (okp_at rfl) rfl ?_
        refine i_goto (tgt := 18) dX8_feed_88 (by decide) ?_
        refine At.fewer (ls' := [some (rf X 8 0), some (.int p1), some (.int p2), some (.int p3), some (.int (v4 + (1 : Int32))), none]) (And.intro rfl (And.intro rfl (And.intro rfl (And.intro rfl (And.intro rfl trivial))))) ?_
        exact ih _ _ h hk
def f_X8_feed  (p1 : Int32) (p2 : Int32) (p3 : Int32) (σ : Mem) : Option (Int32 × Mem) :=
  (if ((σ 8 0 16) + (12 : Int32)) ≤ (96 : Int32) then (f_X8_feed_18 p1 p2 p3 FU (0 : Int32) σ (fun σ_1 => (some ((σ_1 8 0 16), σ_1)))) else (some ((-1000000003 : Int32), σ)))
set_option maxRecDepth 100000 in
set_option maxHeartbeats 4000000 in
theorem F_X8_feed {X : Cx} {p1 : Int32} {p2 : Int32} {p3 : Int32} {σ : Mem} {res : (Int32 × Mem)}  (h : f_X8_feed p1 p2 p3 σ = some res) : Tri X 1 mX8_feed [rf X 8 0, .int p1, .int p2, .int p3] σ (some (.int res.1)) res.2 := by
  obtain ⟨r0, σ2⟩ := res
  unfold f_X8_feed at h
  refine Tri.of (ls := [some (rf X 8 0), some (.int p1), some (.int p2), some (.int p3), none, none]) (by decide) (Nat.le_of_ble_eq_true rfl) rfl ?_
  refine i_aload_n dX8_feed_0 rfl ?_
  refine gf_X8_201 rfl (by omega) dX8_feed_1 ?_
  refine i_bipush (v := 12) dX8_feed_4 (by decide) ?_
  refine i_iadd dX8_feed_6 ?_
  refine i_bipush (v := 96) dX8_feed_7 (by decide) ?_
  refine r_icmp_le (tgt := 15) dX8_feed_9 (by decide) h (fun c1 h => ?_) (fun c1 h => ?_)
  · refine i_iconst (v := 0) dX8_feed_15 (by decide) ?_
    refine i_istore (ls' := [some (rf X 8 0), some (.int p1), some (.int p2), some (.int p3), some (.int (0 : Int32)), none]) dX8_feed_16 (by decide) (okp_at rfl) rfl ?_
    refine L_X8_feed_18  FU _ _ h (fun σ_1 h => ?_)
    refine i_aload_n dX8_feed_91 rfl ?_
    refine gf_X8_201 rfl (by omega) dX8_feed_92 ?_
    exact e_iw rfl dX8_feed_95 h
  · refine i_ldc (v := (-1000000003)) dX8_feed_12 k_X8_87 ?_
    exact e_iw rfl dX8_feed_14 h
def f_X8_trim  (p1 : Int32) (σ : Mem) : Option (Int32 × Mem) :=
  (bnd (f_X8_isIn ((p1).toInt64) ((0 : Int64)) (((σ 8 0 16)).toInt64) σ) (fun a1 => (if a1 = 0 then (some ((-1000000001 : Int32), σ)) else (some (p1, (mput σ 8 0 16 p1))))))
set_option maxRecDepth 100000 in
set_option maxHeartbeats 4000000 in
theorem F_X8_trim {X : Cx} {p1 : Int32} {σ : Mem} {res : (Int32 × Mem)}  (h : f_X8_trim p1 σ = some res) : Tri X 2 mX8_trim [rf X 8 0, .int p1] σ (some (.int res.1)) res.2 := by
  obtain ⟨r0, σ2⟩ := res
  unfold f_X8_trim at h
  refine Tri.of (ls := [some (rf X 8 0), some (.int p1)]) (by decide) (Nat.le_of_ble_eq_true rfl) rfl ?_
  refine i_iload_n dX8_trim_0 rfl ?_
  refine i_i2l dX8_trim_1 ?_
  refine i_lconst (v := 0) dX8_trim_2 (by decide) ?_
  refine i_aload_n dX8_trim_3 rfl ?_
  refine gf_X8_201 rfl (by omega) dX8_trim_4 ?_
  refine i_i2l dX8_trim_7 ?_
  refine cS_ir dX8_trim_8 cw_X8_71 ci_X8_isIn h (fun a1 e => F_X8_isIn  e) (Nat.le_of_ble_eq_true rfl) rfl rfl (Nat.le_of_ble_eq_true rfl) (fun a1 ea1 h => ?_)
  refine r_if_ne (tgt := 17) dX8_trim_11 (by decide) h (fun c1 h => ?_) (fun c1 h => ?_)
  · refine i_aload_n dX8_trim_17 rfl ?_
    refine i_iload_n dX8_trim_18 rfl ?_
    refine pf_X8_201 rfl (by omega) dX8_trim_19 ?_
    refine i_iload_n dX8_trim_22 rfl ?_
    exact e_iw rfl dX8_trim_23 h
  · refine i_ldc (v := (-1000000001)) dX8_trim_14 k_X8_86 ?_
    exact e_iw rfl dX8_trim_16 h
def f_X8_isLetter  (p1 : Int32) (σ : Mem) : Option Int32 :=
  (if (σ 8 0 16) ≤ p1 then (some (0 : Int32)) else (bnd (ix 96 p1) (fun j1 => (bnd (f_X8_isIn (((σ 36 0 j1)).toInt64) ((97 : Int64)) ((122 : Int64)) σ) (fun a1 => (if a1 = 0 then (some (0 : Int32)) else (some (1 : Int32))))))))
set_option maxRecDepth 100000 in
set_option maxHeartbeats 4000000 in
theorem F_X8_isLetter {X : Cx} {p1 : Int32} {σ : Mem} {res : Int32}  (h : f_X8_isLetter p1 σ = some res) : Tri X 2 mX8_isLetter [rf X 8 0, .int p1] σ (some (.int res)) σ := by
  unfold f_X8_isLetter at h
  refine Tri.of (ls := [some (rf X 8 0), some (.int p1)]) (by decide) (Nat.le_of_ble_eq_true rfl) rfl ?_
  refine i_iload_n dX8_isLetter_0 rfl ?_
  refine i_aload_n dX8_isLetter_1 rfl ?_
  refine gf_X8_201 rfl (by omega) dX8_isLetter_2 ?_
  refine r_icmp_ge (tgt := 31) dX8_isLetter_5 (by decide) h (fun c1 h => ?_) (fun c1 h => ?_)
  · refine i_iconst (v := 0) dX8_isLetter_31 (by decide) ?_
    exact e_zr rfl (by decide) dX8_isLetter_32 h
  · refine i_aload_n dX8_isLetter_8 rfl ?_
    refine gf_X8_52 rfl (by omega) dX8_isLetter_9 ?_
    refine i_iload_n dX8_isLetter_12 rfl ?_
    refine al_36 dX8_isLetter_13 (by omega) h (fun j1 lj1 h => ?_)
    refine i_i2l dX8_isLetter_14 ?_
    refine i_ldc2 (v := 97) dX8_isLetter_15 k_X8_205 ?_
    refine i_ldc2 (v := 122) dX8_isLetter_18 k_X8_207 ?_
    refine cS_ir dX8_isLetter_21 cw_X8_71 ci_X8_isIn h (fun a1 e => F_X8_isIn  e) (Nat.le_of_ble_eq_true rfl) rfl rfl (Nat.le_of_ble_eq_true rfl) (fun a1 ea1 h => ?_)
    refine r_if_eq (tgt := 31) dX8_isLetter_24 (by decide) h (fun c2 h => ?_) (fun c2 h => ?_)
    · refine i_iconst (v := 0) dX8_isLetter_31 (by decide) ?_
      exact e_zr rfl (by decide) dX8_isLetter_32 h
    · refine i_iconst (v := 1) dX8_isLetter_27 (by decide) ?_
      refine i_goto (tgt := 32) dX8_isLetter_28 (by decide) ?_
      exact e_zr rfl (by decide) dX8_isLetter_32 h
def f_X8_isDigit  (p1 : Int32) (σ : Mem) : Option Int32 :=
  (if (σ 8 0 16) ≤ p1 then (some (0 : Int32)) else (bnd (ix 96 p1) (fun j1 => (bnd (f_X8_isIn (((σ 36 0 j1)).toInt64) ((48 : Int64)) ((57 : Int64)) σ) (fun a1 => (if a1 = 0 then (some (0 : Int32)) else (some (1 : Int32))))))))
set_option maxRecDepth 100000 in
set_option maxHeartbeats 4000000 in
theorem F_X8_isDigit {X : Cx} {p1 : Int32} {σ : Mem} {res : Int32}  (h : f_X8_isDigit p1 σ = some res) : Tri X 2 mX8_isDigit [rf X 8 0, .int p1] σ (some (.int res)) σ := by
  unfold f_X8_isDigit at h
  refine Tri.of (ls := [some (rf X 8 0), some (.int p1)]) (by decide) (Nat.le_of_ble_eq_true rfl) rfl ?_
  refine i_iload_n dX8_isDigit_0 rfl ?_
  refine i_aload_n dX8_isDigit_1 rfl ?_
  refine gf_X8_201 rfl (by omega) dX8_isDigit_2 ?_
  refine r_icmp_ge (tgt := 31) dX8_isDigit_5 (by decide) h (fun c1 h => ?_) (fun c1 h => ?_)
  · refine i_iconst (v := 0) dX8_isDigit_31 (by decide) ?_
    exact e_zr rfl (by decide) dX8_isDigit_32 h
  · refine i_aload_n dX8_isDigit_8 rfl ?_
    refine gf_X8_52 rfl (by omega) dX8_isDigit_9 ?_
    refine i_iload_n dX8_isDigit_12 rfl ?_
    refine al_36 dX8_isDigit_13 (by omega) h (fun j1 lj1 h => ?_)
    refine i_i2l dX8_isDigit_14 ?_
    refine i_ldc2 (v := 48) dX8_isDigit_15 k_X8_209 ?_
    refine i_ldc2 (v := 57) dX8_isDigit_18 k_X8_211 ?_
    refine cS_ir dX8_isDigit_21 cw_X8_71 ci_X8_isIn h (fun a1 e => F_X8_isIn  e) (Nat.le_of_ble_eq_true rfl) rfl rfl (Nat.le_of_ble_eq_true rfl) (fun a1 ea1 h => ?_)
    refine r_if_eq (tgt := 31) dX8_isDigit_24 (by decide) h (fun c2 h => ?_) (fun c2 h => ?_)
    · refine i_iconst (v := 0) dX8_isDigit_31 (by decide) ?_
      exact e_zr rfl (by decide) dX8_isDigit_32 h
    · refine i_iconst (v := 1) dX8_isDigit_27 (by decide) ?_
      refine i_goto (tgt := 32) dX8_isDigit_28 (by decide) ?_
      exact e_zr rfl (by decide) dX8_isDigit_32 h
def f_X8_nextToken_34 (p1 : Int32) (p2 : Int32) : Nat → Mem → (Mem → Option Mem) → Option Mem
  | 0, _, _ => none
  | n + 1, σ, k =>
    (if (σ 8 0 16) ≤ (σ 8 0 18) then (k σ) else (bnd (ix 96 (σ 8 0 18)) (fun j1 => (if (σ 36 0 j1) = (32 : Int32) then (f_X8_nextToken_34 p1 p2 n (mput σ 8 0 18 ((σ 8 0 18) + (1 : Int32))) k) else (k σ)))))
set_option maxRecDepth 100000 in
set_option maxHeartbeats 4000000 in
theorem L_X8_nextToken_34 {X : Cx} {p1 : Int32} {p2 : Int32} {σ2 : Mem} {k : Mem → Option Mem}  : ∀ (n : Nat) (σ : Mem), f_X8_nextToken_34 p1 p2 n  σ k = some σ2 → (∀ (σ1 : Mem), k σ1 = some σ2 → At X 3 mX8_nextToken 72 [some (rf X 8 0), some (.int p1), some (.int p2)] [] σ1 none σ2) → At X 3 mX8_nextToken 34 [some (rf X 8 0), some (.int p1), some (.int p2)] [] σ none σ2 := by
  intro n
  induction n with
  | zero =>
    intro  σ h
    cases h
  | succ n ih =>
    intro  σ h hk
    rw [f_X8_nextToken_34.eq_2] at h
    refine i_aload_n dX8_nextToken_34 rfl ?_
    refine gf_X8_213 rfl (by omega) dX8_nextToken_35 ?_
    refine i_aload_n dX8_nextToken_38 rfl ?_
    refine gf_X8_201 rfl (by omega) dX8_nextToken_39 ?_
    refine r_icmp_ge (tgt := 72) dX8_nextToken_42 (by decide) h (fun c1 h => ?_) (fun c1 h => ?_)
    · exact hk _ h
    · refine i_aload_n dX8_nextToken_45 rfl ?_
      refine gf_X8_52 rfl (by omega) dX8_nextToken_46 ?_
      refine i_aload_n dX8_nextToken_49 rfl ?_
      refine gf_X8_213 rfl (by omega) dX8_nextToken_50 ?_
      refine al_36 dX8_nextToken_53 (by omega) h (fun j1 lj1 h => ?_)
      refine i_bipush (v := 32) dX8_nextToken_54 (by decide) ?_
      refine r_icmp_ne (tgt := 72) dX8_nextToken_56 (by decide) h (fun c2 h => ?_) (fun c2 h => ?_)
      · exact hk _ h
      · refine i_aload_n dX8_nextToken_59 rfl ?_
        refine i_dup dX8_nextToken_60 rfl ?_
        refine gf_X8_213 rfl (by omega) dX8_nextToken_61 ?_
        refine i_iconst (v := 1) dX8_nextToken_64 (by decide) ?_
        refine i_iadd dX8_nextToken_65 ?_
        refine pf_X8_213 rfl (by omega) dX8_nextToken_66 ?_
        refine i_goto (tgt := 34) dX8_nextToken_69 (by decide) ?_
        exact ih _ h hk
def f_X8_nextToken_214 (p1 : Int32) : Nat → Mem → (Mem → Option Mem) → Option Mem
  | 0, _, _ => none
  | n + 1, σ, k =>
    (bnd (f_X8_isDigit (σ 8 0 18) σ) (fun a1 => (if a1 = 0 then (k σ) else (if (4 : Int32) ≤ ((σ 8 0 18) - (σ 8 0 17)) then (bnd (some (mput (mput σ 8 0 20 (σ 8 0 20)) 8 0 18 (((mput σ 8 0 20 (σ 8 0 20)) 8 0 18) + (1 : Int32)))) (fun s1 => (f_X8_nextToken_214 p1 n s1 k))) else (bnd (ix 96 (σ 8 0 18)) (fun j1 => (bnd (some (mput (mput σ 8 0 20 ((((10 : Int32) * (σ 8 0 20)) + (σ 36 0 j1)) - (48 : Int32))) 8 0 18 (((mput σ 8 0 20 ((((10 : Int32) * (σ 8 0 20)) + (σ 36 0 j1)) - (48 : Int32))) 8 0 18) + (1 : Int32)))) (fun s2 => (f_X8_nextToken_214 p1 n s2 k)))))))))
set_option maxRecDepth 100000 in
set_option maxHeartbeats 4000000 in
theorem L_X8_nextToken_214 {X : Cx} {p1 : Int32} {σ2 : Mem} {k : Mem → Option Mem}  : ∀ (n : Nat) (σ : Mem), f_X8_nextToken_214 p1 n  σ k = some σ2 → (∀ (σ1 : Mem), k σ1 = some σ2 → At X 3 mX8_nextToken 282 [some (rf X 8 0), some (.int p1), none] [] σ1 none σ2) → At X 3 mX8_nextToken 214 [some (rf X 8 0), some (.int p1), none] [] σ none σ2 := by
  intro n
  induction n with
  | zero =>
    intro  σ h
    cases h
  | succ n ih =>
    intro  σ h hk
    rw [f_X8_nextToken_214.eq_2] at h
    refine i_aload_n dX8_nextToken_214 rfl ?_
    refine i_aload_n dX8_nextToken_215 rfl ?_
    refine gf_X8_213 rfl (by omega) dX8_nextToken_216 ?_
    refine cV_ir dX8_nextToken_219 cw_X8_228 ci_X8_isDigit rfl rfl (by decide) (show 0 < 1 by omega) h (fun a1 e => F_X8_isDigit  e) (Nat.le_of_ble_eq_true rfl) rfl rfl (Nat.le_of_ble_eq_true rfl) (fun a1 ea1 h => ?_)
    refine r_if_eq (tgt := 282) dX8_nextToken_222 (by decide) h (fun c1 h => ?_) (fun c1 h => ?_)
    · exact hk _ h
    · refine i_aload_n dX8_nextToken_225 rfl ?_
      refine i_aload_n dX8_nextToken_226 rfl ?_
      refine gf_X8_213 rfl (by omega) dX8_nextToken_227 ?_
      refine i_aload_n dX8_nextToken_230 rfl ?_
      refine gf_X8_219 rfl (by omega) dX8_nextToken_231 ?_
      refine i_isub dX8_nextToken_234 ?_
      refine i_iconst (v := 4) dX8_nextToken_235 (by decide) ?_
      refine r_icmp_ge (tgt := 262) dX8_nextToken_236 (by decide) h (fun c2 h => ?_) (fun c2 h => ?_)
      · refine i_aload_n dX8_nextToken_262 rfl ?_
        refine gf_X8_231 rfl (by omega) dX8_nextToken_263 ?_
        refine pf_X8_231 rfl (by omega) dX8_nextToken_266 ?_
        refine i_aload_n dX8_nextToken_269 rfl ?_
        refine i_dup dX8_nextToken_270 rfl ?_
        refine gf_X8_213 rfl (by omega) dX8_nextToken_271 ?_
        refine i_iconst (v := 1) dX8_nextToken_274 (by decide) ?_
        refine i_iadd dX8_nextToken_275 ?_
        refine pf_X8_213 rfl (by omega) dX8_nextToken_276 ?_
        refine r_mem h (fun s1 _ h => ?_)
        refine i_goto (tgt := 214) dX8_nextToken_279 (by decide) ?_
        exact ih _ h hk
      · refine i_bipush (v := 10) dX8_nextToken_239 (by decide) ?_
        refine i_aload_n dX8_nextToken_241 rfl ?_
        refine gf_X8_231 rfl (by omega) dX8_nextToken_242 ?_
        refine i_imul dX8_nextToken_245 ?_
        refine i_aload_n dX8_nextToken_246 rfl ?_
        refine gf_X8_52 rfl (by omega) dX8_nextToken_247 ?_
        refine i_aload_n dX8_nextToken_250 rfl ?_
        refine gf_X8_213 rfl (by omega) dX8_nextToken_251 ?_
        refine al_36 dX8_nextToken_254 (by omega) h (fun j1 lj1 h => ?_)
        refine i_iadd dX8_nextToken_255 ?_
        refine i_bipush (v := 48) dX8_nextToken_256 (by decide) ?_
        refine i_isub dX8_nextToken_258 ?_
        refine i_goto (tgt := 266) dX8_nextToken_259 (by decide) ?_
        refine pf_X8_231 rfl (by omega) dX8_nextToken_266 ?_
        refine i_aload_n dX8_nextToken_269 rfl ?_
        refine i_dup dX8_nextToken_270 rfl ?_
        refine gf_X8_213 rfl (by omega) dX8_nextToken_271 ?_
        refine i_iconst (v := 1) dX8_nextToken_274 (by decide) ?_
        refine i_iadd dX8_nextToken_275 ?_
        refine pf_X8_213 rfl (by omega) dX8_nextToken_276 ?_
        refine r_mem h (fun s2 _ h => ?_)
        refine i_goto (tgt := 214) dX8_nextToken_279 (by decide) ?_
        exact ih _ h hk
def f_X8_nextToken_128 (p1 : Int32) : Nat → Mem → (Mem → Option Mem) → Option Mem
  | 0, _, _ => none
  | n + 1, σ, k =>
    (bnd (f_X8_isLetter (σ 8 0 18) σ) (fun a1 => (if a1 = 0 then (k σ) else (f_X8_nextToken_128 p1 n (mput σ 8 0 18 ((σ 8 0 18) + (1 : Int32))) k))))
set_option maxRecDepth 100000 in
set_option maxHeartbeats 4000000 in
theorem L_X8_nextToken_128 {X : Cx} {p1 : Int32} {σ2 : Mem} {k : Mem → Option Mem}  : ∀ (n : Nat) (σ : Mem), f_X8_nextToken_128 p1 n  σ k = some σ2 → (∀ (σ1 : Mem), k σ1 = some σ2 → At X 3 mX8_nextToken 152 [some (rf X 8 0), some (.int p1), none] [] σ1 none σ2) → At X 3 mX8_nextToken 128 [some (rf X 8 0), some (.int p1), none] [] σ none σ2 := by
  intro n
  induction n with
  | zero =>
    intro  σ h
    cases h
  | succ n ih =>
    intro  σ h hk
    rw [f_X8_nextToken_128.eq_2] at h
    refine i_aload_n dX8_nextToken_128 rfl ?_
    refine i_aload_n dX8_nextToken_129 rfl ?_
    refine gf_X8_213 rfl (by omega) dX8_nextToken_130 ?_
    refine cV_ir dX8_nextToken_133 cw_X8_222 ci_X8_isLetter rfl rfl (by decide) (show 0 < 1 by omega) h (fun a1 e => F_X8_isLetter  e) (Nat.le_of_ble_eq_true rfl) rfl rfl (Nat.le_of_ble_eq_true rfl) (fun a1 ea1 h => ?_)
    refine r_if_eq (tgt := 152) dX8_nextToken_136 (by decide) h (fun c1 h => ?_) (fun c1 h => ?_)
    · exact hk _ h
    · refine i_aload_n dX8_nextToken_139 rfl ?_
      refine i_dup dX8_nextToken_140 rfl ?_
      refine gf_X8_213 rfl (by omega) dX8_nextToken_141 ?_
      refine i_iconst (v := 1) dX8_nextToken_144 (by decide) ?_
      refine i_iadd dX8_nextToken_145 ?_
      refine pf_X8_213 rfl (by omega) dX8_nextToken_146 ?_
      refine i_goto (tgt := 128) dX8_nextToken_149 (by decide) ?_
      exact ih _ h hk
def f_X8_nextToken   (σ : Mem) : Option Mem :=
  (if (σ 8 0 18) ≤ 0 then (f_X8_nextToken_34 (0 : Int32) (σ 8 0 18) FU σ (fun σ_1 => (if ((mput σ_1 8 0 17 (σ_1 8 0 18)) 8 0 17) = ((mput σ_1 8 0 17 (σ_1 8 0 18)) 8 0 16) then (some (mput (mput σ_1 8 0 17 (σ_1 8 0 18)) 8 0 19 (0 : Int32))) else (bnd (f_X8_isLetter ((mput σ_1 8 0 17 (σ_1 8 0 18)) 8 0 17) (mput σ_1 8 0 17 (σ_1 8 0 18))) (fun a1 => (if a1 = 0 then (bnd (f_X8_isDigit ((mput σ_1 8 0 17 (σ_1 8 0 18)) 8 0 17) (mput σ_1 8 0 17 (σ_1 8 0 18))) (fun a2 => (if a2 = 0 then (bnd (ix 96 ((mput (mput σ_1 8 0 17 (σ_1 8 0 18)) 8 0 19 (3 : Int32)) 8 0 17)) (fun j1 => (bnd (some (mput (mput (mput σ_1 8 0 17 (σ_1 8 0 18)) 8 0 19 (3 : Int32)) 8 0 21 ((mput (mput σ_1 8 0 17 (σ_1 8 0 18)) 8 0 19 (3 : Int32)) 36 0 j1))) (fun s1 => (some (mput s1 8 0 18 ((s1 8 0 18) + (1 : Int32)))))))) else (f_X8_nextToken_214 (0 : Int32) FU (mput (mput σ_1 8 0 17 (σ_1 8 0 18)) 8 0 20 (0 : Int32)) (fun σ_2 => (if ((σ_2 8 0 18) - (σ_2 8 0 17)) ≤ (4 : Int32) then (some (mput σ_2 8 0 19 (2 : Int32))) else (some (mput σ_2 8 0 19 (4 : Int32))))))))) else (f_X8_nextToken_128 (0 : Int32) FU (mput σ_1 8 0 17 (σ_1 8 0 18)) (fun σ_3 => (if (((mput σ_3 8 0 19 (1 : Int32)) 8 0 18) - ((mput σ_3 8 0 19 (1 : Int32)) 8 0 17)) = (1 : Int32) then (bnd (ix 96 ((mput σ_3 8 0 19 (1 : Int32)) 8 0 17)) (fun j2 => (some (mput (mput σ_3 8 0 19 (1 : Int32)) 8 0 21 ((mput σ_3 8 0 19 (1 : Int32)) 36 0 j2))))) else (some (mput (mput σ_3 8 0 19 (1 : Int32)) 8 0 21 (0 : Int32)))))))))))) else (if (σ 8 0 19) = (1 : Int32) then (f_X8_nextToken_34 (1 : Int32) (σ 8 0 18) FU σ (fun σ_4 => (if (σ 8 0 18) = (σ_4 8 0 18) then (if ((mput σ_4 8 0 17 (σ_4 8 0 18)) 8 0 17) = ((mput σ_4 8 0 17 (σ_4 8 0 18)) 8 0 16) then (some (mput (mput σ_4 8 0 17 (σ_4 8 0 18)) 8 0 19 (0 : Int32))) else (bnd (f_X8_isLetter ((mput σ_4 8 0 17 (σ_4 8 0 18)) 8 0 17) (mput σ_4 8 0 17 (σ_4 8 0 18))) (fun a5 => (if a5 = 0 then (bnd (f_X8_isDigit ((mput σ_4 8 0 17 (σ_4 8 0 18)) 8 0 17) (mput σ_4 8 0 17 (σ_4 8 0 18))) (fun a6 => (if a6 = 0 then (bnd (ix 96 ((mput (mput σ_4 8 0 17 (σ_4 8 0 18)) 8 0 19 (3 : Int32)) 8 0 17)) (fun j5 => (bnd (some (mput (mput (mput σ_4 8 0 17 (σ_4 8 0 18)) 8 0 19 (3 : Int32)) 8 0 21 ((mput (mput σ_4 8 0 17 (σ_4 8 0 18)) 8 0 19 (3 : Int32)) 36 0 j5))) (fun s3 => (some (mput s3 8 0 18 ((s3 8 0 18) + (1 : Int32)))))))) else (f_X8_nextToken_214 (1 : Int32) FU (mput (mput σ_4 8 0 17 (σ_4 8 0 18)) 8 0 20 (0 : Int32)) (fun σ_7 => (some (mput σ_7 8 0 19 (4 : Int32)))))))) else (f_X8_nextToken_128 (1 : Int32) FU (mput σ_4 8 0 17 (σ_4 8 0 18)) (fun σ_8 => (if (((mput σ_8 8 0 19 (4 : Int32)) 8 0 18) - ((mput σ_8 8 0 19 (4 : Int32)) 8 0 17)) = (1 : Int32) then (bnd (ix 96 ((mput σ_8 8 0 19 (4 : Int32)) 8 0 17)) (fun j6 => (some (mput (mput σ_8 8 0 19 (4 : Int32)) 8 0 21 ((mput σ_8 8 0 19 (4 : Int32)) 36 0 j6))))) else (some (mput (mput σ_8 8 0 19 (4 : Int32)) 8 0 21 (0 : Int32)))))))))) else (if ((mput σ_4 8 0 17 (σ_4 8 0 18)) 8 0 17) = ((mput σ_4 8 0 17 (σ_4 8 0 18)) 8 0 16) then (some (mput (mput σ_4 8 0 17 (σ_4 8 0 18)) 8 0 19 (0 : Int32))) else (bnd (f_X8_isLetter ((mput σ_4 8 0 17 (σ_4 8 0 18)) 8 0 17) (mput σ_4 8 0 17 (σ_4 8 0 18))) (fun a3 => (if a3 = 0 then (bnd (f_X8_isDigit ((mput σ_4 8 0 17 (σ_4 8 0 18)) 8 0 17) (mput σ_4 8 0 17 (σ_4 8 0 18))) (fun a4 => (if a4 = 0 then (bnd (ix 96 ((mput (mput σ_4 8 0 17 (σ_4 8 0 18)) 8 0 19 (3 : Int32)) 8 0 17)) (fun j3 => (bnd (some (mput (mput (mput σ_4 8 0 17 (σ_4 8 0 18)) 8 0 19 (3 : Int32)) 8 0 21 ((mput (mput σ_4 8 0 17 (σ_4 8 0 18)) 8 0 19 (3 : Int32)) 36 0 j3))) (fun s2 => (some (mput s2 8 0 18 ((s2 8 0 18) + (1 : Int32)))))))) else (f_X8_nextToken_214 (0 : Int32) FU (mput (mput σ_4 8 0 17 (σ_4 8 0 18)) 8 0 20 (0 : Int32)) (fun σ_5 => (if ((σ_5 8 0 18) - (σ_5 8 0 17)) ≤ (4 : Int32) then (some (mput σ_5 8 0 19 (2 : Int32))) else (some (mput σ_5 8 0 19 (4 : Int32))))))))) else (f_X8_nextToken_128 (0 : Int32) FU (mput σ_4 8 0 17 (σ_4 8 0 18)) (fun σ_6 => (if (((mput σ_6 8 0 19 (1 : Int32)) 8 0 18) - ((mput σ_6 8 0 19 (1 : Int32)) 8 0 17)) = (1 : Int32) then (bnd (ix 96 ((mput σ_6 8 0 19 (1 : Int32)) 8 0 17)) (fun j4 => (some (mput (mput σ_6 8 0 19 (1 : Int32)) 8 0 21 ((mput σ_6 8 0 19 (1 : Int32)) 36 0 j4))))) else (some (mput (mput σ_6 8 0 19 (1 : Int32)) 8 0 21 (0 : Int32))))))))))))) else (if (σ 8 0 19) = (2 : Int32) then (f_X8_nextToken_34 (1 : Int32) (σ 8 0 18) FU σ (fun σ_12 => (if (σ 8 0 18) = (σ_12 8 0 18) then (if ((mput σ_12 8 0 17 (σ_12 8 0 18)) 8 0 17) = ((mput σ_12 8 0 17 (σ_12 8 0 18)) 8 0 16) then (some (mput (mput σ_12 8 0 17 (σ_12 8 0 18)) 8 0 19 (0 : Int32))) else (bnd (f_X8_isLetter ((mput σ_12 8 0 17 (σ_12 8 0 18)) 8 0 17) (mput σ_12 8 0 17 (σ_12 8 0 18))) (fun a11 => (if a11 = 0 then (bnd (f_X8_isDigit ((mput σ_12 8 0 17 (σ_12 8 0 18)) 8 0 17) (mput σ_12 8 0 17 (σ_12 8 0 18))) (fun a12 => (if a12 = 0 then (bnd (ix 96 ((mput (mput σ_12 8 0 17 (σ_12 8 0 18)) 8 0 19 (3 : Int32)) 8 0 17)) (fun j11 => (bnd (some (mput (mput (mput σ_12 8 0 17 (σ_12 8 0 18)) 8 0 19 (3 : Int32)) 8 0 21 ((mput (mput σ_12 8 0 17 (σ_12 8 0 18)) 8 0 19 (3 : Int32)) 36 0 j11))) (fun s6 => (some (mput s6 8 0 18 ((s6 8 0 18) + (1 : Int32)))))))) else (f_X8_nextToken_214 (1 : Int32) FU (mput (mput σ_12 8 0 17 (σ_12 8 0 18)) 8 0 20 (0 : Int32)) (fun σ_15 => (some (mput σ_15 8 0 19 (4 : Int32)))))))) else (f_X8_nextToken_128 (1 : Int32) FU (mput σ_12 8 0 17 (σ_12 8 0 18)) (fun σ_16 => (if (((mput σ_16 8 0 19 (4 : Int32)) 8 0 18) - ((mput σ_16 8 0 19 (4 : Int32)) 8 0 17)) = (1 : Int32) then (bnd (ix 96 ((mput σ_16 8 0 19 (4 : Int32)) 8 0 17)) (fun j12 => (some (mput (mput σ_16 8 0 19 (4 : Int32)) 8 0 21 ((mput σ_16 8 0 19 (4 : Int32)) 36 0 j12))))) else (some (mput (mput σ_16 8 0 19 (4 : Int32)) 8 0 21 (0 : Int32)))))))))) else (if ((mput σ_12 8 0 17 (σ_12 8 0 18)) 8 0 17) = ((mput σ_12 8 0 17 (σ_12 8 0 18)) 8 0 16) then (some (mput (mput σ_12 8 0 17 (σ_12 8 0 18)) 8 0 19 (0 : Int32))) else (bnd (f_X8_isLetter ((mput σ_12 8 0 17 (σ_12 8 0 18)) 8 0 17) (mput σ_12 8 0 17 (σ_12 8 0 18))) (fun a9 => (if a9 = 0 then (bnd (f_X8_isDigit ((mput σ_12 8 0 17 (σ_12 8 0 18)) 8 0 17) (mput σ_12 8 0 17 (σ_12 8 0 18))) (fun a10 => (if a10 = 0 then (bnd (ix 96 ((mput (mput σ_12 8 0 17 (σ_12 8 0 18)) 8 0 19 (3 : Int32)) 8 0 17)) (fun j9 => (bnd (some (mput (mput (mput σ_12 8 0 17 (σ_12 8 0 18)) 8 0 19 (3 : Int32)) 8 0 21 ((mput (mput σ_12 8 0 17 (σ_12 8 0 18)) 8 0 19 (3 : Int32)) 36 0 j9))) (fun s5 => (some (mput s5 8 0 18 ((s5 8 0 18) + (1 : Int32)))))))) else (f_X8_nextToken_214 (0 : Int32) FU (mput (mput σ_12 8 0 17 (σ_12 8 0 18)) 8 0 20 (0 : Int32)) (fun σ_13 => (if ((σ_13 8 0 18) - (σ_13 8 0 17)) ≤ (4 : Int32) then (some (mput σ_13 8 0 19 (2 : Int32))) else (some (mput σ_13 8 0 19 (4 : Int32))))))))) else (f_X8_nextToken_128 (0 : Int32) FU (mput σ_12 8 0 17 (σ_12 8 0 18)) (fun σ_14 => (if (((mput σ_14 8 0 19 (1 : Int32)) 8 0 18) - ((mput σ_14 8 0 19 (1 : Int32)) 8 0 17)) = (1 : Int32) then (bnd (ix 96 ((mput σ_14 8 0 19 (1 : Int32)) 8 0 17)) (fun j10 => (some (mput (mput σ_14 8 0 19 (1 : Int32)) 8 0 21 ((mput σ_14 8 0 19 (1 : Int32)) 36 0 j10))))) else (some (mput (mput σ_14 8 0 19 (1 : Int32)) 8 0 21 (0 : Int32))))))))))))) else (f_X8_nextToken_34 (0 : Int32) (σ 8 0 18) FU σ (fun σ_9 => (if ((mput σ_9 8 0 17 (σ_9 8 0 18)) 8 0 17) = ((mput σ_9 8 0 17 (σ_9 8 0 18)) 8 0 16) then (some (mput (mput σ_9 8 0 17 (σ_9 8 0 18)) 8 0 19 (0 : Int32))) else (bnd (f_X8_isLetter ((mput σ_9 8 0 17 (σ_9 8 0 18)) 8 0 17) (mput σ_9 8 0 17 (σ_9 8 0 18))) (fun a7 => (if a7 = 0 then (bnd (f_X8_isDigit ((mput σ_9 8 0 17 (σ_9 8 0 18)) 8 0 17) (mput σ_9 8 0 17 (σ_9 8 0 18))) (fun a8 => (if a8 = 0 then (bnd (ix 96 ((mput (mput σ_9 8 0 17 (σ_9 8 0 18)) 8 0 19 (3 : Int32)) 8 0 17)) (fun j7 => (bnd (some (mput (mput (mput σ_9 8 0 17 (σ_9 8 0 18)) 8 0 19 (3 : Int32)) 8 0 21 ((mput (mput σ_9 8 0 17 (σ_9 8 0 18)) 8 0 19 (3 : Int32)) 36 0 j7))) (fun s4 => (some (mput s4 8 0 18 ((s4 8 0 18) + (1 : Int32)))))))) else (f_X8_nextToken_214 (0 : Int32) FU (mput (mput σ_9 8 0 17 (σ_9 8 0 18)) 8 0 20 (0 : Int32)) (fun σ_10 => (if ((σ_10 8 0 18) - (σ_10 8 0 17)) ≤ (4 : Int32) then (some (mput σ_10 8 0 19 (2 : Int32))) else (some (mput σ_10 8 0 19 (4 : Int32))))))))) else (f_X8_nextToken_128 (0 : Int32) FU (mput σ_9 8 0 17 (σ_9 8 0 18)) (fun σ_11 => (if (((mput σ_11 8 0 19 (1 : Int32)) 8 0 18) - ((mput σ_11 8 0 19 (1 : Int32)) 8 0 17)) = (1 : Int32) then (bnd (ix 96 ((mput σ_11 8 0 19 (1 : Int32)) 8 0 17)) (fun j8 => (some (mput (mput σ_11 8 0 19 (1 : Int32)) 8 0 21 ((mput σ_11 8 0 19 (1 : Int32)) 36 0 j8))))) else (some (mput (mput σ_11 8 0 19 (1 : Int32)) 8 0 21 (0 : Int32)))))))))))))))
set_option maxRecDepth 100000 in
set_option maxHeartbeats 4000000 in
theorem F_X8_nextToken {X : Cx}  {σ : Mem} {res : Mem}  (h : f_X8_nextToken σ = some res) : Tri X 3 mX8_nextToken [rf X 8 0] σ none res := by
  unfold f_X8_nextToken at h
  refine Tri.of (ls := [some (rf X 8 0), none, none]) (by decide) (Nat.le_of_ble_eq_true rfl) rfl ?_
  refine i_aload_n dX8_nextToken_0 rfl ?_
  refine gf_X8_213 rfl (by omega) dX8_nextToken_1 ?_
  refine r_if_le (tgt := 27) dX8_nextToken_4 (by decide) h (fun c1 h => ?_) (fun c1 h => ?_)
  · refine i_iconst (v := 0) dX8_nextToken_27 (by decide) ?_
    refine i_istore_n (ls' := [some (rf X 8 0), some (.int (0 : Int32)), none]) dX8_nextToken_28 (by decide) (okp_at rfl) rfl ?_
    refine i_aload_n dX8_nextToken_29 rfl ?_
    refine gf_X8_213 rfl (by omega) dX8_nextToken_30 ?_
    refine i_istore_n (ls' := [some (rf X 8 0), some (.int (0 : Int32)), some (.int (σ 8 0 18))]) dX8_nextToken_33 (by decide) (okp_at rfl) rfl ?_
    refine L_X8_nextToken_34  FU _ h (fun σ_1 h => ?_)
    refine i_iload_n dX8_nextToken_72 rfl ?_
    refine i_if_eq (tgt := 88) dX8_nextToken_73 (by decide) (fun _ => ?_) (fun c => absurd c (by decide))
    refine i_iconst (v := 0) dX8_nextToken_88 (by decide) ?_
    refine i_istore_n (ls' := [some (rf X 8 0), some (.int (0 : Int32)), some (.int (σ 8 0 18))]) dX8_nextToken_89 (by decide) (okp_at rfl) rfl ?_
    refine i_aload_n dX8_nextToken_90 rfl ?_
    refine i_aload_n dX8_nextToken_91 rfl ?_
    refine gf_X8_213 rfl (by omega) dX8_nextToken_92 ?_
    refine pf_X8_219 rfl (by omega) dX8_nextToken_95 ?_
    refine i_aload_n dX8_nextToken_98 rfl ?_
    refine gf_X8_219 rfl (by omega) dX8_nextToken_99 ?_
    refine i_aload_n dX8_nextToken_102 rfl ?_
    refine gf_X8_201 rfl (by omega) dX8_nextToken_103 ?_
    refine r_icmp_ne (tgt := 117) dX8_nextToken_106 (by decide) h (fun c2 h => ?_) (fun c2 h => ?_)
    · refine i_aload_n dX8_nextToken_117 rfl ?_
      refine i_aload_n dX8_nextToken_118 rfl ?_
      refine gf_X8_219 rfl (by omega) dX8_nextToken_119 ?_
      refine cV_ir dX8_nextToken_122 cw_X8_222 ci_X8_isLetter rfl rfl (by decide) (show 0 < 1 by omega) h (fun a1 e => F_X8_isLetter  e) (Nat.le_of_ble_eq_true rfl) rfl rfl (Nat.le_of_ble_eq_true rfl) (fun a1 ea1 h => ?_)
      refine r_if_eq (tgt := 198) dX8_nextToken_125 (by decide) h (fun c3 h => ?_) (fun c3 h => ?_)
      · refine i_aload_n dX8_nextToken_198 rfl ?_
        refine i_aload_n dX8_nextToken_199 rfl ?_
        refine gf_X8_219 rfl (by omega) dX8_nextToken_200 ?_
        refine cV_ir dX8_nextToken_203 cw_X8_228 ci_X8_isDigit rfl rfl (by decide) (show 0 < 1 by omega) h (fun a2 e => F_X8_isDigit  e) (Nat.le_of_ble_eq_true rfl) rfl rfl (Nat.le_of_ble_eq_true rfl) (fun a2 ea2 h => ?_)
        refine r_if_eq (tgt := 311) dX8_nextToken_206 (by decide) h (fun c4 h => ?_) (fun c4 h => ?_)
        · refine i_aload_n dX8_nextToken_311 rfl ?_
          refine i_iconst (v := 3) dX8_nextToken_312 (by decide) ?_
          refine pf_X8_216 rfl (by omega) dX8_nextToken_313 ?_
          refine i_aload_n dX8_nextToken_316 rfl ?_
          refine i_aload_n dX8_nextToken_317 rfl ?_
          refine gf_X8_52 rfl (by omega) dX8_nextToken_318 ?_
          refine i_aload_n dX8_nextToken_321 rfl ?_
          refine gf_X8_219 rfl (by omega) dX8_nextToken_322 ?_
          refine al_36 dX8_nextToken_325 (by omega) h (fun j1 lj1 h => ?_)
          refine pf_X8_225 rfl (by omega) dX8_nextToken_326 ?_
          refine r_mem h (fun s1 _ h => ?_)
          refine i_aload_n dX8_nextToken_329 rfl ?_
          refine i_dup dX8_nextToken_330 rfl ?_
          refine gf_X8_213 rfl (by omega) dX8_nextToken_331 ?_
          refine i_iconst (v := 1) dX8_nextToken_334 (by decide) ?_
          refine i_iadd dX8_nextToken_335 ?_
          refine pf_X8_213 rfl (by omega) dX8_nextToken_336 ?_
          exact e_vw rfl dX8_nextToken_339 h
        · refine i_aload_n dX8_nextToken_209 rfl ?_
          refine i_iconst (v := 0) dX8_nextToken_210 (by decide) ?_
          refine pf_X8_231 rfl (by omega) dX8_nextToken_211 ?_
          refine At.fewer (ls' := [some (rf X 8 0), some (.int (0 : Int32)), none]) (And.intro rfl (And.intro rfl trivial)) ?_
          refine L_X8_nextToken_214  FU _ h (fun σ_2 h => ?_)
          refine i_aload_n dX8_nextToken_282 rfl ?_
          refine i_iload_n dX8_nextToken_283 rfl ?_
          refine i_if_ne (tgt := 300) dX8_nextToken_284 (by decide) (fun c => absurd c (by decide)) (fun _ => ?_)
          refine i_aload_n dX8_nextToken_287 rfl ?_
          refine gf_X8_213 rfl (by omega) dX8_nextToken_288 ?_
          refine i_aload_n dX8_nextToken_291 rfl ?_
          refine gf_X8_219 rfl (by omega) dX8_nextToken_292 ?_
          refine i_isub dX8_nextToken_295 ?_
          refine i_iconst (v := 4) dX8_nextToken_296 (by decide) ?_
          refine r_icmp_le (tgt := 304) dX8_nextToken_297 (by decide) h (fun c5 h => ?_) (fun c5 h => ?_)
          · refine i_iconst (v := 2) dX8_nextToken_304 (by decide) ?_
            refine pf_X8_216 rfl (by omega) dX8_nextToken_305 ?_
            refine i_goto (tgt := 339) dX8_nextToken_308 (by decide) ?_
            exact e_vw rfl dX8_nextToken_339 h
          · refine i_iconst (v := 4) dX8_nextToken_300 (by decide) ?_
            refine i_goto (tgt := 305) dX8_nextToken_301 (by decide) ?_
            refine pf_X8_216 rfl (by omega) dX8_nextToken_305 ?_
            refine i_goto (tgt := 339) dX8_nextToken_308 (by decide) ?_
            exact e_vw rfl dX8_nextToken_339 h
      · refine At.fewer (ls' := [some (rf X 8 0), some (.int (0 : Int32)), none]) (And.intro rfl (And.intro rfl trivial)) ?_
        refine L_X8_nextToken_128  FU _ h (fun σ_3 h => ?_)
        refine i_aload_n dX8_nextToken_152 rfl ?_
        refine i_iload_n dX8_nextToken_153 rfl ?_
        refine i_if_eq (tgt := 161) dX8_nextToken_154 (by decide) (fun _ => ?_) (fun c => absurd c (by decide))
        refine i_iconst (v := 1) dX8_nextToken_161 (by decide) ?_
        refine pf_X8_216 rfl (by omega) dX8_nextToken_162 ?_
        refine i_aload_n dX8_nextToken_165 rfl ?_
        refine i_aload_n dX8_nextToken_166 rfl ?_
        refine gf_X8_213 rfl (by omega) dX8_nextToken_167 ?_
        refine i_aload_n dX8_nextToken_170 rfl ?_
        refine gf_X8_219 rfl (by omega) dX8_nextToken_171 ?_
        refine i_isub dX8_nextToken_174 ?_
        refine i_iconst (v := 1) dX8_nextToken_175 (by decide) ?_
        refine r_icmp_ne (tgt := 191) dX8_nextToken_176 (by decide) h (fun c6 h => ?_) (fun c6 h => ?_)
        · refine i_iconst (v := 0) dX8_nextToken_191 (by decide) ?_
          refine pf_X8_225 rfl (by omega) dX8_nextToken_192 ?_
          refine i_goto (tgt := 339) dX8_nextToken_195 (by decide) ?_
          exact e_vw rfl dX8_nextToken_339 h
        · refine i_aload_n dX8_nextToken_179 rfl ?_
          refine gf_X8_52 rfl (by omega) dX8_nextToken_180 ?_
          refine i_aload_n dX8_nextToken_183 rfl ?_
          refine gf_X8_219 rfl (by omega) dX8_nextToken_184 ?_
          refine al_36 dX8_nextToken_187 (by omega) h (fun j2 lj2 h => ?_)
          refine i_goto (tgt := 192) dX8_nextToken_188 (by decide) ?_
          refine pf_X8_225 rfl (by omega) dX8_nextToken_192 ?_
          refine i_goto (tgt := 339) dX8_nextToken_195 (by decide) ?_
          exact e_vw rfl dX8_nextToken_339 h
    · refine i_aload_n dX8_nextToken_109 rfl ?_
      refine i_iconst (v := 0) dX8_nextToken_110 (by decide) ?_
      refine pf_X8_216 rfl (by omega) dX8_nextToken_111 ?_
      refine i_goto (tgt := 339) dX8_nextToken_114 (by decide) ?_
      exact e_vw rfl dX8_nextToken_339 h
  · refine i_aload_n dX8_nextToken_7 rfl ?_
    refine gf_X8_216 rfl (by omega) dX8_nextToken_8 ?_
    refine i_iconst (v := 1) dX8_nextToken_11 (by decide) ?_
    refine r_icmp_eq (tgt := 23) dX8_nextToken_12 (by decide) h (fun c7 h => ?_) (fun c7 h => ?_)
    · refine i_iconst (v := 1) dX8_nextToken_23 (by decide) ?_
      refine i_goto (tgt := 28) dX8_nextToken_24 (by decide) ?_
      refine i_istore_n (ls' := [some (rf X 8 0), some (.int (1 : Int32)), none]) dX8_nextToken_28 (by decide) (okp_at rfl) rfl ?_
      refine i_aload_n dX8_nextToken_29 rfl ?_
      refine gf_X8_213 rfl (by omega) dX8_nextToken_30 ?_
      refine i_istore_n (ls' := [some (rf X 8 0), some (.int (1 : Int32)), some (.int (σ 8 0 18))]) dX8_nextToken_33 (by decide) (okp_at rfl) rfl ?_
      refine L_X8_nextToken_34  FU _ h (fun σ_4 h => ?_)
      refine i_iload_n dX8_nextToken_72 rfl ?_
      refine i_if_eq (tgt := 88) dX8_nextToken_73 (by decide) (fun c => absurd c (by decide)) (fun _ => ?_)
      refine i_iload_n dX8_nextToken_76 rfl ?_
      refine i_aload_n dX8_nextToken_77 rfl ?_
      refine gf_X8_213 rfl (by omega) dX8_nextToken_78 ?_
      refine r_icmp_ne (tgt := 88) dX8_nextToken_81 (by decide) h (fun c8 h => ?_) (fun c8 h => ?_)
      · refine i_iconst (v := 0) dX8_nextToken_88 (by decide) ?_
        refine i_istore_n (ls' := [some (rf X 8 0), some (.int (0 : Int32)), some (.int (σ 8 0 18))]) dX8_nextToken_89 (by decide) (okp_at rfl) rfl ?_
        refine i_aload_n dX8_nextToken_90 rfl ?_
        refine i_aload_n dX8_nextToken_91 rfl ?_
        refine gf_X8_213 rfl (by omega) dX8_nextToken_92 ?_
        refine pf_X8_219 rfl (by omega) dX8_nextToken_95 ?_
        refine i_aload_n dX8_nextToken_98 rfl ?_
        refine gf_X8_219 rfl (by omega) dX8_nextToken_99 ?_
        refine i_aload_n dX8_nextToken_102 rfl ?_
        refine gf_X8_201 rfl (by omega) dX8_nextToken_103 ?_
        refine r_icmp_ne (tgt := 117) dX8_nextToken_106 (by decide) h (fun c9 h => ?_) (fun c9 h => ?_)
        · refine i_aload_n dX8_nextToken_117 rfl ?_
          refine i_aload_n dX8_nextToken_118 rfl ?_
          refine gf_X8_219 rfl (by omega) dX8_nextToken_119 ?_
          refine cV_ir dX8_nextToken_122 cw_X8_222 ci_X8_isLetter rfl rfl (by decide) (show 0 < 1 by omega) h (fun a3 e => F_X8_isLetter  e) (Nat.le_of_ble_eq_true rfl) rfl rfl (Nat.le_of_ble_eq_true rfl) (fun a3 ea3 h => ?_)
          refine r_if_eq (tgt := 198) dX8_nextToken_125 (by decide) h (fun c10 h => ?_) (fun c10 h => ?_)
          · refine i_aload_n dX8_nextToken_198 rfl ?_
            refine i_aload_n dX8_nextToken_199 rfl ?_
            refine gf_X8_219 rfl (by omega) dX8_nextToken_200 ?_
            refine cV_ir dX8_nextToken_203 cw_X8_228 ci_X8_isDigit rfl rfl (by decide) (show 0 < 1 by omega) h (fun a4 e => F_X8_isDigit  e) (Nat.le_of_ble_eq_true rfl) rfl rfl (Nat.le_of_ble_eq_true rfl) (fun a4 ea4 h => ?_)
            refine r_if_eq (tgt := 311) dX8_nextToken_206 (by decide) h (fun c11 h => ?_) (fun c11 h => ?_)
            · refine i_aload_n dX8_nextToken_311 rfl ?_
              refine i_iconst (v := 3) dX8_nextToken_312 (by decide) ?_
              refine pf_X8_216 rfl (by omega) dX8_nextToken_313 ?_
              refine i_aload_n dX8_nextToken_316 rfl ?_
              refine i_aload_n dX8_nextToken_317 rfl ?_
              refine gf_X8_52 rfl (by omega) dX8_nextToken_318 ?_
              refine i_aload_n dX8_nextToken_321 rfl ?_
              refine gf_X8_219 rfl (by omega) dX8_nextToken_322 ?_
              refine al_36 dX8_nextToken_325 (by omega) h (fun j3 lj3 h => ?_)
              refine pf_X8_225 rfl (by omega) dX8_nextToken_326 ?_
              refine r_mem h (fun s2 _ h => ?_)
              refine i_aload_n dX8_nextToken_329 rfl ?_
              refine i_dup dX8_nextToken_330 rfl ?_
              refine gf_X8_213 rfl (by omega) dX8_nextToken_331 ?_
              refine i_iconst (v := 1) dX8_nextToken_334 (by decide) ?_
              refine i_iadd dX8_nextToken_335 ?_
              refine pf_X8_213 rfl (by omega) dX8_nextToken_336 ?_
              exact e_vw rfl dX8_nextToken_339 h
            · refine i_aload_n dX8_nextToken_209 rfl ?_
              refine i_iconst (v := 0) dX8_nextToken_210 (by decide) ?_
              refine pf_X8_231 rfl (by omega) dX8_nextToken_211 ?_
              refine At.fewer (ls' := [some (rf X 8 0), some (.int (0 : Int32)), none]) (And.intro rfl (And.intro rfl trivial)) ?_
              refine L_X8_nextToken_214  FU _ h (fun σ_5 h => ?_)
              refine i_aload_n dX8_nextToken_282 rfl ?_
              refine i_iload_n dX8_nextToken_283 rfl ?_
              refine i_if_ne (tgt := 300) dX8_nextToken_284 (by decide) (fun c => absurd c (by decide)) (fun _ => ?_)
              refine i_aload_n dX8_nextToken_287 rfl ?_
              refine gf_X8_213 rfl (by omega) dX8_nextToken_288 ?_
              refine i_aload_n dX8_nextToken_291 rfl ?_
              refine gf_X8_219 rfl (by omega) dX8_nextToken_292 ?_
              refine i_isub dX8_nextToken_295 ?_
              refine i_iconst (v := 4) dX8_nextToken_296 (by decide) ?_
              refine r_icmp_le (tgt := 304) dX8_nextToken_297 (by decide) h (fun c12 h => ?_) (fun c12 h => ?_)
              · refine i_iconst (v := 2) dX8_nextToken_304 (by decide) ?_
                refine pf_X8_216 rfl (by omega) dX8_nextToken_305 ?_
                refine i_goto (tgt := 339) dX8_nextToken_308 (by decide) ?_
                exact e_vw rfl dX8_nextToken_339 h
              · refine i_iconst (v := 4) dX8_nextToken_300 (by decide) ?_
                refine i_goto (tgt := 305) dX8_nextToken_301 (by decide) ?_
                refine pf_X8_216 rfl (by omega) dX8_nextToken_305 ?_
                refine i_goto (tgt := 339) dX8_nextToken_308 (by decide) ?_
                exact e_vw rfl dX8_nextToken_339 h
          · refine At.fewer (ls' := [some (rf X 8 0), some (.int (0 : Int32)), none]) (And.intro rfl (And.intro rfl trivial)) ?_
            refine L_X8_nextToken_128  FU _ h (fun σ_6 h => ?_)
            refine i_aload_n dX8_nextToken_152 rfl ?_
            refine i_iload_n dX8_nextToken_153 rfl ?_
            refine i_if_eq (tgt := 161) dX8_nextToken_154 (by decide) (fun _ => ?_) (fun c => absurd c (by decide))
            refine i_iconst (v := 1) dX8_nextToken_161 (by decide) ?_
            refine pf_X8_216 rfl (by omega) dX8_nextToken_162 ?_
            refine i_aload_n dX8_nextToken_165 rfl ?_
            refine i_aload_n dX8_nextToken_166 rfl ?_
            refine gf_X8_213 rfl (by omega) dX8_nextToken_167 ?_
            refine i_aload_n dX8_nextToken_170 rfl ?_
            refine gf_X8_219 rfl (by omega) dX8_nextToken_171 ?_
            refine i_isub dX8_nextToken_174 ?_
            refine i_iconst (v := 1) dX8_nextToken_175 (by decide) ?_
            refine r_icmp_ne (tgt := 191) dX8_nextToken_176 (by decide) h (fun c13 h => ?_) (fun c13 h => ?_)
            · refine i_iconst (v := 0) dX8_nextToken_191 (by decide) ?_
              refine pf_X8_225 rfl (by omega) dX8_nextToken_192 ?_
              refine i_goto (tgt := 339) dX8_nextToken_195 (by decide) ?_
              exact e_vw rfl dX8_nextToken_339 h
            · refine i_aload_n dX8_nextToken_179 rfl ?_
              refine gf_X8_52 rfl (by omega) dX8_nextToken_180 ?_
              refine i_aload_n dX8_nextToken_183 rfl ?_
              refine gf_X8_219 rfl (by omega) dX8_nextToken_184 ?_
              refine al_36 dX8_nextToken_187 (by omega) h (fun j4 lj4 h => ?_)
              refine i_goto (tgt := 192) dX8_nextToken_188 (by decide) ?_
              refine pf_X8_225 rfl (by omega) dX8_nextToken_192 ?_
              refine i_goto (tgt := 339) dX8_nextToken_195 (by decide) ?_
              exact e_vw rfl dX8_nextToken_339 h
        · refine i_aload_n dX8_nextToken_109 rfl ?_
          refine i_iconst (v := 0) dX8_nextToken_110 (by decide) ?_
          refine pf_X8_216 rfl (by omega) dX8_nextToken_111 ?_
          refine i_goto (tgt := 339) dX8_nextToken_114 (by decide) ?_
          exact e_vw rfl dX8_nextToken_339 h
      · refine i_iconst (v := 1) dX8_nextToken_84 (by decide) ?_
        refine i_goto (tgt := 89) dX8_nextToken_85 (by decide) ?_
        refine i_istore_n (ls' := [some (rf X 8 0), some (.int (1 : Int32)), some (.int (σ 8 0 18))]) dX8_nextToken_89 (by decide) (okp_at rfl) rfl ?_
        refine i_aload_n dX8_nextToken_90 rfl ?_
        refine i_aload_n dX8_nextToken_91 rfl ?_
        refine gf_X8_213 rfl (by omega) dX8_nextToken_92 ?_
        refine pf_X8_219 rfl (by omega) dX8_nextToken_95 ?_
        refine i_aload_n dX8_nextToken_98 rfl ?_
        refine gf_X8_219 rfl (by omega) dX8_nextToken_99 ?_
        refine i_aload_n dX8_nextToken_102 rfl ?_
        refine gf_X8_201 rfl (by omega) dX8_nextToken_103 ?_
        refine r_icmp_ne (tgt := 117) dX8_nextToken_106 (by decide) h (fun c14 h => ?_) (fun c14 h => ?_)
        · refine i_aload_n dX8_nextToken_117 rfl ?_
          refine i_aload_n dX8_nextToken_118 rfl ?_
          refine gf_X8_219 rfl (by omega) dX8_nextToken_119 ?_
          refine cV_ir dX8_nextToken_122 cw_X8_222 ci_X8_isLetter rfl rfl (by decide) (show 0 < 1 by omega) h (fun a5 e => F_X8_isLetter  e) (Nat.le_of_ble_eq_true rfl) rfl rfl (Nat.le_of_ble_eq_true rfl) (fun a5 ea5 h => ?_)
          refine r_if_eq (tgt := 198) dX8_nextToken_125 (by decide) h (fun c15 h => ?_) (fun c15 h => ?_)
          · refine i_aload_n dX8_nextToken_198 rfl ?_
            refine i_aload_n dX8_nextToken_199 rfl ?_
            refine gf_X8_219 rfl (by omega) dX8_nextToken_200 ?_
            refine cV_ir dX8_nextToken_203 cw_X8_228 ci_X8_isDigit rfl rfl (by decide) (show 0 < 1 by omega) h (fun a6 e => F_X8_isDigit  e) (Nat.le_of_ble_eq_true rfl) rfl rfl (Nat.le_of_ble_eq_true rfl) (fun a6 ea6 h => ?_)
            refine r_if_eq (tgt := 311) dX8_nextToken_206 (by decide) h (fun c16 h => ?_) (fun c16 h => ?_)
            · refine i_aload_n dX8_nextToken_311 rfl ?_
              refine i_iconst (v := 3) dX8_nextToken_312 (by decide) ?_
              refine pf_X8_216 rfl (by omega) dX8_nextToken_313 ?_
              refine i_aload_n dX8_nextToken_316 rfl ?_
              refine i_aload_n dX8_nextToken_317 rfl ?_
              refine gf_X8_52 rfl (by omega) dX8_nextToken_318 ?_
              refine i_aload_n dX8_nextToken_321 rfl ?_
              refine gf_X8_219 rfl (by omega) dX8_nextToken_322 ?_
              refine al_36 dX8_nextToken_325 (by omega) h (fun j5 lj5 h => ?_)
              refine pf_X8_225 rfl (by omega) dX8_nextToken_326 ?_
              refine r_mem h (fun s3 _ h => ?_)
              refine i_aload_n dX8_nextToken_329 rfl ?_
              refine i_dup dX8_nextToken_330 rfl ?_
              refine gf_X8_213 rfl (by omega) dX8_nextToken_331 ?_
              refine i_iconst (v := 1) dX8_nextToken_334 (by decide) ?_
              refine i_iadd dX8_nextToken_335 ?_
              refine pf_X8_213 rfl (by omega) dX8_nextToken_336 ?_
              exact e_vw rfl dX8_nextToken_339 h
            · refine i_aload_n dX8_nextToken_209 rfl ?_
              refine i_iconst (v := 0) dX8_nextToken_210 (by decide) ?_
              refine pf_X8_231 rfl (by omega) dX8_nextToken_211 ?_
              refine At.fewer (ls' := [some (rf X 8 0), some (.int (1 : Int32)), none]) (And.intro rfl (And.intro rfl trivial)) ?_
              refine L_X8_nextToken_214  FU _ h (fun σ_7 h => ?_)
              refine i_aload_n dX8_nextToken_282 rfl ?_
              refine i_iload_n dX8_nextToken_283 rfl ?_
              refine i_if_ne (tgt := 300) dX8_nextToken_284 (by decide) (fun _ => ?_) (fun c => absurd c (by decide))
              refine i_iconst (v := 4) dX8_nextToken_300 (by decide) ?_
              refine i_goto (tgt := 305) dX8_nextToken_301 (by decide) ?_
              refine pf_X8_216 rfl (by omega) dX8_nextToken_305 ?_
              refine i_goto (tgt := 339) dX8_nextToken_308 (by decide) ?_
              exact e_vw rfl dX8_nextToken_339 h
          · refine At.fewer (ls' := [some (rf X 8 0), some (.int (1 : Int32)), none]) (And.intro rfl (And.intro rfl trivial)) ?_
            refine L_X8_nextToken_128  FU _ h (fun σ_8 h => ?_)
            refine i_aload_n dX8_nextToken_152 rfl ?_
            refine i_iload_n dX8_nextToken_153 rfl ?_
            refine i_if_eq (tgt := 161) dX8_nextToken_154 (by decide) (fun c => absurd c (by decide)) (fun _ => ?_)
            refine i_iconst (v := 4) dX8_nextToken_157 (by decide) ?_
            refine i_goto (tgt := 162) dX8_nextToken_158 (by decide) ?_
            refine pf_X8_216 rfl (by omega) dX8_nextToken_162 ?_
            refine i_aload_n dX8_nextToken_165 rfl ?_
            refine i_aload_n dX8_nextToken_166 rfl ?_
            refine gf_X8_213 rfl (by omega) dX8_nextToken_167 ?_
            refine i_aload_n dX8_nextToken_170 rfl ?_
            refine gf_X8_219 rfl (by omega) dX8_nextToken_171 ?_
            refine i_isub dX8_nextToken_174 ?_
            refine i_iconst (v := 1) dX8_nextToken_175 (by decide) ?_
            refine r_icmp_ne (tgt := 191) dX8_nextToken_176 (by decide) h (fun c17 h => ?_) (fun c17 h => ?_)
            · refine i_iconst (v := 0) dX8_nextToken_191 (by decide) ?_
              refine pf_X8_225 rfl (by omega) dX8_nextToken_192 ?_
              refine i_goto (tgt := 339) dX8_nextToken_195 (by decide) ?_
              exact e_vw rfl dX8_nextToken_339 h
            · refine i_aload_n dX8_nextToken_179 rfl ?_
              refine gf_X8_52 rfl (by omega) dX8_nextToken_180 ?_
              refine i_aload_n dX8_nextToken_183 rfl ?_
              refine gf_X8_219 rfl (by omega) dX8_nextToken_184 ?_
              refine al_36 dX8_nextToken_187 (by omega) h (fun j6 lj6 h => ?_)
              refine i_goto (tgt := 192) dX8_nextToken_188 (by decide) ?_
              refine pf_X8_225 rfl (by omega) dX8_nextToken_192 ?_
              refine i_goto (tgt := 339) dX8_nextToken_195 (by decide) ?_
              exact e_vw rfl dX8_nextToken_339 h
        · refine i_aload_n dX8_nextToken_109 rfl ?_
          refine i_iconst (v := 0) dX8_nextToken_110 (by decide) ?_
          refine pf_X8_216 rfl (by omega) dX8_nextToken_111 ?_
          refine i_goto (tgt := 339) dX8_nextToken_114 (by decide) ?_
          exact e_vw rfl dX8_nextToken_339 h
    · refine i_aload_n dX8_nextToken_15 rfl ?_
      refine gf_X8_216 rfl (by omega) dX8_nextToken_16 ?_
      refine i_iconst (v := 2) dX8_nextToken_19 (by decide) ?_
      refine r_icmp_ne (tgt := 27) dX8_nextToken_20 (by decide) h (fun c18 h => ?_) (fun c18 h => ?_)
      · refine i_iconst (v := 0) dX8_nextToken_27 (by decide) ?_
        refine i_istore_n (ls' := [some (rf X 8 0), some (.int (0 : Int32)), none]) dX8_nextToken_28 (by decide) (okp_at rfl) rfl ?_
        refine i_aload_n dX8_nextToken_29 rfl ?_
        refine gf_X8_213 rfl (by omega) dX8_nextToken_30 ?_
        refine i_istore_n (ls' := [some (rf X 8 0), some (.int (0 : Int32)), some (.int (σ 8 0 18))]) dX8_nextToken_33 (by decide) (okp_at rfl) rfl ?_
        refine L_X8_nextToken_34  FU _ h (fun σ_9 h => ?_)
        refine i_iload_n dX8_nextToken_72 rfl ?_
        refine i_if_eq (tgt := 88) dX8_nextToken_73 (by decide) (fun _ => ?_) (fun c => absurd c (by decide))
        refine i_iconst (v := 0) dX8_nextToken_88 (by decide) ?_
        refine i_istore_n (ls' := [some (rf X 8 0), some (.int (0 : Int32)), some (.int (σ 8 0 18))]) dX8_nextToken_89 (by decide) (okp_at rfl) rfl ?_
        refine i_aload_n dX8_nextToken_90 rfl ?_
        refine i_aload_n dX8_nextToken_91 rfl ?_
        refine gf_X8_213 rfl (by omega) dX8_nextToken_92 ?_
        refine pf_X8_219 rfl (by omega) dX8_nextToken_95 ?_
        refine i_aload_n dX8_nextToken_98 rfl ?_
        refine gf_X8_219 rfl (by omega) dX8_nextToken_99 ?_
        refine i_aload_n dX8_nextToken_102 rfl ?_
        refine gf_X8_201 rfl (by omega) dX8_nextToken_103 ?_
        refine r_icmp_ne (tgt := 117) dX8_nextToken_106 (by decide) h (fun c19 h => ?_) (fun c19 h => ?_)
        · refine i_aload_n dX8_nextToken_117 rfl ?_
          refine i_aload_n dX8_nextToken_118 rfl ?_
          refine gf_X8_219 rfl (by omega) dX8_nextToken_119 ?_
          refine cV_ir dX8_nextToken_122 cw_X8_222 ci_X8_isLetter rfl rfl (by decide) (show 0 < 1 by omega) h (fun a7 e => F_X8_isLetter  e) (Nat.le_of_ble_eq_true rfl) rfl rfl (Nat.le_of_ble_eq_true rfl) (fun a7 ea7 h => ?_)
          refine r_if_eq (tgt := 198) dX8_nextToken_125 (by decide) h (fun c20 h => ?_) (fun c20 h => ?_)
          · refine i_aload_n dX8_nextToken_198 rfl ?_
            refine i_aload_n dX8_nextToken_199 rfl ?_
            refine gf_X8_219 rfl (by omega) dX8_nextToken_200 ?_
            refine cV_ir dX8_nextToken_203 cw_X8_228 ci_X8_isDigit rfl rfl (by decide) (show 0 < 1 by omega) h (fun a8 e => F_X8_isDigit  e) (Nat.le_of_ble_eq_true rfl) rfl rfl (Nat.le_of_ble_eq_true rfl) (fun a8 ea8 h => ?_)
            refine r_if_eq (tgt := 311) dX8_nextToken_206 (by decide) h (fun c21 h => ?_) (fun c21 h => ?_)
            · refine i_aload_n dX8_nextToken_311 rfl ?_
              refine i_iconst (v := 3) dX8_nextToken_312 (by decide) ?_
              refine pf_X8_216 rfl (by omega) dX8_nextToken_313 ?_
              refine i_aload_n dX8_nextToken_316 rfl ?_
              refine i_aload_n dX8_nextToken_317 rfl ?_
              refine gf_X8_52 rfl (by omega) dX8_nextToken_318 ?_
              refine i_aload_n dX8_nextToken_321 rfl ?_
              refine gf_X8_219 rfl (by omega) dX8_nextToken_322 ?_
              refine al_36 dX8_nextToken_325 (by omega) h (fun j7 lj7 h => ?_)
              refine pf_X8_225 rfl (by omega) dX8_nextToken_326 ?_
              refine r_mem h (fun s4 _ h => ?_)
              refine i_aload_n dX8_nextToken_329 rfl ?_
              refine i_dup dX8_nextToken_330 rfl ?_
              refine gf_X8_213 rfl (by omega) dX8_nextToken_331 ?_
              refine i_iconst (v := 1) dX8_nextToken_334 (by decide) ?_
              refine i_iadd dX8_nextToken_335 ?_
              refine pf_X8_213 rfl (by omega) dX8_nextToken_336 ?_
              exact e_vw rfl dX8_nextToken_339 h
            · refine i_aload_n dX8_nextToken_209 rfl ?_
              refine i_iconst (v := 0) dX8_nextToken_210 (by decide) ?_
              refine pf_X8_231 rfl (by omega) dX8_nextToken_211 ?_
              refine At.fewer (ls' := [some (rf X 8 0), some (.int (0 : Int32)), none]) (And.intro rfl (And.intro rfl trivial)) ?_
              refine L_X8_nextToken_214  FU _ h (fun σ_10 h => ?_)
              refine i_aload_n dX8_nextToken_282 rfl ?_
              refine i_iload_n dX8_nextToken_283 rfl ?_
              refine i_if_ne (tgt := 300) dX8_nextToken_284 (by decide) (fun c => absurd c (by decide)) (fun _ => ?_)
              refine i_aload_n dX8_nextToken_287 rfl ?_
              refine gf_X8_213 rfl (by omega) dX8_nextToken_288 ?_
              refine i_aload_n dX8_nextToken_291 rfl ?_
              refine gf_X8_219 rfl (by omega) dX8_nextToken_292 ?_
              refine i_isub dX8_nextToken_295 ?_
              refine i_iconst (v := 4) dX8_nextToken_296 (by decide) ?_
              refine r_icmp_le (tgt := 304) dX8_nextToken_297 (by decide) h (fun c22 h => ?_) (fun c22 h => ?_)
              · refine i_iconst (v := 2) dX8_nextToken_304 (by decide) ?_
                refine pf_X8_216 rfl (by omega) dX8_nextToken_305 ?_
                refine i_goto (tgt := 339) dX8_nextToken_308 (by decide) ?_
                exact e_vw rfl dX8_nextToken_339 h
              · refine i_iconst (v := 4) dX8_nextToken_300 (by decide) ?_
                refine i_goto (tgt := 305) dX8_nextToken_301 (by decide) ?_
                refine pf_X8_216 rfl (by omega) dX8_nextToken_305 ?_
                refine i_goto (tgt := 339) dX8_nextToken_308 (by decide) ?_
                exact e_vw rfl dX8_nextToken_339 h
          · refine At.fewer (ls' := [some (rf X 8 0), some (.int (0 : Int32)), none]) (And.intro rfl (And.intro rfl trivial)) ?_
            refine L_X8_nextToken_128  FU _ h (fun σ_11 h => ?_)
            refine i_aload_n dX8_nextToken_152 rfl ?_
            refine i_iload_n dX8_nextToken_153 rfl ?_
            refine i_if_eq (tgt := 161) dX8_nextToken_154 (by decide) (fun _ => ?_) (fun c => absurd c (by decide))
            refine i_iconst (v := 1) dX8_nextToken_161 (by decide) ?_
            refine pf_X8_216 rfl (by omega) dX8_nextToken_162 ?_
            refine i_aload_n dX8_nextToken_165 rfl ?_
            refine i_aload_n dX8_nextToken_166 rfl ?_
            refine gf_X8_213 rfl (by omega) dX8_nextToken_167 ?_
            refine i_aload_n dX8_nextToken_170 rfl ?_
            refine gf_X8_219 rfl (by omega) dX8_nextToken_171 ?_
            refine i_isub dX8_nextToken_174 ?_
            refine i_iconst (v := 1) dX8_nextToken_175 (by decide) ?_
            refine r_icmp_ne (tgt := 191) dX8_nextToken_176 (by decide) h (fun c23 h => ?_) (fun c23 h => ?_)
            · refine i_iconst (v := 0) dX8_nextToken_191 (by decide) ?_
              refine pf_X8_225 rfl (by omega) dX8_nextToken_192 ?_
              refine i_goto (tgt := 339) dX8_nextToken_195 (by decide) ?_
              exact e_vw rfl dX8_nextToken_339 h
            · refine i_aload_n dX8_nextToken_179 rfl ?_
              refine gf_X8_52 rfl (by omega) dX8_nextToken_180 ?_
              refine i_aload_n dX8_nextToken_183 rfl ?_
              refine gf_X8_219 rfl (by omega) dX8_nextToken_184 ?_
              refine al_36 dX8_nextToken_187 (by omega) h (fun j8 lj8 h => ?_)
              refine i_goto (tgt := 192) dX8_nextToken_188 (by decide) ?_
              refine pf_X8_225 rfl (by omega) dX8_nextToken_192 ?_
              refine i_goto (tgt := 339) dX8_nextToken_195 (by decide) ?_
              exact e_vw rfl dX8_nextToken_339 h
        · refine i_aload_n dX8_nextToken_109 rfl ?_
          refine i_iconst (v := 0) dX8_nextToken_110 (by decide) ?_
          refine pf_X8_216 rfl (by omega) dX8_nextToken_111 ?_
          refine i_goto (tgt := 339) dX8_nextToken_114 (by decide) ?_
          exact e_vw rfl dX8_nextToken_339 h
      · refine i_iconst (v := 1) dX8_nextToken_23 (by decide) ?_
        refine i_goto (tgt := 28) dX8_nextToken_24 (by decide) ?_
        refine i_istore_n (ls' := [some (rf X 8 0), some (.int (1 : Int32)), none]) dX8_nextToken_28 (by decide) (okp_at rfl) rfl ?_
        refine i_aload_n dX8_nextToken_29 rfl ?_
        refine gf_X8_213 rfl (by omega) dX8_nextToken_30 ?_
        refine i_istore_n (ls' := [some (rf X 8 0), some (.int (1 : Int32)), some (.int (σ 8 0 18))]) dX8_nextToken_33 (by decide) (okp_at rfl) rfl ?_
        refine L_X8_nextToken_34  FU _ h (fun σ_12 h => ?_)
        refine i_iload_n dX8_nextToken_72 rfl ?_
        refine i_if_eq (tgt := 88) dX8_nextToken_73 (by decide) (fun c => absurd c (by decide)) (fun _ => ?_)
        refine i_iload_n dX8_nextToken_76 rfl ?_
        refine i_aload_n dX8_nextToken_77 rfl ?_
        refine gf_X8_213 rfl (by omega) dX8_nextToken_78 ?_
        refine r_icmp_ne (tgt := 88) dX8_nextToken_81 (by decide) h (fun c24 h => ?_) (fun c24 h => ?_)
        · refine i_iconst (v := 0) dX8_nextToken_88 (by decide) ?_
          refine i_istore_n (ls' := [some (rf X 8 0), some (.int (0 : Int32)), some (.int (σ 8 0 18))]) dX8_nextToken_89 (by decide) (okp_at rfl) rfl ?_
          refine i_aload_n dX8_nextToken_90 rfl ?_
          refine i_aload_n dX8_nextToken_91 rfl ?_
          refine gf_X8_213 rfl (by omega) dX8_nextToken_92 ?_
          refine pf_X8_219 rfl (by omega) dX8_nextToken_95 ?_
          refine i_aload_n dX8_nextToken_98 rfl ?_
          refine gf_X8_219 rfl (by omega) dX8_nextToken_99 ?_
          refine i_aload_n dX8_nextToken_102 rfl ?_
          refine gf_X8_201 rfl (by omega) dX8_nextToken_103 ?_
          refine r_icmp_ne (tgt := 117) dX8_nextToken_106 (by decide) h (fun c25 h => ?_) (fun c25 h => ?_)
          · refine i_aload_n dX8_nextToken_117 rfl ?_
            refine i_aload_n dX8_nextToken_118 rfl ?_
            refine gf_X8_219 rfl (by omega) dX8_nextToken_119 ?_
            refine cV_ir dX8_nextToken_122 cw_X8_222 ci_X8_isLetter rfl rfl (by decide) (show 0 < 1 by omega) h (fun a9 e => F_X8_isLetter  e) (Nat.le_of_ble_eq_true rfl) rfl rfl (Nat.le_of_ble_eq_true rfl) (fun a9 ea9 h => ?_)
            refine r_if_eq (tgt := 198) dX8_nextToken_125 (by decide) h (fun c26 h => ?_) (fun c26 h => ?_)
            · refine i_aload_n dX8_nextToken_198 rfl ?_
              refine i_aload_n dX8_nextToken_199 rfl ?_
              refine gf_X8_219 rfl (by omega) dX8_nextToken_200 ?_
              refine cV_ir dX8_nextToken_203 cw_X8_228 ci_X8_isDigit rfl rfl (by decide) (show 0 < 1 by omega) h (fun a10 e => F_X8_isDigit  e) (Nat.le_of_ble_eq_true rfl) rfl rfl (Nat.le_of_ble_eq_true rfl) (fun a10 ea10 h => ?_)
              refine r_if_eq (tgt := 311) dX8_nextToken_206 (by decide) h (fun c27 h => ?_) (fun c27 h => ?_)
              · refine i_aload_n dX8_nextToken_311 rfl ?_
                refine i_iconst (v := 3) dX8_nextToken_312 (by decide) ?_
                refine pf_X8_216 rfl (by omega) dX8_nextToken_313 ?_
                refine i_aload_n dX8_nextToken_316 rfl ?_
                refine i_aload_n dX8_nextToken_317 rfl ?_
                refine gf_X8_52 rfl (by omega) dX8_nextToken_318 ?_
                refine i_aload_n dX8_nextToken_321 rfl ?_
                refine gf_X8_219 rfl (by omega) dX8_nextToken_322 ?_
                refine al_36 dX8_nextToken_325 (by omega) h (fun j9 lj9 h => ?_)
                refine pf_X8_225 rfl (by omega) dX8_nextToken_326 ?_
                refine r_mem h (fun s5 _ h => ?_)
                refine i_aload_n dX8_nextToken_329 rfl ?_
                refine i_dup dX8_nextToken_330 rfl ?_
                refine gf_X8_213 rfl (by omega) dX8_nextToken_331 ?_
                refine i_iconst (v := 1) dX8_nextToken_334 (by decide) ?_
                refine i_iadd dX8_nextToken_335 ?_
                refine pf_X8_213 rfl (by omega) dX8_nextToken_336 ?_
                exact e_vw rfl dX8_nextToken_339 h
              · refine i_aload_n dX8_nextToken_209 rfl ?_
                refine i_iconst (v := 0) dX8_nextToken_210 (by decide) ?_
                refine pf_X8_231 rfl (by omega) dX8_nextToken_211 ?_
                refine At.fewer (ls' := [some (rf X 8 0), some (.int (0 : Int32)), none]) (And.intro rfl (And.intro rfl trivial)) ?_
                refine L_X8_nextToken_214  FU _ h (fun σ_13 h => ?_)
                refine i_aload_n dX8_nextToken_282 rfl ?_
                refine i_iload_n dX8_nextToken_283 rfl ?_
                refine i_if_ne (tgt := 300) dX8_nextToken_284 (by decide) (fun c => absurd c (by decide)) (fun _ => ?_)
                refine i_aload_n dX8_nextToken_287 rfl ?_
                refine gf_X8_213 rfl (by omega) dX8_nextToken_288 ?_
                refine i_aload_n dX8_nextToken_291 rfl ?_
                refine gf_X8_219 rfl (by omega) dX8_nextToken_292 ?_
                refine i_isub dX8_nextToken_295 ?_
                refine i_iconst (v := 4) dX8_nextToken_296 (by decide) ?_
                refine r_icmp_le (tgt := 304) dX8_nextToken_297 (by decide) h (fun c28 h => ?_) (fun c28 h => ?_)
                · refine i_iconst (v := 2) dX8_nextToken_304 (by decide) ?_
                  refine pf_X8_216 rfl (by omega) dX8_nextToken_305 ?_
                  refine i_goto (tgt := 339) dX8_nextToken_308 (by decide) ?_
                  exact e_vw rfl dX8_nextToken_339 h
                · refine i_iconst (v := 4) dX8_nextToken_300 (by decide) ?_
                  refine i_goto (tgt := 305) dX8_nextToken_301 (by decide) ?_
                  refine pf_X8_216 rfl (by omega) dX8_nextToken_305 ?_
                  refine i_goto (tgt := 339) dX8_nextToken_308 (by decide) ?_
                  exact e_vw rfl dX8_nextToken_339 h
            · refine At.fewer (ls' := [some (rf X 8 0), some (.int (0 : Int32)), none]) (And.intro rfl (And.intro rfl trivial)) ?_
              refine L_X8_nextToken_128  FU _ h (fun σ_14 h => ?_)
              refine i_aload_n dX8_nextToken_152 rfl ?_
              refine i_iload_n dX8_nextToken_153 rfl ?_
              refine i_if_eq (tgt := 161) dX8_nextToken_154 (by decide) (fun _ => ?_) (fun c => absurd c (by decide))
              refine i_iconst (v := 1) dX8_nextToken_161 (by decide) ?_
              refine pf_X8_216 rfl (by omega) dX8_nextToken_162 ?_
              refine i_aload_n dX8_nextToken_165 rfl ?_
              refine i_aload_n dX8_nextToken_166 rfl ?_
              refine gf_X8_213 rfl (by omega) dX8_nextToken_167 ?_
              refine i_aload_n dX8_nextToken_170 rfl ?_
              refine gf_X8_219 rfl (by omega) dX8_nextToken_171 ?_
              refine i_isub dX8_nextToken_174 ?_
              refine i_iconst (v := 1) dX8_nextToken_175 (by decide) ?_
              refine r_icmp_ne (tgt := 191) dX8_nextToken_176 (by decide) h (fun c29 h => ?_) (fun c29 h => ?_)
              · refine i_iconst (v := 0) dX8_nextToken_191 (by decide) ?_
                refine pf_X8_225 rfl (by omega) dX8_nextToken_192 ?_
                refine i_goto (tgt := 339) dX8_nextToken_195 (by decide) ?_
                exact e_vw rfl dX8_nextToken_339 h
              · refine i_aload_n dX8_nextToken_179 rfl ?_
                refine gf_X8_52 rfl (by omega) dX8_nextToken_180 ?_
                refine i_aload_n dX8_nextToken_183 rfl ?_
                refine gf_X8_219 rfl (by omega) dX8_nextToken_184 ?_
                refine al_36 dX8_nextToken_187 (by omega) h (fun j10 lj10 h => ?_)
                refine i_goto (tgt := 192) dX8_nextToken_188 (by decide) ?_
                refine pf_X8_225 rfl (by omega) dX8_nextToken_192 ?_
                refine i_goto (tgt := 339) dX8_nextToken_195 (by decide) ?_
                exact e_vw rfl dX8_nextToken_339 h
          · refine i_aload_n dX8_nextToken_109 rfl ?_
            refine i_iconst (v := 0) dX8_nextToken_110 (by decide) ?_
            refine pf_X8_216 rfl (by omega) dX8_nextToken_111 ?_
            refine i_goto (tgt := 339) dX8_nextToken_114 (by decide) ?_
            exact e_vw rfl dX8_nextToken_339 h
        · refine i_iconst (v := 1) dX8_nextToken_84 (by decide) ?_
          refine i_goto (tgt := 89) dX8_nextToken_85 (by decide) ?_
          refine i_istore_n (ls' := [some (rf X 8 0), some (.int (1 : Int32)), some (.int (σ 8 0 18))]) dX8_nextToken_89 (by decide) (okp_at rfl) rfl ?_
          refine i_aload_n dX8_nextToken_90 rfl ?_
          refine i_aload_n dX8_nextToken_91 rfl ?_
          refine gf_X8_213 rfl (by omega) dX8_nextToken_92 ?_
          refine pf_X8_219 rfl (by omega) dX8_nextToken_95 ?_
          refine i_aload_n dX8_nextToken_98 rfl ?_
          refine gf_X8_219 rfl (by omega) dX8_nextToken_99 ?_
          refine i_aload_n dX8_nextToken_102 rfl ?_
          refine gf_X8_201 rfl (by omega) dX8_nextToken_103 ?_
          refine r_icmp_ne (tgt := 117) dX8_nextToken_106 (by decide) h (fun c30 h => ?_) (fun c30 h => ?_)
          · refine i_aload_n dX8_nextToken_117 rfl ?_
            refine i_aload_n dX8_nextToken_118 rfl ?_
            refine gf_X8_219 rfl (by omega) dX8_nextToken_119 ?_
            refine cV_ir dX8_nextToken_122 cw_X8_222 ci_X8_isLetter rfl rfl (by decide) (show 0 < 1 by omega) h (fun a11 e => F_X8_isLetter  e) (Nat.le_of_ble_eq_true rfl) rfl rfl (Nat.le_of_ble_eq_true rfl) (fun a11 ea11 h => ?_)
            refine r_if_eq (tgt := 198) dX8_nextToken_125 (by decide) h (fun c31 h => ?_) (fun c31 h => ?_)
            · refine i_aload_n dX8_nextToken_198 rfl ?_
              refine i_aload_n dX8_nextToken_199 rfl ?_
              refine gf_X8_219 rfl (by omega) dX8_nextToken_200 ?_
              refine cV_ir dX8_nextToken_203 cw_X8_228 ci_X8_isDigit rfl rfl (by decide) (show 0 < 1 by omega) h (fun a12 e => F_X8_isDigit  e) (Nat.le_of_ble_eq_true rfl) rfl rfl (Nat.le_of_ble_eq_true rfl) (fun a12 ea12 h => ?_)
              refine r_if_eq (tgt := 311) dX8_nextToken_206 (by decide) h (fun c32 h => ?_) (fun c32 h => ?_)
              · refine i_aload_n dX8_nextToken_311 rfl ?_
                refine i_iconst (v := 3) dX8_nextToken_312 (by decide) ?_
                refine pf_X8_216 rfl (by omega) dX8_nextToken_313 ?_
                refine i_aload_n dX8_nextToken_316 rfl ?_
                refine i_aload_n dX8_nextToken_317 rfl ?_
                refine gf_X8_52 rfl (by omega) dX8_nextToken_318 ?_
                refine i_aload_n dX8_nextToken_321 rfl ?_
                refine gf_X8_219 rfl (by omega) dX8_nextToken_322 ?_
                refine al_36 dX8_nextToken_325 (by omega) h (fun j11 lj11 h => ?_)
                refine pf_X8_225 rfl (by omega) dX8_nextToken_326 ?_
                refine r_mem h (fun s6 _ h => ?_)
                refine i_aload_n dX8_nextToken_329 rfl ?_
                refine i_dup dX8_nextToken_330 rfl ?_
                refine gf_X8_213 rfl (by omega) dX8_nextToken_331 ?_
                refine i_iconst (v := 1) dX8_nextToken_334 (by decide) ?_
                refine i_iadd dX8_nextToken_335 ?_
                refine pf_X8_213 rfl (by omega) dX8_nextToken_336 ?_
                exact e_vw rfl dX8_nextToken_339 h
              · refine i_aload_n dX8_nextToken_209 rfl ?_
                refine i_iconst (v := 0) dX8_nextToken_210 (by decide) ?_
                refine pf_X8_231 rfl (by omega) dX8_nextToken_211 ?_
                refine At.fewer (ls' := [some (rf X 8 0), some (.int (1 : Int32)), none]) (And.intro rfl (And.intro rfl trivial)) ?_
                refine L_X8_nextToken_214  FU _ h (fun σ_15 h => ?_)
                refine i_aload_n dX8_nextToken_282 rfl ?_
                refine i_iload_n dX8_nextToken_283 rfl ?_
                refine i_if_ne (tgt := 300) dX8_nextToken_284 (by decide) (fun _ => ?_) (fun c => absurd c (by decide))
                refine i_iconst (v := 4) dX8_nextToken_300 (by decide) ?_
                refine i_goto (tgt := 305) dX8_nextToken_301 (by decide) ?_
                refine pf_X8_216 rfl (by omega) dX8_nextToken_305 ?_
                refine i_goto (tgt := 339) dX8_nextToken_308 (by decide) ?_
                exact e_vw rfl dX8_nextToken_339 h
            · refine At.fewer (ls' := [some (rf X 8 0), some (.int (1 : Int32)), none]) (And.intro rfl (And.intro rfl trivial)) ?_
              refine L_X8_nextToken_128  FU _ h (fun σ_16 h => ?_)
              refine i_aload_n dX8_nextToken_152 rfl ?_
              refine i_iload_n dX8_nextToken_153 rfl ?_
              refine i_if_eq (tgt := 161) dX8_nextToken_154 (by decide) (fun c => absurd c (by decide)) (fun _ => ?_)
              refine i_iconst (v := 4) dX8_nextToken_157 (by decide) ?_
              refine i_goto (tgt := 162) dX8_nextToken_158 (by decide) ?_
              refine pf_X8_216 rfl (by omega) dX8_nextToken_162 ?_
              refine i_aload_n dX8_nextToken_165 rfl ?_
              refine i_aload_n dX8_nextToken_166 rfl ?_
              refine gf_X8_213 rfl (by omega) dX8_nextToken_167 ?_
              refine i_aload_n dX8_nextToken_170 rfl ?_
              refine gf_X8_219 rfl (by omega) dX8_nextToken_171 ?_
              refine i_isub dX8_nextToken_174 ?_
              refine i_iconst (v := 1) dX8_nextToken_175 (by decide) ?_
              refine r_icmp_ne (tgt := 191) dX8_nextToken_176 (by decide) h (fun c33 h => ?_) (fun c33 h => ?_)
              · refine i_iconst (v := 0) dX8_nextToken_191 (by decide) ?_
                refine pf_X8_225 rfl (by omega) dX8_nextToken_192 ?_
                refine i_goto (tgt := 339) dX8_nextToken_195 (by decide) ?_
                exact e_vw rfl dX8_nextToken_339 h
              · refine i_aload_n dX8_nextToken_179 rfl ?_
                refine gf_X8_52 rfl (by omega) dX8_nextToken_180 ?_
                refine i_aload_n dX8_nextToken_183 rfl ?_
                refine gf_X8_219 rfl (by omega) dX8_nextToken_184 ?_
                refine al_36 dX8_nextToken_187 (by omega) h (fun j12 lj12 h => ?_)
                refine i_goto (tgt := 192) dX8_nextToken_188 (by decide) ?_
                refine pf_X8_225 rfl (by omega) dX8_nextToken_192 ?_
                refine i_goto (tgt := 339) dX8_nextToken_195 (by decide) ?_
                exact e_vw rfl dX8_nextToken_339 h
          · refine i_aload_n dX8_nextToken_109 rfl ?_
            refine i_iconst (v := 0) dX8_nextToken_110 (by decide) ?_
            refine pf_X8_216 rfl (by omega) dX8_nextToken_111 ?_
            refine i_goto (tgt := 339) dX8_nextToken_114 (by decide) ?_
            exact e_vw rfl dX8_nextToken_339 h
def f_X8_isSign  (p1 : Int32) (σ : Mem) : Option Int32 :=
  (if (σ 8 0 19) = (3 : Int32) then (if (σ 8 0 21) = p1 then (some (1 : Int32)) else (some (0 : Int32))) else (some (0 : Int32)))
set_option maxRecDepth 100000 in
set_option maxHeartbeats 4000000 in
theorem F_X8_isSign {X : Cx} {p1 : Int32} {σ : Mem} {res : Int32}  (h : f_X8_isSign p1 σ = some res) : Tri X 1 mX8_isSign [rf X 8 0, .int p1] σ (some (.int res)) σ := by
  unfold f_X8_isSign at h
  refine Tri.of (ls := [some (rf X 8 0), some (.int p1)]) (by decide) (Nat.le_of_ble_eq_true rfl) rfl ?_
  refine i_aload_n dX8_isSign_0 rfl ?_
  refine gf_X8_216 rfl (by omega) dX8_isSign_1 ?_
  refine i_iconst (v := 3) dX8_isSign_4 (by decide) ?_
  refine r_icmp_ne (tgt := 20) dX8_isSign_5 (by decide) h (fun c1 h => ?_) (fun c1 h => ?_)
  · refine i_iconst (v := 0) dX8_isSign_20 (by decide) ?_
    exact e_zr rfl (by decide) dX8_isSign_21 h
  · refine i_aload_n dX8_isSign_8 rfl ?_
    refine gf_X8_225 rfl (by omega) dX8_isSign_9 ?_
    refine i_iload_n dX8_isSign_12 rfl ?_
    refine r_icmp_ne (tgt := 20) dX8_isSign_13 (by decide) h (fun c2 h => ?_) (fun c2 h => ?_)
    · refine i_iconst (v := 0) dX8_isSign_20 (by decide) ?_
      exact e_zr rfl (by decide) dX8_isSign_21 h
    · refine i_iconst (v := 1) dX8_isSign_16 (by decide) ?_
      refine i_goto (tgt := 21) dX8_isSign_17 (by decide) ?_
      exact e_zr rfl (by decide) dX8_isSign_21 h
def f_X8_isWordAt  (p1 : Int32) (p2 : Int32) (p3 : Int32) (p4 : Int32) (σ : Mem) : Option Int32 :=
  (if p4 = 0 then (if (σ 8 0 19) = (1 : Int32) then (if ((σ 8 0 18) - (σ 8 0 17)) = (3 : Int32) then (bnd (ix 96 (σ 8 0 17)) (fun j5 => (if (σ 36 0 j5) = p1 then (bnd (ix 96 ((σ 8 0 17) + (1 : Int32))) (fun j6 => (if (σ 36 0 j6) = p2 then (bnd (ix 96 ((σ 8 0 17) + (2 : Int32))) (fun j7 => (if (σ 36 0 j7) = p3 then (if p4 = 0 then (some (1 : Int32)) else (bnd (ix 96 ((σ 8 0 17) + (3 : Int32))) (fun j8 => (if (σ 36 0 j8) = p4 then (some (1 : Int32)) else (some (0 : Int32)))))) else (some (0 : Int32))))) else (some (0 : Int32))))) else (some (0 : Int32))))) else (some (0 : Int32))) else (some (0 : Int32))) else (if (σ 8 0 19) = (1 : Int32) then (if ((σ 8 0 18) - (σ 8 0 17)) = (4 : Int32) then (bnd (ix 96 (σ 8 0 17)) (fun j1 => (if (σ 36 0 j1) = p1 then (bnd (ix 96 ((σ 8 0 17) + (1 : Int32))) (fun j2 => (if (σ 36 0 j2) = p2 then (bnd (ix 96 ((σ 8 0 17) + (2 : Int32))) (fun j3 => (if (σ 36 0 j3) = p3 then (if p4 = 0 then (some (1 : Int32)) else (bnd (ix 96 ((σ 8 0 17) + (3 : Int32))) (fun j4 => (if (σ 36 0 j4) = p4 then (some (1 : Int32)) else (some (0 : Int32)))))) else (some (0 : Int32))))) else (some (0 : Int32))))) else (some (0 : Int32))))) else (some (0 : Int32))) else (some (0 : Int32))))
set_option maxRecDepth 100000 in
set_option maxHeartbeats 4000000 in
theorem F_X8_isWordAt {X : Cx} {p1 : Int32} {p2 : Int32} {p3 : Int32} {p4 : Int32} {σ : Mem} {res : Int32}  (h : f_X8_isWordAt p1 p2 p3 p4 σ = some res) : Tri X 1 mX8_isWordAt [rf X 8 0, .int p1, .int p2, .int p3, .int p4] σ (some (.int res)) σ := by
  unfold f_X8_isWordAt at h
  refine Tri.of (ls := [some (rf X 8 0), some (.int p1), some (.int p2), some (.int p3), some (.int p4), none]) (by decide) (Nat.le_of_ble_eq_true rfl) rfl ?_
  refine i_iload dX8_isWordAt_0 rfl ?_
  refine r_if_ne (tgt := 9) dX8_isWordAt_2 (by decide) h (fun c1 h => ?_) (fun c1 h => ?_)
  · refine i_iconst (v := 4) dX8_isWordAt_9 (by decide) ?_
    refine i_istore (ls' := [some (rf X 8 0), some (.int p1), some (.int p2), some (.int p3), some (.int p4), some (.int (4 : Int32))]) dX8_isWordAt_10 (by decide) (okp_at rfl) rfl ?_
    refine i_aload_n dX8_isWordAt_12 rfl ?_
    refine gf_X8_216 rfl (by omega) dX8_isWordAt_13 ?_
    refine i_iconst (v := 1) dX8_isWordAt_16 (by decide) ?_
    refine r_icmp_ne (tgt := 102) dX8_isWordAt_17 (by decide) h (fun c2 h => ?_) (fun c2 h => ?_)
    · refine i_iconst (v := 0) dX8_isWordAt_102 (by decide) ?_
      exact e_zr rfl (by decide) dX8_isWordAt_103 h
    · refine i_aload_n dX8_isWordAt_20 rfl ?_
      refine gf_X8_213 rfl (by omega) dX8_isWordAt_21 ?_
      refine i_aload_n dX8_isWordAt_24 rfl ?_
      refine gf_X8_219 rfl (by omega) dX8_isWordAt_25 ?_
      refine i_isub dX8_isWordAt_28 ?_
      refine i_iload dX8_isWordAt_29 rfl ?_
      refine r_icmp_ne (tgt := 102) dX8_isWordAt_31 (by decide) h (fun c3 h => ?_) (fun c3 h => ?_)
      · refine i_iconst (v := 0) dX8_isWordAt_102 (by decide) ?_
        exact e_zr rfl (by decide) dX8_isWordAt_103 h
      · refine i_aload_n dX8_isWordAt_34 rfl ?_
        refine gf_X8_52 rfl (by omega) dX8_isWordAt_35 ?_
        refine i_aload_n dX8_isWordAt_38 rfl ?_
        refine gf_X8_219 rfl (by omega) dX8_isWordAt_39 ?_
        refine al_36 dX8_isWordAt_42 (by omega) h (fun j1 lj1 h => ?_)
        refine i_iload_n dX8_isWordAt_43 rfl ?_
        refine r_icmp_ne (tgt := 102) dX8_isWordAt_44 (by decide) h (fun c4 h => ?_) (fun c4 h => ?_)
        · refine i_iconst (v := 0) dX8_isWordAt_102 (by decide) ?_
          exact e_zr rfl (by decide) dX8_isWordAt_103 h
        · refine i_aload_n dX8_isWordAt_47 rfl ?_
          refine gf_X8_52 rfl (by omega) dX8_isWordAt_48 ?_
          refine i_aload_n dX8_isWordAt_51 rfl ?_
          refine gf_X8_219 rfl (by omega) dX8_isWordAt_52 ?_
          refine i_iconst (v := 1) dX8_isWordAt_55 (by decide) ?_
          refine i_iadd dX8_isWordAt_56 ?_
          refine al_36 dX8_isWordAt_57 (by omega) h (fun j2 lj2 h => ?_)
          refine i_iload_n dX8_isWordAt_58 rfl ?_
          refine r_icmp_ne (tgt := 102) dX8_isWordAt_59 (by decide) h (fun c5 h => ?_) (fun c5 h => ?_)
          · refine i_iconst (v := 0) dX8_isWordAt_102 (by decide) ?_
            exact e_zr rfl (by decide) dX8_isWordAt_103 h
          · refine i_aload_n dX8_isWordAt_62 rfl ?_
            refine gf_X8_52 rfl (by omega) dX8_isWordAt_63 ?_
            refine i_aload_n dX8_isWordAt_66 rfl ?_
            refine gf_X8_219 rfl (by omega) dX8_isWordAt_67 ?_
            refine i_iconst (v := 2) dX8_isWordAt_70 (by decide) ?_
            refine i_iadd dX8_isWordAt_71 ?_
            refine al_36 dX8_isWordAt_72 (by omega) h (fun j3 lj3 h => ?_)
            refine i_iload_n dX8_isWordAt_73 rfl ?_
            refine r_icmp_ne (tgt := 102) dX8_isWordAt_74 (by decide) h (fun c6 h => ?_) (fun c6 h => ?_)
            · refine i_iconst (v := 0) dX8_isWordAt_102 (by decide) ?_
              exact e_zr rfl (by decide) dX8_isWordAt_103 h
            · refine i_iload dX8_isWordAt_77 rfl ?_
              refine r_if_eq (tgt := 98) dX8_isWordAt_79 (by decide) h (fun c7 h => ?_) (fun c7 h => ?_)
              · refine i_iconst (v := 1) dX8_isWordAt_98 (by decide) ?_
                refine i_goto (tgt := 103) dX8_isWordAt_99 (by decide) ?_
                exact e_zr rfl (by decide) dX8_isWordAt_103 h
              · refine i_aload_n dX8_isWordAt_82 rfl ?_
                refine gf_X8_52 rfl (by omega) dX8_isWordAt_83 ?_
                refine i_aload_n dX8_isWordAt_86 rfl ?_
                refine gf_X8_219 rfl (by omega) dX8_isWordAt_87 ?_
                refine i_iconst (v := 3) dX8_isWordAt_90 (by decide) ?_
                refine i_iadd dX8_isWordAt_91 ?_
                refine al_36 dX8_isWordAt_92 (by omega) h (fun j4 lj4 h => ?_)
                refine i_iload dX8_isWordAt_93 rfl ?_
                refine r_icmp_ne (tgt := 102) dX8_isWordAt_95 (by decide) h (fun c8 h => ?_) (fun c8 h => ?_)
                · refine i_iconst (v := 0) dX8_isWordAt_102 (by decide) ?_
                  exact e_zr rfl (by decide) dX8_isWordAt_103 h
                · refine i_iconst (v := 1) dX8_isWordAt_98 (by decide) ?_
                  refine i_goto (tgt := 103) dX8_isWordAt_99 (by decide) ?_
                  exact e_zr rfl (by decide) dX8_isWordAt_103 h
  · refine i_iconst (v := 3) dX8_isWordAt_5 (by decide) ?_
    refine i_goto (tgt := 10) dX8_isWordAt_6 (by decide) ?_
    refine i_istore (ls' := [some (rf X 8 0), some (.int p1), some (.int p2), some (.int p3), some (.int p4), some (.int (3 : Int32))]) dX8_isWordAt_10 (by decide) (okp_at rfl) rfl ?_
    refine i_aload_n dX8_isWordAt_12 rfl ?_
    refine gf_X8_216 rfl (by omega) dX8_isWordAt_13 ?_
    refine i_iconst (v := 1) dX8_isWordAt_16 (by decide) ?_
    refine r_icmp_ne (tgt := 102) dX8_isWordAt_17 (by decide) h (fun c9 h => ?_) (fun c9 h => ?_)
    · refine i_iconst (v := 0) dX8_isWordAt_102 (by decide) ?_
      exact e_zr rfl (by decide) dX8_isWordAt_103 h
    · refine i_aload_n dX8_isWordAt_20 rfl ?_
      refine gf_X8_213 rfl (by omega) dX8_isWordAt_21 ?_
      refine i_aload_n dX8_isWordAt_24 rfl ?_
      refine gf_X8_219 rfl (by omega) dX8_isWordAt_25 ?_
      refine i_isub dX8_isWordAt_28 ?_
      refine i_iload dX8_isWordAt_29 rfl ?_
      refine r_icmp_ne (tgt := 102) dX8_isWordAt_31 (by decide) h (fun c10 h => ?_) (fun c10 h => ?_)
      · refine i_iconst (v := 0) dX8_isWordAt_102 (by decide) ?_
        exact e_zr rfl (by decide) dX8_isWordAt_103 h
      · refine i_aload_n dX8_isWordAt_34 rfl ?_
        refine gf_X8_52 rfl (by omega) dX8_isWordAt_35 ?_
        refine i_aload_n dX8_isWordAt_38 rfl ?_
        refine gf_X8_219 rfl (by omega) dX8_isWordAt_39 ?_
        refine al_36 dX8_isWordAt_42 (by omega) h (fun j5 lj5 h => ?_)
        refine i_iload_n dX8_isWordAt_43 rfl ?_
        refine r_icmp_ne (tgt := 102) dX8_isWordAt_44 (by decide) h (fun c11 h => ?_) (fun c11 h => ?_)
        · refine i_iconst (v := 0) dX8_isWordAt_102 (by decide) ?_
          exact e_zr rfl (by decide) dX8_isWordAt_103 h
        · refine i_aload_n dX8_isWordAt_47 rfl ?_
          refine gf_X8_52 rfl (by omega) dX8_isWordAt_48 ?_
          refine i_aload_n dX8_isWordAt_51 rfl ?_
          refine gf_X8_219 rfl (by omega) dX8_isWordAt_52 ?_
          refine i_iconst (v := 1) dX8_isWordAt_55 (by decide) ?_
          refine i_iadd dX8_isWordAt_56 ?_
          refine al_36 dX8_isWordAt_57 (by omega) h (fun j6 lj6 h => ?_)
          refine i_iload_n dX8_isWordAt_58 rfl ?_
          refine r_icmp_ne (tgt := 102) dX8_isWordAt_59 (by decide) h (fun c12 h => ?_) (fun c12 h => ?_)
          · refine i_iconst (v := 0) dX8_isWordAt_102 (by decide) ?_
            exact e_zr rfl (by decide) dX8_isWordAt_103 h
          · refine i_aload_n dX8_isWordAt_62 rfl ?_
            refine gf_X8_52 rfl (by omega) dX8_isWordAt_63 ?_
            refine i_aload_n dX8_isWordAt_66 rfl ?_
            refine gf_X8_219 rfl (by omega) dX8_isWordAt_67 ?_
            refine i_iconst (v := 2) dX8_isWordAt_70 (by decide) ?_
            refine i_iadd dX8_isWordAt_71 ?_
            refine al_36 dX8_isWordAt_72 (by omega) h (fun j7 lj7 h => ?_)
            refine i_iload_n dX8_isWordAt_73 rfl ?_
            refine r_icmp_ne (tgt := 102) dX8_isWordAt_74 (by decide) h (fun c13 h => ?_) (fun c13 h => ?_)
            · refine i_iconst (v := 0) dX8_isWordAt_102 (by decide) ?_
              exact e_zr rfl (by decide) dX8_isWordAt_103 h
            · refine i_iload dX8_isWordAt_77 rfl ?_
              refine r_if_eq (tgt := 98) dX8_isWordAt_79 (by decide) h (fun c14 h => ?_) (fun c14 h => ?_)
              · refine i_iconst (v := 1) dX8_isWordAt_98 (by decide) ?_
                refine i_goto (tgt := 103) dX8_isWordAt_99 (by decide) ?_
                exact e_zr rfl (by decide) dX8_isWordAt_103 h
              · refine i_aload_n dX8_isWordAt_82 rfl ?_
                refine gf_X8_52 rfl (by omega) dX8_isWordAt_83 ?_
                refine i_aload_n dX8_isWordAt_86 rfl ?_
                refine gf_X8_219 rfl (by omega) dX8_isWordAt_87 ?_
                refine i_iconst (v := 3) dX8_isWordAt_90 (by decide) ?_
                refine i_iadd dX8_isWordAt_91 ?_
                refine al_36 dX8_isWordAt_92 (by omega) h (fun j8 lj8 h => ?_)
                refine i_iload dX8_isWordAt_93 rfl ?_
                refine r_icmp_ne (tgt := 102) dX8_isWordAt_95 (by decide) h (fun c15 h => ?_) (fun c15 h => ?_)
                · refine i_iconst (v := 0) dX8_isWordAt_102 (by decide) ?_
                  exact e_zr rfl (by decide) dX8_isWordAt_103 h
                · refine i_iconst (v := 1) dX8_isWordAt_98 (by decide) ?_
                  refine i_goto (tgt := 103) dX8_isWordAt_99 (by decide) ?_
                  exact e_zr rfl (by decide) dX8_isWordAt_103 h
def f_X8_key   (σ : Mem) : Option Int32 :=
  (bnd (f_X8_isWordAt (107 : Int32) (101 : Int32) (101 : Int32) (112 : Int32) σ) (fun a1 => (if a1 = 0 then (bnd (f_X8_isWordAt (102 : Int32) (101 : Int32) (101 : Int32) (0 : Int32) σ) (fun a2 => (if a2 = 0 then (bnd (f_X8_isWordAt (102 : Int32) (105 : Int32) (110 : Int32) (101 : Int32) σ) (fun a3 => (if a3 = 0 then (some (-1 : Int32)) else (some (2 : Int32))))) else (some (1 : Int32))))) else (some (0 : Int32)))))
set_option maxRecDepth 100000 in
set_option maxHeartbeats 4000000 in
theorem F_X8_key {X : Cx}  {σ : Mem} {res : Int32}  (h : f_X8_key σ = some res) : Tri X 2 mX8_key [rf X 8 0] σ (some (.int res)) σ := by
  unfold f_X8_key at h
  refine Tri.of (ls := [some (rf X 8 0)]) (by decide) (Nat.le_of_ble_eq_true rfl) rfl ?_
  refine i_aload_n dX8_key_0 rfl ?_
  refine i_bipush (v := 107) dX8_key_1 (by decide) ?_
  refine i_bipush (v := 101) dX8_key_3 (by decide) ?_
  refine i_bipush (v := 101) dX8_key_5 (by decide) ?_
  refine i_bipush (v := 112) dX8_key_7 (by decide) ?_
  refine cV_ir dX8_key_9 cw_X8_234 ci_X8_isWordAt rfl rfl (by decide) (show 0 < 1 by omega) h (fun a1 e => F_X8_isWordAt  e) (Nat.le_of_ble_eq_true rfl) rfl rfl (Nat.le_of_ble_eq_true rfl) (fun a1 ea1 h => ?_)
  refine r_if_eq (tgt := 17) dX8_key_12 (by decide) h (fun c1 h => ?_) (fun c1 h => ?_)
  · refine i_aload_n dX8_key_17 rfl ?_
    refine i_bipush (v := 102) dX8_key_18 (by decide) ?_
    refine i_bipush (v := 101) dX8_key_20 (by decide) ?_
    refine i_bipush (v := 101) dX8_key_22 (by decide) ?_
    refine i_iconst (v := 0) dX8_key_24 (by decide) ?_
    refine cV_ir dX8_key_25 cw_X8_234 ci_X8_isWordAt rfl rfl (by decide) (show 0 < 1 by omega) h (fun a2 e => F_X8_isWordAt  e) (Nat.le_of_ble_eq_true rfl) rfl rfl (Nat.le_of_ble_eq_true rfl) (fun a2 ea2 h => ?_)
    refine r_if_eq (tgt := 33) dX8_key_28 (by decide) h (fun c2 h => ?_) (fun c2 h => ?_)
    · refine i_aload_n dX8_key_33 rfl ?_
      refine i_bipush (v := 102) dX8_key_34 (by decide) ?_
      refine i_bipush (v := 105) dX8_key_36 (by decide) ?_
      refine i_bipush (v := 110) dX8_key_38 (by decide) ?_
      refine i_bipush (v := 101) dX8_key_40 (by decide) ?_
      refine cV_ir dX8_key_42 cw_X8_234 ci_X8_isWordAt rfl rfl (by decide) (show 0 < 1 by omega) h (fun a3 e => F_X8_isWordAt  e) (Nat.le_of_ble_eq_true rfl) rfl rfl (Nat.le_of_ble_eq_true rfl) (fun a3 ea3 h => ?_)
      refine r_if_eq (tgt := 52) dX8_key_45 (by decide) h (fun c3 h => ?_) (fun c3 h => ?_)
      · refine i_iconst (v := (-1)) dX8_key_52 (by decide) ?_
        exact e_ir rfl dX8_key_53 h
      · refine i_iconst (v := 2) dX8_key_48 (by decide) ?_
        refine i_goto (tgt := 53) dX8_key_49 (by decide) ?_
        exact e_ir rfl dX8_key_53 h
    · refine i_iconst (v := 1) dX8_key_31 (by decide) ?_
      exact e_ir rfl dX8_key_32 h
  · refine i_iconst (v := 0) dX8_key_15 (by decide) ?_
    exact e_ir rfl dX8_key_16 h
def f_X8_isName  (p0 : Int32) (p1 : Int32) (σ : Mem) : Option Int32 :=
  (if p0 = (0 : Int32) then (if p1 = (102 : Int32) then (some (1 : Int32)) else (if p1 = (110 : Int32) then (some (1 : Int32)) else (if p1 = (119 : Int32) then (some (1 : Int32)) else (some (0 : Int32))))) else (if p0 = (1 : Int32) then (if p1 = (107 : Int32) then (some (1 : Int32)) else (if p1 = (108 : Int32) then (some (1 : Int32)) else (some (0 : Int32)))) else (if p1 = (112 : Int32) then (some (1 : Int32)) else (if p1 = (101 : Int32) then (some (1 : Int32)) else (some (0 : Int32))))))
set_option maxRecDepth 100000 in
set_option maxHeartbeats 4000000 in
theorem F_X8_isName {X : Cx} {p0 : Int32} {p1 : Int32} {σ : Mem} {res : Int32}  (h : f_X8_isName p0 p1 σ = some res) : Tri X 1 mX8_isName [.int p0, .int p1] σ (some (.int res)) σ := by
  unfold f_X8_isName at h
  refine Tri.of (ls := [some (.int p0), some (.int p1)]) (by decide) (Nat.le_of_ble_eq_true rfl) rfl ?_
  refine i_iload_n dX8_isName_0 rfl ?_
  refine r_case (c := p0 = (0 : Int32)) h (fun c1 h => ?_) (fun c1 h => ?_)
  · refine i_look (tgt := 28) (off := 27) dX8_isName_1 (by decide) (by rw [c1]; decide) (by decide) ?_
    refine i_iload_n dX8_isName_28 rfl ?_
    refine i_bipush (v := 102) dX8_isName_29 (by decide) ?_
    refine r_icmp_eq (tgt := 46) dX8_isName_31 (by decide) h (fun c2 h => ?_) (fun c2 h => ?_)
    · refine i_iconst (v := 1) dX8_isName_46 (by decide) ?_
      refine i_goto (tgt := 51) dX8_isName_47 (by decide) ?_
      exact e_zr rfl (by decide) dX8_isName_51 h
    · refine i_iload_n dX8_isName_34 rfl ?_
      refine i_bipush (v := 110) dX8_isName_35 (by decide) ?_
      refine r_icmp_eq (tgt := 46) dX8_isName_37 (by decide) h (fun c3 h => ?_) (fun c3 h => ?_)
      · refine i_iconst (v := 1) dX8_isName_46 (by decide) ?_
        refine i_goto (tgt := 51) dX8_isName_47 (by decide) ?_
        exact e_zr rfl (by decide) dX8_isName_51 h
      · refine i_iload_n dX8_isName_40 rfl ?_
        refine i_bipush (v := 119) dX8_isName_41 (by decide) ?_
        refine r_icmp_ne (tgt := 50) dX8_isName_43 (by decide) h (fun c4 h => ?_) (fun c4 h => ?_)
        · refine i_iconst (v := 0) dX8_isName_50 (by decide) ?_
          exact e_zr rfl (by decide) dX8_isName_51 h
        · refine i_iconst (v := 1) dX8_isName_46 (by decide) ?_
          refine i_goto (tgt := 51) dX8_isName_47 (by decide) ?_
          exact e_zr rfl (by decide) dX8_isName_51 h
  · refine r_case (c := p0 = (1 : Int32)) h (fun c5 h => ?_) (fun c5 h => ?_)
    · refine i_look (tgt := 52) (off := 51) dX8_isName_1 (by decide) (by rw [c5]; decide) (by decide) ?_
      refine i_iload_n dX8_isName_52 rfl ?_
      refine i_bipush (v := 107) dX8_isName_53 (by decide) ?_
      refine r_icmp_eq (tgt := 64) dX8_isName_55 (by decide) h (fun c6 h => ?_) (fun c6 h => ?_)
      · refine i_iconst (v := 1) dX8_isName_64 (by decide) ?_
        refine i_goto (tgt := 69) dX8_isName_65 (by decide) ?_
        exact e_zr rfl (by decide) dX8_isName_69 h
      · refine i_iload_n dX8_isName_58 rfl ?_
        refine i_bipush (v := 108) dX8_isName_59 (by decide) ?_
        refine r_icmp_ne (tgt := 68) dX8_isName_61 (by decide) h (fun c7 h => ?_) (fun c7 h => ?_)
        · refine i_iconst (v := 0) dX8_isName_68 (by decide) ?_
          exact e_zr rfl (by decide) dX8_isName_69 h
        · refine i_iconst (v := 1) dX8_isName_64 (by decide) ?_
          refine i_goto (tgt := 69) dX8_isName_65 (by decide) ?_
          exact e_zr rfl (by decide) dX8_isName_69 h
    · refine i_look (tgt := 70) (off := 69) dX8_isName_1 (by decide) (by
        show Op.lookupswitch.offset [(0, 27), (1, 51)] _ _ = _
        rw [Op.lookupswitch.offset_cons, if_neg (fun e => ne_toInt c1 (n := 0) (by decide) e.symm), Op.lookupswitch.offset_cons, if_neg (fun e => ne_toInt c5 (n := 1) (by decide) e.symm), Op.lookupswitch.offset_nil]) (by decide) ?_
      refine i_iload_n dX8_isName_70 rfl ?_
      refine i_bipush (v := 112) dX8_isName_71 (by decide) ?_
      refine r_icmp_eq (tgt := 82) dX8_isName_73 (by decide) h (fun c8 h => ?_) (fun c8 h => ?_)
      · refine i_iconst (v := 1) dX8_isName_82 (by decide) ?_
        refine i_goto (tgt := 87) dX8_isName_83 (by decide) ?_
        exact e_zr rfl (by decide) dX8_isName_87 h
      · refine i_iload_n dX8_isName_76 rfl ?_
        refine i_bipush (v := 101) dX8_isName_77 (by decide) ?_
        refine r_icmp_ne (tgt := 86) dX8_isName_79 (by decide) h (fun c9 h => ?_) (fun c9 h => ?_)
        · refine i_iconst (v := 0) dX8_isName_86 (by decide) ?_
          exact e_zr rfl (by decide) dX8_isName_87 h
        · refine i_iconst (v := 1) dX8_isName_82 (by decide) ?_
          refine i_goto (tgt := 87) dX8_isName_83 (by decide) ?_
          exact e_zr rfl (by decide) dX8_isName_87 h
def f_X8_step  (p1 : Int32) (p2 : Int32) (σ : Mem) : Option Mem :=
  (bnd (ix 3108 ((σ 8 0 25) + ((2 : Int32) * (σ 8 0 24)))) (fun j1 => (bnd (ix 3108 ((((mput σ 22 0 j1 p1) 8 0 25) + ((2 : Int32) * ((mput σ 22 0 j1 p1) 8 0 24))) + (1 : Int32))) (fun j2 => (bnd (some (mput (mput (mput σ 22 0 j1 p1) 22 0 j2 p2) 8 0 24 (((mput (mput σ 22 0 j1 p1) 22 0 j2 p2) 8 0 24) + (1 : Int32)))) (fun s1 => (some s1)))))))
set_option maxRecDepth 100000 in
set_option maxHeartbeats 4000000 in
theorem F_X8_step {X : Cx} {p1 : Int32} {p2 : Int32} {σ : Mem} {res : Mem}  (h : f_X8_step p1 p2 σ = some res) : Tri X 1 mX8_step [rf X 8 0, .int p1, .int p2] σ none res := by
  unfold f_X8_step at h
  refine Tri.of (ls := [some (rf X 8 0), some (.int p1), some (.int p2)]) (by decide) (Nat.le_of_ble_eq_true rfl) rfl ?_
  refine i_aload_n dX8_step_0 rfl ?_
  refine gf_X8_7 rfl (by omega) dX8_step_1 ?_
  refine i_aload_n dX8_step_4 rfl ?_
  refine gf_X8_238 rfl (by omega) dX8_step_5 ?_
  refine i_iconst (v := 2) dX8_step_8 (by decide) ?_
  refine i_aload_n dX8_step_9 rfl ?_
  refine gf_X8_241 rfl (by omega) dX8_step_10 ?_
  refine i_imul dX8_step_13 ?_
  refine i_iadd dX8_step_14 ?_
  refine i_iload_n dX8_step_15 rfl ?_
  refine as_22 dX8_step_16 (by omega) h (fun j1 lj1 h => ?_)
  refine i_aload_n dX8_step_17 rfl ?_
  refine gf_X8_7 rfl (by omega) dX8_step_18 ?_
  refine i_aload_n dX8_step_21 rfl ?_
  refine gf_X8_238 rfl (by omega) dX8_step_22 ?_
  refine i_iconst (v := 2) dX8_step_25 (by decide) ?_
  refine i_aload_n dX8_step_26 rfl ?_
  refine gf_X8_241 rfl (by omega) dX8_step_27 ?_
  refine i_imul dX8_step_30 ?_
  refine i_iadd dX8_step_31 ?_
  refine i_iconst (v := 1) dX8_step_32 (by decide) ?_
  refine i_iadd dX8_step_33 ?_
  refine i_iload_n dX8_step_34 rfl ?_
  refine as_22 dX8_step_35 (by omega) h (fun j2 lj2 h => ?_)
  refine i_aload_n dX8_step_36 rfl ?_
  refine i_dup dX8_step_37 rfl ?_
  refine gf_X8_241 rfl (by omega) dX8_step_38 ?_
  refine i_iconst (v := 1) dX8_step_41 (by decide) ?_
  refine i_iadd dX8_step_42 ?_
  refine pf_X8_241 rfl (by omega) dX8_step_43 ?_
  refine r_mem h (fun s1 _ h => ?_)
  exact e_vw rfl dX8_step_46 h
def f_X8_textTold  (p1 : Int32) (p2 : Int32) (σ : Mem) : Option Int32 :=
  (bnd (f_X8_isText p1 σ) (fun a1 => (if a1 = 0 then (some (-1000000001 : Int32)) else (bnd (f_X8_isIn ((p2).toInt64) ((0 : Int64)) ((1 : Int64)) σ) (fun a2 => (if a2 = 0 then (some (-1000000001 : Int32)) else (bnd (f_X8_textAt p1 σ) (fun a3 => (bnd (ix 3108 (a3 + p2)) (fun j1 => (some (σ 22 0 j1))))))))))))
set_option maxRecDepth 100000 in
set_option maxHeartbeats 4000000 in
theorem F_X8_textTold {X : Cx} {p1 : Int32} {p2 : Int32} {σ : Mem} {res : Int32}  (h : f_X8_textTold p1 p2 σ = some res) : Tri X 3 mX8_textTold [rf X 8 0, .int p1, .int p2] σ (some (.int res)) σ := by
  unfold f_X8_textTold at h
  refine Tri.of (ls := [some (rf X 8 0), some (.int p1), some (.int p2)]) (by decide) (Nat.le_of_ble_eq_true rfl) rfl ?_
  refine i_aload_n dX8_textTold_0 rfl ?_
  refine i_iload_n dX8_textTold_1 rfl ?_
  refine cV_ir dX8_textTold_2 cw_X8_292 ci_X8_isText rfl rfl (by decide) (show 0 < 1 by omega) h (fun a1 e => F_X8_isText  e) (Nat.le_of_ble_eq_true rfl) rfl rfl (Nat.le_of_ble_eq_true rfl) (fun a1 ea1 h => ?_)
  refine r_if_eq (tgt := 18) dX8_textTold_5 (by decide) h (fun c1 h => ?_) (fun c1 h => ?_)
  · refine i_ldc (v := (-1000000001)) dX8_textTold_18 k_X8_86 ?_
    exact e_ir rfl dX8_textTold_20 h
  · refine i_iload_n dX8_textTold_8 rfl ?_
    refine i_i2l dX8_textTold_9 ?_
    refine i_lconst (v := 0) dX8_textTold_10 (by decide) ?_
    refine i_lconst (v := 1) dX8_textTold_11 (by decide) ?_
    refine cS_ir dX8_textTold_12 cw_X8_71 ci_X8_isIn h (fun a2 e => F_X8_isIn  e) (Nat.le_of_ble_eq_true rfl) rfl rfl (Nat.le_of_ble_eq_true rfl) (fun a2 ea2 h => ?_)
    refine r_if_ne (tgt := 21) dX8_textTold_15 (by decide) h (fun c2 h => ?_) (fun c2 h => ?_)
    · refine i_aload_n dX8_textTold_21 rfl ?_
      refine gf_X8_7 rfl (by omega) dX8_textTold_22 ?_
      refine i_aload_n dX8_textTold_25 rfl ?_
      refine i_iload_n dX8_textTold_26 rfl ?_
      refine cV_ir dX8_textTold_27 cw_X8_283 ci_X8_textAt rfl rfl (by decide) (show 0 < 1 by omega) h (fun a3 e => F_X8_textAt  e) (Nat.le_of_ble_eq_true rfl) rfl rfl (Nat.le_of_ble_eq_true rfl) (fun a3 ea3 h => ?_)
      refine i_iload_n dX8_textTold_30 rfl ?_
      refine i_iadd dX8_textTold_31 ?_
      refine al_22 dX8_textTold_32 (by omega) h (fun j1 lj1 h => ?_)
      exact e_ir rfl dX8_textTold_33 h
    · refine i_ldc (v := (-1000000001)) dX8_textTold_18 k_X8_86 ?_
      exact e_ir rfl dX8_textTold_20 h
def f_X8_why  (p1 : Int32) (σ : Mem) : Option Int32 :=
  (bnd (f_X8_isIn ((p1).toInt64) ((0 : Int64)) ((2 : Int64)) σ) (fun a1 => (if a1 = 0 then (some (-1000000001 : Int32)) else (bnd (f_X8_counts p1 σ) (fun a2 => (bnd (f_X8_orNone a2 σ) (fun a3 => (some a3))))))))
set_option maxRecDepth 100000 in
set_option maxHeartbeats 4000000 in
theorem F_X8_why {X : Cx} {p1 : Int32} {σ : Mem} {res : Int32}  (h : f_X8_why p1 σ = some res) : Tri X 3 mX8_why [rf X 8 0, .int p1] σ (some (.int res)) σ := by
  unfold f_X8_why at h
  refine Tri.of (ls := [some (rf X 8 0), some (.int p1)]) (by decide) (Nat.le_of_ble_eq_true rfl) rfl ?_
  refine i_iload_n dX8_why_0 rfl ?_
  refine i_i2l dX8_why_1 ?_
  refine i_lconst (v := 0) dX8_why_2 (by decide) ?_
  refine i_ldc2 (v := 2) dX8_why_3 k_X8_143 ?_
  refine cS_ir dX8_why_6 cw_X8_71 ci_X8_isIn h (fun a1 e => F_X8_isIn  e) (Nat.le_of_ble_eq_true rfl) rfl rfl (Nat.le_of_ble_eq_true rfl) (fun a1 ea1 h => ?_)
  refine r_if_eq (tgt := 23) dX8_why_9 (by decide) h (fun c1 h => ?_) (fun c1 h => ?_)
  · refine i_ldc (v := (-1000000001)) dX8_why_23 k_X8_86 ?_
    exact e_ir rfl dX8_why_25 h
  · refine i_aload_n dX8_why_12 rfl ?_
    refine i_iload_n dX8_why_13 rfl ?_
    refine cV_ir dX8_why_14 cw_X8_101 ci_X8_counts rfl rfl (by decide) (show 0 < 1 by omega) h (fun a2 e => F_X8_counts  e) (Nat.le_of_ble_eq_true rfl) rfl rfl (Nat.le_of_ble_eq_true rfl) (fun a2 ea2 h => ?_)
    refine cS_ir dX8_why_17 cw_X8_194 ci_X8_orNone h (fun a3 e => F_X8_orNone  e) (Nat.le_of_ble_eq_true rfl) rfl rfl (Nat.le_of_ble_eq_true rfl) (fun a3 ea3 h => ?_)
    refine i_goto (tgt := 25) dX8_why_20 (by decide) ?_
    exact e_ir rfl dX8_why_25 h
def f_X8_isSheet  (p0 : Int32) (σ : Mem) : Option Int32 :=
  (bnd (f_X8_isIn ((p0).toInt64) ((0 : Int64)) ((3 : Int64)) σ) (fun a1 => (if isB a1 = true then (some a1) else none)))
set_option maxRecDepth 100000 in
set_option maxHeartbeats 4000000 in
theorem F_X8_isSheet {X : Cx} {p0 : Int32} {σ : Mem} {res : Int32}  (h : f_X8_isSheet p0 σ = some res) : Tri X 2 mX8_isSheet [.int p0] σ (some (.int res)) σ := by
  unfold f_X8_isSheet at h
  refine Tri.of (ls := [some (.int p0)]) (by decide) (Nat.le_of_ble_eq_true rfl) rfl ?_
  refine i_iload_n dX8_isSheet_0 rfl ?_
  refine i_i2l dX8_isSheet_1 ?_
  refine i_lconst (v := 0) dX8_isSheet_2 (by decide) ?_
  refine i_ldc2 (v := 3) dX8_isSheet_3 k_X8_133 ?_
  refine cS_ir dX8_isSheet_6 cw_X8_71 ci_X8_isIn h (fun a1 e => F_X8_isIn  e) (Nat.le_of_ble_eq_true rfl) rfl rfl (Nat.le_of_ble_eq_true rfl) (fun a1 ea1 h => ?_)
  exact e_br rfl dX8_isSheet_9 h
end
