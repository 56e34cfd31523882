noncomputable section
def f_X8_chain_15 (p1 : Int32) : Nat → Int32 → Mem → (Mem → Option (Int32 × Mem)) → Option (Int32 × Mem)
  | 0, _, _, _ => none
  | n + 1, v2, σ, k =>
    (if p1 ≤ v2 then (k σ) else (bnd (ix 1024 v2) (fun j1 => (f_X8_chain_15 p1 n (v2 + (1 : Int32)) (mput σ 34 0 j1 (0 : Int32)) k))))
set_option maxRecDepth 100000 in
set_option maxHeartbeats 4000000 in
theorem L_X8_chain_15 {X : Cx} {p1 : Int32} {r0 : Int32} {σ2 : Mem} {k : Mem → Option (Int32 × Mem)}  : ∀ (n : Nat) (v2 : Int32) (σ : Mem), f_X8_chain_15 p1 n v2 σ k = some (r0, σ2) → (∀ (σ1 : Mem), k σ1 = some (r0, σ2) → At X 3 mX8_chain 33 [some (rf X 8 0), some (.int p1), none, none, none, none] [] σ1 (some (.int r0)) σ2) → At X 3 mX8_chain 15 [some (rf X 8 0), some (.int p1), some (.int v2), none, none, none] [] σ (some (.int r0)) σ2 := by
  intro n
  induction n with
  | zero =>
    intro v2 σ h
    cases h
  | succ n ih =>
    intro v2 σ h hk
    rw [f_X8_chain_15.eq_2] at h
    refine i_iload_n dX8_chain_15 rfl ?_
    refine i_iload_n dX8_chain_16 rfl ?_
    refine r_icmp_ge (tgt := 33) dX8_chain_17 (by decide) h (fun c1 h => ?_) (fun c1 h => ?_)
    · refine At.fewer (ls' := [some (rf X 8 0), some (.int p1), none, none, none, none]) (And.intro rfl (And.intro rfl trivial)) ?_
      exact hk _ h
    · refine i_aload_n dX8_chain_20 rfl ?_
      refine gf_X8_46 rfl (by omega) dX8_chain_21 ?_
      refine i_iload_n dX8_chain_24 rfl ?_
      refine i_iconst (v := 0) dX8_chain_25 (by decide) ?_
      refine as_34 dX8_chain_26 (by omega) h (fun j1 lj1 h => ?_)
      refine i_iinc (v := (v2 + (1 : Int32))) (ls' := [some (rf X 8 0), some (.int p1), some (.int (v2 + (1 : Int32))), none, none, none]) dX8_chain_27 rfl (by rfl) (by decide) (okp_at rfl) rfl ?_
      refine i_goto (tgt := 15) dX8_chain_30 (by decide) ?_
      exact ih _ _ h hk
def f_X8_chain_35 (p1 : Int32) : Nat → Int32 → Mem → (Mem → Option (Int32 × Mem)) → Option (Int32 × Mem)
  | 0, _, _, _ => none
  | n + 1, v2, σ, k =>
    (bnd (ix 3108 (0 : Int32)) (fun j1 => (if (σ 22 0 j1) ≤ v2 then (k σ) else (bnd (ix 1024 ((1 : Int32) <<< (v2 &&& (31 : Int32)))) (fun j2 => (f_X8_chain_35 p1 n (v2 + (1 : Int32)) (mput σ 34 0 j2 ((1 : Int32) <<< (v2 &&& (31 : Int32)))) k))))))
set_option maxRecDepth 100000 in
set_option maxHeartbeats 4000000 in
theorem L_X8_chain_35 {X : Cx} {p1 : Int32} {r0 : Int32} {σ2 : Mem} {k : Mem → Option (Int32 × Mem)}  : ∀ (n : Nat) (v2 : Int32) (σ : Mem), f_X8_chain_35 p1 n v2 σ k = some (r0, σ2) → (∀ (σ1 : Mem), k σ1 = some (r0, σ2) → At X 3 mX8_chain 62 [some (rf X 8 0), some (.int p1), none, none, none, none] [] σ1 (some (.int r0)) σ2) → At X 3 mX8_chain 35 [some (rf X 8 0), some (.int p1), some (.int v2), none, none, none] [] σ (some (.int r0)) σ2 := by
  intro n
  induction n with
  | zero =>
    intro v2 σ h
    cases h
  | succ n ih =>
    intro v2 σ h hk
    rw [f_X8_chain_35.eq_2] at h
    refine i_iload_n dX8_chain_35 rfl ?_
    refine i_aload_n dX8_chain_36 rfl ?_
    refine gf_X8_7 rfl (by omega) dX8_chain_37 ?_
    refine i_iconst (v := 0) dX8_chain_40 (by decide) ?_
    refine al_22 dX8_chain_41 (by omega) h (fun j1 lj1 h => ?_)
    refine r_icmp_ge (tgt := 62) dX8_chain_42 (by decide) h (fun c1 h => ?_) (fun c1 h => ?_)
    · refine At.fewer (ls' := [some (rf X 8 0), some (.int p1), none, none, none, none]) (And.intro rfl (And.intro rfl trivial)) ?_
      exact hk _ h
    · refine i_aload_n dX8_chain_45 rfl ?_
      refine gf_X8_46 rfl (by omega) dX8_chain_46 ?_
      refine i_iconst (v := 1) dX8_chain_49 (by decide) ?_
      refine i_iload_n dX8_chain_50 rfl ?_
      refine i_ishl dX8_chain_51 ?_
      refine i_iconst (v := 1) dX8_chain_52 (by decide) ?_
      refine i_iload_n dX8_chain_53 rfl ?_
      refine i_ishl dX8_chain_54 ?_
      refine as_34 dX8_chain_55 (by omega) h (fun j2 lj2 h => ?_)
      refine i_iinc (v := (v2 + (1 : Int32))) (ls' := [some (rf X 8 0), some (.int p1), some (.int (v2 + (1 : Int32))), none, none, none]) dX8_chain_56 rfl (by rfl) (by decide) (okp_at rfl) rfl ?_
      refine i_goto (tgt := 35) dX8_chain_59 (by decide) ?_
      exact ih _ _ h hk
def f_X8_chain_77 (p1 : Int32) (p2 : Int32) (p3 : Int32) (σ : Mem) : Nat → Int32 → Int32 → (Int32 → Option (Int32 × Mem)) → Option (Int32 × Mem)
  | 0, _, _, _ => none
  | n + 1, v4, v5, k =>
    (bnd (ix 3108 (0 : Int32)) (fun j1 => (if (σ 22 0 j1) ≤ v5 then (k v4) else (bnd (ix 1024 p3) (fun j2 => (if (((σ 34 0 j2) >>> (v5 &&& (31 : Int32))) &&& (1 : Int32)) = (1 : Int32) then (bnd (ix 10 v5) (fun j3 => (f_X8_chain_77 p1 p2 p3 σ n (v4 ||| (σ 33 0 j3)) (v5 + (1 : Int32)) k))) else (f_X8_chain_77 p1 p2 p3 σ n (v4 ||| (0 : Int32)) (v5 + (1 : Int32)) k)))))))
set_option maxRecDepth 100000 in
set_option maxHeartbeats 4000000 in
theorem L_X8_chain_77 {X : Cx} {p1 : Int32} {p2 : Int32} {p3 : Int32} {σ : Mem} {r0 : Int32} {σ2 : Mem} {k : Int32 → Option (Int32 × Mem)}  : ∀ (n : Nat) (v4 : Int32) (v5 : Int32), f_X8_chain_77 p1 p2 p3 σ n v4 v5 k = some (r0, σ2) → (∀ (x4 : Int32), k x4 = some (r0, σ2) → At X 3 mX8_chain 125 [some (rf X 8 0), some (.int p1), some (.int p2), some (.int p3), some (.int x4), none] [] σ (some (.int r0)) σ2) → At X 3 mX8_chain 77 [some (rf X 8 0), some (.int p1), some (.int p2), some (.int p3), some (.int v4), some (.int v5)] [] σ (some (.int r0)) σ2 := by
  intro n
  induction n with
  | zero =>
    intro v4 v5 h
    cases h
  | succ n ih =>
    intro v4 v5 h hk
    rw [f_X8_chain_77.eq_2] at h
    refine i_iload dX8_chain_77 rfl ?_
    refine i_aload_n dX8_chain_79 rfl ?_
    refine gf_X8_7 rfl (by omega) dX8_chain_80 ?_
    refine i_iconst (v := 0) dX8_chain_83 (by decide) ?_
    refine al_22 dX8_chain_84 (by omega) h (fun j1 lj1 h => ?_)
    refine r_icmp_ge (tgt := 125) dX8_chain_85 (by decide) h (fun c1 h => ?_) (fun c1 h => ?_)
    · refine At.fewer (ls' := [some (rf X 8 0), some (.int p1), some (.int p2), some (.int p3), some (.int v4), none]) (And.intro rfl (And.intro rfl (And.intro rfl (And.intro rfl (And.intro rfl trivial))))) ?_
      exact hk _ h
    · refine i_iload dX8_chain_88 rfl ?_
      refine i_aload_n dX8_chain_90 rfl ?_
      refine gf_X8_46 rfl (by omega) dX8_chain_91 ?_
      refine i_iload_n dX8_chain_94 rfl ?_
      refine al_34 dX8_chain_95 (by omega) h (fun j2 lj2 h => ?_)
      refine i_iload dX8_chain_96 rfl ?_
      refine i_ishr dX8_chain_98 ?_
      refine i_iconst (v := 1) dX8_chain_99 (by decide) ?_
      refine i_iand dX8_chain_100 ?_
      refine i_iconst (v := 1) dX8_chain_101 (by decide) ?_
      refine r_icmp_ne (tgt := 115) dX8_chain_102 (by decide) h (fun c2 h => ?_) (fun c2 h => ?_)
      · refine i_iconst (v := 0) dX8_chain_115 (by decide) ?_
        refine i_ior dX8_chain_116 ?_
        refine i_istore (ls' := [some (rf X 8 0), some (.int p1), some (.int p2), some (.int p3), some (.int (v4 ||| (0 : Int32))), some (.int v5)]) dX8_chain_117 (by decide) (okp_at rfl) rfl ?_
        refine i_iinc (v := (v5 + (1 : Int32))) (ls' := [some (rf X 8 0), some (.int p1), some (.int p2), some (.int p3), some (.int (v4 ||| (0 : Int32))), some (.int (v5 + (1 : Int32)))]) dX8_chain_119 rfl (by rfl) (by decide) (okp_at rfl) rfl ?_
        refine i_goto (tgt := 77) dX8_chain_122 (by decide) ?_
        exact ih _ _ h hk
      · refine i_aload_n dX8_chain_105 rfl ?_
        refine gf_X8_43 rfl (by omega) dX8_chain_106 ?_
        refine i_iload dX8_chain_109 rfl ?_
        refine al_33 dX8_chain_111 (by omega) h (fun j3 lj3 h => ?_)
        refine i_goto (tgt := 116) dX8_chain_112 (by decide) ?_
        refine i_ior dX8_chain_116 ?_
        refine i_istore (ls' := [some (rf X 8 0), some (.int p1), some (.int p2), some (.int p3), some (.int (v4 ||| (σ 33 0 j3))), some (.int v5)]) dX8_chain_117 (by decide) (okp_at rfl) rfl ?_
        refine i_iinc (v := (v5 + (1 : Int32))) (ls' := [some (rf X 8 0), some (.int p1), some (.int p2), some (.int p3), some (.int (v4 ||| (σ 33 0 j3))), some (.int (v5 + (1 : Int32)))]) dX8_chain_119 rfl (by rfl) (by decide) (okp_at rfl) rfl ?_
        refine i_goto (tgt := 77) dX8_chain_122 (by decide) ?_
        exact ih _ _ h hk
def f_X8_chain_136 (p1 : Int32) (p2 : Int32) (p3 : Int32) (p4 : Int32) : Nat → Int32 → Mem → (Mem → Option (Int32 × Mem)) → Option (Int32 × Mem)
  | 0, _, _, _ => none
  | n + 1, v5, σ, k =>
    (bnd (ix 3108 (0 : Int32)) (fun j1 => (if (σ 22 0 j1) ≤ v5 then (k σ) else (if ((p4 >>> (v5 &&& (31 : Int32))) &&& (1 : Int32)) = (1 : Int32) then (bnd (ix 1024 (p3 ||| ((1 : Int32) <<< (v5 &&& (31 : Int32))))) (fun j2 => (bnd (ix 1024 (p3 ||| ((1 : Int32) <<< (v5 &&& (31 : Int32))))) (fun j3 => (f_X8_chain_136 p1 p2 p3 p4 n (v5 + (1 : Int32)) (mput σ 34 0 j3 ((σ 34 0 j2) ||| ((1 : Int32) <<< (v5 &&& (31 : Int32))))) k))))) else (f_X8_chain_136 p1 p2 p3 p4 n (v5 + (1 : Int32)) σ k)))))
set_option maxRecDepth 100000 in
set_option maxHeartbeats 4000000 in
theorem L_X8_chain_136 {X : Cx} {p1 : Int32} {p2 : Int32} {p3 : Int32} {p4 : Int32} {r0 : Int32} {σ2 : Mem} {k : Mem → Option (Int32 × Mem)}  : ∀ (n : Nat) (v5 : Int32) (σ : Mem), f_X8_chain_136 p1 p2 p3 p4 n v5 σ k = some (r0, σ2) → (∀ (σ1 : Mem), k σ1 = some (r0, σ2) → At X 3 mX8_chain 182 [some (rf X 8 0), some (.int p1), some (.int p2), some (.int p3), none, none] [] σ1 (some (.int r0)) σ2) → At X 3 mX8_chain 136 [some (rf X 8 0), some (.int p1), some (.int p2), some (.int p3), some (.int p4), some (.int v5)] [] σ (some (.int r0)) σ2 := by
  intro n
  induction n with
  | zero =>
    intro v5 σ h
    cases h
  | succ n ih =>
    intro v5 σ h hk
    rw [f_X8_chain_136.eq_2] at h
    refine i_iload dX8_chain_136 rfl ?_
    refine i_aload_n dX8_chain_138 rfl ?_
    refine gf_X8_7 rfl (by omega) dX8_chain_139 ?_
    refine i_iconst (v := 0) dX8_chain_142 (by decide) ?_
    refine al_22 dX8_chain_143 (by omega) h (fun j1 lj1 h => ?_)
    refine r_icmp_ge (tgt := 182) dX8_chain_144 (by decide) h (fun c1 h => ?_) (fun c1 h => ?_)
    · refine At.fewer (ls' := [some (rf X 8 0), some (.int p1), some (.int p2), some (.int p3), none, none]) (And.intro rfl (And.intro rfl (And.intro rfl (And.intro rfl trivial)))) ?_
      exact hk _ h
    · refine i_iload dX8_chain_147 rfl ?_
      refine i_iload dX8_chain_149 rfl ?_
      refine i_ishr dX8_chain_151 ?_
      refine i_iconst (v := 1) dX8_chain_152 (by decide) ?_
      refine i_iand dX8_chain_153 ?_
      refine i_iconst (v := 1) dX8_chain_154 (by decide) ?_
      refine r_icmp_ne (tgt := 176) dX8_chain_155 (by decide) h (fun c2 h => ?_) (fun c2 h => ?_)
      · refine i_iinc (v := (v5 + (1 : Int32))) (ls' := [some (rf X 8 0), some (.int p1), some (.int p2), some (.int p3), some (.int p4), some (.int (v5 + (1 : Int32)))]) dX8_chain_176 rfl (by rfl) (by decide) (okp_at rfl) rfl ?_
        refine i_goto (tgt := 136) dX8_chain_179 (by decide) ?_
        exact ih _ _ h hk
      · refine i_aload_n dX8_chain_158 rfl ?_
        refine gf_X8_46 rfl (by omega) dX8_chain_159 ?_
        refine i_iload_n dX8_chain_162 rfl ?_
        refine i_iconst (v := 1) dX8_chain_163 (by decide) ?_
        refine i_iload dX8_chain_164 rfl ?_
        refine i_ishl dX8_chain_166 ?_
        refine i_ior dX8_chain_167 ?_
        refine i_dup2 dX8_chain_168 rfl rfl ?_
        refine al_34 dX8_chain_169 (by omega) h (fun j2 lj2 h => ?_)
        refine i_iconst (v := 1) dX8_chain_170 (by decide) ?_
        refine i_iload dX8_chain_171 rfl ?_
        refine i_ishl dX8_chain_173 ?_
        refine i_ior dX8_chain_174 ?_
        refine as_34 dX8_chain_175 (by omega) h (fun j3 lj3 h => ?_)
        refine i_iinc (v := (v5 + (1 : Int32))) (ls' := [some (rf X 8 0), some (.int p1), some (.int p2), some (.int p3), some (.int p4), some (.int (v5 + (1 : Int32)))]) dX8_chain_176 rfl (by rfl) (by decide) (okp_at rfl) rfl ?_
        refine i_goto (tgt := 136) dX8_chain_179 (by decide) ?_
        exact ih _ _ h hk
def f_X8_chain_66 (p1 : Int32) : Nat → Int32 → Int32 → Mem → (Int32 → Mem → Option (Int32 × Mem)) → Option (Int32 × Mem)
  | 0, _, _, _, _ => none
  | n + 1, v2, v3, σ, k =>
    (if p1 ≤ v3 then (k v2 σ) else (f_X8_chain_77 p1 v2 v3 σ FU (0 : Int32) (0 : Int32) (fun e1 => (f_X8_chain_136 p1 v2 v3 (e1 &&& (v3 ^^^ (-1 : Int32))) FU (0 : Int32) σ (fun σ_1 => (bnd (ix 1024 v3) (fun j1 => (if (σ_1 34 0 j1) = 0 then (f_X8_chain_66 p1 n v2 (v3 + (1 : Int32)) σ_1 k) else (bnd (f_X8_manyIn v3 σ_1) (fun a1 => (if (a1 - (1 : Int32)) ≤ v2 then (f_X8_chain_66 p1 n v2 (v3 + (1 : Int32)) σ_1 k) else (bnd (f_X8_manyIn v3 σ_1) (fun a2 => (f_X8_chain_66 p1 n (a2 - (1 : Int32)) (v3 + (1 : Int32)) σ_1 k))))))))))))))
set_option maxRecDepth 100000 in
set_option maxHeartbeats 4000000 in
theorem L_X8_chain_66 {X : Cx} {p1 : Int32} {r0 : Int32} {σ2 : Mem} {k : Int32 → Mem → Option (Int32 × Mem)}  : ∀ (n : Nat) (v2 : Int32) (v3 : Int32) (σ : Mem), f_X8_chain_66 p1 n v2 v3 σ k = some (r0, σ2) → (∀ (x2 : Int32) (σ1 : Mem), k x2 σ1 = some (r0, σ2) → At X 3 mX8_chain 218 [none, none, some (.int x2), none, none, none] [] σ1 (some (.int r0)) σ2) → At X 3 mX8_chain 66 [some (rf X 8 0), some (.int p1), some (.int v2), some (.int v3), none, none] [] σ (some (.int r0)) σ2 := by
  intro n
  induction n with
  | zero =>
    intro v2 v3 σ h
    cases h
  | succ n ih =>
    intro v2 v3 σ h hk
    rw [f_X8_chain_66.eq_2] at h
    refine i_iload_n dX8_chain_66 rfl ?_
    refine i_iload_n dX8_chain_67 rfl ?_
    refine r_icmp_ge (tgt := 218) dX8_chain_68 (by decide) h (fun c1 h => ?_) (fun c1 h => ?_)
    · refine At.fewer (ls' := [none, none, some (.int v2), none, none, none]) (And.intro rfl trivial) ?_
      exact hk _ _ h
    · refine i_iconst (v := 0) dX8_chain_71 (by decide) ?_
      refine i_istore (ls' := [some (rf X 8 0), some (.int p1), some (.int v2), some (.int v3), some (.int (0 : Int32)), none]) dX8_chain_72 (by decide) (okp_at rfl) rfl ?_
      refine i_iconst (v := 0) dX8_chain_74 (by decide) ?_
      refine i_istore (ls' := [some (rf X 8 0), some (.int p1), some (.int v2), some (.int v3), some (.int (0 : Int32)), some (.int (0 : Int32))]) dX8_chain_75 (by decide) (okp_at rfl) rfl ?_
      refine L_X8_chain_77  FU _ _ h (fun e1 h => ?_)
      refine i_iload dX8_chain_125 rfl ?_
      refine i_iload_n dX8_chain_127 rfl ?_
      refine i_iconst (v := (-1)) dX8_chain_128 (by decide) ?_
      refine i_ixor dX8_chain_129 ?_
      refine i_iand dX8_chain_130 ?_
      refine i_istore (ls' := [some (rf X 8 0), some (.int p1), some (.int v2), some (.int v3), some (.int (e1 &&& (v3 ^^^ (-1 : Int32)))), none]) dX8_chain_131 (by decide) (okp_at rfl) rfl ?_
      refine i_iconst (v := 0) dX8_chain_133 (by decide) ?_
      refine i_istore (ls' := [some (rf X 8 0), some (.int p1), some (.int v2), some (.int v3), some (.int (e1 &&& (v3 ^^^ (-1 : Int32)))), some (.int (0 : Int32))]) dX8_chain_134 (by decide) (okp_at rfl) rfl ?_
      refine L_X8_chain_136  FU _ _ h (fun σ_1 h => ?_)
      refine i_aload_n dX8_chain_182 rfl ?_
      refine gf_X8_46 rfl (by omega) dX8_chain_183 ?_
      refine i_iload_n dX8_chain_186 rfl ?_
      refine al_34 dX8_chain_187 (by omega) h (fun j1 lj1 h => ?_)
      refine r_if_eq (tgt := 210) dX8_chain_188 (by decide) h (fun c2 h => ?_) (fun c2 h => ?_)
      · refine i_iload_n dX8_chain_210 rfl ?_
        refine i_istore_n (ls' := [some (rf X 8 0), some (.int p1), some (.int v2), some (.int v3), none, none]) dX8_chain_211 (by decide) (okp_at rfl) rfl ?_
        refine i_iinc (v := (v3 + (1 : Int32))) (ls' := [some (rf X 8 0), some (.int p1), some (.int v2), some (.int (v3 + (1 : Int32))), none, none]) dX8_chain_212 rfl (by rfl) (by decide) (okp_at rfl) rfl ?_
        refine i_goto (tgt := 66) dX8_chain_215 (by decide) ?_
        exact ih _ _ _ h hk
      · refine i_iload_n dX8_chain_191 rfl ?_
        refine cS_ir dX8_chain_192 cw_X8_176 ci_X8_manyIn h (fun a1 e => F_X8_manyIn  e) (Nat.le_of_ble_eq_true rfl) rfl rfl (Nat.le_of_ble_eq_true rfl) (fun a1 ea1 h => ?_)
        refine i_iconst (v := 1) dX8_chain_195 (by decide) ?_
        refine i_isub dX8_chain_196 ?_
        refine i_iload_n dX8_chain_197 rfl ?_
        refine r_icmp_le (tgt := 210) dX8_chain_198 (by decide) h (fun c3 h => ?_) (fun c3 h => ?_)
        · refine i_iload_n dX8_chain_210 rfl ?_
          refine i_istore_n (ls' := [some (rf X 8 0), some (.int p1), some (.int v2), some (.int v3), none, none]) dX8_chain_211 (by decide) (okp_at rfl) rfl ?_
          refine i_iinc (v := (v3 + (1 : Int32))) (ls' := [some (rf X 8 0), some (.int p1), some (.int v2), some (.int (v3 + (1 : Int32))), none, none]) dX8_chain_212 rfl (by rfl) (by decide) (okp_at rfl) rfl ?_
          refine i_goto (tgt := 66) dX8_chain_215 (by decide) ?_
          exact ih _ _ _ h hk
        · refine i_iload_n dX8_chain_201 rfl ?_
          refine cS_ir dX8_chain_202 cw_X8_176 ci_X8_manyIn h (fun a2 e => F_X8_manyIn  e) (Nat.le_of_ble_eq_true rfl) rfl rfl (Nat.le_of_ble_eq_true rfl) (fun a2 ea2 h => ?_)
          refine i_iconst (v := 1) dX8_chain_205 (by decide) ?_
          refine i_isub dX8_chain_206 ?_
          refine i_goto (tgt := 211) dX8_chain_207 (by decide) ?_
          refine i_istore_n (ls' := [some (rf X 8 0), some (.int p1), some (.int (a2 - (1 : Int32))), some (.int v3), none, none]) dX8_chain_211 (by decide) (okp_at rfl) rfl ?_
          refine i_iinc (v := (v3 + (1 : Int32))) (ls' := [some (rf X 8 0), some (.int p1), some (.int (a2 - (1 : Int32))), some (.int (v3 + (1 : Int32))), none, none]) dX8_chain_212 rfl (by rfl) (by decide) (okp_at rfl) rfl ?_
          refine i_goto (tgt := 66) dX8_chain_215 (by decide) ?_
          exact ih _ _ _ h hk
def f_X8_chain   (σ : Mem) : Option (Int32 × Mem) :=
  (bnd (f_X8_findSworn σ) (fun a1 => (bnd (ix 3108 (0 : Int32)) (fun j1 => (f_X8_chain_15 ((1 : Int32) <<< ((a1 22 0 j1) &&& (31 : Int32))) FU (0 : Int32) a1 (fun σ_1 => (f_X8_chain_35 ((1 : Int32) <<< ((a1 22 0 j1) &&& (31 : Int32))) FU (0 : Int32) σ_1 (fun σ_2 => (f_X8_chain_66 ((1 : Int32) <<< ((a1 22 0 j1) &&& (31 : Int32))) FU (0 : Int32) (1 : Int32) σ_2 (fun e1 σ_3 => (some (e1, σ_3))))))))))))
set_option maxRecDepth 100000 in
set_option maxHeartbeats 4000000 in
theorem F_X8_chain {X : Cx}  {σ : Mem} {res : (Int32 × Mem)}  (h : f_X8_chain σ = some res) : Tri X 3 mX8_chain [rf X 8 0] σ (some (.int res.1)) res.2 := by
  obtain ⟨r0, σ2⟩ := res
  unfold f_X8_chain at h
  refine Tri.of (ls := [some (rf X 8 0), none, none, none, none, none]) (by decide) (Nat.le_of_ble_eq_true rfl) rfl ?_
  refine i_aload_n dX8_chain_0 rfl ?_
  refine cV_vw dX8_chain_1 cw_X8_173 ci_X8_findSworn rfl rfl (by decide) (show 0 < 1 by omega) h (fun a1 e => F_X8_findSworn  e) (Nat.le_of_ble_eq_true rfl) rfl rfl (Nat.le_of_ble_eq_true rfl) (fun a1 ea1 h => ?_)
  refine i_iconst (v := 1) dX8_chain_4 (by decide) ?_
  refine i_aload_n dX8_chain_5 rfl ?_
  refine gf_X8_7 rfl (by omega) dX8_chain_6 ?_
  refine i_iconst (v := 0) dX8_chain_9 (by decide) ?_
  refine al_22 dX8_chain_10 (by omega) h (fun j1 lj1 h => ?_)
  refine i_ishl dX8_chain_11 ?_
  refine i_istore_n (ls' := [some (rf X 8 0), some (.int ((1 : Int32) <<< ((a1 22 0 j1) &&& (31 : Int32)))), none, none, none, none]) dX8_chain_12 (by decide) (okp_at rfl) rfl ?_
  refine i_iconst (v := 0) dX8_chain_13 (by decide) ?_
  refine i_istore_n (ls' := [some (rf X 8 0), some (.int ((1 : Int32) <<< ((a1 22 0 j1) &&& (31 : Int32)))), some (.int (0 : Int32)), none, none, none]) dX8_chain_14 (by decide) (okp_at rfl) rfl ?_
  refine L_X8_chain_15  FU _ _ h (fun σ_1 h => ?_)
  refine i_iconst (v := 0) dX8_chain_33 (by decide) ?_
  refine i_istore_n (ls' := [some (rf X 8 0), some (.int ((1 : Int32) <<< ((a1 22 0 j1) &&& (31 : Int32)))), some (.int (0 : Int32)), none, none, none]) dX8_chain_34 (by decide) (okp_at rfl) rfl ?_
  refine L_X8_chain_35  FU _ _ h (fun σ_2 h => ?_)
  refine i_iconst (v := 0) dX8_chain_62 (by decide) ?_
  refine i_istore_n (ls' := [some (rf X 8 0), some (.int ((1 : Int32) <<< ((a1 22 0 j1) &&& (31 : Int32)))), some (.int (0 : Int32)), none, none, none]) dX8_chain_63 (by decide) (okp_at rfl) rfl ?_
  refine i_iconst (v := 1) dX8_chain_64 (by decide) ?_
  refine i_istore_n (ls' := [some (rf X 8 0), some (.int ((1 : Int32) <<< ((a1 22 0 j1) &&& (31 : Int32)))), some (.int (0 : Int32)), some (.int (1 : Int32)), none, none]) dX8_chain_65 (by decide) (okp_at rfl) rfl ?_
  refine L_X8_chain_66  FU _ _ _ h (fun e1 σ_3 h => ?_)
  refine i_iload_n dX8_chain_218 rfl ?_
  exact e_iw rfl dX8_chain_219 h
def f_X8_land  (p1 : Int32) (σ : Mem) : Option (Int32 × Mem) :=
  (if p1 = (0 : Int32) then (bnd (ix 3108 (3 : Int32)) (fun j1 => (some ((σ 22 0 j1), σ)))) else (if p1 = (1 : Int32) then (bnd (ix 3108 (4 : Int32)) (fun j2 => (some ((σ 22 0 j2), σ)))) else (if p1 = (2 : Int32) then (bnd (ix 3108 (5 : Int32)) (fun j3 => (some ((σ 22 0 j3), σ)))) else (if p1 = (3 : Int32) then (bnd (f_X8_setBy (0 : Int32) σ) (fun a1 => (some (a1, σ)))) else (if p1 = (4 : Int32) then (bnd (f_X8_setBy (1 : Int32) σ) (fun a2 => (some (a2, σ)))) else (if p1 = (5 : Int32) then (bnd (f_X8_chain σ) (fun a3 => (some (a3.1, a3.2)))) else (some ((-1000000001 : Int32), σ))))))))
set_option maxRecDepth 100000 in
set_option maxHeartbeats 4000000 in
theorem F_X8_land {X : Cx} {p1 : Int32} {σ : Mem} {res : (Int32 × Mem)}  (h : f_X8_land p1 σ = some res) : Tri X 4 mX8_land [rf X 8 0, .int p1] σ (some (.int res.1)) res.2 := by
  obtain ⟨r0, σ2⟩ := res
  unfold f_X8_land at h
  refine Tri.of (ls := [some (rf X 8 0), some (.int p1)]) (by decide) (Nat.le_of_ble_eq_true rfl) rfl ?_
  refine i_iload_n dX8_land_0 rfl ?_
  refine r_case (c := p1 = (0 : Int32)) h (fun c1 h => ?_) (fun c1 h => ?_)
  · refine i_tin (tgt := 40) (off := 39) dX8_land_1 (0 : Int32) c1 (by decide) (by decide) (by decide) (by decide) ?_
    refine i_aload_n dX8_land_40 rfl ?_
    refine gf_X8_7 rfl (by omega) dX8_land_41 ?_
    refine i_iconst (v := 3) dX8_land_44 (by decide) ?_
    refine al_22 dX8_land_45 (by omega) h (fun j1 lj1 h => ?_)
    exact e_iw rfl dX8_land_46 h
  · refine r_case (c := p1 = (1 : Int32)) h (fun c2 h => ?_) (fun c2 h => ?_)
    · refine i_tin (tgt := 47) (off := 46) dX8_land_1 (1 : Int32) c2 (by decide) (by decide) (by decide) (by decide) ?_
      refine i_aload_n dX8_land_47 rfl ?_
      refine gf_X8_7 rfl (by omega) dX8_land_48 ?_
      refine i_iconst (v := 4) dX8_land_51 (by decide) ?_
      refine al_22 dX8_land_52 (by omega) h (fun j2 lj2 h => ?_)
      exact e_iw rfl dX8_land_53 h
    · refine r_case (c := p1 = (2 : Int32)) h (fun c3 h => ?_) (fun c3 h => ?_)
      · refine i_tin (tgt := 54) (off := 53) dX8_land_1 (2 : Int32) c3 (by decide) (by decide) (by decide) (by decide) ?_
        refine i_aload_n dX8_land_54 rfl ?_
        refine gf_X8_7 rfl (by omega) dX8_land_55 ?_
        refine i_iconst (v := 5) dX8_land_58 (by decide) ?_
        refine al_22 dX8_land_59 (by omega) h (fun j3 lj3 h => ?_)
        exact e_iw rfl dX8_land_60 h
      · refine r_case (c := p1 = (3 : Int32)) h (fun c4 h => ?_) (fun c4 h => ?_)
        · refine i_tin (tgt := 61) (off := 60) dX8_land_1 (3 : Int32) c4 (by decide) (by decide) (by decide) (by decide) ?_
          refine i_aload_n dX8_land_61 rfl ?_
          refine i_iconst (v := 0) dX8_land_62 (by decide) ?_
          refine cV_ir dX8_land_63 cw_X8_179 ci_X8_setBy rfl rfl (by decide) (show 0 < 1 by omega) h (fun a1 e => F_X8_setBy  e) (Nat.le_of_ble_eq_true rfl) rfl rfl (Nat.le_of_ble_eq_true rfl) (fun a1 ea1 h => ?_)
          exact e_iw rfl dX8_land_66 h
        · refine r_case (c := p1 = (4 : Int32)) h (fun c5 h => ?_) (fun c5 h => ?_)
          · refine i_tin (tgt := 67) (off := 66) dX8_land_1 (4 : Int32) c5 (by decide) (by decide) (by decide) (by decide) ?_
            refine i_aload_n dX8_land_67 rfl ?_
            refine i_iconst (v := 1) dX8_land_68 (by decide) ?_
            refine cV_ir dX8_land_69 cw_X8_179 ci_X8_setBy rfl rfl (by decide) (show 0 < 1 by omega) h (fun a2 e => F_X8_setBy  e) (Nat.le_of_ble_eq_true rfl) rfl rfl (Nat.le_of_ble_eq_true rfl) (fun a2 ea2 h => ?_)
            exact e_iw rfl dX8_land_72 h
          · refine r_case (c := p1 = (5 : Int32)) h (fun c6 h => ?_) (fun c6 h => ?_)
            · refine i_tin (tgt := 73) (off := 72) dX8_land_1 (5 : Int32) c6 (by decide) (by decide) (by decide) (by decide) ?_
              refine i_aload_n dX8_land_73 rfl ?_
              refine cV_iw dX8_land_74 cw_X8_182 ci_X8_chain rfl rfl (by decide) (show 0 < 1 by omega) h (fun a3 e => F_X8_chain  e) (Nat.le_of_ble_eq_true rfl) rfl rfl (Nat.le_of_ble_eq_true rfl) (fun a3 ea3 h => ?_)
              exact e_iw rfl dX8_land_77 h
            · refine i_tout (tgt := 78) dX8_land_1 (tsw_0_5 c1 c2 c3 c4 c5 c6) (by decide) ?_
              refine i_ldc (v := (-1000000001)) dX8_land_78 k_X8_86 ?_
              exact e_iw rfl dX8_land_80 h
def f_X8_reaches_55 (p2 : Int32) (p3 : Int32) (p4 : Int32) (σ : Mem) : Nat → Int32 → Int32 → (Int32 → Option (Int32 × Mem)) → Option (Int32 × Mem)
  | 0, _, _, _ => none
  | n + 1, v5, v6, k =>
    (bnd (ix 3108 (0 : Int32)) (fun j1 => (if (σ 22 0 j1) ≤ v6 then (k v5) else (if ((p3 >>> (v6 &&& (31 : Int32))) &&& (1 : Int32)) = (1 : Int32) then (bnd (ix 10 v6) (fun j2 => (f_X8_reaches_55 p2 p3 p4 σ n (v5 ||| (σ 33 0 j2)) (v6 + (1 : Int32)) k))) else (f_X8_reaches_55 p2 p3 p4 σ n (v5 ||| (0 : Int32)) (v6 + (1 : Int32)) k)))))
set_option maxRecDepth 100000 in
set_option maxHeartbeats 4000000 in
theorem L_X8_reaches_55 {X : Cx} {p2 : Int32} {p3 : Int32} {p4 : Int32} {σ : Mem} {r0 : Int32} {σ2 : Mem} {k : Int32 → Option (Int32 × Mem)}  : ∀ (n : Nat) (v5 : Int32) (v6 : Int32), f_X8_reaches_55 p2 p3 p4 σ n v5 v6 k = some (r0, σ2) → (∀ (x5 : Int32), k x5 = some (r0, σ2) → At X 3 mX8_reaches 98 [some (rf X 8 0), none, some (.int p2), none, some (.int p4), some (.int x5), none] [] σ (some (.int r0)) σ2) → At X 3 mX8_reaches 55 [some (rf X 8 0), none, some (.int p2), some (.int p3), some (.int p4), some (.int v5), some (.int v6)] [] σ (some (.int r0)) σ2 := by
  intro n
  induction n with
  | zero =>
    intro v5 v6 h
    cases h
  | succ n ih =>
    intro v5 v6 h hk
    rw [f_X8_reaches_55.eq_2] at h
    refine i_iload dX8_reaches_55 rfl ?_
    refine i_aload_n dX8_reaches_57 rfl ?_
    refine gf_X8_7 rfl (by omega) dX8_reaches_58 ?_
    refine i_iconst (v := 0) dX8_reaches_61 (by decide) ?_
    refine al_22 dX8_reaches_62 (by omega) h (fun j1 lj1 h => ?_)
    refine r_icmp_ge (tgt := 98) dX8_reaches_63 (by decide) h (fun c1 h => ?_) (fun c1 h => ?_)
    · refine At.fewer (ls' := [some (rf X 8 0), none, some (.int p2), none, some (.int p4), some (.int v5), none]) (And.intro rfl (And.intro rfl (And.intro rfl (And.intro rfl trivial)))) ?_
      exact hk _ h
    · refine i_iload dX8_reaches_66 rfl ?_
      refine i_iload_n dX8_reaches_68 rfl ?_
      refine i_iload dX8_reaches_69 rfl ?_
      refine i_ishr dX8_reaches_71 ?_
      refine i_iconst (v := 1) dX8_reaches_72 (by decide) ?_
      refine i_iand dX8_reaches_73 ?_
      refine i_iconst (v := 1) dX8_reaches_74 (by decide) ?_
      refine r_icmp_ne (tgt := 88) dX8_reaches_75 (by decide) h (fun c2 h => ?_) (fun c2 h => ?_)
      · refine i_iconst (v := 0) dX8_reaches_88 (by decide) ?_
        refine i_ior dX8_reaches_89 ?_
        refine i_istore (ls' := [some (rf X 8 0), none, some (.int p2), some (.int p3), some (.int p4), some (.int (v5 ||| (0 : Int32))), some (.int v6)]) dX8_reaches_90 (by decide) (okp_at rfl) rfl ?_
        refine i_iinc (v := (v6 + (1 : Int32))) (ls' := [some (rf X 8 0), none, some (.int p2), some (.int p3), some (.int p4), some (.int (v5 ||| (0 : Int32))), some (.int (v6 + (1 : Int32)))]) dX8_reaches_92 rfl (by rfl) (by decide) (okp_at rfl) rfl ?_
        refine i_goto (tgt := 55) dX8_reaches_95 (by decide) ?_
        exact ih _ _ h hk
      · refine i_aload_n dX8_reaches_78 rfl ?_
        refine gf_X8_43 rfl (by omega) dX8_reaches_79 ?_
        refine i_iload dX8_reaches_82 rfl ?_
        refine al_33 dX8_reaches_84 (by omega) h (fun j2 lj2 h => ?_)
        refine i_goto (tgt := 89) dX8_reaches_85 (by decide) ?_
        refine i_ior dX8_reaches_89 ?_
        refine i_istore (ls' := [some (rf X 8 0), none, some (.int p2), some (.int p3), some (.int p4), some (.int (v5 ||| (σ 33 0 j2))), some (.int v6)]) dX8_reaches_90 (by decide) (okp_at rfl) rfl ?_
        refine i_iinc (v := (v6 + (1 : Int32))) (ls' := [some (rf X 8 0), none, some (.int p2), some (.int p3), some (.int p4), some (.int (v5 ||| (σ 33 0 j2))), some (.int (v6 + (1 : Int32)))]) dX8_reaches_92 rfl (by rfl) (by decide) (okp_at rfl) rfl ?_
        refine i_goto (tgt := 55) dX8_reaches_95 (by decide) ?_
        exact ih _ _ h hk
def f_X8_reaches_30 (p2 : Int32) (σ : Mem) : Nat → Int32 → Int32 → (Option (Int32 × Mem)) → Option (Int32 × Mem)
  | 0, _, _, _ => none
  | n + 1, v3, v4, k =>
    (if (10 : Int32) < v4 then (k) else (if ((v3 >>> (p2 &&& (31 : Int32))) &&& (1 : Int32)) = (1 : Int32) then (some (v4, σ)) else (f_X8_reaches_55 p2 v3 v4 σ FU v3 (0 : Int32) (fun e1 => (f_X8_reaches_30 p2 σ n e1 (v4 + (1 : Int32)) k)))))
set_option maxRecDepth 100000 in
set_option maxHeartbeats 4000000 in
theorem L_X8_reaches_30 {X : Cx} {p2 : Int32} {σ : Mem} {r0 : Int32} {σ2 : Mem} {k : Option (Int32 × Mem)}  : ∀ (n : Nat) (v3 : Int32) (v4 : Int32), f_X8_reaches_30 p2 σ n v3 v4 k = some (r0, σ2) → (k = some (r0, σ2) → At X 3 mX8_reaches 107 [none, none, none, none, none, none, none] [] σ (some (.int r0)) σ2) → At X 3 mX8_reaches 30 [some (rf X 8 0), none, some (.int p2), some (.int v3), some (.int v4), none, none] [] σ (some (.int r0)) σ2 := by
  intro n
  induction n with
  | zero =>
    intro v3 v4 h
    cases h
  | succ n ih =>
    intro v3 v4 h hk
    rw [f_X8_reaches_30.eq_2] at h
    refine i_iload dX8_reaches_30 rfl ?_
    refine i_bipush (v := 10) dX8_reaches_32 (by decide) ?_
    refine r_icmp_gt (tgt := 107) dX8_reaches_34 (by decide) h (fun c1 h => ?_) (fun c1 h => ?_)
    · refine At.fewer (ls' := [none, none, none, none, none, none, none]) trivial ?_
      exact hk h
    · refine i_iload_n dX8_reaches_37 rfl ?_
      refine i_iload_n dX8_reaches_38 rfl ?_
      refine i_ishr dX8_reaches_39 ?_
      refine i_iconst (v := 1) dX8_reaches_40 (by decide) ?_
      refine i_iand dX8_reaches_41 ?_
      refine i_iconst (v := 1) dX8_reaches_42 (by decide) ?_
      refine r_icmp_ne (tgt := 49) dX8_reaches_43 (by decide) h (fun c2 h => ?_) (fun c2 h => ?_)
      · refine i_iload_n dX8_reaches_49 rfl ?_
        refine i_istore (ls' := [some (rf X 8 0), none, some (.int p2), some (.int v3), some (.int v4), some (.int v3), none]) dX8_reaches_50 (by decide) (okp_at rfl) rfl ?_
        refine i_iconst (v := 0) dX8_reaches_52 (by decide) ?_
        refine i_istore (ls' := [some (rf X 8 0), none, some (.int p2), some (.int v3), some (.int v4), some (.int v3), some (.int (0 : Int32))]) dX8_reaches_53 (by decide) (okp_at rfl) rfl ?_
        refine L_X8_reaches_55  FU _ _ h (fun e1 h => ?_)
        refine i_iload dX8_reaches_98 rfl ?_
        refine i_istore_n (ls' := [some (rf X 8 0), none, some (.int p2), some (.int e1), some (.int v4), some (.int e1), none]) dX8_reaches_100 (by decide) (okp_at rfl) rfl ?_
        refine i_iinc (v := (v4 + (1 : Int32))) (ls' := [some (rf X 8 0), none, some (.int p2), some (.int e1), some (.int (v4 + (1 : Int32))), some (.int e1), none]) dX8_reaches_101 rfl (by rfl) (by decide) (okp_at rfl) rfl ?_
        refine i_goto (tgt := 30) dX8_reaches_104 (by decide) ?_
        refine At.fewer (ls' := [some (rf X 8 0), none, some (.int p2), some (.int e1), some (.int (v4 + (1 : Int32))), none, none]) (And.intro rfl (And.intro rfl (And.intro rfl (And.intro rfl trivial)))) ?_
        exact ih _ _ h hk
      · refine i_iload dX8_reaches_46 rfl ?_
        exact e_iw rfl dX8_reaches_48 h
def f_X8_reaches  (p1 : Int32) (p2 : Int32) (σ : Mem) : Option (Int32 × Mem) :=
  (bnd (f_X8_isOne p1 σ) (fun a1 => (if a1 = 0 then (some ((-1000000001 : Int32), σ)) else (bnd (f_X8_isOne p2 σ) (fun a2 => (if a2 = 0 then (some ((-1000000001 : Int32), σ)) else (bnd (f_X8_findSworn σ) (fun a3 => (f_X8_reaches_30 p2 a3 FU ((1 : Int32) <<< (p1 &&& (31 : Int32))) (0 : Int32) ((some ((-1000000005 : Int32), a3))))))))))))
set_option maxRecDepth 100000 in
set_option maxHeartbeats 4000000 in
theorem F_X8_reaches {X : Cx} {p1 : Int32} {p2 : Int32} {σ : Mem} {res : (Int32 × Mem)}  (h : f_X8_reaches p1 p2 σ = some res) : Tri X 3 mX8_reaches [rf X 8 0, .int p1, .int p2] σ (some (.int res.1)) res.2 := by
  obtain ⟨r0, σ2⟩ := res
  unfold f_X8_reaches at h
  refine Tri.of (ls := [some (rf X 8 0), some (.int p1), some (.int p2), none, none, none, none]) (by decide) (Nat.le_of_ble_eq_true rfl) rfl ?_
  refine i_aload_n dX8_reaches_0 rfl ?_
  refine i_iload_n dX8_reaches_1 rfl ?_
  refine cV_ir dX8_reaches_2 cw_X8_112 ci_X8_isOne rfl rfl (by decide) (show 0 < 1 by omega) h (fun a1 e => F_X8_isOne  e) (Nat.le_of_ble_eq_true rfl) rfl rfl (Nat.le_of_ble_eq_true rfl) (fun a1 ea1 h => ?_)
  refine r_if_eq (tgt := 16) dX8_reaches_5 (by decide) h (fun c1 h => ?_) (fun c1 h => ?_)
  · refine i_ldc (v := (-1000000001)) dX8_reaches_16 k_X8_86 ?_
    exact e_iw rfl dX8_reaches_18 h
  · refine i_aload_n dX8_reaches_8 rfl ?_
    refine i_iload_n dX8_reaches_9 rfl ?_
    refine cV_ir dX8_reaches_10 cw_X8_112 ci_X8_isOne rfl rfl (by decide) (show 0 < 1 by omega) h (fun a2 e => F_X8_isOne  e) (Nat.le_of_ble_eq_true rfl) rfl rfl (Nat.le_of_ble_eq_true rfl) (fun a2 ea2 h => ?_)
    refine r_if_ne (tgt := 19) dX8_reaches_13 (by decide) h (fun c2 h => ?_) (fun c2 h => ?_)
    · refine i_aload_n dX8_reaches_19 rfl ?_
      refine cV_vw dX8_reaches_20 cw_X8_173 ci_X8_findSworn rfl rfl (by decide) (show 0 < 1 by omega) h (fun a3 e => F_X8_findSworn  e) (Nat.le_of_ble_eq_true rfl) rfl rfl (Nat.le_of_ble_eq_true rfl) (fun a3 ea3 h => ?_)
      refine i_iconst (v := 1) dX8_reaches_23 (by decide) ?_
      refine i_iload_n dX8_reaches_24 rfl ?_
      refine i_ishl dX8_reaches_25 ?_
      refine i_istore_n (ls' := [some (rf X 8 0), some (.int p1), some (.int p2), some (.int ((1 : Int32) <<< (p1 &&& (31 : Int32)))), none, none, none]) dX8_reaches_26 (by decide) (okp_at rfl) rfl ?_
      refine i_iconst (v := 0) dX8_reaches_27 (by decide) ?_
      refine i_istore (ls' := [some (rf X 8 0), some (.int p1), some (.int p2), some (.int ((1 : Int32) <<< (p1 &&& (31 : Int32)))), some (.int (0 : Int32)), none, none]) dX8_reaches_28 (by decide) (okp_at rfl) rfl ?_
      refine At.fewer (ls' := [some (rf X 8 0), none, some (.int p2), some (.int ((1 : Int32) <<< (p1 &&& (31 : Int32)))), some (.int (0 : Int32)), none, none]) (And.intro rfl (And.intro rfl (And.intro rfl (And.intro rfl trivial)))) ?_
      refine L_X8_reaches_30  FU _ _ h (fun  h => ?_)
      refine i_ldc (v := (-1000000005)) dX8_reaches_107 k_X8_70 ?_
      exact e_iw rfl dX8_reaches_109 h
    · refine i_ldc (v := (-1000000001)) dX8_reaches_16 k_X8_86 ?_
      exact e_iw rfl dX8_reaches_18 h
def f_X8_laysBy_2  : Nat → Int32 → Mem → (Mem → Option Mem) → Option Mem
  | 0, _, _, _ => none
  | n + 1, v1, σ, k =>
    (if (108 : Int32) ≤ v1 then (k σ) else (bnd (ix 3108 v1) (fun j1 => (bnd (ix 108 v1) (fun j2 => (f_X8_laysBy_2 n (v1 + (1 : Int32)) (mput σ 35 0 j2 (σ 22 0 j1)) k))))))
set_option maxRecDepth 100000 in
set_option maxHeartbeats 4000000 in
theorem L_X8_laysBy_2 {X : Cx}  {σ2 : Mem} {k : Mem → Option Mem}  : ∀ (n : Nat) (v1 : Int32) (σ : Mem), f_X8_laysBy_2  n v1 σ k = some σ2 → (∀ (σ1 : Mem), k σ1 = some σ2 → At X 1 mX8_laysBy 26 [none, none] [] σ1 none σ2) → At X 1 mX8_laysBy 2 [some (rf X 8 0), some (.int v1)] [] σ none σ2 := by
  intro n
  induction n with
  | zero =>
    intro v1 σ h
    cases h
  | succ n ih =>
    intro v1 σ h hk
    rw [f_X8_laysBy_2.eq_2] at h
    refine i_iload_n dX8_laysBy_2 rfl ?_
    refine i_bipush (v := 108) dX8_laysBy_3 (by decide) ?_
    refine r_icmp_ge (tgt := 26) dX8_laysBy_5 (by decide) h (fun c1 h => ?_) (fun c1 h => ?_)
    · refine At.fewer (ls' := [none, none]) trivial ?_
      exact hk _ h
    · refine i_aload_n dX8_laysBy_8 rfl ?_
      refine gf_X8_49 rfl (by omega) dX8_laysBy_9 ?_
      refine i_iload_n dX8_laysBy_12 rfl ?_
      refine i_aload_n dX8_laysBy_13 rfl ?_
      refine gf_X8_7 rfl (by omega) dX8_laysBy_14 ?_
      refine i_iload_n dX8_laysBy_17 rfl ?_
      refine al_22 dX8_laysBy_18 (by omega) h (fun j1 lj1 h => ?_)
      refine as_35 dX8_laysBy_19 (by omega) h (fun j2 lj2 h => ?_)
      refine i_iinc (v := (v1 + (1 : Int32))) (ls' := [some (rf X 8 0), some (.int (v1 + (1 : Int32)))]) dX8_laysBy_20 rfl (by rfl) (by decide) (okp_at rfl) rfl ?_
      refine i_goto (tgt := 2) dX8_laysBy_23 (by decide) ?_
      exact ih _ _ h hk
def f_X8_laysBy   (σ : Mem) : Option Mem :=
  (f_X8_laysBy_2 FU (0 : Int32) σ (fun σ_1 => (some σ_1)))
set_option maxRecDepth 100000 in
set_option maxHeartbeats 4000000 in
theorem F_X8_laysBy {X : Cx}  {σ : Mem} {res : Mem}  (h : f_X8_laysBy σ = some res) : Tri X 1 mX8_laysBy [rf X 8 0] σ none res := by
  unfold f_X8_laysBy at h
  refine Tri.of (ls := [some (rf X 8 0), none]) (by decide) (Nat.le_of_ble_eq_true rfl) rfl ?_
  refine i_iconst (v := 0) dX8_laysBy_0 (by decide) ?_
  refine i_istore_n (ls' := [some (rf X 8 0), some (.int (0 : Int32))]) dX8_laysBy_1 (by decide) (okp_at rfl) rfl ?_
  refine L_X8_laysBy_2  FU _ _ h (fun σ_1 h => ?_)
  exact e_vw rfl dX8_laysBy_26 h
def f_X8_laysBack_2  : Nat → Int32 → Mem → (Mem → Option Mem) → Option Mem
  | 0, _, _, _ => none
  | n + 1, v1, σ, k =>
    (if (108 : Int32) ≤ v1 then (k σ) else (bnd (ix 108 v1) (fun j1 => (bnd (ix 3108 v1) (fun j2 => (f_X8_laysBack_2 n (v1 + (1 : Int32)) (mput σ 22 0 j2 (σ 35 0 j1)) k))))))
set_option maxRecDepth 100000 in
set_option maxHeartbeats 4000000 in
theorem L_X8_laysBack_2 {X : Cx}  {σ2 : Mem} {k : Mem → Option Mem}  : ∀ (n : Nat) (v1 : Int32) (σ : Mem), f_X8_laysBack_2  n v1 σ k = some σ2 → (∀ (σ1 : Mem), k σ1 = some σ2 → At X 1 mX8_laysBack 26 [none, none] [] σ1 none σ2) → At X 1 mX8_laysBack 2 [some (rf X 8 0), some (.int v1)] [] σ none σ2 := by
  intro n
  induction n with
  | zero =>
    intro v1 σ h
    cases h
  | succ n ih =>
    intro v1 σ h hk
    rw [f_X8_laysBack_2.eq_2] at h
    refine i_iload_n dX8_laysBack_2 rfl ?_
    refine i_bipush (v := 108) dX8_laysBack_3 (by decide) ?_
    refine r_icmp_ge (tgt := 26) dX8_laysBack_5 (by decide) h (fun c1 h => ?_) (fun c1 h => ?_)
    · refine At.fewer (ls' := [none, none]) trivial ?_
      exact hk _ h
    · refine i_aload_n dX8_laysBack_8 rfl ?_
      refine gf_X8_7 rfl (by omega) dX8_laysBack_9 ?_
      refine i_iload_n dX8_laysBack_12 rfl ?_
      refine i_aload_n dX8_laysBack_13 rfl ?_
      refine gf_X8_49 rfl (by omega) dX8_laysBack_14 ?_
      refine i_iload_n dX8_laysBack_17 rfl ?_
      refine al_35 dX8_laysBack_18 (by omega) h (fun j1 lj1 h => ?_)
      refine as_22 dX8_laysBack_19 (by omega) h (fun j2 lj2 h => ?_)
      refine i_iinc (v := (v1 + (1 : Int32))) (ls' := [some (rf X 8 0), some (.int (v1 + (1 : Int32)))]) dX8_laysBack_20 rfl (by rfl) (by decide) (okp_at rfl) rfl ?_
      refine i_goto (tgt := 2) dX8_laysBack_23 (by decide) ?_
      exact ih _ _ h hk
def f_X8_laysBack   (σ : Mem) : Option Mem :=
  (f_X8_laysBack_2 FU (0 : Int32) σ (fun σ_1 => (some σ_1)))
set_option maxRecDepth 100000 in
set_option maxHeartbeats 4000000 in
theorem F_X8_laysBack {X : Cx}  {σ : Mem} {res : Mem}  (h : f_X8_laysBack σ = some res) : Tri X 1 mX8_laysBack [rf X 8 0] σ none res := by
  unfold f_X8_laysBack at h
  refine Tri.of (ls := [some (rf X 8 0), none]) (by decide) (Nat.le_of_ble_eq_true rfl) rfl ?_
  refine i_iconst (v := 0) dX8_laysBack_0 (by decide) ?_
  refine i_istore_n (ls' := [some (rf X 8 0), some (.int (0 : Int32))]) dX8_laysBack_1 (by decide) (okp_at rfl) rfl ?_
  refine L_X8_laysBack_2  FU _ _ h (fun σ_1 h => ?_)
  exact e_vw rfl dX8_laysBack_26 h
def f_X8_behind  (p1 : Int32) (p2 : Int32) (σ : Mem) : Option (Int32 × Mem) :=
  (bnd (f_X8_isIn ((p1).toInt64) ((0 : Int64)) ((100 : Int64)) σ) (fun a1 => (if a1 = 0 then (some ((-1000000001 : Int32), σ)) else (bnd (ix 3108 (0 : Int32)) (fun j1 => (bnd (f_X8_isIn ((p2).toInt64) ((0 : Int64)) ((((2 : Int32) + (σ 22 0 j1))).toInt64) σ) (fun a2 => (if a2 = 0 then (some ((-1000000001 : Int32), σ)) else (bnd (f_X8_laysBy σ) (fun a3 => (bnd (f_X8_goesOnMany p1 a3) (fun a4 => (if p2 = 0 then (bnd (ix 3108 (3 : Int32)) (fun j4 => (bnd (f_X8_laysBack a4) (fun a9 => (some ((a4 22 0 j4), a9)))))) else (if p2 = (1 : Int32) then (bnd (ix 3108 (4 : Int32)) (fun j3 => (bnd (f_X8_laysBack a4) (fun a8 => (some ((a4 22 0 j3), a8)))))) else (if p2 = (2 : Int32) then (bnd (ix 3108 (5 : Int32)) (fun j2 => (bnd (f_X8_laysBack a4) (fun a7 => (some ((a4 22 0 j2), a7)))))) else (bnd (f_X8_of (p2 - (3 : Int32)) (3 : Int32) a4) (fun a5 => (bnd (f_X8_laysBack a4) (fun a6 => (some (a5, a6)))))))))))))))))))))
set_option maxRecDepth 100000 in
set_option maxHeartbeats 4000000 in
theorem F_X8_behind {X : Cx} {p1 : Int32} {p2 : Int32} {σ : Mem} {res : (Int32 × Mem)}  (h : f_X8_behind p1 p2 σ = some res) : Tri X 6 mX8_behind [rf X 8 0, .int p1, .int p2] σ (some (.int res.1)) res.2 := by
  obtain ⟨r0, σ2⟩ := res
  unfold f_X8_behind at h
  refine Tri.of (ls := [some (rf X 8 0), some (.int p1), some (.int p2), none]) (by decide) (Nat.le_of_ble_eq_true rfl) rfl ?_
  refine i_iload_n dX8_behind_0 rfl ?_
  refine i_i2l dX8_behind_1 ?_
  refine i_lconst (v := 0) dX8_behind_2 (by decide) ?_
  refine i_ldc2 (v := 100) dX8_behind_3 k_X8_171 ?_
  refine cS_ir dX8_behind_6 cw_X8_71 ci_X8_isIn h (fun a1 e => F_X8_isIn  e) (Nat.le_of_ble_eq_true rfl) rfl rfl (Nat.le_of_ble_eq_true rfl) (fun a1 ea1 h => ?_)
  refine r_if_eq (tgt := 30) dX8_behind_9 (by decide) h (fun c1 h => ?_) (fun c1 h => ?_)
  · refine i_ldc (v := (-1000000001)) dX8_behind_30 k_X8_86 ?_
    exact e_iw rfl dX8_behind_32 h
  · refine i_iload_n dX8_behind_12 rfl ?_
    refine i_i2l dX8_behind_13 ?_
    refine i_lconst (v := 0) dX8_behind_14 (by decide) ?_
    refine i_iconst (v := 2) dX8_behind_15 (by decide) ?_
    refine i_aload_n dX8_behind_16 rfl ?_
    refine gf_X8_7 rfl (by omega) dX8_behind_17 ?_
    refine i_iconst (v := 0) dX8_behind_20 (by decide) ?_
    refine al_22 dX8_behind_21 (by omega) h (fun j1 lj1 h => ?_)
    refine i_iadd dX8_behind_22 ?_
    refine i_i2l dX8_behind_23 ?_
    refine cS_ir dX8_behind_24 cw_X8_71 ci_X8_isIn h (fun a2 e => F_X8_isIn  e) (Nat.le_of_ble_eq_true rfl) rfl rfl (Nat.le_of_ble_eq_true rfl) (fun a2 ea2 h => ?_)
    refine r_if_ne (tgt := 33) dX8_behind_27 (by decide) h (fun c2 h => ?_) (fun c2 h => ?_)
    · refine i_aload_n dX8_behind_33 rfl ?_
      refine cV_vw dX8_behind_34 cw_X8_185 ci_X8_laysBy rfl rfl (by decide) (show 0 < 1 by omega) h (fun a3 e => F_X8_laysBy  e) (Nat.le_of_ble_eq_true rfl) rfl rfl (Nat.le_of_ble_eq_true rfl) (fun a3 ea3 h => ?_)
      refine i_aload_n dX8_behind_37 rfl ?_
      refine i_iload_n dX8_behind_38 rfl ?_
      refine cV_vw dX8_behind_39 cw_X8_188 ci_X8_goesOnMany rfl rfl (by decide) (show 0 < 1 by omega) h (fun a4 e => F_X8_goesOnMany  e) (Nat.le_of_ble_eq_true rfl) rfl rfl (Nat.le_of_ble_eq_true rfl) (fun a4 ea4 h => ?_)
      refine i_iload_n dX8_behind_42 rfl ?_
      refine r_if_ne (tgt := 55) dX8_behind_43 (by decide) h (fun c3 h => ?_) (fun c3 h => ?_)
      · refine i_iload_n dX8_behind_55 rfl ?_
        refine i_iconst (v := 1) dX8_behind_56 (by decide) ?_
        refine r_icmp_ne (tgt := 69) dX8_behind_57 (by decide) h (fun c4 h => ?_) (fun c4 h => ?_)
        · refine i_iload_n dX8_behind_69 rfl ?_
          refine i_iconst (v := 2) dX8_behind_70 (by decide) ?_
          refine r_icmp_ne (tgt := 83) dX8_behind_71 (by decide) h (fun c5 h => ?_) (fun c5 h => ?_)
          · refine i_aload_n dX8_behind_83 rfl ?_
            refine i_iload_n dX8_behind_84 rfl ?_
            refine i_iconst (v := 3) dX8_behind_85 (by decide) ?_
            refine i_isub dX8_behind_86 ?_
            refine i_iconst (v := 3) dX8_behind_87 (by decide) ?_
            refine cV_ir dX8_behind_88 cw_X8_98 ci_X8_of rfl rfl (by decide) (show 0 < 1 by omega) h (fun a5 e => F_X8_of  e) (Nat.le_of_ble_eq_true rfl) rfl rfl (Nat.le_of_ble_eq_true rfl) (fun a5 ea5 h => ?_)
            refine i_istore_n (ls' := [some (rf X 8 0), some (.int p1), some (.int p2), some (.int a5)]) dX8_behind_91 (by decide) (okp_at rfl) rfl ?_
            refine i_aload_n dX8_behind_92 rfl ?_
            refine cV_vw dX8_behind_93 cw_X8_191 ci_X8_laysBack rfl rfl (by decide) (show 0 < 1 by omega) h (fun a6 e => F_X8_laysBack  e) (Nat.le_of_ble_eq_true rfl) rfl rfl (Nat.le_of_ble_eq_true rfl) (fun a6 ea6 h => ?_)
            refine i_iload_n dX8_behind_96 rfl ?_
            exact e_iw rfl dX8_behind_97 h
          · refine i_aload_n dX8_behind_74 rfl ?_
            refine gf_X8_7 rfl (by omega) dX8_behind_75 ?_
            refine i_iconst (v := 5) dX8_behind_78 (by decide) ?_
            refine al_22 dX8_behind_79 (by omega) h (fun j2 lj2 h => ?_)
            refine i_goto (tgt := 91) dX8_behind_80 (by decide) ?_
            refine i_istore_n (ls' := [some (rf X 8 0), some (.int p1), some (.int p2), some (.int (a4 22 0 j2))]) dX8_behind_91 (by decide) (okp_at rfl) rfl ?_
            refine i_aload_n dX8_behind_92 rfl ?_
            refine cV_vw dX8_behind_93 cw_X8_191 ci_X8_laysBack rfl rfl (by decide) (show 0 < 1 by omega) h (fun a7 e => F_X8_laysBack  e) (Nat.le_of_ble_eq_true rfl) rfl rfl (Nat.le_of_ble_eq_true rfl) (fun a7 ea7 h => ?_)
            refine i_iload_n dX8_behind_96 rfl ?_
            exact e_iw rfl dX8_behind_97 h
        · refine i_aload_n dX8_behind_60 rfl ?_
          refine gf_X8_7 rfl (by omega) dX8_behind_61 ?_
          refine i_iconst (v := 4) dX8_behind_64 (by decide) ?_
          refine al_22 dX8_behind_65 (by omega) h (fun j3 lj3 h => ?_)
          refine i_goto (tgt := 91) dX8_behind_66 (by decide) ?_
          refine i_istore_n (ls' := [some (rf X 8 0), some (.int p1), some (.int p2), some (.int (a4 22 0 j3))]) dX8_behind_91 (by decide) (okp_at rfl) rfl ?_
          refine i_aload_n dX8_behind_92 rfl ?_
          refine cV_vw dX8_behind_93 cw_X8_191 ci_X8_laysBack rfl rfl (by decide) (show 0 < 1 by omega) h (fun a8 e => F_X8_laysBack  e) (Nat.le_of_ble_eq_true rfl) rfl rfl (Nat.le_of_ble_eq_true rfl) (fun a8 ea8 h => ?_)
          refine i_iload_n dX8_behind_96 rfl ?_
          exact e_iw rfl dX8_behind_97 h
      · refine i_aload_n dX8_behind_46 rfl ?_
        refine gf_X8_7 rfl (by omega) dX8_behind_47 ?_
        refine i_iconst (v := 3) dX8_behind_50 (by decide) ?_
        refine al_22 dX8_behind_51 (by omega) h (fun j4 lj4 h => ?_)
        refine i_goto (tgt := 91) dX8_behind_52 (by decide) ?_
        refine i_istore_n (ls' := [some (rf X 8 0), some (.int p1), some (.int p2), some (.int (a4 22 0 j4))]) dX8_behind_91 (by decide) (okp_at rfl) rfl ?_
        refine i_aload_n dX8_behind_92 rfl ?_
        refine cV_vw dX8_behind_93 cw_X8_191 ci_X8_laysBack rfl rfl (by decide) (show 0 < 1 by omega) h (fun a9 e => F_X8_laysBack  e) (Nat.le_of_ble_eq_true rfl) rfl rfl (Nat.le_of_ble_eq_true rfl) (fun a9 ea9 h => ?_)
        refine i_iload_n dX8_behind_96 rfl ?_
        exact e_iw rfl dX8_behind_97 h
    · refine i_ldc (v := (-1000000001)) dX8_behind_30 k_X8_86 ?_
      exact e_iw rfl dX8_behind_32 h
def f_X8_free_8  : Nat → Int32 → Int32 → Mem → (Int32 → Mem → Option (Int32 × Mem)) → Option (Int32 × Mem)
  | 0, _, _, _, _ => none
  | n + 1, v1, v2, σ, k =>
    (if (300 : Int32) < v2 then (k v1 σ) else (if 0 ≤ v1 then (k v1 σ) else (bnd (ix 3108 (3 : Int32)) (fun j1 => (if (σ 22 0 j1) = 0 then (bnd (f_X8_goesOn σ) (fun a2 => (f_X8_free_8 n v2 (v2 + (1 : Int32)) a2 k))) else (bnd (f_X8_goesOn σ) (fun a1 => (f_X8_free_8 n (-1 : Int32) (v2 + (1 : Int32)) a1 k))))))))
set_option maxRecDepth 100000 in
set_option maxHeartbeats 4000000 in
theorem L_X8_free_8 {X : Cx}  {r0 : Int32} {σ2 : Mem} {k : Int32 → Mem → Option (Int32 × Mem)}  : ∀ (n : Nat) (v1 : Int32) (v2 : Int32) (σ : Mem), f_X8_free_8  n v1 v2 σ k = some (r0, σ2) → (∀ (x1 : Int32) (σ1 : Mem), k x1 σ1 = some (r0, σ2) → At X 5 mX8_free 44 [some (rf X 8 0), some (.int x1), none] [] σ1 (some (.int r0)) σ2) → At X 5 mX8_free 8 [some (rf X 8 0), some (.int v1), some (.int v2)] [] σ (some (.int r0)) σ2 := by
  intro n
  induction n with
  | zero =>
    intro v1 v2 σ h
    cases h
  | succ n ih =>
    intro v1 v2 σ h hk
    rw [f_X8_free_8.eq_2] at h
    refine i_iload_n dX8_free_8 rfl ?_
    refine i_sipush (v := 300) dX8_free_9 (by decide) ?_
    refine r_icmp_gt (tgt := 44) dX8_free_12 (by decide) h (fun c1 h => ?_) (fun c1 h => ?_)
    · refine At.fewer (ls' := [some (rf X 8 0), some (.int v1), none]) (And.intro rfl (And.intro rfl trivial)) ?_
      exact hk _ _ h
    · refine i_iload_n dX8_free_15 rfl ?_
      refine r_if_ge (tgt := 44) dX8_free_16 (by decide) h (fun c2 h => ?_) (fun c2 h => ?_)
      · refine At.fewer (ls' := [some (rf X 8 0), some (.int v1), none]) (And.intro rfl (And.intro rfl trivial)) ?_
        exact hk _ _ h
      · refine i_aload_n dX8_free_19 rfl ?_
        refine gf_X8_7 rfl (by omega) dX8_free_20 ?_
        refine i_iconst (v := 3) dX8_free_23 (by decide) ?_
        refine al_22 dX8_free_24 (by omega) h (fun j1 lj1 h => ?_)
        refine r_if_ne (tgt := 32) dX8_free_25 (by decide) h (fun c3 h => ?_) (fun c3 h => ?_)
        · refine i_iconst (v := (-1)) dX8_free_32 (by decide) ?_
          refine i_istore_n (ls' := [some (rf X 8 0), some (.int (-1 : Int32)), some (.int v2)]) dX8_free_33 (by decide) (okp_at rfl) rfl ?_
          refine i_aload_n dX8_free_34 rfl ?_
          refine cV_vw dX8_free_35 cw_X8_168 ci_X8_goesOn rfl rfl (by decide) (show 0 < 1 by omega) h (fun a1 e => F_X8_goesOn  e) (Nat.le_of_ble_eq_true rfl) rfl rfl (Nat.le_of_ble_eq_true rfl) (fun a1 ea1 h => ?_)
          refine i_iinc (v := (v2 + (1 : Int32))) (ls' := [some (rf X 8 0), some (.int (-1 : Int32)), some (.int (v2 + (1 : Int32)))]) dX8_free_38 rfl (by rfl) (by decide) (okp_at rfl) rfl ?_
          refine i_goto (tgt := 8) dX8_free_41 (by decide) ?_
          exact ih _ _ _ h hk
        · refine i_iload_n dX8_free_28 rfl ?_
          refine i_goto (tgt := 33) dX8_free_29 (by decide) ?_
          refine i_istore_n (ls' := [some (rf X 8 0), some (.int v2), some (.int v2)]) dX8_free_33 (by decide) (okp_at rfl) rfl ?_
          refine i_aload_n dX8_free_34 rfl ?_
          refine cV_vw dX8_free_35 cw_X8_168 ci_X8_goesOn rfl rfl (by decide) (show 0 < 1 by omega) h (fun a2 e => F_X8_goesOn  e) (Nat.le_of_ble_eq_true rfl) rfl rfl (Nat.le_of_ble_eq_true rfl) (fun a2 ea2 h => ?_)
          refine i_iinc (v := (v2 + (1 : Int32))) (ls' := [some (rf X 8 0), some (.int v2), some (.int (v2 + (1 : Int32)))]) dX8_free_38 rfl (by rfl) (by decide) (okp_at rfl) rfl ?_
          refine i_goto (tgt := 8) dX8_free_41 (by decide) ?_
          exact ih _ _ _ h hk
def f_X8_free   (σ : Mem) : Option (Int32 × Mem) :=
  (bnd (f_X8_laysBy σ) (fun a1 => (f_X8_free_8 FU (-1 : Int32) (0 : Int32) a1 (fun e1 σ_1 => (bnd (f_X8_laysBack σ_1) (fun a2 => (bnd (f_X8_orNone e1 a2) (fun a3 => (some (a3, a2))))))))))
set_option maxRecDepth 100000 in
set_option maxHeartbeats 4000000 in
theorem F_X8_free {X : Cx}  {σ : Mem} {res : (Int32 × Mem)}  (h : f_X8_free σ = some res) : Tri X 5 mX8_free [rf X 8 0] σ (some (.int res.1)) res.2 := by
  obtain ⟨r0, σ2⟩ := res
  unfold f_X8_free at h
  refine Tri.of (ls := [some (rf X 8 0), none, none]) (by decide) (Nat.le_of_ble_eq_true rfl) rfl ?_
  refine i_aload_n dX8_free_0 rfl ?_
  refine cV_vw dX8_free_1 cw_X8_185 ci_X8_laysBy rfl rfl (by decide) (show 0 < 1 by omega) h (fun a1 e => F_X8_laysBy  e) (Nat.le_of_ble_eq_true rfl) rfl rfl (Nat.le_of_ble_eq_true rfl) (fun a1 ea1 h => ?_)
  refine i_iconst (v := (-1)) dX8_free_4 (by decide) ?_
  refine i_istore_n (ls' := [some (rf X 8 0), some (.int (-1 : Int32)), none]) dX8_free_5 (by decide) (okp_at rfl) rfl ?_
  refine i_iconst (v := 0) dX8_free_6 (by decide) ?_
  refine i_istore_n (ls' := [some (rf X 8 0), some (.int (-1 : Int32)), some (.int (0 : Int32))]) dX8_free_7 (by decide) (okp_at rfl) rfl ?_
  refine L_X8_free_8  FU _ _ _ h (fun e1 σ_1 h => ?_)
  refine i_aload_n dX8_free_44 rfl ?_
  refine cV_vw dX8_free_45 cw_X8_191 ci_X8_laysBack rfl rfl (by decide) (show 0 < 1 by omega) h (fun a2 e => F_X8_laysBack  e) (Nat.le_of_ble_eq_true rfl) rfl rfl (Nat.le_of_ble_eq_true rfl) (fun a2 ea2 h => ?_)
  refine i_iload_n dX8_free_48 rfl ?_
  refine cS_ir dX8_free_49 cw_X8_194 ci_X8_orNone h (fun a3 e => F_X8_orNone  e) (Nat.le_of_ble_eq_true rfl) rfl rfl (Nat.le_of_ble_eq_true rfl) (fun a3 ea3 h => ?_)
  exact e_iw rfl dX8_free_52 h
def f_X8_sworn_51 (p1 : Int32) (p2 : Int32) (p5 : Int32) : Nat → Int32 → Int32 → Int32 → Mem → (Int32 → Int32 → Mem → Option (Int32 × Mem)) → Option (Int32 × Mem)
  | 0, _, _, _, _, _ => none
  | n + 1, v3, v4, v6, σ, k =>
    (bnd (ix 3108 (0 : Int32)) (fun j1 => (if (σ 22 0 j1) ≤ v6 then (k v3 v4 σ) else (if p5 = v6 then (f_X8_sworn_51 p1 p2 p5 n v3 v4 (v6 + (1 : Int32)) σ k) else (bnd (f_X8_gives p5 v6 (0 : Int32) σ) (fun a1 => (bnd (f_X8_goesOnMany p1 a1) (fun a2 => (bnd (ix 3108 (3 : Int32)) (fun j2 => (bnd (f_X8_laysBack a2) (fun a3 => (if (a2 22 0 j2) ≤ v4 then (if (a2 22 0 j2) ≤ v4 then (f_X8_sworn_51 p1 p2 p5 n v3 v4 (v6 + (1 : Int32)) a3 k) else (f_X8_sworn_51 p1 p2 p5 n v3 (a2 22 0 j2) (v6 + (1 : Int32)) a3 k)) else (if (a2 22 0 j2) ≤ v4 then (f_X8_sworn_51 p1 p2 p5 n (((10 : Int32) * p5) + v6) v4 (v6 + (1 : Int32)) a3 k) else (f_X8_sworn_51 p1 p2 p5 n (((10 : Int32) * p5) + v6) (a2 22 0 j2) (v6 + (1 : Int32)) a3 k)))))))))))))))
set_option maxRecDepth 100000 in
set_option maxHeartbeats 4000000 in
theorem L_X8_sworn_51 {X : Cx} {p1 : Int32} {p2 : Int32} {p5 : Int32} {r0 : Int32} {σ2 : Mem} {k : Int32 → Int32 → Mem → Option (Int32 × Mem)}  : ∀ (n : Nat) (v3 : Int32) (v4 : Int32) (v6 : Int32) (σ : Mem), f_X8_sworn_51 p1 p2 p5 n v3 v4 v6 σ k = some (r0, σ2) → (∀ (x3 : Int32) (x4 : Int32) (σ1 : Mem), k x3 x4 σ1 = some (r0, σ2) → At X 6 mX8_sworn 137 [some (rf X 8 0), some (.int p1), some (.int p2), some (.int x3), some (.int x4), some (.int p5), none, none] [] σ1 (some (.int r0)) σ2) → At X 6 mX8_sworn 51 [some (rf X 8 0), some (.int p1), some (.int p2), some (.int v3), some (.int v4), some (.int p5), some (.int v6), none] [] σ (some (.int r0)) σ2 := by
  intro n
  induction n with
  | zero =>
    intro v3 v4 v6 σ h
    cases h
  | succ n ih =>
    intro v3 v4 v6 σ h hk
    rw [f_X8_sworn_51.eq_2] at h
    refine i_iload dX8_sworn_51 rfl ?_
    refine i_aload_n dX8_sworn_53 rfl ?_
    refine gf_X8_7 rfl (by omega) dX8_sworn_54 ?_
    refine i_iconst (v := 0) dX8_sworn_57 (by decide) ?_
    refine al_22 dX8_sworn_58 (by omega) h (fun j1 lj1 h => ?_)
    refine r_icmp_ge (tgt := 137) dX8_sworn_59 (by decide) h (fun c1 h => ?_) (fun c1 h => ?_)
    · refine At.fewer (ls' := [some (rf X 8 0), some (.int p1), some (.int p2), some (.int v3), some (.int v4), some (.int p5), none, none]) (And.intro rfl (And.intro rfl (And.intro rfl (And.intro rfl (And.intro rfl (And.intro rfl trivial)))))) ?_
      exact hk _ _ _ h
    · refine i_iload dX8_sworn_62 rfl ?_
      refine i_iload dX8_sworn_64 rfl ?_
      refine r_icmp_eq (tgt := 131) dX8_sworn_66 (by decide) h (fun c2 h => ?_) (fun c2 h => ?_)
      · refine i_iinc (v := (v6 + (1 : Int32))) (ls' := [some (rf X 8 0), some (.int p1), some (.int p2), some (.int v3), some (.int v4), some (.int p5), some (.int (v6 + (1 : Int32))), none]) dX8_sworn_131 rfl (by rfl) (by decide) (okp_at rfl) rfl ?_
        refine i_goto (tgt := 51) dX8_sworn_134 (by decide) ?_
        exact ih _ _ _ _ h hk
      · refine i_aload_n dX8_sworn_69 rfl ?_
        refine i_iload dX8_sworn_70 rfl ?_
        refine i_iload dX8_sworn_72 rfl ?_
        refine i_iconst (v := 0) dX8_sworn_74 (by decide) ?_
        refine cV_vw dX8_sworn_75 cw_X8_149 ci_X8_gives rfl rfl (by decide) (show 0 < 1 by omega) h (fun a1 e => F_X8_gives  e) (Nat.le_of_ble_eq_true rfl) rfl rfl (Nat.le_of_ble_eq_true rfl) (fun a1 ea1 h => ?_)
        refine i_aload_n dX8_sworn_78 rfl ?_
        refine i_iload_n dX8_sworn_79 rfl ?_
        refine cV_vw dX8_sworn_80 cw_X8_188 ci_X8_goesOnMany rfl rfl (by decide) (show 0 < 1 by omega) h (fun a2 e => F_X8_goesOnMany  e) (Nat.le_of_ble_eq_true rfl) rfl rfl (Nat.le_of_ble_eq_true rfl) (fun a2 ea2 h => ?_)
        refine i_aload_n dX8_sworn_83 rfl ?_
        refine gf_X8_7 rfl (by omega) dX8_sworn_84 ?_
        refine i_iconst (v := 3) dX8_sworn_87 (by decide) ?_
        refine al_22 dX8_sworn_88 (by omega) h (fun j2 lj2 h => ?_)
        refine i_istore (ls' := [some (rf X 8 0), some (.int p1), some (.int p2), some (.int v3), some (.int v4), some (.int p5), some (.int v6), some (.int (a2 22 0 j2))]) dX8_sworn_89 (by decide) (okp_at rfl) rfl ?_
        refine i_aload_n dX8_sworn_91 rfl ?_
        refine cV_vw dX8_sworn_92 cw_X8_191 ci_X8_laysBack rfl rfl (by decide) (show 0 < 1 by omega) h (fun a3 e => F_X8_laysBack  e) (Nat.le_of_ble_eq_true rfl) rfl rfl (Nat.le_of_ble_eq_true rfl) (fun a3 ea3 h => ?_)
        refine i_iload dX8_sworn_95 rfl ?_
        refine i_iload dX8_sworn_97 rfl ?_
        refine r_icmp_le (tgt := 113) dX8_sworn_99 (by decide) h (fun c3 h => ?_) (fun c3 h => ?_)
        · refine i_iload_n dX8_sworn_113 rfl ?_
          refine i_istore_n (ls' := [some (rf X 8 0), some (.int p1), some (.int p2), some (.int v3), some (.int v4), some (.int p5), some (.int v6), some (.int (a2 22 0 j2))]) dX8_sworn_114 (by decide) (okp_at rfl) rfl ?_
          refine i_iload dX8_sworn_115 rfl ?_
          refine i_iload dX8_sworn_117 rfl ?_
          refine r_icmp_le (tgt := 127) dX8_sworn_119 (by decide) h (fun c4 h => ?_) (fun c4 h => ?_)
          · refine i_iload dX8_sworn_127 rfl ?_
            refine i_istore (ls' := [some (rf X 8 0), some (.int p1), some (.int p2), some (.int v3), some (.int v4), some (.int p5), some (.int v6), some (.int (a2 22 0 j2))]) dX8_sworn_129 (by decide) (okp_at rfl) rfl ?_
            refine i_iinc (v := (v6 + (1 : Int32))) (ls' := [some (rf X 8 0), some (.int p1), some (.int p2), some (.int v3), some (.int v4), some (.int p5), some (.int (v6 + (1 : Int32))), some (.int (a2 22 0 j2))]) dX8_sworn_131 rfl (by rfl) (by decide) (okp_at rfl) rfl ?_
            refine i_goto (tgt := 51) dX8_sworn_134 (by decide) ?_
            refine At.fewer (ls' := [some (rf X 8 0), some (.int p1), some (.int p2), some (.int v3), some (.int v4), some (.int p5), some (.int (v6 + (1 : Int32))), none]) (And.intro rfl (And.intro rfl (And.intro rfl (And.intro rfl (And.intro rfl (And.intro rfl (And.intro rfl trivial))))))) ?_
            exact ih _ _ _ _ h hk
          · refine i_iload dX8_sworn_122 rfl ?_
            refine i_goto (tgt := 129) dX8_sworn_124 (by decide) ?_
            refine i_istore (ls' := [some (rf X 8 0), some (.int p1), some (.int p2), some (.int v3), some (.int (a2 22 0 j2)), some (.int p5), some (.int v6), some (.int (a2 22 0 j2))]) dX8_sworn_129 (by decide) (okp_at rfl) rfl ?_
            refine i_iinc (v := (v6 + (1 : Int32))) (ls' := [some (rf X 8 0), some (.int p1), some (.int p2), some (.int v3), some (.int (a2 22 0 j2)), some (.int p5), some (.int (v6 + (1 : Int32))), some (.int (a2 22 0 j2))]) dX8_sworn_131 rfl (by rfl) (by decide) (okp_at rfl) rfl ?_
            refine i_goto (tgt := 51) dX8_sworn_134 (by decide) ?_
            refine At.fewer (ls' := [some (rf X 8 0), some (.int p1), some (.int p2), some (.int v3), some (.int (a2 22 0 j2)), some (.int p5), some (.int (v6 + (1 : Int32))), none]) (And.intro rfl (And.intro rfl (And.intro rfl (And.intro rfl (And.intro rfl (And.intro rfl (And.intro rfl trivial))))))) ?_
            exact ih _ _ _ _ h hk
        · refine i_bipush (v := 10) dX8_sworn_102 (by decide) ?_
          refine i_iload dX8_sworn_104 rfl ?_
          refine i_imul dX8_sworn_106 ?_
          refine i_iload dX8_sworn_107 rfl ?_
          refine i_iadd dX8_sworn_109 ?_
          refine i_goto (tgt := 114) dX8_sworn_110 (by decide) ?_
          refine i_istore_n (ls' := [some (rf X 8 0), some (.int p1), some (.int p2), some (.int (((10 : Int32) * p5) + v6)), some (.int v4), some (.int p5), some (.int v6), some (.int (a2 22 0 j2))]) dX8_sworn_114 (by decide) (okp_at rfl) rfl ?_
          refine i_iload dX8_sworn_115 rfl ?_
          refine i_iload dX8_sworn_117 rfl ?_
          refine r_icmp_le (tgt := 127) dX8_sworn_119 (by decide) h (fun c5 h => ?_) (fun c5 h => ?_)
          · refine i_iload dX8_sworn_127 rfl ?_
            refine i_istore (ls' := [some (rf X 8 0), some (.int p1), some (.int p2), some (.int (((10 : Int32) * p5) + v6)), some (.int v4), some (.int p5), some (.int v6), some (.int (a2 22 0 j2))]) dX8_sworn_129 (by decide) (okp_at rfl) rfl ?_
            refine i_iinc (v := (v6 + (1 : Int32))) (ls' := [some (rf X 8 0), some (.int p1), some (.int p2), some (.int (((10 : Int32) * p5) + v6)), some (.int v4), some (.int p5), some (.int (v6 + (1 : Int32))), some (.int (a2 22 0 j2))]) dX8_sworn_131 rfl (by rfl) (by decide) (okp_at rfl) rfl ?_
            refine i_goto (tgt := 51) dX8_sworn_134 (by decide) ?_
            refine At.fewer (ls' := [some (rf X 8 0), some (.int p1), some (.int p2), some (.int (((10 : Int32) * p5) + v6)), some (.int v4), some (.int p5), some (.int (v6 + (1 : Int32))), none]) (And.intro rfl (And.intro rfl (And.intro rfl (And.intro rfl (And.intro rfl (And.intro rfl (And.intro rfl trivial))))))) ?_
            exact ih _ _ _ _ h hk
          · refine i_iload dX8_sworn_122 rfl ?_
            refine i_goto (tgt := 129) dX8_sworn_124 (by decide) ?_
            refine i_istore (ls' := [some (rf X 8 0), some (.int p1), some (.int p2), some (.int (((10 : Int32) * p5) + v6)), some (.int (a2 22 0 j2)), some (.int p5), some (.int v6), some (.int (a2 22 0 j2))]) dX8_sworn_129 (by decide) (okp_at rfl) rfl ?_
            refine i_iinc (v := (v6 + (1 : Int32))) (ls' := [some (rf X 8 0), some (.int p1), some (.int p2), some (.int (((10 : Int32) * p5) + v6)), some (.int (a2 22 0 j2)), some (.int p5), some (.int (v6 + (1 : Int32))), some (.int (a2 22 0 j2))]) dX8_sworn_131 rfl (by rfl) (by decide) (okp_at rfl) rfl ?_
            refine i_goto (tgt := 51) dX8_sworn_134 (by decide) ?_
            refine At.fewer (ls' := [some (rf X 8 0), some (.int p1), some (.int p2), some (.int (((10 : Int32) * p5) + v6)), some (.int (a2 22 0 j2)), some (.int p5), some (.int (v6 + (1 : Int32))), none]) (And.intro rfl (And.intro rfl (And.intro rfl (And.intro rfl (And.intro rfl (And.intro rfl (And.intro rfl trivial))))))) ?_
            exact ih _ _ _ _ h hk
def f_X8_sworn_37 (p1 : Int32) (p2 : Int32) : Nat → Int32 → Int32 → Int32 → Mem → (Int32 → Int32 → Mem → Option (Int32 × Mem)) → Option (Int32 × Mem)
  | 0, _, _, _, _, _ => none
  | n + 1, v3, v4, v5, σ, k =>
    (bnd (ix 3108 (0 : Int32)) (fun j1 => (if (σ 22 0 j1) ≤ v5 then (k v3 v4 σ) else (f_X8_sworn_51 p1 p2 v5 FU v3 v4 (0 : Int32) σ (fun e1 e2 σ_1 => (f_X8_sworn_37 p1 p2 n e1 e2 (v5 + (1 : Int32)) σ_1 k))))))
set_option maxRecDepth 100000 in
set_option maxHeartbeats 4000000 in
theorem L_X8_sworn_37 {X : Cx} {p1 : Int32} {p2 : Int32} {r0 : Int32} {σ2 : Mem} {k : Int32 → Int32 → Mem → Option (Int32 × Mem)}  : ∀ (n : Nat) (v3 : Int32) (v4 : Int32) (v5 : Int32) (σ : Mem), f_X8_sworn_37 p1 p2 n v3 v4 v5 σ k = some (r0, σ2) → (∀ (x3 : Int32) (x4 : Int32) (σ1 : Mem), k x3 x4 σ1 = some (r0, σ2) → At X 6 mX8_sworn 143 [none, none, some (.int p2), some (.int x3), some (.int x4), none, none, none] [] σ1 (some (.int r0)) σ2) → At X 6 mX8_sworn 37 [some (rf X 8 0), some (.int p1), some (.int p2), some (.int v3), some (.int v4), some (.int v5), none, none] [] σ (some (.int r0)) σ2 := by
  intro n
  induction n with
  | zero =>
    intro v3 v4 v5 σ h
    cases h
  | succ n ih =>
    intro v3 v4 v5 σ h hk
    rw [f_X8_sworn_37.eq_2] at h
    refine i_iload dX8_sworn_37 rfl ?_
    refine i_aload_n dX8_sworn_39 rfl ?_
    refine gf_X8_7 rfl (by omega) dX8_sworn_40 ?_
    refine i_iconst (v := 0) dX8_sworn_43 (by decide) ?_
    refine al_22 dX8_sworn_44 (by omega) h (fun j1 lj1 h => ?_)
    refine r_icmp_ge (tgt := 143) dX8_sworn_45 (by decide) h (fun c1 h => ?_) (fun c1 h => ?_)
    · refine At.fewer (ls' := [none, none, some (.int p2), some (.int v3), some (.int v4), none, none, none]) (And.intro rfl (And.intro rfl (And.intro rfl trivial))) ?_
      exact hk _ _ _ h
    · refine i_iconst (v := 0) dX8_sworn_48 (by decide) ?_
      refine i_istore (ls' := [some (rf X 8 0), some (.int p1), some (.int p2), some (.int v3), some (.int v4), some (.int v5), some (.int (0 : Int32)), none]) dX8_sworn_49 (by decide) (okp_at rfl) rfl ?_
      refine L_X8_sworn_51  FU _ _ _ _ h (fun e1 e2 σ_1 h => ?_)
      refine i_iinc (v := (v5 + (1 : Int32))) (ls' := [some (rf X 8 0), some (.int p1), some (.int p2), some (.int e1), some (.int e2), some (.int (v5 + (1 : Int32))), none, none]) dX8_sworn_137 rfl (by rfl) (by decide) (okp_at rfl) rfl ?_
      refine i_goto (tgt := 37) dX8_sworn_140 (by decide) ?_
      exact ih _ _ _ _ h hk
def f_X8_sworn  (p1 : Int32) (p2 : Int32) (σ : Mem) : Option (Int32 × Mem) :=
  (bnd (f_X8_isIn ((p1).toInt64) ((1 : Int64)) ((40 : Int64)) σ) (fun a1 => (if a1 = 0 then (some ((-1000000001 : Int32), σ)) else (bnd (f_X8_isIn ((p2).toInt64) ((0 : Int64)) ((1 : Int64)) σ) (fun a2 => (if a2 = 0 then (some ((-1000000001 : Int32), σ)) else (bnd (f_X8_laysBy σ) (fun a3 => (f_X8_sworn_37 p1 p2 FU (-1 : Int32) (-1 : Int32) (0 : Int32) a3 (fun e1 e2 σ_1 => (if 0 ≤ e1 then (if p2 = 0 then (some (e1, σ_1)) else (some (e2, σ_1))) else (some ((-1000000005 : Int32), σ_1)))))))))))))
set_option maxRecDepth 100000 in
set_option maxHeartbeats 4000000 in
theorem F_X8_sworn {X : Cx} {p1 : Int32} {p2 : Int32} {σ : Mem} {res : (Int32 × Mem)}  (h : f_X8_sworn p1 p2 σ = some res) : Tri X 6 mX8_sworn [rf X 8 0, .int p1, .int p2] σ (some (.int res.1)) res.2 := by
  obtain ⟨r0, σ2⟩ := res
  unfold f_X8_sworn at h
  refine Tri.of (ls := [some (rf X 8 0), some (.int p1), some (.int p2), none, none, none, none, none]) (by decide) (Nat.le_of_ble_eq_true rfl) rfl ?_
  refine i_iload_n dX8_sworn_0 rfl ?_
  refine i_i2l dX8_sworn_1 ?_
  refine i_lconst (v := 1) dX8_sworn_2 (by decide) ?_
  refine i_ldc2 (v := 40) dX8_sworn_3 k_X8_197 ?_
  refine cS_ir dX8_sworn_6 cw_X8_71 ci_X8_isIn h (fun a1 e => F_X8_isIn  e) (Nat.le_of_ble_eq_true rfl) rfl rfl (Nat.le_of_ble_eq_true rfl) (fun a1 ea1 h => ?_)
  refine r_if_eq (tgt := 22) dX8_sworn_9 (by decide) h (fun c1 h => ?_) (fun c1 h => ?_)
  · refine i_ldc (v := (-1000000001)) dX8_sworn_22 k_X8_86 ?_
    exact e_iw rfl dX8_sworn_24 h
  · refine i_iload_n dX8_sworn_12 rfl ?_
    refine i_i2l dX8_sworn_13 ?_
    refine i_lconst (v := 0) dX8_sworn_14 (by decide) ?_
    refine i_lconst (v := 1) dX8_sworn_15 (by decide) ?_
    refine cS_ir dX8_sworn_16 cw_X8_71 ci_X8_isIn h (fun a2 e => F_X8_isIn  e) (Nat.le_of_ble_eq_true rfl) rfl rfl (Nat.le_of_ble_eq_true rfl) (fun a2 ea2 h => ?_)
    refine r_if_ne (tgt := 25) dX8_sworn_19 (by decide) h (fun c2 h => ?_) (fun c2 h => ?_)
    · refine i_aload_n dX8_sworn_25 rfl ?_
      refine cV_vw dX8_sworn_26 cw_X8_185 ci_X8_laysBy rfl rfl (by decide) (show 0 < 1 by omega) h (fun a3 e => F_X8_laysBy  e) (Nat.le_of_ble_eq_true rfl) rfl rfl (Nat.le_of_ble_eq_true rfl) (fun a3 ea3 h => ?_)
      refine i_iconst (v := (-1)) dX8_sworn_29 (by decide) ?_
      refine i_istore_n (ls' := [some (rf X 8 0), some (.int p1), some (.int p2), some (.int (-1 : Int32)), none, none, none, none]) dX8_sworn_30 (by decide) (okp_at rfl) rfl ?_
      refine i_iconst (v := (-1)) dX8_sworn_31 (by decide) ?_
      refine i_istore (ls' := [some (rf X 8 0), some (.int p1), some (.int p2), some (.int (-1 : Int32)), some (.int (-1 : Int32)), none, none, none]) dX8_sworn_32 (by decide) (okp_at rfl) rfl ?_
      refine i_iconst (v := 0) dX8_sworn_34 (by decide) ?_
      refine i_istore (ls' := [some (rf X 8 0), some (.int p1), some (.int p2), some (.int (-1 : Int32)), some (.int (-1 : Int32)), some (.int (0 : Int32)), none, none]) dX8_sworn_35 (by decide) (okp_at rfl) rfl ?_
      refine L_X8_sworn_37  FU _ _ _ _ h (fun e1 e2 σ_1 h => ?_)
      refine i_iload_n dX8_sworn_143 rfl ?_
      refine r_if_ge (tgt := 152) dX8_sworn_144 (by decide) h (fun c3 h => ?_) (fun c3 h => ?_)
      · refine i_iload_n dX8_sworn_152 rfl ?_
        refine r_if_ne (tgt := 160) dX8_sworn_153 (by decide) h (fun c4 h => ?_) (fun c4 h => ?_)
        · refine i_iload dX8_sworn_160 rfl ?_
          exact e_iw rfl dX8_sworn_162 h
        · refine i_iload_n dX8_sworn_156 rfl ?_
          refine i_goto (tgt := 162) dX8_sworn_157 (by decide) ?_
          exact e_iw rfl dX8_sworn_162 h
      · refine i_ldc (v := (-1000000005)) dX8_sworn_147 k_X8_70 ?_
        refine i_goto (tgt := 162) dX8_sworn_149 (by decide) ?_
        exact e_iw rfl dX8_sworn_162 h
    · refine i_ldc (v := (-1000000001)) dX8_sworn_22 k_X8_86 ?_
      exact e_iw rfl dX8_sworn_24 h
def f_X8_trust_37 (p1 : Int32) (p2 : Int32) : Nat → Int32 → Int32 → Int32 → Mem → (Int32 → Int32 → Mem → Option (Int32 × Mem)) → Option (Int32 × Mem)
  | 0, _, _, _, _, _ => none
  | n + 1, v3, v4, v5, σ, k =>
    (bnd (ix 3108 (0 : Int32)) (fun j1 => (if (σ 22 0 j1) ≤ v5 then (k v3 v4 σ) else (bnd (f_X8_sets v5 (2 : Int32) (99 : Int32) σ) (fun a1 => (bnd (f_X8_goesOnMany p1 a1) (fun a2 => (bnd (ix 3108 (3 : Int32)) (fun j2 => (bnd (f_X8_laysBack a2) (fun a3 => (if (a2 22 0 j2) ≤ v4 then (if (a2 22 0 j2) ≤ v4 then (f_X8_trust_37 p1 p2 n v3 v4 (v5 + (1 : Int32)) a3 k) else (f_X8_trust_37 p1 p2 n v3 (a2 22 0 j2) (v5 + (1 : Int32)) a3 k)) else (if (a2 22 0 j2) ≤ v4 then (f_X8_trust_37 p1 p2 n v5 v4 (v5 + (1 : Int32)) a3 k) else (f_X8_trust_37 p1 p2 n v5 (a2 22 0 j2) (v5 + (1 : Int32)) a3 k))))))))))))))
set_option maxRecDepth 100000 in
set_option maxHeartbeats 4000000 in
theorem L_X8_trust_37 {X : Cx} {p1 : Int32} {p2 : Int32} {r0 : Int32} {σ2 : Mem} {k : Int32 → Int32 → Mem → Option (Int32 × Mem)}  : ∀ (n : Nat) (v3 : Int32) (v4 : Int32) (v5 : Int32) (σ : Mem), f_X8_trust_37 p1 p2 n v3 v4 v5 σ k = some (r0, σ2) → (∀ (x3 : Int32) (x4 : Int32) (σ1 : Mem), k x3 x4 σ1 = some (r0, σ2) → At X 6 mX8_trust 110 [none, none, some (.int p2), some (.int x3), some (.int x4), none, none] [] σ1 (some (.int r0)) σ2) → At X 6 mX8_trust 37 [some (rf X 8 0), some (.int p1), some (.int p2), some (.int v3), some (.int v4), some (.int v5), none] [] σ (some (.int r0)) σ2 := by
  intro n
  induction n with
  | zero =>
    intro v3 v4 v5 σ h
    cases h
  | succ n ih =>
    intro v3 v4 v5 σ h hk
    rw [f_X8_trust_37.eq_2] at h
    refine i_iload dX8_trust_37 rfl ?_
    refine i_aload_n dX8_trust_39 rfl ?_
    refine gf_X8_7 rfl (by omega) dX8_trust_40 ?_
    refine i_iconst (v := 0) dX8_trust_43 (by decide) ?_
    refine al_22 dX8_trust_44 (by omega) h (fun j1 lj1 h => ?_)
    refine r_icmp_ge (tgt := 110) dX8_trust_45 (by decide) h (fun c1 h => ?_) (fun c1 h => ?_)
    · refine At.fewer (ls' := [none, none, some (.int p2), some (.int v3), some (.int v4), none, none]) (And.intro rfl (And.intro rfl (And.intro rfl trivial))) ?_
      exact hk _ _ _ h
    · refine i_aload_n dX8_trust_48 rfl ?_
      refine i_iload dX8_trust_49 rfl ?_
      refine i_iconst (v := 2) dX8_trust_51 (by decide) ?_
      refine i_bipush (v := 99) dX8_trust_52 (by decide) ?_
      refine cV_vw dX8_trust_54 cw_X8_76 ci_X8_sets rfl rfl (by decide) (show 0 < 1 by omega) h (fun a1 e => F_X8_sets  e) (Nat.le_of_ble_eq_true rfl) rfl rfl (Nat.le_of_ble_eq_true rfl) (fun a1 ea1 h => ?_)
      refine i_aload_n dX8_trust_57 rfl ?_
      refine i_iload_n dX8_trust_58 rfl ?_
      refine cV_vw dX8_trust_59 cw_X8_188 ci_X8_goesOnMany rfl rfl (by decide) (show 0 < 1 by omega) h (fun a2 e => F_X8_goesOnMany  e) (Nat.le_of_ble_eq_true rfl) rfl rfl (Nat.le_of_ble_eq_true rfl) (fun a2 ea2 h => ?_)
      refine i_aload_n dX8_trust_62 rfl ?_
      refine gf_X8_7 rfl (by omega) dX8_trust_63 ?_
      refine i_iconst (v := 3) dX8_trust_66 (by decide) ?_
      refine al_22 dX8_trust_67 (by omega) h (fun j2 lj2 h => ?_)
      refine i_istore (ls' := [some (rf X 8 0), some (.int p1), some (.int p2), some (.int v3), some (.int v4), some (.int v5), some (.int (a2 22 0 j2))]) dX8_trust_68 (by decide) (okp_at rfl) rfl ?_
      refine i_aload_n dX8_trust_70 rfl ?_
      refine cV_vw dX8_trust_71 cw_X8_191 ci_X8_laysBack rfl rfl (by decide) (show 0 < 1 by omega) h (fun a3 e => F_X8_laysBack  e) (Nat.le_of_ble_eq_true rfl) rfl rfl (Nat.le_of_ble_eq_true rfl) (fun a3 ea3 h => ?_)
      refine i_iload dX8_trust_74 rfl ?_
      refine i_iload dX8_trust_76 rfl ?_
      refine r_icmp_le (tgt := 86) dX8_trust_78 (by decide) h (fun c2 h => ?_) (fun c2 h => ?_)
      · refine i_iload_n dX8_trust_86 rfl ?_
        refine i_istore_n (ls' := [some (rf X 8 0), some (.int p1), some (.int p2), some (.int v3), some (.int v4), some (.int v5), some (.int (a2 22 0 j2))]) dX8_trust_87 (by decide) (okp_at rfl) rfl ?_
        refine i_iload dX8_trust_88 rfl ?_
        refine i_iload dX8_trust_90 rfl ?_
        refine r_icmp_le (tgt := 100) dX8_trust_92 (by decide) h (fun c3 h => ?_) (fun c3 h => ?_)
        · refine i_iload dX8_trust_100 rfl ?_
          refine i_istore (ls' := [some (rf X 8 0), some (.int p1), some (.int p2), some (.int v3), some (.int v4), some (.int v5), some (.int (a2 22 0 j2))]) dX8_trust_102 (by decide) (okp_at rfl) rfl ?_
          refine i_iinc (v := (v5 + (1 : Int32))) (ls' := [some (rf X 8 0), some (.int p1), some (.int p2), some (.int v3), some (.int v4), some (.int (v5 + (1 : Int32))), some (.int (a2 22 0 j2))]) dX8_trust_104 rfl (by rfl) (by decide) (okp_at rfl) rfl ?_
          refine i_goto (tgt := 37) dX8_trust_107 (by decide) ?_
          refine At.fewer (ls' := [some (rf X 8 0), some (.int p1), some (.int p2), some (.int v3), some (.int v4), some (.int (v5 + (1 : Int32))), none]) (And.intro rfl (And.intro rfl (And.intro rfl (And.intro rfl (And.intro rfl (And.intro rfl trivial)))))) ?_
          exact ih _ _ _ _ h hk
        · refine i_iload dX8_trust_95 rfl ?_
          refine i_goto (tgt := 102) dX8_trust_97 (by decide) ?_
          refine i_istore (ls' := [some (rf X 8 0), some (.int p1), some (.int p2), some (.int v3), some (.int (a2 22 0 j2)), some (.int v5), some (.int (a2 22 0 j2))]) dX8_trust_102 (by decide) (okp_at rfl) rfl ?_
          refine i_iinc (v := (v5 + (1 : Int32))) (ls' := [some (rf X 8 0), some (.int p1), some (.int p2), some (.int v3), some (.int (a2 22 0 j2)), some (.int (v5 + (1 : Int32))), some (.int (a2 22 0 j2))]) dX8_trust_104 rfl (by rfl) (by decide) (okp_at rfl) rfl ?_
          refine i_goto (tgt := 37) dX8_trust_107 (by decide) ?_
          refine At.fewer (ls' := [some (rf X 8 0), some (.int p1), some (.int p2), some (.int v3), some (.int (a2 22 0 j2)), some (.int (v5 + (1 : Int32))), none]) (And.intro rfl (And.intro rfl (And.intro rfl (And.intro rfl (And.intro rfl (And.intro rfl trivial)))))) ?_
          exact ih _ _ _ _ h hk
      · refine i_iload dX8_trust_81 rfl ?_
        refine i_goto (tgt := 87) dX8_trust_83 (by decide) ?_
        refine i_istore_n (ls' := [some (rf X 8 0), some (.int p1), some (.int p2), some (.int v5), some (.int v4), some (.int v5), some (.int (a2 22 0 j2))]) dX8_trust_87 (by decide) (okp_at rfl) rfl ?_
        refine i_iload dX8_trust_88 rfl ?_
        refine i_iload dX8_trust_90 rfl ?_
        refine r_icmp_le (tgt := 100) dX8_trust_92 (by decide) h (fun c4 h => ?_) (fun c4 h => ?_)
        · refine i_iload dX8_trust_100 rfl ?_
          refine i_istore (ls' := [some (rf X 8 0), some (.int p1), some (.int p2), some (.int v5), some (.int v4), some (.int v5), some (.int (a2 22 0 j2))]) dX8_trust_102 (by decide) (okp_at rfl) rfl ?_
          refine i_iinc (v := (v5 + (1 : Int32))) (ls' := [some (rf X 8 0), some (.int p1), some (.int p2), some (.int v5), some (.int v4), some (.int (v5 + (1 : Int32))), some (.int (a2 22 0 j2))]) dX8_trust_104 rfl (by rfl) (by decide) (okp_at rfl) rfl ?_
          refine i_goto (tgt := 37) dX8_trust_107 (by decide) ?_
          refine At.fewer (ls' := [some (rf X 8 0), some (.int p1), some (.int p2), some (.int v5), some (.int v4), some (.int (v5 + (1 : Int32))), none]) (And.intro rfl (And.intro rfl (And.intro rfl (And.intro rfl (And.intro rfl (And.intro rfl trivial)))))) ?_
          exact ih _ _ _ _ h hk
        · refine i_iload dX8_trust_95 rfl ?_
          refine i_goto (tgt := 102) dX8_trust_97 (by decide) ?_
          refine i_istore (ls' := [some (rf X 8 0), some (.int p1), some (.int p2), some (.int v5), some (.int (a2 22 0 j2)), some (.int v5), some (.int (a2 22 0 j2))]) dX8_trust_102 (by decide) (okp_at rfl) rfl ?_
          refine i_iinc (v := (v5 + (1 : Int32))) (ls' := [some (rf X 8 0), some (.int p1), some (.int p2), some (.int v5), some (.int (a2 22 0 j2)), some (.int (v5 + (1 : Int32))), some (.int (a2 22 0 j2))]) dX8_trust_104 rfl (by rfl) (by decide) (okp_at rfl) rfl ?_
          refine i_goto (tgt := 37) dX8_trust_107 (by decide) ?_
          refine At.fewer (ls' := [some (rf X 8 0), some (.int p1), some (.int p2), some (.int v5), some (.int (a2 22 0 j2)), some (.int (v5 + (1 : Int32))), none]) (And.intro rfl (And.intro rfl (And.intro rfl (And.intro rfl (And.intro rfl (And.intro rfl trivial)))))) ?_
          exact ih _ _ _ _ h hk
def f_X8_trust  (p1 : Int32) (p2 : Int32) (σ : Mem) : Option (Int32 × Mem) :=
  (bnd (f_X8_isIn ((p1).toInt64) ((1 : Int64)) ((60 : Int64)) σ) (fun a1 => (if a1 = 0 then (some ((-1000000001 : Int32), σ)) else (bnd (f_X8_isIn ((p2).toInt64) ((0 : Int64)) ((1 : Int64)) σ) (fun a2 => (if a2 = 0 then (some ((-1000000001 : Int32), σ)) else (bnd (f_X8_laysBy σ) (fun a3 => (f_X8_trust_37 p1 p2 FU (-1 : Int32) (-1 : Int32) (0 : Int32) a3 (fun e1 e2 σ_1 => (if 0 ≤ e1 then (if p2 = 0 then (some (e1, σ_1)) else (some (e2, σ_1))) else (some ((-1000000005 : Int32), σ_1)))))))))))))
set_option maxRecDepth 100000 in
set_option maxHeartbeats 4000000 in
theorem F_X8_trust {X : Cx} {p1 : Int32} {p2 : Int32} {σ : Mem} {res : (Int32 × Mem)}  (h : f_X8_trust p1 p2 σ = some res) : Tri X 6 mX8_trust [rf X 8 0, .int p1, .int p2] σ (some (.int res.1)) res.2 := by
  obtain ⟨r0, σ2⟩ := res
  unfold f_X8_trust at h
  refine Tri.of (ls := [some (rf X 8 0), some (.int p1), some (.int p2), none, none, none, none]) (by decide) (Nat.le_of_ble_eq_true rfl) rfl ?_
  refine i_iload_n dX8_trust_0 rfl ?_
  refine i_i2l dX8_trust_1 ?_
  refine i_lconst (v := 1) dX8_trust_2 (by decide) ?_
  refine i_ldc2 (v := 60) dX8_trust_3 k_X8_199 ?_
  refine cS_ir dX8_trust_6 cw_X8_71 ci_X8_isIn h (fun a1 e => F_X8_isIn  e) (Nat.le_of_ble_eq_true rfl) rfl rfl (Nat.le_of_ble_eq_true rfl) (fun a1 ea1 h => ?_)
  refine r_if_eq (tgt := 22) dX8_trust_9 (by decide) h (fun c1 h => ?_) (fun c1 h => ?_)
  · refine i_ldc (v := (-1000000001)) dX8_trust_22 k_X8_86 ?_
    exact e_iw rfl dX8_trust_24 h
  · refine i_iload_n dX8_trust_12 rfl ?_
    refine i_i2l dX8_trust_13 ?_
    refine i_lconst (v := 0) dX8_trust_14 (by decide) ?_
    refine i_lconst (v := 1) dX8_trust_15 (by decide) ?_
    refine cS_ir dX8_trust_16 cw_X8_71 ci_X8_isIn h (fun a2 e => F_X8_isIn  e) (Nat.le_of_ble_eq_true rfl) rfl rfl (Nat.le_of_ble_eq_true rfl) (fun a2 ea2 h => ?_)
    refine r_if_ne (tgt := 25) dX8_trust_19 (by decide) h (fun c2 h => ?_) (fun c2 h => ?_)
    · refine i_aload_n dX8_trust_25 rfl ?_
      refine cV_vw dX8_trust_26 cw_X8_185 ci_X8_laysBy rfl rfl (by decide) (show 0 < 1 by omega) h (fun a3 e => F_X8_laysBy  e) (Nat.le_of_ble_eq_true rfl) rfl rfl (Nat.le_of_ble_eq_true rfl) (fun a3 ea3 h => ?_)
      refine i_iconst (v := (-1)) dX8_trust_29 (by decide) ?_
      refine i_istore_n (ls' := [some (rf X 8 0), some (.int p1), some (.int p2), some (.int (-1 : Int32)), none, none, none]) dX8_trust_30 (by decide) (okp_at rfl) rfl ?_
      refine i_iconst (v := (-1)) dX8_trust_31 (by decide) ?_
      refine i_istore (ls' := [some (rf X 8 0), some (.int p1), some (.int p2), some (.int (-1 : Int32)), some (.int (-1 : Int32)), none, none]) dX8_trust_32 (by decide) (okp_at rfl) rfl ?_
      refine i_iconst (v := 0) dX8_trust_34 (by decide) ?_
      refine i_istore (ls' := [some (rf X 8 0), some (.int p1), some (.int p2), some (.int (-1 : Int32)), some (.int (-1 : Int32)), some (.int (0 : Int32)), none]) dX8_trust_35 (by decide) (okp_at rfl) rfl ?_
      refine L_X8_trust_37  FU _ _ _ _ h (fun e1 e2 σ_1 h => ?_)
      refine i_iload_n dX8_trust_110 rfl ?_
      refine r_if_ge (tgt := 119) dX8_trust_111 (by decide) h (fun c3 h => ?_) (fun c3 h => ?_)
      · refine i_iload_n dX8_trust_119 rfl ?_
        refine r_if_ne (tgt := 127) dX8_trust_120 (by decide) h (fun c4 h => ?_) (fun c4 h => ?_)
        · refine i_iload dX8_trust_127 rfl ?_
          exact e_iw rfl dX8_trust_129 h
        · refine i_iload_n dX8_trust_123 rfl ?_
          refine i_goto (tgt := 129) dX8_trust_124 (by decide) ?_
          exact e_iw rfl dX8_trust_129 h
      · refine i_ldc (v := (-1000000005)) dX8_trust_114 k_X8_70 ?_
        refine i_goto (tgt := 129) dX8_trust_116 (by decide) ?_
        exact e_iw rfl dX8_trust_129 h
    · refine i_ldc (v := (-1000000001)) dX8_trust_22 k_X8_86 ?_
      exact e_iw rfl dX8_trust_24 h
def f_X8_debtor_42 (p2 : Int32) (σ : Mem) : Nat → Int32 → Int32 → Int32 → (Int32 → Int32 → Option (Int32 × Mem)) → Option (Int32 × Mem)
  | 0, _, _, _, _ => none
  | n + 1, v3, v4, v5, k =>
    (bnd (ix 3108 (0 : Int32)) (fun j1 => (if (σ 22 0 j1) ≤ v5 then (k v3 v4) else (bnd (ix 108 (((7 : Int32) + ((5 : Int32) * v5)) + (3 : Int32))) (fun j2 => (bnd (f_X8_of v5 (3 : Int32) σ) (fun a1 => (if v3 < 0 then (f_X8_debtor_42 p2 σ n v5 ((σ 35 0 j2) - a1) (v5 + (1 : Int32)) k) else (if ((σ 35 0 j2) - a1) ≤ v4 then (f_X8_debtor_42 p2 σ n v3 v4 (v5 + (1 : Int32)) k) else (f_X8_debtor_42 p2 σ n v5 ((σ 35 0 j2) - a1) (v5 + (1 : Int32)) k))))))))))
set_option maxRecDepth 100000 in
set_option maxHeartbeats 4000000 in
theorem L_X8_debtor_42 {X : Cx} {p2 : Int32} {σ : Mem} {r0 : Int32} {σ2 : Mem} {k : Int32 → Int32 → Option (Int32 × Mem)}  : ∀ (n : Nat) (v3 : Int32) (v4 : Int32) (v5 : Int32), f_X8_debtor_42 p2 σ n v3 v4 v5 k = some (r0, σ2) → (∀ (x3 : Int32) (x4 : Int32), k x3 x4 = some (r0, σ2) → At X 6 mX8_debtor 101 [some (rf X 8 0), none, some (.int p2), some (.int x3), some (.int x4), none, none] [] σ (some (.int r0)) σ2) → At X 6 mX8_debtor 42 [some (rf X 8 0), none, some (.int p2), some (.int v3), some (.int v4), some (.int v5), none] [] σ (some (.int r0)) σ2 := by
  intro n
  induction n with
  | zero =>
    intro v3 v4 v5 h
    cases h
  | succ n ih =>
    intro v3 v4 v5 h hk
    rw [f_X8_debtor_42.eq_2] at h
    refine i_iload dX8_debtor_42 rfl ?_
    refine i_aload_n dX8_debtor_44 rfl ?_
    refine gf_X8_7 rfl (by omega) dX8_debtor_45 ?_
    refine i_iconst (v := 0) dX8_debtor_48 (by decide) ?_
    refine al_22 dX8_debtor_49 (by omega) h (fun j1 lj1 h => ?_)
    refine r_icmp_ge (tgt := 101) dX8_debtor_50 (by decide) h (fun c1 h => ?_) (fun c1 h => ?_)
    · refine At.fewer (ls' := [some (rf X 8 0), none, some (.int p2), some (.int v3), some (.int v4), none, none]) (And.intro rfl (And.intro rfl (And.intro rfl (And.intro rfl trivial)))) ?_
      exact hk _ _ h
    · refine i_aload_n dX8_debtor_53 rfl ?_
      refine gf_X8_49 rfl (by omega) dX8_debtor_54 ?_
      refine i_bipush (v := 7) dX8_debtor_57 (by decide) ?_
      refine i_iconst (v := 5) dX8_debtor_59 (by decide) ?_
      refine i_iload dX8_debtor_60 rfl ?_
      refine i_imul dX8_debtor_62 ?_
      refine i_iadd dX8_debtor_63 ?_
      refine i_iconst (v := 3) dX8_debtor_64 (by decide) ?_
      refine i_iadd dX8_debtor_65 ?_
      refine al_35 dX8_debtor_66 (by omega) h (fun j2 lj2 h => ?_)
      refine i_aload_n dX8_debtor_67 rfl ?_
      refine i_iload dX8_debtor_68 rfl ?_
      refine i_iconst (v := 3) dX8_debtor_70 (by decide) ?_
      refine cV_ir dX8_debtor_71 cw_X8_98 ci_X8_of rfl rfl (by decide) (show 0 < 1 by omega) h (fun a1 e => F_X8_of  e) (Nat.le_of_ble_eq_true rfl) rfl rfl (Nat.le_of_ble_eq_true rfl) (fun a1 ea1 h => ?_)
      refine i_isub dX8_debtor_74 ?_
      refine i_istore (ls' := [some (rf X 8 0), none, some (.int p2), some (.int v3), some (.int v4), some (.int v5), some (.int ((σ 35 0 j2) - a1))]) dX8_debtor_75 (by decide) (okp_at rfl) rfl ?_
      refine i_iload_n dX8_debtor_77 rfl ?_
      refine r_if_lt (tgt := 88) dX8_debtor_78 (by decide) h (fun c2 h => ?_) (fun c2 h => ?_)
      · refine i_iload dX8_debtor_88 rfl ?_
        refine i_istore_n (ls' := [some (rf X 8 0), none, some (.int p2), some (.int v5), some (.int v4), some (.int v5), some (.int ((σ 35 0 j2) - a1))]) dX8_debtor_90 (by decide) (okp_at rfl) rfl ?_
        refine i_iload dX8_debtor_91 rfl ?_
        refine i_istore (ls' := [some (rf X 8 0), none, some (.int p2), some (.int v5), some (.int ((σ 35 0 j2) - a1)), some (.int v5), some (.int ((σ 35 0 j2) - a1))]) dX8_debtor_93 (by decide) (okp_at rfl) rfl ?_
        refine i_iinc (v := (v5 + (1 : Int32))) (ls' := [some (rf X 8 0), none, some (.int p2), some (.int v5), some (.int ((σ 35 0 j2) - a1)), some (.int (v5 + (1 : Int32))), some (.int ((σ 35 0 j2) - a1))]) dX8_debtor_95 rfl (by rfl) (by decide) (okp_at rfl) rfl ?_
        refine i_goto (tgt := 42) dX8_debtor_98 (by decide) ?_
        refine At.fewer (ls' := [some (rf X 8 0), none, some (.int p2), some (.int v5), some (.int ((σ 35 0 j2) - a1)), some (.int (v5 + (1 : Int32))), none]) (And.intro rfl (And.intro rfl (And.intro rfl (And.intro rfl (And.intro rfl trivial))))) ?_
        exact ih _ _ _ h hk
      · refine i_iload dX8_debtor_81 rfl ?_
        refine i_iload dX8_debtor_83 rfl ?_
        refine r_icmp_le (tgt := 95) dX8_debtor_85 (by decide) h (fun c3 h => ?_) (fun c3 h => ?_)
        · refine i_iinc (v := (v5 + (1 : Int32))) (ls' := [some (rf X 8 0), none, some (.int p2), some (.int v3), some (.int v4), some (.int (v5 + (1 : Int32))), some (.int ((σ 35 0 j2) - a1))]) dX8_debtor_95 rfl (by rfl) (by decide) (okp_at rfl) rfl ?_
          refine i_goto (tgt := 42) dX8_debtor_98 (by decide) ?_
          refine At.fewer (ls' := [some (rf X 8 0), none, some (.int p2), some (.int v3), some (.int v4), some (.int (v5 + (1 : Int32))), none]) (And.intro rfl (And.intro rfl (And.intro rfl (And.intro rfl (And.intro rfl trivial))))) ?_
          exact ih _ _ _ h hk
        · refine i_iload dX8_debtor_88 rfl ?_
          refine i_istore_n (ls' := [some (rf X 8 0), none, some (.int p2), some (.int v5), some (.int v4), some (.int v5), some (.int ((σ 35 0 j2) - a1))]) dX8_debtor_90 (by decide) (okp_at rfl) rfl ?_
          refine i_iload dX8_debtor_91 rfl ?_
          refine i_istore (ls' := [some (rf X 8 0), none, some (.int p2), some (.int v5), some (.int ((σ 35 0 j2) - a1)), some (.int v5), some (.int ((σ 35 0 j2) - a1))]) dX8_debtor_93 (by decide) (okp_at rfl) rfl ?_
          refine i_iinc (v := (v5 + (1 : Int32))) (ls' := [some (rf X 8 0), none, some (.int p2), some (.int v5), some (.int ((σ 35 0 j2) - a1)), some (.int (v5 + (1 : Int32))), some (.int ((σ 35 0 j2) - a1))]) dX8_debtor_95 rfl (by rfl) (by decide) (okp_at rfl) rfl ?_
          refine i_goto (tgt := 42) dX8_debtor_98 (by decide) ?_
          refine At.fewer (ls' := [some (rf X 8 0), none, some (.int p2), some (.int v5), some (.int ((σ 35 0 j2) - a1)), some (.int (v5 + (1 : Int32))), none]) (And.intro rfl (And.intro rfl (And.intro rfl (And.intro rfl (And.intro rfl trivial))))) ?_
          exact ih _ _ _ h hk
def f_X8_debtor  (p1 : Int32) (p2 : Int32) (σ : Mem) : Option (Int32 × Mem) :=
  (bnd (f_X8_isIn ((p1).toInt64) ((1 : Int64)) ((60 : Int64)) σ) (fun a1 => (if a1 = 0 then (some ((-1000000001 : Int32), σ)) else (bnd (f_X8_isIn ((p2).toInt64) ((0 : Int64)) ((1 : Int64)) σ) (fun a2 => (if a2 = 0 then (some ((-1000000001 : Int32), σ)) else (bnd (f_X8_laysBy σ) (fun a3 => (bnd (f_X8_goesOnMany p1 a3) (fun a4 => (f_X8_debtor_42 p2 a4 FU (-1 : Int32) (0 : Int32) (0 : Int32) (fun e1 e2 => (bnd (f_X8_laysBack a4) (fun a5 => (if 0 ≤ e1 then (if p2 = 0 then (some (e1, a5)) else (some (e2, a5))) else (some ((-1000000005 : Int32), a5)))))))))))))))))
set_option maxRecDepth 100000 in
set_option maxHeartbeats 4000000 in
theorem F_X8_debtor {X : Cx} {p1 : Int32} {p2 : Int32} {σ : Mem} {res : (Int32 × Mem)}  (h : f_X8_debtor p1 p2 σ = some res) : Tri X 6 mX8_debtor [rf X 8 0, .int p1, .int p2] σ (some (.int res.1)) res.2 := by
  obtain ⟨r0, σ2⟩ := res
  unfold f_X8_debtor at h
  refine Tri.of (ls := [some (rf X 8 0), some (.int p1), some (.int p2), none, none, none, none]) (by decide) (Nat.le_of_ble_eq_true rfl) rfl ?_
  refine i_iload_n dX8_debtor_0 rfl ?_
  refine i_i2l dX8_debtor_1 ?_
  refine i_lconst (v := 1) dX8_debtor_2 (by decide) ?_
  refine i_ldc2 (v := 60) dX8_debtor_3 k_X8_199 ?_
  refine cS_ir dX8_debtor_6 cw_X8_71 ci_X8_isIn h (fun a1 e => F_X8_isIn  e) (Nat.le_of_ble_eq_true rfl) rfl rfl (Nat.le_of_ble_eq_true rfl) (fun a1 ea1 h => ?_)
  refine r_if_eq (tgt := 22) dX8_debtor_9 (by decide) h (fun c1 h => ?_) (fun c1 h => ?_)
  · refine i_ldc (v := (-1000000001)) dX8_debtor_22 k_X8_86 ?_
    exact e_iw rfl dX8_debtor_24 h
  · refine i_iload_n dX8_debtor_12 rfl ?_
    refine i_i2l dX8_debtor_13 ?_
    refine i_lconst (v := 0) dX8_debtor_14 (by decide) ?_
    refine i_lconst (v := 1) dX8_debtor_15 (by decide) ?_
    refine cS_ir dX8_debtor_16 cw_X8_71 ci_X8_isIn h (fun a2 e => F_X8_isIn  e) (Nat.le_of_ble_eq_true rfl) rfl rfl (Nat.le_of_ble_eq_true rfl) (fun a2 ea2 h => ?_)
    refine r_if_ne (tgt := 25) dX8_debtor_19 (by decide) h (fun c2 h => ?_) (fun c2 h => ?_)
    · refine i_aload_n dX8_debtor_25 rfl ?_
      refine cV_vw dX8_debtor_26 cw_X8_185 ci_X8_laysBy rfl rfl (by decide) (show 0 < 1 by omega) h (fun a3 e => F_X8_laysBy  e) (Nat.le_of_ble_eq_true rfl) rfl rfl (Nat.le_of_ble_eq_true rfl) (fun a3 ea3 h => ?_)
      refine i_aload_n dX8_debtor_29 rfl ?_
      refine i_iload_n dX8_debtor_30 rfl ?_
      refine cV_vw dX8_debtor_31 cw_X8_188 ci_X8_goesOnMany rfl rfl (by decide) (show 0 < 1 by omega) h (fun a4 e => F_X8_goesOnMany  e) (Nat.le_of_ble_eq_true rfl) rfl rfl (Nat.le_of_ble_eq_true rfl) (fun a4 ea4 h => ?_)
      refine i_iconst (v := (-1)) dX8_debtor_34 (by decide) ?_
      refine i_istore_n (ls' := [some (rf X 8 0), some (.int p1), some (.int p2), some (.int (-1 : Int32)), none, none, none]) dX8_debtor_35 (by decide) (okp_at rfl) rfl ?_
      refine i_iconst (v := 0) dX8_debtor_36 (by decide) ?_
      refine i_istore (ls' := [some (rf X 8 0), some (.int p1), some (.int p2), some (.int (-1 : Int32)), some (.int (0 : Int32)), none, none]) dX8_debtor_37 (by decide) (okp_at rfl) rfl ?_
      refine i_iconst (v := 0) dX8_debtor_39 (by decide) ?_
      refine i_istore (ls' := [some (rf X 8 0), some (.int p1), some (.int p2), some (.int (-1 : Int32)), some (.int (0 : Int32)), some (.int (0 : Int32)), none]) dX8_debtor_40 (by decide) (okp_at rfl) rfl ?_
      refine At.fewer (ls' := [some (rf X 8 0), none, some (.int p2), some (.int (-1 : Int32)), some (.int (0 : Int32)), some (.int (0 : Int32)), none]) (And.intro rfl (And.intro rfl (And.intro rfl (And.intro rfl (And.intro rfl trivial))))) ?_
      refine L_X8_debtor_42  FU _ _ _ h (fun e1 e2 h => ?_)
      refine i_aload_n dX8_debtor_101 rfl ?_
      refine cV_vw dX8_debtor_102 cw_X8_191 ci_X8_laysBack rfl rfl (by decide) (show 0 < 1 by omega) h (fun a5 e => F_X8_laysBack  e) (Nat.le_of_ble_eq_true rfl) rfl rfl (Nat.le_of_ble_eq_true rfl) (fun a5 ea5 h => ?_)
      refine i_iload_n dX8_debtor_105 rfl ?_
      refine r_if_ge (tgt := 114) dX8_debtor_106 (by decide) h (fun c3 h => ?_) (fun c3 h => ?_)
      · refine i_iload_n dX8_debtor_114 rfl ?_
        refine r_if_ne (tgt := 122) dX8_debtor_115 (by decide) h (fun c4 h => ?_) (fun c4 h => ?_)
        · refine i_iload dX8_debtor_122 rfl ?_
          exact e_iw rfl dX8_debtor_124 h
        · refine i_iload_n dX8_debtor_118 rfl ?_
          refine i_goto (tgt := 124) dX8_debtor_119 (by decide) ?_
          exact e_iw rfl dX8_debtor_124 h
      · refine i_ldc (v := (-1000000005)) dX8_debtor_109 k_X8_70 ?_
        refine i_goto (tgt := 124) dX8_debtor_111 (by decide) ?_
        exact e_iw rfl dX8_debtor_124 h
    · refine i_ldc (v := (-1000000001)) dX8_debtor_22 k_X8_86 ?_
      exact e_iw rfl dX8_debtor_24 h
def f_X8_fee   (σ : Mem) : Option (Int32 × Mem) :=
  (bnd (f_X8_counts (1 : Int32) σ) (fun a1 => (if 0 ≤ a1 then (bnd (ix 3108 (4 : Int32)) (fun j1 => (bnd (ix 128 (107 : Int32)) (fun j2 => (bnd (ix 3108 (5 : Int32)) (fun j3 => (bnd (ix 128 (108 : Int32)) (fun j4 => (bnd (f_X8_worked a1 (mput (mput σ 37 0 j2 (σ 22 0 j1)) 37 0 j4 ((mput σ 37 0 j2 (σ 22 0 j1)) 22 0 j3))) (fun a2 => (some (a2.1, a2.2)))))))))))) else (bnd (ix 3108 (5 : Int32)) (fun j5 => (some ((σ 22 0 j5), σ)))))))
set_option maxRecDepth 100000 in
set_option maxHeartbeats 4000000 in
theorem F_X8_fee {X : Cx}  {σ : Mem} {res : (Int32 × Mem)}  (h : f_X8_fee σ = some res) : Tri X 3 mX8_fee [rf X 8 0] σ (some (.int res.1)) res.2 := by
  obtain ⟨r0, σ2⟩ := res
  unfold f_X8_fee at h
  refine Tri.of (ls := [some (rf X 8 0), none]) (by decide) (Nat.le_of_ble_eq_true rfl) rfl ?_
  refine i_aload_n dX8_fee_0 rfl ?_
  refine i_iconst (v := 1) dX8_fee_1 (by decide) ?_
  refine cV_ir dX8_fee_2 cw_X8_101 ci_X8_counts rfl rfl (by decide) (show 0 < 1 by omega) h (fun a1 e => F_X8_counts  e) (Nat.le_of_ble_eq_true rfl) rfl rfl (Nat.le_of_ble_eq_true rfl) (fun a1 ea1 h => ?_)
  refine i_istore_n (ls' := [some (rf X 8 0), some (.int a1)]) dX8_fee_5 (by decide) (okp_at rfl) rfl ?_
  refine i_iload_n dX8_fee_6 rfl ?_
  refine r_if_ge (tgt := 17) dX8_fee_7 (by decide) h (fun c1 h => ?_) (fun c1 h => ?_)
  · refine i_aload_n dX8_fee_17 rfl ?_
    refine gf_X8_55 rfl (by omega) dX8_fee_18 ?_
    refine i_bipush (v := 107) dX8_fee_21 (by decide) ?_
    refine i_aload_n dX8_fee_23 rfl ?_
    refine gf_X8_7 rfl (by omega) dX8_fee_24 ?_
    refine i_iconst (v := 4) dX8_fee_27 (by decide) ?_
    refine al_22 dX8_fee_28 (by omega) h (fun j1 lj1 h => ?_)
    refine as_37 dX8_fee_29 (by omega) h (fun j2 lj2 h => ?_)
    refine i_aload_n dX8_fee_30 rfl ?_
    refine gf_X8_55 rfl (by omega) dX8_fee_31 ?_
    refine i_bipush (v := 108) dX8_fee_34 (by decide) ?_
    refine i_aload_n dX8_fee_36 rfl ?_
    refine gf_X8_7 rfl (by omega) dX8_fee_37 ?_
    refine i_iconst (v := 5) dX8_fee_40 (by decide) ?_
    refine al_22 dX8_fee_41 (by omega) h (fun j3 lj3 h => ?_)
    refine as_37 dX8_fee_42 (by omega) h (fun j4 lj4 h => ?_)
    refine i_aload_n dX8_fee_43 rfl ?_
    refine i_iload_n dX8_fee_44 rfl ?_
    refine cV_iw dX8_fee_45 cw_X8_105 ci_X8_worked rfl rfl (by decide) (show 0 < 1 by omega) h (fun a2 e => F_X8_worked  e) (Nat.le_of_ble_eq_true rfl) rfl rfl (Nat.le_of_ble_eq_true rfl) (fun a2 ea2 h => ?_)
    exact e_iw rfl dX8_fee_48 h
  · refine i_aload_n dX8_fee_10 rfl ?_
    refine gf_X8_7 rfl (by omega) dX8_fee_11 ?_
    refine i_iconst (v := 5) dX8_fee_14 (by decide) ?_
    refine al_22 dX8_fee_15 (by omega) h (fun j5 lj5 h => ?_)
    exact e_iw rfl dX8_fee_16 h
def f_X8_fine  (p1 : Int32) (σ : Mem) : Option (Int32 × Mem) :=
  (bnd (f_X8_isOne p1 σ) (fun a1 => (if a1 = 0 then (some ((-1000000001 : Int32), σ)) else (bnd (f_X8_counts (2 : Int32) σ) (fun a2 => (if 0 ≤ a2 then (bnd (f_X8_of p1 (3 : Int32) σ) (fun a3 => (bnd (ix 128 (112 : Int32)) (fun j1 => (bnd (f_X8_of p1 (1 : Int32) (mput σ 37 0 j1 a3)) (fun a4 => (bnd (ix 128 (101 : Int32)) (fun j2 => (bnd (f_X8_worked a2 (mput (mput σ 37 0 j1 a3) 37 0 j2 a4)) (fun a5 => (some (a5.1, a5.2)))))))))))) else (bnd (f_X8_of p1 (3 : Int32) σ) (fun a6 => (some (a6, σ))))))))))
set_option maxRecDepth 100000 in
set_option maxHeartbeats 4000000 in
theorem F_X8_fine {X : Cx} {p1 : Int32} {σ : Mem} {res : (Int32 × Mem)}  (h : f_X8_fine p1 σ = some res) : Tri X 3 mX8_fine [rf X 8 0, .int p1] σ (some (.int res.1)) res.2 := by
  obtain ⟨r0, σ2⟩ := res
  unfold f_X8_fine at h
  refine Tri.of (ls := [some (rf X 8 0), some (.int p1), none]) (by decide) (Nat.le_of_ble_eq_true rfl) rfl ?_
  refine i_aload_n dX8_fine_0 rfl ?_
  refine i_iload_n dX8_fine_1 rfl ?_
  refine cV_ir dX8_fine_2 cw_X8_112 ci_X8_isOne rfl rfl (by decide) (show 0 < 1 by omega) h (fun a1 e => F_X8_isOne  e) (Nat.le_of_ble_eq_true rfl) rfl rfl (Nat.le_of_ble_eq_true rfl) (fun a1 ea1 h => ?_)
  refine r_if_ne (tgt := 11) dX8_fine_5 (by decide) h (fun c1 h => ?_) (fun c1 h => ?_)
  · refine i_aload_n dX8_fine_11 rfl ?_
    refine i_iconst (v := 2) dX8_fine_12 (by decide) ?_
    refine cV_ir dX8_fine_13 cw_X8_101 ci_X8_counts rfl rfl (by decide) (show 0 < 1 by omega) h (fun a2 e => F_X8_counts  e) (Nat.le_of_ble_eq_true rfl) rfl rfl (Nat.le_of_ble_eq_true rfl) (fun a2 ea2 h => ?_)
    refine i_istore_n (ls' := [some (rf X 8 0), some (.int p1), some (.int a2)]) dX8_fine_16 (by decide) (okp_at rfl) rfl ?_
    refine i_iload_n dX8_fine_17 rfl ?_
    refine r_if_ge (tgt := 28) dX8_fine_18 (by decide) h (fun c2 h => ?_) (fun c2 h => ?_)
    · refine i_aload_n dX8_fine_28 rfl ?_
      refine gf_X8_55 rfl (by omega) dX8_fine_29 ?_
      refine i_bipush (v := 112) dX8_fine_32 (by decide) ?_
      refine i_aload_n dX8_fine_34 rfl ?_
      refine i_iload_n dX8_fine_35 rfl ?_
      refine i_iconst (v := 3) dX8_fine_36 (by decide) ?_
      refine cV_ir dX8_fine_37 cw_X8_98 ci_X8_of rfl rfl (by decide) (show 0 < 1 by omega) h (fun a3 e => F_X8_of  e) (Nat.le_of_ble_eq_true rfl) rfl rfl (Nat.le_of_ble_eq_true rfl) (fun a3 ea3 h => ?_)
      refine as_37 dX8_fine_40 (by omega) h (fun j1 lj1 h => ?_)
      refine i_aload_n dX8_fine_41 rfl ?_
      refine gf_X8_55 rfl (by omega) dX8_fine_42 ?_
      refine i_bipush (v := 101) dX8_fine_45 (by decide) ?_
      refine i_aload_n dX8_fine_47 rfl ?_
      refine i_iload_n dX8_fine_48 rfl ?_
      refine i_iconst (v := 1) dX8_fine_49 (by decide) ?_
      refine cV_ir dX8_fine_50 cw_X8_98 ci_X8_of rfl rfl (by decide) (show 0 < 1 by omega) h (fun a4 e => F_X8_of  e) (Nat.le_of_ble_eq_true rfl) rfl rfl (Nat.le_of_ble_eq_true rfl) (fun a4 ea4 h => ?_)
      refine as_37 dX8_fine_53 (by omega) h (fun j2 lj2 h => ?_)
      refine i_aload_n dX8_fine_54 rfl ?_
      refine i_iload_n dX8_fine_55 rfl ?_
      refine cV_iw dX8_fine_56 cw_X8_105 ci_X8_worked rfl rfl (by decide) (show 0 < 1 by omega) h (fun a5 e => F_X8_worked  e) (Nat.le_of_ble_eq_true rfl) rfl rfl (Nat.le_of_ble_eq_true rfl) (fun a5 ea5 h => ?_)
      exact e_iw rfl dX8_fine_59 h
    · refine i_aload_n dX8_fine_21 rfl ?_
      refine i_iload_n dX8_fine_22 rfl ?_
      refine i_iconst (v := 3) dX8_fine_23 (by decide) ?_
      refine cV_ir dX8_fine_24 cw_X8_98 ci_X8_of rfl rfl (by decide) (show 0 < 1 by omega) h (fun a6 e => F_X8_of  e) (Nat.le_of_ble_eq_true rfl) rfl rfl (Nat.le_of_ble_eq_true rfl) (fun a6 ea6 h => ?_)
      exact e_iw rfl dX8_fine_27 h
  · refine i_ldc (v := (-1000000001)) dX8_fine_8 k_X8_86 ?_
    exact e_iw rfl dX8_fine_10 h
def f_X8_manyStruck_4 (σ : Mem) : Nat → Int32 → Int32 → (Int32 → Option Int32) → Option Int32
  | 0, _, _, _ => none
  | n + 1, v1, v2, k =>
    (bnd (ix 3108 (0 : Int32)) (fun j1 => (if (σ 22 0 j1) ≤ v2 then (k v1) else (bnd (f_X8_of v2 (0 : Int32) σ) (fun a1 => (if a1 = (5 : Int32) then (f_X8_manyStruck_4 σ n (v1 + (1 : Int32)) (v2 + (1 : Int32)) k) else (f_X8_manyStruck_4 σ n (v1 + (0 : Int32)) (v2 + (1 : Int32)) k)))))))
set_option maxRecDepth 100000 in
set_option maxHeartbeats 4000000 in
theorem L_X8_manyStruck_4 {X : Cx} {σ : Mem} {r0 : Int32} {k : Int32 → Option Int32}  : ∀ (n : Nat) (v1 : Int32) (v2 : Int32), f_X8_manyStruck_4 σ n v1 v2 k = some r0 → (∀ (x1 : Int32), k x1 = some r0 → At X 2 mX8_manyStruck 38 [none, some (.int x1), none] [] σ (some (.int r0)) σ) → At X 2 mX8_manyStruck 4 [some (rf X 8 0), some (.int v1), some (.int v2)] [] σ (some (.int r0)) σ := by
  intro n
  induction n with
  | zero =>
    intro v1 v2 h
    cases h
  | succ n ih =>
    intro v1 v2 h hk
    rw [f_X8_manyStruck_4.eq_2] at h
    refine i_iload_n dX8_manyStruck_4 rfl ?_
    refine i_aload_n dX8_manyStruck_5 rfl ?_
    refine gf_X8_7 rfl (by omega) dX8_manyStruck_6 ?_
    refine i_iconst (v := 0) dX8_manyStruck_9 (by decide) ?_
    refine al_22 dX8_manyStruck_10 (by omega) h (fun j1 lj1 h => ?_)
    refine r_icmp_ge (tgt := 38) dX8_manyStruck_11 (by decide) h (fun c1 h => ?_) (fun c1 h => ?_)
    · refine At.fewer (ls' := [none, some (.int v1), none]) (And.intro rfl trivial) ?_
      exact hk _ h
    · refine i_iload_n dX8_manyStruck_14 rfl ?_
      refine i_aload_n dX8_manyStruck_15 rfl ?_
      refine i_iload_n dX8_manyStruck_16 rfl ?_
      refine i_iconst (v := 0) dX8_manyStruck_17 (by decide) ?_
      refine cV_ir dX8_manyStruck_18 cw_X8_98 ci_X8_of rfl rfl (by decide) (show 0 < 1 by omega) h (fun a1 e => F_X8_of  e) (Nat.le_of_ble_eq_true rfl) rfl rfl (Nat.le_of_ble_eq_true rfl) (fun a1 ea1 h => ?_)
      refine i_iconst (v := 5) dX8_manyStruck_21 (by decide) ?_
      refine r_icmp_ne (tgt := 29) dX8_manyStruck_22 (by decide) h (fun c2 h => ?_) (fun c2 h => ?_)
      · refine i_iconst (v := 0) dX8_manyStruck_29 (by decide) ?_
        refine i_iadd dX8_manyStruck_30 ?_
        refine i_istore_n (ls' := [some (rf X 8 0), some (.int (v1 + (0 : Int32))), some (.int v2)]) dX8_manyStruck_31 (by decide) (okp_at rfl) rfl ?_
        refine i_iinc (v := (v2 + (1 : Int32))) (ls' := [some (rf X 8 0), some (.int (v1 + (0 : Int32))), some (.int (v2 + (1 : Int32)))]) dX8_manyStruck_32 rfl (by rfl) (by decide) (okp_at rfl) rfl ?_
        refine i_goto (tgt := 4) dX8_manyStruck_35 (by decide) ?_
        exact ih _ _ h hk
      · refine i_iconst (v := 1) dX8_manyStruck_25 (by decide) ?_
        refine i_goto (tgt := 30) dX8_manyStruck_26 (by decide) ?_
        refine i_iadd dX8_manyStruck_30 ?_
        refine i_istore_n (ls' := [some (rf X 8 0), some (.int (v1 + (1 : Int32))), some (.int v2)]) dX8_manyStruck_31 (by decide) (okp_at rfl) rfl ?_
        refine i_iinc (v := (v2 + (1 : Int32))) (ls' := [some (rf X 8 0), some (.int (v1 + (1 : Int32))), some (.int (v2 + (1 : Int32)))]) dX8_manyStruck_32 rfl (by rfl) (by decide) (okp_at rfl) rfl ?_
        refine i_goto (tgt := 4) dX8_manyStruck_35 (by decide) ?_
        exact ih _ _ h hk
def f_X8_manyStruck   (σ : Mem) : Option Int32 :=
  (f_X8_manyStruck_4 σ FU (0 : Int32) (0 : Int32) (fun e1 => (some e1)))
set_option maxRecDepth 100000 in
set_option maxHeartbeats 4000000 in
theorem F_X8_manyStruck {X : Cx}  {σ : Mem} {res : Int32}  (h : f_X8_manyStruck σ = some res) : Tri X 2 mX8_manyStruck [rf X 8 0] σ (some (.int res)) σ := by
  unfold f_X8_manyStruck at h
  refine Tri.of (ls := [some (rf X 8 0), none, none]) (by decide) (Nat.le_of_ble_eq_true rfl) rfl ?_
  refine i_iconst (v := 0) dX8_manyStruck_0 (by decide) ?_
  refine i_istore_n (ls' := [some (rf X 8 0), some (.int (0 : Int32)), none]) dX8_manyStruck_1 (by decide) (okp_at rfl) rfl ?_
  refine i_iconst (v := 0) dX8_manyStruck_2 (by decide) ?_
  refine i_istore_n (ls' := [some (rf X 8 0), some (.int (0 : Int32)), some (.int (0 : Int32))]) dX8_manyStruck_3 (by decide) (okp_at rfl) rfl ?_
  refine L_X8_manyStruck_4  FU _ _ h (fun e1 h => ?_)
  refine i_iload_n dX8_manyStruck_38 rfl ?_
  exact e_ir rfl dX8_manyStruck_39 h
end
