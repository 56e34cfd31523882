noncomputable section
def f_X8_ask  (p1 : Int32) (p2 : Int32) (σ : Mem) : Option Int32 :=
  (bnd (f_X8_isSlot p1 σ) (fun a1 => (if a1 = 0 then (some (-1000000001 : Int32)) else (bnd (f_X8_isIn ((p2).toInt64) ((0 : Int64)) ((5 : Int64)) σ) (fun a2 => (if a2 = 0 then (some (-1000000001 : Int32)) else (bnd (ix 5 p1) (fun j1 => (if (σ 28 0 j1) = 0 then (some (-1000000011 : Int32)) else (bnd (ix 5 p1) (fun j2 => (if (σ 28 0 j2) = (1 : Int32) then (bnd (ix 5 p1) (fun j3 => (bnd (f_X8_isOf (σ 29 0 j3) p2 σ) (fun a3 => (if a3 = 0 then (some (-1000000012 : Int32)) else (bnd (ix 5 p1) (fun j4 => (some (σ 30 0 j4))))))))) else (some (-1000000012 : Int32))))))))))))))
set_option maxRecDepth 100000 in
set_option maxHeartbeats 4000000 in
theorem F_X8_ask {X : Cx} {p1 : Int32} {p2 : Int32} {σ : Mem} {res : Int32}  (h : f_X8_ask p1 p2 σ = some res) : Tri X 3 mX8_ask [rf X 8 0, .int p1, .int p2] σ (some (.int res)) σ := by
  unfold f_X8_ask at h
  refine Tri.of (ls := [some (rf X 8 0), some (.int p1), some (.int p2)]) (by decide) (Nat.le_of_ble_eq_true rfl) rfl ?_
  refine i_iload_n dX8_ask_0 rfl ?_
  refine cS_ir dX8_ask_1 cw_X8_315 ci_X8_isSlot h (fun a1 e => F_X8_isSlot  e) (Nat.le_of_ble_eq_true rfl) rfl rfl (Nat.le_of_ble_eq_true rfl) (fun a1 ea1 h => ?_)
  refine r_if_eq (tgt := 19) dX8_ask_4 (by decide) h (fun c1 h => ?_) (fun c1 h => ?_)
  · refine i_ldc (v := (-1000000001)) dX8_ask_19 k_X8_86 ?_
    exact e_ir rfl dX8_ask_21 h
  · refine i_iload_n dX8_ask_7 rfl ?_
    refine i_i2l dX8_ask_8 ?_
    refine i_lconst (v := 0) dX8_ask_9 (by decide) ?_
    refine i_ldc2 (v := 5) dX8_ask_10 k_X8_80 ?_
    refine cS_ir dX8_ask_13 cw_X8_71 ci_X8_isIn h (fun a2 e => F_X8_isIn  e) (Nat.le_of_ble_eq_true rfl) rfl rfl (Nat.le_of_ble_eq_true rfl) (fun a2 ea2 h => ?_)
    refine r_if_ne (tgt := 22) dX8_ask_16 (by decide) h (fun c2 h => ?_) (fun c2 h => ?_)
    · refine i_aload_n dX8_ask_22 rfl ?_
      refine gf_X8_28 rfl (by omega) dX8_ask_23 ?_
      refine i_iload_n dX8_ask_26 rfl ?_
      refine al_28 dX8_ask_27 (by omega) h (fun j1 lj1 h => ?_)
      refine r_if_ne (tgt := 35) dX8_ask_28 (by decide) h (fun c3 h => ?_) (fun c3 h => ?_)
      · refine i_aload_n dX8_ask_35 rfl ?_
        refine gf_X8_28 rfl (by omega) dX8_ask_36 ?_
        refine i_iload_n dX8_ask_39 rfl ?_
        refine al_28 dX8_ask_40 (by omega) h (fun j2 lj2 h => ?_)
        refine i_iconst (v := 1) dX8_ask_41 (by decide) ?_
        refine r_icmp_ne (tgt := 67) dX8_ask_42 (by decide) h (fun c4 h => ?_) (fun c4 h => ?_)
        · refine i_ldc (v := (-1000000012)) dX8_ask_67 k_X8_129 ?_
          exact e_ir rfl dX8_ask_69 h
        · refine i_aload_n dX8_ask_45 rfl ?_
          refine gf_X8_31 rfl (by omega) dX8_ask_46 ?_
          refine i_iload_n dX8_ask_49 rfl ?_
          refine al_29 dX8_ask_50 (by omega) h (fun j3 lj3 h => ?_)
          refine i_iload_n dX8_ask_51 rfl ?_
          refine cS_ir dX8_ask_52 cw_X8_125 ci_X8_isOf h (fun a3 e => F_X8_isOf  e) (Nat.le_of_ble_eq_true rfl) rfl rfl (Nat.le_of_ble_eq_true rfl) (fun a3 ea3 h => ?_)
          refine r_if_eq (tgt := 67) dX8_ask_55 (by decide) h (fun c5 h => ?_) (fun c5 h => ?_)
          · refine i_ldc (v := (-1000000012)) dX8_ask_67 k_X8_129 ?_
            exact e_ir rfl dX8_ask_69 h
          · refine i_aload_n dX8_ask_58 rfl ?_
            refine gf_X8_34 rfl (by omega) dX8_ask_59 ?_
            refine i_iload_n dX8_ask_62 rfl ?_
            refine al_30 dX8_ask_63 (by omega) h (fun j4 lj4 h => ?_)
            refine i_goto (tgt := 69) dX8_ask_64 (by decide) ?_
            exact e_ir rfl dX8_ask_69 h
      · refine i_ldcw (v := (-1000000011)) dX8_ask_31 k_X8_304 ?_
        exact e_ir rfl dX8_ask_34 h
    · refine i_ldc (v := (-1000000001)) dX8_ask_19 k_X8_86 ?_
      exact e_ir rfl dX8_ask_21 h
def f_X8_item  (p1 : Int32) (p2 : Int32) (σ : Mem) : Option Int32 :=
  (bnd (f_X8_isSlot p1 σ) (fun a1 => (if a1 = 0 then (some (-1000000001 : Int32)) else (bnd (ix 5 p1) (fun j1 => (if (σ 28 0 j1) = (2 : Int32) then (bnd (ix 5 p1) (fun j2 => (bnd (f_X8_isIn ((p2).toInt64) ((0 : Int64)) ((((σ 31 0 j2) - (1 : Int32))).toInt64) σ) (fun a2 => (if a2 = 0 then (some (-1000000013 : Int32)) else (bnd (ix 120 (((24 : Int32) * p1) + p2)) (fun j3 => (if (σ 32 0 j3) = (-1000000005 : Int32) then (some (-1000000012 : Int32)) else (some (σ 32 0 j3)))))))))) else (bnd (ix 5 p1) (fun j4 => (if (σ 28 0 j4) = 0 then (some (-1000000011 : Int32)) else (some (-1000000012 : Int32)))))))))))
set_option maxRecDepth 100000 in
set_option maxHeartbeats 4000000 in
theorem F_X8_item {X : Cx} {p1 : Int32} {p2 : Int32} {σ : Mem} {res : Int32}  (h : f_X8_item p1 p2 σ = some res) : Tri X 3 mX8_item [rf X 8 0, .int p1, .int p2] σ (some (.int res)) σ := by
  unfold f_X8_item at h
  refine Tri.of (ls := [some (rf X 8 0), some (.int p1), some (.int p2), none]) (by decide) (Nat.le_of_ble_eq_true rfl) rfl ?_
  refine i_iload_n dX8_item_0 rfl ?_
  refine cS_ir dX8_item_1 cw_X8_315 ci_X8_isSlot h (fun a1 e => F_X8_isSlot  e) (Nat.le_of_ble_eq_true rfl) rfl rfl (Nat.le_of_ble_eq_true rfl) (fun a1 ea1 h => ?_)
  refine r_if_ne (tgt := 10) dX8_item_4 (by decide) h (fun c1 h => ?_) (fun c1 h => ?_)
  · refine i_aload_n dX8_item_10 rfl ?_
    refine gf_X8_28 rfl (by omega) dX8_item_11 ?_
    refine i_iload_n dX8_item_14 rfl ?_
    refine al_28 dX8_item_15 (by omega) h (fun j1 lj1 h => ?_)
    refine i_iconst (v := 2) dX8_item_16 (by decide) ?_
    refine r_icmp_eq (tgt := 38) dX8_item_17 (by decide) h (fun c2 h => ?_) (fun c2 h => ?_)
    · refine i_iload_n dX8_item_38 rfl ?_
      refine i_i2l dX8_item_39 ?_
      refine i_lconst (v := 0) dX8_item_40 (by decide) ?_
      refine i_aload_n dX8_item_41 rfl ?_
      refine gf_X8_37 rfl (by omega) dX8_item_42 ?_
      refine i_iload_n dX8_item_45 rfl ?_
      refine al_31 dX8_item_46 (by omega) h (fun j2 lj2 h => ?_)
      refine i_iconst (v := 1) dX8_item_47 (by decide) ?_
      refine i_isub dX8_item_48 ?_
      refine i_i2l dX8_item_49 ?_
      refine cS_ir dX8_item_50 cw_X8_71 ci_X8_isIn h (fun a2 e => F_X8_isIn  e) (Nat.le_of_ble_eq_true rfl) rfl rfl (Nat.le_of_ble_eq_true rfl) (fun a2 ea2 h => ?_)
      refine r_if_ne (tgt := 60) dX8_item_53 (by decide) h (fun c3 h => ?_) (fun c3 h => ?_)
      · refine i_aload_n dX8_item_60 rfl ?_
        refine gf_X8_40 rfl (by omega) dX8_item_61 ?_
        refine i_bipush (v := 24) dX8_item_64 (by decide) ?_
        refine i_iload_n dX8_item_66 rfl ?_
        refine i_imul dX8_item_67 ?_
        refine i_iload_n dX8_item_68 rfl ?_
        refine i_iadd dX8_item_69 ?_
        refine al_32 dX8_item_70 (by omega) h (fun j3 lj3 h => ?_)
        refine i_istore_n (ls' := [some (rf X 8 0), some (.int p1), some (.int p2), some (.int (σ 32 0 j3))]) dX8_item_71 (by decide) (okp_at rfl) rfl ?_
        refine i_iload_n dX8_item_72 rfl ?_
        refine i_ldc (v := (-1000000005)) dX8_item_73 k_X8_70 ?_
        refine r_icmp_ne (tgt := 83) dX8_item_75 (by decide) h (fun c4 h => ?_) (fun c4 h => ?_)
        · refine i_iload_n dX8_item_83 rfl ?_
          exact e_ir rfl dX8_item_84 h
        · refine i_ldc (v := (-1000000012)) dX8_item_78 k_X8_129 ?_
          refine i_goto (tgt := 84) dX8_item_80 (by decide) ?_
          exact e_ir rfl dX8_item_84 h
      · refine i_ldcw (v := (-1000000013)) dX8_item_56 k_X8_305 ?_
        exact e_ir rfl dX8_item_59 h
    · refine i_aload_n dX8_item_20 rfl ?_
      refine gf_X8_28 rfl (by omega) dX8_item_21 ?_
      refine i_iload_n dX8_item_24 rfl ?_
      refine al_28 dX8_item_25 (by omega) h (fun j4 lj4 h => ?_)
      refine r_if_ne (tgt := 35) dX8_item_26 (by decide) h (fun c5 h => ?_) (fun c5 h => ?_)
      · refine i_ldc (v := (-1000000012)) dX8_item_35 k_X8_129 ?_
        exact e_ir rfl dX8_item_37 h
      · refine i_ldcw (v := (-1000000011)) dX8_item_29 k_X8_304 ?_
        refine i_goto (tgt := 37) dX8_item_32 (by decide) ?_
        exact e_ir rfl dX8_item_37 h
  · refine i_ldc (v := (-1000000001)) dX8_item_7 k_X8_86 ?_
    exact e_ir rfl dX8_item_9 h
def f_X8_rest  (p1 : Int32) (p2 : Int32) (σ : Mem) : Option Int32 :=
  (bnd (f_X8_isSlot p1 σ) (fun a1 => (if a1 = 0 then (some (-1000000001 : Int32)) else (bnd (ix 5 p1) (fun j1 => (if (σ 28 0 j1) = (3 : Int32) then (if p2 = 0 then (some (-1000000002 : Int32)) else (bnd (ix 5 p1) (fun j2 => (if p2 = 0 then none else (some ((σ 29 0 j2) - (σ 29 0 j2) / p2 * p2)))))) else (bnd (ix 5 p1) (fun j3 => (if (σ 28 0 j3) = 0 then (some (-1000000011 : Int32)) else (some (-1000000012 : Int32)))))))))))
set_option maxRecDepth 100000 in
set_option maxHeartbeats 4000000 in
theorem F_X8_rest {X : Cx} {p1 : Int32} {p2 : Int32} {σ : Mem} {res : Int32}  (h : f_X8_rest p1 p2 σ = some res) : Tri X 3 mX8_rest [rf X 8 0, .int p1, .int p2] σ (some (.int res)) σ := by
  unfold f_X8_rest at h
  refine Tri.of (ls := [some (rf X 8 0), some (.int p1), some (.int p2)]) (by decide) (Nat.le_of_ble_eq_true rfl) rfl ?_
  refine i_iload_n dX8_rest_0 rfl ?_
  refine cS_ir dX8_rest_1 cw_X8_315 ci_X8_isSlot h (fun a1 e => F_X8_isSlot  e) (Nat.le_of_ble_eq_true rfl) rfl rfl (Nat.le_of_ble_eq_true rfl) (fun a1 ea1 h => ?_)
  refine r_if_ne (tgt := 10) dX8_rest_4 (by decide) h (fun c1 h => ?_) (fun c1 h => ?_)
  · refine i_aload_n dX8_rest_10 rfl ?_
    refine gf_X8_28 rfl (by omega) dX8_rest_11 ?_
    refine i_iload_n dX8_rest_14 rfl ?_
    refine al_28 dX8_rest_15 (by omega) h (fun j1 lj1 h => ?_)
    refine i_iconst (v := 3) dX8_rest_16 (by decide) ?_
    refine r_icmp_eq (tgt := 38) dX8_rest_17 (by decide) h (fun c2 h => ?_) (fun c2 h => ?_)
    · refine i_iload_n dX8_rest_38 rfl ?_
      refine r_if_ne (tgt := 47) dX8_rest_39 (by decide) h (fun c3 h => ?_) (fun c3 h => ?_)
      · refine i_aload_n dX8_rest_47 rfl ?_
        refine gf_X8_31 rfl (by omega) dX8_rest_48 ?_
        refine i_iload_n dX8_rest_51 rfl ?_
        refine al_29 dX8_rest_52 (by omega) h (fun j2 lj2 h => ?_)
        refine i_iload_n dX8_rest_53 rfl ?_
        refine r_irem dX8_rest_54 h (fun h => ?_)
        exact e_ir rfl dX8_rest_55 h
      · refine i_ldc (v := (-1000000002)) dX8_rest_42 k_X8_145 ?_
        refine i_goto (tgt := 55) dX8_rest_44 (by decide) ?_
        exact e_ir rfl dX8_rest_55 h
    · refine i_aload_n dX8_rest_20 rfl ?_
      refine gf_X8_28 rfl (by omega) dX8_rest_21 ?_
      refine i_iload_n dX8_rest_24 rfl ?_
      refine al_28 dX8_rest_25 (by omega) h (fun j3 lj3 h => ?_)
      refine r_if_ne (tgt := 35) dX8_rest_26 (by decide) h (fun c4 h => ?_) (fun c4 h => ?_)
      · refine i_ldc (v := (-1000000012)) dX8_rest_35 k_X8_129 ?_
        exact e_ir rfl dX8_rest_37 h
      · refine i_ldcw (v := (-1000000011)) dX8_rest_29 k_X8_304 ?_
        refine i_goto (tgt := 37) dX8_rest_32 (by decide) ?_
        exact e_ir rfl dX8_rest_37 h
  · refine i_ldc (v := (-1000000001)) dX8_rest_7 k_X8_86 ?_
    exact e_ir rfl dX8_rest_9 h
def f_X8_tell  (p1 : Int32) (σ : Mem) : Option (Int32 × Mem) :=
  (if (σ 8 0 31) = (60 : Int32) then (some ((-1000000003 : Int32), σ)) else (bnd (ix 60 (σ 8 0 31)) (fun j1 => (some (((mput (mput σ 40 0 j1 p1) 8 0 31 (((mput σ 40 0 j1 p1) 8 0 31) + (1 : Int32))) 8 0 31), (mput (mput σ 40 0 j1 p1) 8 0 31 (((mput σ 40 0 j1 p1) 8 0 31) + (1 : Int32))))))))
set_option maxRecDepth 100000 in
set_option maxHeartbeats 4000000 in
theorem F_X8_tell {X : Cx} {p1 : Int32} {σ : Mem} {res : (Int32 × Mem)}  (h : f_X8_tell p1 σ = some res) : Tri X 1 mX8_tell [rf X 8 0, .int p1] σ (some (.int res.1)) res.2 := by
  obtain ⟨r0, σ2⟩ := res
  unfold f_X8_tell at h
  refine Tri.of (ls := [some (rf X 8 0), some (.int p1)]) (by decide) (Nat.le_of_ble_eq_true rfl) rfl ?_
  refine i_aload_n dX8_tell_0 rfl ?_
  refine gf_X8_318 rfl (by omega) dX8_tell_1 ?_
  refine i_bipush (v := 60) dX8_tell_4 (by decide) ?_
  refine r_icmp_ne (tgt := 12) dX8_tell_6 (by decide) h (fun c1 h => ?_) (fun c1 h => ?_)
  · refine i_aload_n dX8_tell_12 rfl ?_
    refine gf_X8_64 rfl (by omega) dX8_tell_13 ?_
    refine i_aload_n dX8_tell_16 rfl ?_
    refine gf_X8_318 rfl (by omega) dX8_tell_17 ?_
    refine i_iload_n dX8_tell_20 rfl ?_
    refine as_40 dX8_tell_21 (by omega) h (fun j1 lj1 h => ?_)
    refine i_aload_n dX8_tell_22 rfl ?_
    refine i_dup dX8_tell_23 rfl ?_
    refine gf_X8_318 rfl (by omega) dX8_tell_24 ?_
    refine i_iconst (v := 1) dX8_tell_27 (by decide) ?_
    refine i_iadd dX8_tell_28 ?_
    refine pf_X8_318 rfl (by omega) dX8_tell_29 ?_
    refine i_aload_n dX8_tell_32 rfl ?_
    refine gf_X8_318 rfl (by omega) dX8_tell_33 ?_
    exact e_iw rfl dX8_tell_36 h
  · refine i_ldc (v := (-1000000003)) dX8_tell_9 k_X8_87 ?_
    exact e_iw rfl dX8_tell_11 h
def f_X8_setAside_2 (p1g : Nat) (p1i : Nat) (p2g : Nat) (p2i : Nat) : Nat → Int32 → Mem → (Mem → Option Mem) → Option Mem
  | 0, _, _, _ => none
  | n + 1, v3, σ, k =>
    (if (2908 : Int32) ≤ v3 then (k σ) else (bnd (ix (alen p1g) v3) (fun j1 => (bnd (ix (alen p2g) v3) (fun j2 => (f_X8_setAside_2 p1g p1i p2g p2i n (v3 + (1 : Int32)) (mput σ p2g p2i j2 (σ p1g p1i j1)) k))))))
set_option maxRecDepth 100000 in
set_option maxHeartbeats 4000000 in
theorem L_X8_setAside_2 {X : Cx} {p1g : Nat} {p1i : Nat} {p2g : Nat} {p2i : Nat} {σ2 : Mem} {k : Mem → Option Mem} (h1g : 9 ≤ p1g ∧ p1g < 42) (h1k : ak p1g = 1) (h1i : p1i < cnt p1g) (h2g : 9 ≤ p2g ∧ p2g < 42) (h2k : ak p2g = 1) (h2i : p2i < cnt p2g) : ∀ (n : Nat) (v3 : Int32) (σ : Mem), f_X8_setAside_2 p1g p1i p2g p2i n v3 σ k = some σ2 → (∀ (σ1 : Mem), k σ1 = some σ2 → At X 1 mX8_setAside 21 [none, none, none, none] [] σ1 none σ2) → At X 1 mX8_setAside 2 [none, some (rf X p1g p1i), some (rf X p2g p2i), some (.int v3)] [] σ none σ2 := by
  intro n
  induction n with
  | zero =>
    intro v3 σ h
    cases h
  | succ n ih =>
    intro v3 σ h hk
    rw [f_X8_setAside_2.eq_2] at h
    refine i_iload_n dX8_setAside_2 rfl ?_
    refine i_sipush (v := 2908) dX8_setAside_3 (by decide) ?_
    refine r_icmp_ge (tgt := 21) dX8_setAside_6 (by decide) h (fun c1 h => ?_) (fun c1 h => ?_)
    · refine At.fewer (ls' := [none, none, none, none]) trivial ?_
      exact hk _ h
    · refine i_aload_n dX8_setAside_9 rfl ?_
      refine i_iload_n dX8_setAside_10 rfl ?_
      refine i_aload_n dX8_setAside_11 rfl ?_
      refine i_iload_n dX8_setAside_12 rfl ?_
      refine r_iald dX8_setAside_13 h1g h1k rfl h1i h (fun j1 lj1 h => ?_)
      refine r_iast dX8_setAside_14 h2g h2k rfl h2i h (fun j2 lj2 h => ?_)
      refine i_iinc (v := (v3 + (1 : Int32))) (ls' := [none, some (rf X p1g p1i), some (rf X p2g p2i), some (.int (v3 + (1 : Int32)))]) dX8_setAside_15 rfl (by rfl) (by decide) (okp_at rfl) rfl ?_
      refine i_goto (tgt := 2) dX8_setAside_18 (by decide) ?_
      exact ih _ _ h hk
def f_X8_setAside  (p1g : Nat) (p1i : Nat) (p2g : Nat) (p2i : Nat) (σ : Mem) : Option Mem :=
  (f_X8_setAside_2 p1g p1i p2g p2i FU (0 : Int32) σ (fun σ_1 => (some σ_1)))
set_option maxRecDepth 100000 in
set_option maxHeartbeats 4000000 in
theorem F_X8_setAside {X : Cx} {p1g : Nat} {p1i : Nat} {p2g : Nat} {p2i : Nat} {σ : Mem} {res : Mem} (h1g : 9 ≤ p1g ∧ p1g < 42) (h1k : ak p1g = 1) (h1i : p1i < cnt p1g) (h2g : 9 ≤ p2g ∧ p2g < 42) (h2k : ak p2g = 1) (h2i : p2i < cnt p2g) (h : f_X8_setAside p1g p1i p2g p2i σ = some res) : Tri X 1 mX8_setAside [rf X 8 0, rf X p1g p1i, rf X p2g p2i] σ none res := by
  unfold f_X8_setAside at h
  refine Tri.of (ls := [some (rf X 8 0), some (rf X p1g p1i), some (rf X p2g p2i), none]) (by decide) (Nat.le_of_ble_eq_true rfl) rfl ?_
  refine i_iconst (v := 0) dX8_setAside_0 (by decide) ?_
  refine i_istore_n (ls' := [some (rf X 8 0), some (rf X p1g p1i), some (rf X p2g p2i), some (.int (0 : Int32))]) dX8_setAside_1 (by decide) (okp_at rfl) rfl ?_
  refine At.fewer (ls' := [none, some (rf X p1g p1i), some (rf X p2g p2i), some (.int (0 : Int32))]) (And.intro rfl (And.intro rfl (And.intro rfl trivial))) ?_
  refine L_X8_setAside_2 h1g h1k h1i h2g h2k h2i FU _ _ h (fun σ_1 h => ?_)
  exact e_vw rfl dX8_setAside_21 h
def f_X8_check_64 (p1 : Int32) (p2 : Int32) : Nat → Int32 → Int32 → Mem → (Int32 → Mem → Option (Int32 × Mem)) → Option (Int32 × Mem)
  | 0, _, _, _, _ => none
  | n + 1, v3, v4, σ, k =>
    (if p1 ≤ v4 then (k v3 σ) else (bnd (ix 3108 (2 : Int32)) (fun j1 => (if (9999 : Int32) ≤ (σ 22 0 j1) then (k v3 σ) else (bnd (f_X8_goesOn σ) (fun a1 => (bnd (ix 3108 (3 : Int32)) (fun j2 => (bnd (ix 60 v3) (fun j3 => (bnd (ix 3108 (5 : Int32)) (fun j4 => (bnd (ix 60 (v3 + (1 : Int32))) (fun j5 => (f_X8_check_64 p1 p2 n (v3 + (2 : Int32)) (v4 + (1 : Int32)) (mput (mput a1 41 0 j3 (a1 22 0 j2)) 41 0 j5 ((mput a1 41 0 j3 (a1 22 0 j2)) 22 0 j4)) k)))))))))))))))
set_option maxRecDepth 100000 in
set_option maxHeartbeats 4000000 in
theorem L_X8_check_64 {X : Cx} {p1 : Int32} {p2 : Int32} {r0 : Int32} {σ2 : Mem} {k : Int32 → Mem → Option (Int32 × Mem)}  : ∀ (n : Nat) (v3 : Int32) (v4 : Int32) (σ : Mem), f_X8_check_64 p1 p2 n v3 v4 σ k = some (r0, σ2) → (∀ (x3 : Int32) (σ1 : Mem), k x3 σ1 = some (r0, σ2) → At X 5 mX8_check 121 [some (rf X 8 0), none, some (.int p2), some (.int x3), none] [] σ1 (some (.int r0)) σ2) → At X 5 mX8_check 64 [some (rf X 8 0), some (.int p1), some (.int p2), some (.int v3), some (.int v4)] [] σ (some (.int r0)) σ2 := by
  intro n
  induction n with
  | zero =>
    intro v3 v4 σ h
    cases h
  | succ n ih =>
    intro v3 v4 σ h hk
    rw [f_X8_check_64.eq_2] at h
    refine i_iload dX8_check_64 rfl ?_
    refine i_iload_n dX8_check_66 rfl ?_
    refine r_icmp_ge (tgt := 121) dX8_check_67 (by decide) h (fun c1 h => ?_) (fun c1 h => ?_)
    · refine At.fewer (ls' := [some (rf X 8 0), none, some (.int p2), some (.int v3), none]) (And.intro rfl (And.intro rfl (And.intro rfl trivial))) ?_
      exact hk _ _ h
    · refine i_aload_n dX8_check_70 rfl ?_
      refine gf_X8_7 rfl (by omega) dX8_check_71 ?_
      refine i_iconst (v := 2) dX8_check_74 (by decide) ?_
      refine al_22 dX8_check_75 (by omega) h (fun j1 lj1 h => ?_)
      refine i_sipush (v := 9999) dX8_check_76 (by decide) ?_
      refine r_icmp_ge (tgt := 121) dX8_check_79 (by decide) h (fun c2 h => ?_) (fun c2 h => ?_)
      · refine At.fewer (ls' := [some (rf X 8 0), none, some (.int p2), some (.int v3), none]) (And.intro rfl (And.intro rfl (And.intro rfl trivial))) ?_
        exact hk _ _ h
      · refine i_aload_n dX8_check_82 rfl ?_
        refine cV_vw dX8_check_83 cw_X8_168 ci_X8_goesOn rfl rfl (by decide) (show 0 < 1 by omega) h (fun a1 e => F_X8_goesOn  e) (Nat.le_of_ble_eq_true rfl) rfl rfl (Nat.le_of_ble_eq_true rfl) (fun a1 ea1 h => ?_)
        refine i_aload_n dX8_check_86 rfl ?_
        refine gf_X8_67 rfl (by omega) dX8_check_87 ?_
        refine i_iload_n dX8_check_90 rfl ?_
        refine i_aload_n dX8_check_91 rfl ?_
        refine gf_X8_7 rfl (by omega) dX8_check_92 ?_
        refine i_iconst (v := 3) dX8_check_95 (by decide) ?_
        refine al_22 dX8_check_96 (by omega) h (fun j2 lj2 h => ?_)
        refine as_41 dX8_check_97 (by omega) h (fun j3 lj3 h => ?_)
        refine i_aload_n dX8_check_98 rfl ?_
        refine gf_X8_67 rfl (by omega) dX8_check_99 ?_
        refine i_iload_n dX8_check_102 rfl ?_
        refine i_iconst (v := 1) dX8_check_103 (by decide) ?_
        refine i_iadd dX8_check_104 ?_
        refine i_aload_n dX8_check_105 rfl ?_
        refine gf_X8_7 rfl (by omega) dX8_check_106 ?_
        refine i_iconst (v := 5) dX8_check_109 (by decide) ?_
        refine al_22 dX8_check_110 (by omega) h (fun j4 lj4 h => ?_)
        refine as_41 dX8_check_111 (by omega) h (fun j5 lj5 h => ?_)
        refine i_iinc (v := (v3 + (2 : Int32))) (ls' := [some (rf X 8 0), some (.int p1), some (.int p2), some (.int (v3 + (2 : Int32))), some (.int v4)]) dX8_check_112 rfl (by rfl) (by decide) (okp_at rfl) rfl ?_
        refine i_iinc (v := (v4 + (1 : Int32))) (ls' := [some (rf X 8 0), some (.int p1), some (.int p2), some (.int (v3 + (2 : Int32))), some (.int (v4 + (1 : Int32)))]) dX8_check_115 rfl (by rfl) (by decide) (okp_at rfl) rfl ?_
        refine i_goto (tgt := 64) dX8_check_118 (by decide) ?_
        exact ih _ _ _ h hk
def f_X8_check_136 (p2 : Int32) (p3 : Int32) (σ : Mem) : Nat → Int32 → (Int32 → Option (Int32 × Mem)) → Option (Int32 × Mem)
  | 0, _, _ => none
  | n + 1, v4, k =>
    (if p2 ≤ v4 then (k v4) else (if p3 ≤ v4 then (k v4) else (bnd (ix 60 v4) (fun j1 => (bnd (ix 60 v4) (fun j2 => (if (σ 40 0 j1) = (σ 41 0 j2) then (f_X8_check_136 p2 p3 σ n (v4 + (1 : Int32)) k) else (k v4))))))))
set_option maxRecDepth 100000 in
set_option maxHeartbeats 4000000 in
theorem L_X8_check_136 {X : Cx} {p2 : Int32} {p3 : Int32} {σ : Mem} {r0 : Int32} {σ2 : Mem} {k : Int32 → Option (Int32 × Mem)}  : ∀ (n : Nat) (v4 : Int32), f_X8_check_136 p2 p3 σ n v4 k = some (r0, σ2) → (∀ (x4 : Int32), k x4 = some (r0, σ2) → At X 5 mX8_check 171 [none, none, some (.int p2), some (.int p3), some (.int x4)] [] σ (some (.int r0)) σ2) → At X 5 mX8_check 136 [some (rf X 8 0), none, some (.int p2), some (.int p3), some (.int v4)] [] σ (some (.int r0)) σ2 := by
  intro n
  induction n with
  | zero =>
    intro v4 h
    cases h
  | succ n ih =>
    intro v4 h hk
    rw [f_X8_check_136.eq_2] at h
    refine i_iload dX8_check_136 rfl ?_
    refine i_iload_n dX8_check_138 rfl ?_
    refine r_icmp_ge (tgt := 171) dX8_check_139 (by decide) h (fun c1 h => ?_) (fun c1 h => ?_)
    · refine At.fewer (ls' := [none, none, some (.int p2), some (.int p3), some (.int v4)]) (And.intro rfl (And.intro rfl (And.intro rfl trivial))) ?_
      exact hk _ h
    · refine i_iload dX8_check_142 rfl ?_
      refine i_iload_n dX8_check_144 rfl ?_
      refine r_icmp_ge (tgt := 171) dX8_check_145 (by decide) h (fun c2 h => ?_) (fun c2 h => ?_)
      · refine At.fewer (ls' := [none, none, some (.int p2), some (.int p3), some (.int v4)]) (And.intro rfl (And.intro rfl (And.intro rfl trivial))) ?_
        exact hk _ h
      · refine i_aload_n dX8_check_148 rfl ?_
        refine gf_X8_64 rfl (by omega) dX8_check_149 ?_
        refine i_iload dX8_check_152 rfl ?_
        refine al_40 dX8_check_154 (by omega) h (fun j1 lj1 h => ?_)
        refine i_aload_n dX8_check_155 rfl ?_
        refine gf_X8_67 rfl (by omega) dX8_check_156 ?_
        refine i_iload dX8_check_159 rfl ?_
        refine al_41 dX8_check_161 (by omega) h (fun j2 lj2 h => ?_)
        refine r_icmp_ne (tgt := 171) dX8_check_162 (by decide) h (fun c3 h => ?_) (fun c3 h => ?_)
        · refine At.fewer (ls' := [none, none, some (.int p2), some (.int p3), some (.int v4)]) (And.intro rfl (And.intro rfl (And.intro rfl trivial))) ?_
          exact hk _ h
        · refine i_iinc (v := (v4 + (1 : Int32))) (ls' := [some (rf X 8 0), none, some (.int p2), some (.int p3), some (.int (v4 + (1 : Int32)))]) dX8_check_165 rfl (by rfl) (by decide) (okp_at rfl) rfl ?_
          refine i_goto (tgt := 136) dX8_check_168 (by decide) ?_
          exact ih _ h hk
def f_X8_check  (p1 : Int32) (σ : Mem) : Option (Int32 × Mem) :=
  (bnd (f_X8_isIn ((p1).toInt64) ((1 : Int64)) ((30 : Int64)) (mput σ 8 0 31 (0 : Int32))) (fun a1 => (if a1 = 0 then (some ((-1000000001 : Int32), (mput σ 8 0 31 (0 : Int32)))) else (if ((mput σ 8 0 31 (0 : Int32)) 8 0 3) = 0 then (some ((-1000000002 : Int32), (mput σ 8 0 31 (0 : Int32)))) else (bnd (f_X8_setAside 22 0 24 0 (mput σ 8 0 31 (0 : Int32))) (fun a2 => (bnd (f_X8_setAside 23 0 22 0 a2) (fun a3 => (f_X8_check_64 p1 (σ 8 0 31) FU (0 : Int32) (0 : Int32) a3 (fun e1 σ_1 => (bnd (f_X8_setAside 24 0 22 0 σ_1) (fun a4 => (f_X8_check_136 (σ 8 0 31) e1 a4 FU (0 : Int32) (fun e2 => (if e2 = (σ 8 0 31) then (if e2 = e1 then (some ((0 : Int32), a4)) else (some (((1 : Int32) + e2), a4))) else (some (((1 : Int32) + e2), a4)))))))))))))))))
set_option maxRecDepth 100000 in
set_option maxHeartbeats 4000000 in
theorem F_X8_check {X : Cx} {p1 : Int32} {σ : Mem} {res : (Int32 × Mem)}  (h : f_X8_check p1 σ = some res) : Tri X 5 mX8_check [rf X 8 0, .int p1] σ (some (.int res.1)) res.2 := by
  obtain ⟨r0, σ2⟩ := res
  unfold f_X8_check at h
  refine Tri.of (ls := [some (rf X 8 0), some (.int p1), none, none, none]) (by decide) (Nat.le_of_ble_eq_true rfl) rfl ?_
  refine i_aload_n dX8_check_0 rfl ?_
  refine gf_X8_318 rfl (by omega) dX8_check_1 ?_
  refine i_istore_n (ls' := [some (rf X 8 0), some (.int p1), some (.int (σ 8 0 31)), none, none]) dX8_check_4 (by decide) (okp_at rfl) rfl ?_
  refine i_aload_n dX8_check_5 rfl ?_
  refine i_iconst (v := 0) dX8_check_6 (by decide) ?_
  refine pf_X8_318 rfl (by omega) dX8_check_7 ?_
  refine i_iload_n dX8_check_10 rfl ?_
  refine i_i2l dX8_check_11 ?_
  refine i_lconst (v := 1) dX8_check_12 (by decide) ?_
  refine i_ldc2 (v := 30) dX8_check_13 k_X8_321 ?_
  refine cS_ir dX8_check_16 cw_X8_71 ci_X8_isIn h (fun a1 e => F_X8_isIn  e) (Nat.le_of_ble_eq_true rfl) rfl rfl (Nat.le_of_ble_eq_true rfl) (fun a1 ea1 h => ?_)
  refine r_if_ne (tgt := 25) dX8_check_19 (by decide) h (fun c1 h => ?_) (fun c1 h => ?_)
  · refine i_aload_n dX8_check_25 rfl ?_
    refine gf_X8_323 rfl (by omega) dX8_check_26 ?_
    refine r_if_ne (tgt := 35) dX8_check_29 (by decide) h (fun c2 h => ?_) (fun c2 h => ?_)
    · refine i_aload_n dX8_check_35 rfl ?_
      refine i_aload_n dX8_check_36 rfl ?_
      refine gf_X8_7 rfl (by omega) dX8_check_37 ?_
      refine i_aload_n dX8_check_40 rfl ?_
      refine gf_X8_16 rfl (by omega) dX8_check_41 ?_
      refine cV_vw dX8_check_44 cw_X8_327 ci_X8_setAside rfl rfl (by decide) (show 0 < 1 by omega) h (fun a2 e => F_X8_setAside (by decide) rfl (show 0 < 1 by omega) (by decide) rfl (show 0 < 1 by omega) e) (Nat.le_of_ble_eq_true rfl) rfl rfl (Nat.le_of_ble_eq_true rfl) (fun a2 ea2 h => ?_)
      refine i_aload_n dX8_check_47 rfl ?_
      refine i_aload_n dX8_check_48 rfl ?_
      refine gf_X8_13 rfl (by omega) dX8_check_49 ?_
      refine i_aload_n dX8_check_52 rfl ?_
      refine gf_X8_7 rfl (by omega) dX8_check_53 ?_
      refine cV_vw dX8_check_56 cw_X8_327 ci_X8_setAside rfl rfl (by decide) (show 0 < 1 by omega) h (fun a3 e => F_X8_setAside (by decide) rfl (show 0 < 1 by omega) (by decide) rfl (show 0 < 1 by omega) e) (Nat.le_of_ble_eq_true rfl) rfl rfl (Nat.le_of_ble_eq_true rfl) (fun a3 ea3 h => ?_)
      refine i_iconst (v := 0) dX8_check_59 (by decide) ?_
      refine i_istore_n (ls' := [some (rf X 8 0), some (.int p1), some (.int (σ 8 0 31)), some (.int (0 : Int32)), none]) dX8_check_60 (by decide) (okp_at rfl) rfl ?_
      refine i_iconst (v := 0) dX8_check_61 (by decide) ?_
      refine i_istore (ls' := [some (rf X 8 0), some (.int p1), some (.int (σ 8 0 31)), some (.int (0 : Int32)), some (.int (0 : Int32))]) dX8_check_62 (by decide) (okp_at rfl) rfl ?_
      refine L_X8_check_64  FU _ _ _ h (fun e1 σ_1 h => ?_)
      refine i_aload_n dX8_check_121 rfl ?_
      refine i_aload_n dX8_check_122 rfl ?_
      refine gf_X8_16 rfl (by omega) dX8_check_123 ?_
      refine i_aload_n dX8_check_126 rfl ?_
      refine gf_X8_7 rfl (by omega) dX8_check_127 ?_
      refine cV_vw dX8_check_130 cw_X8_327 ci_X8_setAside rfl rfl (by decide) (show 0 < 1 by omega) h (fun a4 e => F_X8_setAside (by decide) rfl (show 0 < 1 by omega) (by decide) rfl (show 0 < 1 by omega) e) (Nat.le_of_ble_eq_true rfl) rfl rfl (Nat.le_of_ble_eq_true rfl) (fun a4 ea4 h => ?_)
      refine i_iconst (v := 0) dX8_check_133 (by decide) ?_
      refine i_istore (ls' := [some (rf X 8 0), none, some (.int (σ 8 0 31)), some (.int e1), some (.int (0 : Int32))]) dX8_check_134 (by decide) (okp_at rfl) rfl ?_
      refine L_X8_check_136  FU _ h (fun e2 h => ?_)
      refine i_iload dX8_check_171 rfl ?_
      refine i_iload_n dX8_check_173 rfl ?_
      refine r_icmp_ne (tgt := 187) dX8_check_174 (by decide) h (fun c3 h => ?_) (fun c3 h => ?_)
      · refine i_iconst (v := 1) dX8_check_187 (by decide) ?_
        refine i_iload dX8_check_188 rfl ?_
        refine i_iadd dX8_check_190 ?_
        exact e_iw rfl dX8_check_191 h
      · refine i_iload dX8_check_177 rfl ?_
        refine i_iload_n dX8_check_179 rfl ?_
        refine r_icmp_ne (tgt := 187) dX8_check_180 (by decide) h (fun c4 h => ?_) (fun c4 h => ?_)
        · refine i_iconst (v := 1) dX8_check_187 (by decide) ?_
          refine i_iload dX8_check_188 rfl ?_
          refine i_iadd dX8_check_190 ?_
          exact e_iw rfl dX8_check_191 h
        · refine i_iconst (v := 0) dX8_check_183 (by decide) ?_
          refine i_goto (tgt := 191) dX8_check_184 (by decide) ?_
          exact e_iw rfl dX8_check_191 h
    · refine i_ldc (v := (-1000000002)) dX8_check_32 k_X8_145 ?_
      exact e_iw rfl dX8_check_34 h
  · refine i_ldc (v := (-1000000001)) dX8_check_22 k_X8_86 ?_
    exact e_iw rfl dX8_check_24 h
def f_X8_keep   (σ : Mem) : Option (Int32 × Mem) :=
  (bnd (f_X8_setAside 22 0 23 0 (mput σ 8 0 3 (1 : Int32))) (fun a1 => (bnd (ix 3108 (0 : Int32)) (fun j1 => (some ((a1 22 0 j1), a1))))))
set_option maxRecDepth 100000 in
set_option maxHeartbeats 4000000 in
theorem F_X8_keep {X : Cx}  {σ : Mem} {res : (Int32 × Mem)}  (h : f_X8_keep σ = some res) : Tri X 2 mX8_keep [rf X 8 0] σ (some (.int res.1)) res.2 := by
  obtain ⟨r0, σ2⟩ := res
  unfold f_X8_keep at h
  refine Tri.of (ls := [some (rf X 8 0)]) (by decide) (Nat.le_of_ble_eq_true rfl) rfl ?_
  refine i_aload_n dX8_keep_0 rfl ?_
  refine i_iconst (v := 1) dX8_keep_1 (by decide) ?_
  refine pf_X8_323 rfl (by omega) (by decide) dX8_keep_2 ?_
  refine i_aload_n dX8_keep_5 rfl ?_
  refine i_aload_n dX8_keep_6 rfl ?_
  refine gf_X8_7 rfl (by omega) dX8_keep_7 ?_
  refine i_aload_n dX8_keep_10 rfl ?_
  refine gf_X8_13 rfl (by omega) dX8_keep_11 ?_
  refine cV_vw dX8_keep_14 cw_X8_327 ci_X8_setAside rfl rfl (by decide) (show 0 < 1 by omega) h (fun a1 e => F_X8_setAside (by decide) rfl (show 0 < 1 by omega) (by decide) rfl (show 0 < 1 by omega) e) (Nat.le_of_ble_eq_true rfl) rfl rfl (Nat.le_of_ble_eq_true rfl) (fun a1 ea1 h => ?_)
  refine i_aload_n dX8_keep_17 rfl ?_
  refine gf_X8_7 rfl (by omega) dX8_keep_18 ?_
  refine i_iconst (v := 0) dX8_keep_21 (by decide) ?_
  refine al_22 dX8_keep_22 (by omega) h (fun j1 lj1 h => ?_)
  exact e_iw rfl dX8_keep_23 h
def f_X8_back   (σ : Mem) : Option (Int32 × Mem) :=
  (if (σ 8 0 3) = 0 then (some ((-1000000002 : Int32), σ)) else (bnd (f_X8_setAside 23 0 22 0 σ) (fun a1 => (bnd (ix 3108 (0 : Int32)) (fun j1 => (some ((a1 22 0 j1), a1)))))))
set_option maxRecDepth 100000 in
set_option maxHeartbeats 4000000 in
theorem F_X8_back {X : Cx}  {σ : Mem} {res : (Int32 × Mem)}  (h : f_X8_back σ = some res) : Tri X 2 mX8_back [rf X 8 0] σ (some (.int res.1)) res.2 := by
  obtain ⟨r0, σ2⟩ := res
  unfold f_X8_back at h
  refine Tri.of (ls := [some (rf X 8 0)]) (by decide) (Nat.le_of_ble_eq_true rfl) rfl ?_
  refine i_aload_n dX8_back_0 rfl ?_
  refine gf_X8_323 rfl (by omega) dX8_back_1 ?_
  refine r_if_ne (tgt := 10) dX8_back_4 (by decide) h (fun c1 h => ?_) (fun c1 h => ?_)
  · refine i_aload_n dX8_back_10 rfl ?_
    refine i_aload_n dX8_back_11 rfl ?_
    refine gf_X8_13 rfl (by omega) dX8_back_12 ?_
    refine i_aload_n dX8_back_15 rfl ?_
    refine gf_X8_7 rfl (by omega) dX8_back_16 ?_
    refine cV_vw dX8_back_19 cw_X8_327 ci_X8_setAside rfl rfl (by decide) (show 0 < 1 by omega) h (fun a1 e => F_X8_setAside (by decide) rfl (show 0 < 1 by omega) (by decide) rfl (show 0 < 1 by omega) e) (Nat.le_of_ble_eq_true rfl) rfl rfl (Nat.le_of_ble_eq_true rfl) (fun a1 ea1 h => ?_)
    refine i_aload_n dX8_back_22 rfl ?_
    refine gf_X8_7 rfl (by omega) dX8_back_23 ?_
    refine i_iconst (v := 0) dX8_back_26 (by decide) ?_
    refine al_22 dX8_back_27 (by omega) h (fun j1 lj1 h => ?_)
    exact e_iw rfl dX8_back_28 h
  · refine i_ldc (v := (-1000000002)) dX8_back_7 k_X8_145 ?_
    exact e_iw rfl dX8_back_9 h
def f_X8_count  (p1 : Int32) (σ : Mem) : Option Int32 :=
  (if p1 = (0 : Int32) then (bnd (ix 3108 (0 : Int32)) (fun j1 => (some (σ 22 0 j1)))) else (if p1 = (1 : Int32) then (bnd (ix 3108 (3 : Int32)) (fun j2 => (some (σ 22 0 j2)))) else (if p1 = (2 : Int32) then (bnd (ix 3108 (2 : Int32)) (fun j3 => (some (σ 22 0 j3)))) else (if p1 = (3 : Int32) then (bnd (f_X8_manyStruck σ) (fun a1 => (some a1))) else (if p1 = (4 : Int32) then (bnd (ix 3108 (1 : Int32)) (fun j4 => (some (σ 22 0 j4)))) else (if p1 = (5 : Int32) then (some (σ 8 0 31)) else (if p1 = (6 : Int32) then (some (σ 8 0 16)) else (if p1 = (7 : Int32) then (bnd (ix 3108 (6 : Int32)) (fun j5 => (some (σ 22 0 j5)))) else (some (-1000000001 : Int32))))))))))
set_option maxRecDepth 100000 in
set_option maxHeartbeats 4000000 in
theorem F_X8_count {X : Cx} {p1 : Int32} {σ : Mem} {res : Int32}  (h : f_X8_count p1 σ = some res) : Tri X 3 mX8_count [rf X 8 0, .int p1] σ (some (.int res)) σ := by
  unfold f_X8_count at h
  refine Tri.of (ls := [some (rf X 8 0), some (.int p1)]) (by decide) (Nat.le_of_ble_eq_true rfl) rfl ?_
  refine i_iload_n dX8_count_0 rfl ?_
  refine r_case (c := p1 = (0 : Int32)) h (fun c1 h => ?_) (fun c1 h => ?_)
  · refine i_tin (tgt := 48) (off := 47) dX8_count_1 (0 : Int32) c1 (by decide) (by decide) (by decide) (by decide) ?_
    refine i_aload_n dX8_count_48 rfl ?_
    refine gf_X8_7 rfl (by omega) dX8_count_49 ?_
    refine i_iconst (v := 0) dX8_count_52 (by decide) ?_
    refine al_22 dX8_count_53 (by omega) h (fun j1 lj1 h => ?_)
    exact e_ir rfl dX8_count_54 h
  · refine r_case (c := p1 = (1 : Int32)) h (fun c2 h => ?_) (fun c2 h => ?_)
    · refine i_tin (tgt := 55) (off := 54) dX8_count_1 (1 : Int32) c2 (by decide) (by decide) (by decide) (by decide) ?_
      refine i_aload_n dX8_count_55 rfl ?_
      refine gf_X8_7 rfl (by omega) dX8_count_56 ?_
      refine i_iconst (v := 3) dX8_count_59 (by decide) ?_
      refine al_22 dX8_count_60 (by omega) h (fun j2 lj2 h => ?_)
      exact e_ir rfl dX8_count_61 h
    · refine r_case (c := p1 = (2 : Int32)) h (fun c3 h => ?_) (fun c3 h => ?_)
      · refine i_tin (tgt := 62) (off := 61) dX8_count_1 (2 : Int32) c3 (by decide) (by decide) (by decide) (by decide) ?_
        refine i_aload_n dX8_count_62 rfl ?_
        refine gf_X8_7 rfl (by omega) dX8_count_63 ?_
        refine i_iconst (v := 2) dX8_count_66 (by decide) ?_
        refine al_22 dX8_count_67 (by omega) h (fun j3 lj3 h => ?_)
        exact e_ir rfl dX8_count_68 h
      · refine r_case (c := p1 = (3 : Int32)) h (fun c4 h => ?_) (fun c4 h => ?_)
        · refine i_tin (tgt := 69) (off := 68) dX8_count_1 (3 : Int32) c4 (by decide) (by decide) (by decide) (by decide) ?_
          refine i_aload_n dX8_count_69 rfl ?_
          refine cV_ir dX8_count_70 cw_X8_331 ci_X8_manyStruck rfl rfl (by decide) (show 0 < 1 by omega) h (fun a1 e => F_X8_manyStruck  e) (Nat.le_of_ble_eq_true rfl) rfl rfl (Nat.le_of_ble_eq_true rfl) (fun a1 ea1 h => ?_)
          exact e_ir rfl dX8_count_73 h
        · refine r_case (c := p1 = (4 : Int32)) h (fun c5 h => ?_) (fun c5 h => ?_)
          · refine i_tin (tgt := 74) (off := 73) dX8_count_1 (4 : Int32) c5 (by decide) (by decide) (by decide) (by decide) ?_
            refine i_aload_n dX8_count_74 rfl ?_
            refine gf_X8_7 rfl (by omega) dX8_count_75 ?_
            refine i_iconst (v := 1) dX8_count_78 (by decide) ?_
            refine al_22 dX8_count_79 (by omega) h (fun j4 lj4 h => ?_)
            exact e_ir rfl dX8_count_80 h
          · refine r_case (c := p1 = (5 : Int32)) h (fun c6 h => ?_) (fun c6 h => ?_)
            · refine i_tin (tgt := 81) (off := 80) dX8_count_1 (5 : Int32) c6 (by decide) (by decide) (by decide) (by decide) ?_
              refine i_aload_n dX8_count_81 rfl ?_
              refine gf_X8_318 rfl (by omega) dX8_count_82 ?_
              exact e_ir rfl dX8_count_85 h
            · refine r_case (c := p1 = (6 : Int32)) h (fun c7 h => ?_) (fun c7 h => ?_)
              · refine i_tin (tgt := 86) (off := 85) dX8_count_1 (6 : Int32) c7 (by decide) (by decide) (by decide) (by decide) ?_
                refine i_aload_n dX8_count_86 rfl ?_
                refine gf_X8_201 rfl (by omega) dX8_count_87 ?_
                exact e_ir rfl dX8_count_90 h
              · refine r_case (c := p1 = (7 : Int32)) h (fun c8 h => ?_) (fun c8 h => ?_)
                · refine i_tin (tgt := 91) (off := 90) dX8_count_1 (7 : Int32) c8 (by decide) (by decide) (by decide) (by decide) ?_
                  refine i_aload_n dX8_count_91 rfl ?_
                  refine gf_X8_7 rfl (by omega) dX8_count_92 ?_
                  refine i_bipush (v := 6) dX8_count_95 (by decide) ?_
                  refine al_22 dX8_count_97 (by omega) h (fun j5 lj5 h => ?_)
                  exact e_ir rfl dX8_count_98 h
                · refine i_tout (tgt := 99) dX8_count_1 (tsw_0_7 c1 c2 c3 c4 c5 c6 c7 c8) (by decide) ?_
                  refine i_ldc (v := (-1000000001)) dX8_count_99 k_X8_86 ?_
                  exact e_ir rfl dX8_count_101 h
end
