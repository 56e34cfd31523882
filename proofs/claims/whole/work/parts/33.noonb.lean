noncomputable section
def f_X7_fee   (σ : Mem) : Option (Int32 × Mem) :=
  (bnd (ix 3 (1 : Int32)) (fun j1 => (if 0 ≤ (σ 16 0 j1) then (bnd (f_X2_gives (σ 16 0 j1) (σ 0 0 7) (σ 0 0 8) (0 : Int32) σ) (fun a1 => (some (a1.1, a1.2)))) else (some ((σ 0 0 8), σ)))))
set_option maxRecDepth 100000 in
set_option maxHeartbeats 4000000 in
theorem F_X7_fee {X : Cx}  {σ : Mem} {res : (Int32 × Mem)}  (h : f_X7_fee σ = some res) : Tri X 3 mX7_fee [rf X 7 0] σ (some (.int res.1)) res.2 := by
  obtain ⟨r0, σ2⟩ := res
  unfold f_X7_fee at h
  refine Tri.of (ls := [some (rf X 7 0), none]) (by decide) (Nat.le_of_ble_eq_true rfl) rfl ?_
  refine i_aload_n dX7_fee_0 rfl ?_
  refine gf_X7_21 rfl (by omega) dX7_fee_1 ?_
  refine gf_X7_225 rfl (by omega) dX7_fee_4 ?_
  refine i_iconst (v := 1) dX7_fee_7 (by decide) ?_
  refine al_16 dX7_fee_8 (by omega) h (fun j1 lj1 h => ?_)
  refine i_istore_n (ls' := [some (rf X 7 0), some (.int (σ 16 0 j1))]) dX7_fee_9 (by decide) (okp_at rfl) rfl ?_
  refine i_iload_n dX7_fee_10 rfl ?_
  refine r_if_ge (tgt := 24) dX7_fee_11 (by decide) h (fun c1 h => ?_) (fun c1 h => ?_)
  · refine i_aload_n dX7_fee_24 rfl ?_
    refine gf_X7_10 rfl (by omega) dX7_fee_25 ?_
    refine i_iload_n dX7_fee_28 rfl ?_
    refine i_aload_n dX7_fee_29 rfl ?_
    refine gf_X7_21 rfl (by omega) dX7_fee_30 ?_
    refine gf_X7_182 rfl (by omega) dX7_fee_33 ?_
    refine i_aload_n dX7_fee_36 rfl ?_
    refine gf_X7_21 rfl (by omega) dX7_fee_37 ?_
    refine gf_X7_164 rfl (by omega) dX7_fee_40 ?_
    refine i_iconst (v := 0) dX7_fee_43 (by decide) ?_
    refine cVN_iw dX7_fee_44 cw_X7_228 ci_X2_gives rfl rfl (by decide) (show 0 < 1 by omega) h (fun a1 e => F_X2_gives  e) (Nat.le_of_ble_eq_true rfl) rfl rfl (Nat.le_of_ble_eq_true rfl) (fun a1 ea1 h => ?_)
    exact e_iw rfl dX7_fee_47 h
  · refine i_aload_n dX7_fee_14 rfl ?_
    refine gf_X7_21 rfl (by omega) dX7_fee_15 ?_
    refine gf_X7_164 rfl (by omega) dX7_fee_18 ?_
    refine i_goto (tgt := 47) dX7_fee_21 (by decide) ?_
    exact e_iw rfl dX7_fee_47 h
def f_X7_fine  (p1 : Int32) (σ : Mem) : Option (Int32 × Mem) :=
  (bnd (f_X0_hasPerson 0 p1 σ) (fun a1 => (if a1 = 0 then (some ((-1000000001 : Int32), σ)) else (bnd (ix 10 p1) (fun j1 => (bnd (ix 3 (2 : Int32)) (fun j2 => (if 0 ≤ (σ 16 0 j2) then (bnd (f_X2_gives (σ 16 0 j2) (σ 3 (10 * 0 + j1) 3) (σ 3 (10 * 0 + j1) 1) (0 : Int32) σ) (fun a2 => (some (a2.1, a2.2)))) else (some ((σ 3 (10 * 0 + j1) 3), σ))))))))))
set_option maxRecDepth 100000 in
set_option maxHeartbeats 4000000 in
theorem F_X7_fine {X : Cx} {p1 : Int32} {σ : Mem} {res : (Int32 × Mem)}  (h : f_X7_fine p1 σ = some res) : Tri X 3 mX7_fine [rf X 7 0, .int p1] σ (some (.int res.1)) res.2 := by
  obtain ⟨r0, σ2⟩ := res
  unfold f_X7_fine at h
  refine Tri.of (ls := [some (rf X 7 0), some (.int p1), none, none]) (by decide) (Nat.le_of_ble_eq_true rfl) rfl ?_
  refine i_aload_n dX7_fine_0 rfl ?_
  refine gf_X7_21 rfl (by omega) dX7_fine_1 ?_
  refine i_iload_n dX7_fine_4 rfl ?_
  refine cVN_ir dX7_fine_5 cw_X7_76 ci_X0_hasPerson rfl rfl (by decide) (show 0 < 3 by omega) h (fun a1 e => F_X0_hasPerson (by omega) e) (Nat.le_of_ble_eq_true rfl) rfl rfl (Nat.le_of_ble_eq_true rfl) (fun a1 ea1 h => ?_)
  refine r_if_ne (tgt := 14) dX7_fine_8 (by decide) h (fun c1 h => ?_) (fun c1 h => ?_)
  · refine i_aload_n dX7_fine_14 rfl ?_
    refine gf_X7_21 rfl (by omega) dX7_fine_15 ?_
    refine gf_X7_80 rfl (by omega) dX7_fine_18 ?_
    refine i_iload_n dX7_fine_21 rfl ?_
    refine aa_12 dX7_fine_22 (by omega) h (fun j1 lj1 h => ?_)
    refine i_astore_n (ls' := [some (rf X 7 0), some (.int p1), some (rf X 3 (10 * 0 + j1)), none]) dX7_fine_23 (by decide) (okp_at rfl) rfl ?_
    refine i_aload_n dX7_fine_24 rfl ?_
    refine gf_X7_21 rfl (by omega) dX7_fine_25 ?_
    refine gf_X7_225 rfl (by omega) dX7_fine_28 ?_
    refine i_iconst (v := 2) dX7_fine_31 (by decide) ?_
    refine al_16 dX7_fine_32 (by omega) h (fun j2 lj2 h => ?_)
    refine i_istore_n (ls' := [some (rf X 7 0), some (.int p1), some (rf X 3 (10 * 0 + j1)), some (.int (σ 16 0 j2))]) dX7_fine_33 (by decide) (okp_at rfl) rfl ?_
    refine i_iload_n dX7_fine_34 rfl ?_
    refine r_if_ge (tgt := 45) dX7_fine_35 (by decide) h (fun c2 h => ?_) (fun c2 h => ?_)
    · refine i_aload_n dX7_fine_45 rfl ?_
      refine gf_X7_10 rfl (by omega) dX7_fine_46 ?_
      refine i_iload_n dX7_fine_49 rfl ?_
      refine i_aload_n dX7_fine_50 rfl ?_
      refine gf_X7_95 rfl (by omega) dX7_fine_51 ?_
      refine i_aload_n dX7_fine_54 rfl ?_
      refine gf_X7_89 rfl (by omega) dX7_fine_55 ?_
      refine i_iconst (v := 0) dX7_fine_58 (by decide) ?_
      refine cVN_iw dX7_fine_59 cw_X7_228 ci_X2_gives rfl rfl (by decide) (show 0 < 1 by omega) h (fun a2 e => F_X2_gives  e) (Nat.le_of_ble_eq_true rfl) rfl rfl (Nat.le_of_ble_eq_true rfl) (fun a2 ea2 h => ?_)
      exact e_iw rfl dX7_fine_62 h
    · refine i_aload_n dX7_fine_38 rfl ?_
      refine gf_X7_95 rfl (by omega) dX7_fine_39 ?_
      refine i_goto (tgt := 62) dX7_fine_42 (by decide) ?_
      exact e_iw rfl dX7_fine_62 h
  · refine i_ldc (v := (-1000000001)) dX7_fine_11 k_X7_66 ?_
    exact e_iw rfl dX7_fine_13 h
def f_X7_putBytes_3 (p1 : Int32) : Nat → Int32 → Mem → (Mem → Option Mem) → Option Mem
  | 0, _, _, _ => none
  | n + 1, v2, σ, k =>
    (if v2 < 0 then (k σ) else (bnd (ix 96 (σ 7 0 6)) (fun j1 => (bnd (some (mput (mput σ 17 0 j1 (((((p1 >>> (v2 &&& (31 : Int32)))).toInt8.toInt32)).toInt8.toInt32)) 7 0 6 (((mput σ 17 0 j1 (((((p1 >>> (v2 &&& (31 : Int32)))).toInt8.toInt32)).toInt8.toInt32)) 7 0 6) + (1 : Int32)))) (fun s1 => (f_X7_putBytes_3 p1 n (v2 + (-8 : Int32)) s1 k))))))
set_option maxRecDepth 100000 in
set_option maxHeartbeats 4000000 in
theorem L_X7_putBytes_3 {X : Cx} {p1 : Int32} {σ2 : Mem} {k : Mem → Option Mem}  : ∀ (n : Nat) (v2 : Int32) (σ : Mem), f_X7_putBytes_3 p1 n v2 σ k = some σ2 → (∀ (σ1 : Mem), k σ1 = some σ2 → At X 1 mX7_putBytes 36 [none, none, none] [] σ1 none σ2) → At X 1 mX7_putBytes 3 [some (rf X 7 0), some (.int p1), some (.int v2)] [] σ none σ2 := by
  intro n
  induction n with
  | zero =>
    intro v2 σ h
    cases h
  | succ n ih =>
    intro v2 σ h hk
    rw [f_X7_putBytes_3.eq_2] at h
    refine i_iload_n dX7_putBytes_3 rfl ?_
    refine r_if_lt (tgt := 36) dX7_putBytes_4 (by decide) h (fun c1 h => ?_) (fun c1 h => ?_)
    · refine At.fewer (ls' := [none, none, none]) trivial ?_
      exact hk _ h
    · refine i_aload_n dX7_putBytes_7 rfl ?_
      refine gf_X7_31 rfl (by omega) dX7_putBytes_8 ?_
      refine i_aload_n dX7_putBytes_11 rfl ?_
      refine gf_X7_232 rfl (by omega) dX7_putBytes_12 ?_
      refine i_iload_n dX7_putBytes_15 rfl ?_
      refine i_iload_n dX7_putBytes_16 rfl ?_
      refine i_ishr dX7_putBytes_17 ?_
      refine i_i2b dX7_putBytes_18 ?_
      refine as_17 dX7_putBytes_19 (by omega) h (fun j1 lj1 h => ?_)
      refine i_aload_n dX7_putBytes_20 rfl ?_
      refine i_dup dX7_putBytes_21 rfl ?_
      refine gf_X7_232 rfl (by omega) dX7_putBytes_22 ?_
      refine i_iconst (v := 1) dX7_putBytes_25 (by decide) ?_
      refine i_iadd dX7_putBytes_26 ?_
      refine pf_X7_232 rfl (by omega) dX7_putBytes_27 ?_
      refine r_mem h (fun s1 _ h => ?_)
      refine i_iinc (v := (v2 + (-8 : Int32))) (ls' := [some (rf X 7 0), some (.int p1), some (.int (v2 + (-8 : Int32)))]) dX7_putBytes_30 rfl (by rfl) (by decide) (okp_at rfl) rfl ?_
      refine i_goto (tgt := 3) dX7_putBytes_33 (by decide) ?_
      exact ih _ _ h hk
def f_X7_putBytes  (p1 : Int32) (σ : Mem) : Option Mem :=
  (f_X7_putBytes_3 p1 FU (24 : Int32) σ (fun σ_1 => (some σ_1)))
set_option maxRecDepth 100000 in
set_option maxHeartbeats 4000000 in
theorem F_X7_putBytes {X : Cx} {p1 : Int32} {σ : Mem} {res : Mem}  (h : f_X7_putBytes p1 σ = some res) : Tri X 1 mX7_putBytes [rf X 7 0, .int p1] σ none res := by
  unfold f_X7_putBytes at h
  refine Tri.of (ls := [some (rf X 7 0), some (.int p1), none]) (by decide) (Nat.le_of_ble_eq_true rfl) rfl ?_
  refine i_bipush (v := 24) dX7_putBytes_0 (by decide) ?_
  refine i_istore_n (ls' := [some (rf X 7 0), some (.int p1), some (.int (24 : Int32))]) dX7_putBytes_2 (by decide) (okp_at rfl) rfl ?_
  refine L_X7_putBytes_3  FU _ _ h (fun σ_1 h => ?_)
  exact e_vw rfl dX7_putBytes_36 h
def f_X7_feed  (p1 : Int32) (p2 : Int32) (p3 : Int32) (σ : Mem) : Option (Int32 × Mem) :=
  (if (σ 7 0 6) ≤ (84 : Int32) then (bnd (f_X7_putBytes p1 σ) (fun a1 => (bnd (f_X7_putBytes p2 a1) (fun a2 => (bnd (f_X7_putBytes p3 a2) (fun a3 => (some ((a3 7 0 6), a3)))))))) else (some ((-1000000003 : Int32), σ)))
set_option maxRecDepth 100000 in
set_option maxHeartbeats 4000000 in
theorem F_X7_feed {X : Cx} {p1 : Int32} {p2 : Int32} {p3 : Int32} {σ : Mem} {res : (Int32 × Mem)}  (h : f_X7_feed p1 p2 p3 σ = some res) : Tri X 2 mX7_feed [rf X 7 0, .int p1, .int p2, .int p3] σ (some (.int res.1)) res.2 := by
  obtain ⟨r0, σ2⟩ := res
  unfold f_X7_feed at h
  refine Tri.of (ls := [some (rf X 7 0), some (.int p1), some (.int p2), some (.int p3)]) (by decide) (Nat.le_of_ble_eq_true rfl) rfl ?_
  refine i_aload_n dX7_feed_0 rfl ?_
  refine gf_X7_232 rfl (by omega) dX7_feed_1 ?_
  refine i_bipush (v := 84) dX7_feed_4 (by decide) ?_
  refine r_icmp_le (tgt := 12) dX7_feed_6 (by decide) h (fun c1 h => ?_) (fun c1 h => ?_)
  · refine i_aload_n dX7_feed_12 rfl ?_
    refine i_iload_n dX7_feed_13 rfl ?_
    refine cV_vw dX7_feed_14 cw_X7_235 ci_X7_putBytes rfl rfl (by decide) (show 0 < 1 by omega) h (fun a1 e => F_X7_putBytes  e) (Nat.le_of_ble_eq_true rfl) rfl rfl (Nat.le_of_ble_eq_true rfl) (fun a1 ea1 h => ?_)
    refine i_aload_n dX7_feed_17 rfl ?_
    refine i_iload_n dX7_feed_18 rfl ?_
    refine cV_vw dX7_feed_19 cw_X7_235 ci_X7_putBytes rfl rfl (by decide) (show 0 < 1 by omega) h (fun a2 e => F_X7_putBytes  e) (Nat.le_of_ble_eq_true rfl) rfl rfl (Nat.le_of_ble_eq_true rfl) (fun a2 ea2 h => ?_)
    refine i_aload_n dX7_feed_22 rfl ?_
    refine i_iload_n dX7_feed_23 rfl ?_
    refine cV_vw dX7_feed_24 cw_X7_235 ci_X7_putBytes rfl rfl (by decide) (show 0 < 1 by omega) h (fun a3 e => F_X7_putBytes  e) (Nat.le_of_ble_eq_true rfl) rfl rfl (Nat.le_of_ble_eq_true rfl) (fun a3 ea3 h => ?_)
    refine i_aload_n dX7_feed_27 rfl ?_
    refine gf_X7_232 rfl (by omega) dX7_feed_28 ?_
    exact e_iw rfl dX7_feed_31 h
  · refine i_ldc (v := (-1000000003)) dX7_feed_9 k_X7_71 ?_
    exact e_iw rfl dX7_feed_11 h
def f_X7_trim  (p1 : Int32) (σ : Mem) : Option (Int32 × Mem) :=
  (bnd (f_X7_isWithin p1 (0 : Int32) (σ 7 0 6) σ) (fun a1 => (if a1 = 0 then (some ((-1000000001 : Int32), σ)) else (some (p1, (mput σ 7 0 6 p1))))))
set_option maxRecDepth 100000 in
set_option maxHeartbeats 4000000 in
theorem F_X7_trim {X : Cx} {p1 : Int32} {σ : Mem} {res : (Int32 × Mem)}  (h : f_X7_trim p1 σ = some res) : Tri X 2 mX7_trim [rf X 7 0, .int p1] σ (some (.int res.1)) res.2 := by
  obtain ⟨r0, σ2⟩ := res
  unfold f_X7_trim at h
  refine Tri.of (ls := [some (rf X 7 0), some (.int p1)]) (by decide) (Nat.le_of_ble_eq_true rfl) rfl ?_
  refine i_iload_n dX7_trim_0 rfl ?_
  refine i_iconst (v := 0) dX7_trim_1 (by decide) ?_
  refine i_aload_n dX7_trim_2 rfl ?_
  refine gf_X7_232 rfl (by omega) dX7_trim_3 ?_
  refine cS_ir dX7_trim_6 cw_X7_62 ci_X7_isWithin h (fun a1 e => F_X7_isWithin  e) (Nat.le_of_ble_eq_true rfl) rfl rfl (Nat.le_of_ble_eq_true rfl) (fun a1 ea1 h => ?_)
  refine r_if_ne (tgt := 15) dX7_trim_9 (by decide) h (fun c1 h => ?_) (fun c1 h => ?_)
  · refine i_aload_n dX7_trim_15 rfl ?_
    refine i_iload_n dX7_trim_16 rfl ?_
    refine pf_X7_232 rfl (by omega) dX7_trim_17 ?_
    refine i_iload_n dX7_trim_20 rfl ?_
    exact e_iw rfl dX7_trim_21 h
  · refine i_ldc (v := (-1000000001)) dX7_trim_12 k_X7_66 ?_
    exact e_iw rfl dX7_trim_14 h
def f_X7_text   (σ : Mem) : Option (Int32 × Mem) :=
  (bnd (ix 15 (σ 0 0 11)) (fun j1 => (bnd (f_X4_readsText (σ 7 0 6) j1 σ) (fun a1 => (if a1.1 = 0 then (some (((-100 : Int32) - ((mput a1.2 7 0 6 (0 : Int32)) 4 0 4)), (mput a1.2 7 0 6 (0 : Int32)))) else (if (σ 0 0 11) < (14 : Int32) then (bnd (some (mput (mput a1.2 7 0 6 (0 : Int32)) 0 0 11 (((mput a1.2 7 0 6 (0 : Int32)) 0 0 11) + (1 : Int32)))) (fun s1 => (bnd (ix 3 (s1 1 j1 0)) (fun j2 => (some ((σ 0 0 11), (mput s1 16 0 j2 (σ 0 0 11)))))))) else (some ((-1000000003 : Int32), (mput a1.2 7 0 6 (0 : Int32))))))))))
set_option maxRecDepth 100000 in
set_option maxHeartbeats 4000000 in
theorem F_X7_text {X : Cx}  {σ : Mem} {res : (Int32 × Mem)}  (h : f_X7_text σ = some res) : Tri X 99 mX7_text [rf X 7 0] σ (some (.int res.1)) res.2 := by
  obtain ⟨r0, σ2⟩ := res
  unfold f_X7_text at h
  refine Tri.of (ls := [some (rf X 7 0), none, none, none]) (by decide) (Nat.le_of_ble_eq_true rfl) rfl ?_
  refine i_aload_n dX7_text_0 rfl ?_
  refine gf_X7_21 rfl (by omega) dX7_text_1 ?_
  refine gf_X7_238 rfl (by omega) dX7_text_4 ?_
  refine i_istore_n (ls' := [some (rf X 7 0), some (.int (σ 0 0 11)), none, none]) dX7_text_7 (by decide) (okp_at rfl) rfl ?_
  refine i_aload_n dX7_text_8 rfl ?_
  refine gf_X7_10 rfl (by omega) dX7_text_9 ?_
  refine gf_X7_241 rfl (by omega) dX7_text_12 ?_
  refine i_iload_n dX7_text_15 rfl ?_
  refine aa_9 dX7_text_16 (by omega) h (fun j1 lj1 h => ?_)
  refine i_astore_n (ls' := [some (rf X 7 0), some (.int (σ 0 0 11)), some (rf X 1 j1), none]) dX7_text_17 (by decide) (okp_at rfl) rfl ?_
  refine i_aload_n dX7_text_18 rfl ?_
  refine gf_X7_40 rfl (by omega) dX7_text_19 ?_
  refine i_aload_n dX7_text_22 rfl ?_
  refine gf_X7_232 rfl (by omega) dX7_text_23 ?_
  refine i_aload_n dX7_text_26 rfl ?_
  refine cVN_iw dX7_text_27 cw_X7_245 ci_X4_readsText rfl rfl (by decide) (show 0 < 1 by omega) h (fun a1 e => F_X4_readsText (by omega) e) (Nat.le_of_ble_eq_true rfl) rfl rfl (Nat.le_of_ble_eq_true rfl) (fun a1 ea1 h => ?_)
  refine i_istore_n (ls' := [some (rf X 7 0), some (.int (σ 0 0 11)), some (rf X 1 j1), some (.int a1.1)]) dX7_text_30 (by decide) (okp_at rfl) rfl ?_
  refine i_aload_n dX7_text_31 rfl ?_
  refine i_iconst (v := 0) dX7_text_32 (by decide) ?_
  refine pf_X7_232 rfl (by omega) dX7_text_33 ?_
  refine i_iload_n dX7_text_36 rfl ?_
  refine r_if_ne (tgt := 51) dX7_text_37 (by decide) h (fun c1 h => ?_) (fun c1 h => ?_)
  · refine i_iload_n dX7_text_51 rfl ?_
    refine i_bipush (v := 14) dX7_text_52 (by decide) ?_
    refine r_icmp_lt (tgt := 60) dX7_text_54 (by decide) h (fun c2 h => ?_) (fun c2 h => ?_)
    · refine i_aload_n dX7_text_60 rfl ?_
      refine gf_X7_21 rfl (by omega) dX7_text_61 ?_
      refine i_dup dX7_text_64 rfl ?_
      refine gf_X7_238 rfl (by omega) dX7_text_65 ?_
      refine i_iconst (v := 1) dX7_text_68 (by decide) ?_
      refine i_iadd dX7_text_69 ?_
      refine pf_X7_238 rfl (by omega) dX7_text_70 ?_
      refine r_mem h (fun s1 _ h => ?_)
      refine i_aload_n dX7_text_73 rfl ?_
      refine gf_X7_21 rfl (by omega) dX7_text_74 ?_
      refine gf_X7_225 rfl (by omega) dX7_text_77 ?_
      refine i_aload_n dX7_text_80 rfl ?_
      refine gf_X7_252 rfl (by omega) dX7_text_81 ?_
      refine i_iload_n dX7_text_84 rfl ?_
      refine as_16 dX7_text_85 (by omega) h (fun j2 lj2 h => ?_)
      refine i_iload_n dX7_text_86 rfl ?_
      exact e_iw rfl dX7_text_87 h
    · refine i_ldc (v := (-1000000003)) dX7_text_57 k_X7_71 ?_
      exact e_iw rfl dX7_text_59 h
  · refine i_bipush (v := (-100)) dX7_text_40 (by decide) ?_
    refine i_aload_n dX7_text_42 rfl ?_
    refine gf_X7_40 rfl (by omega) dX7_text_43 ?_
    refine gf_X7_249 rfl (by omega) dX7_text_46 ?_
    refine i_isub dX7_text_49 ?_
    exact e_iw rfl dX7_text_50 h
def f_X7_textTold  (p1 : Int32) (p2 : Int32) (σ : Mem) : Option Int32 :=
  (bnd (f_X7_isWithin p1 (0 : Int32) ((σ 0 0 11) - (1 : Int32)) σ) (fun a1 => (if a1 = 0 then (some (-1000000001 : Int32)) else (if p2 = (0 : Int32) then (bnd (ix 15 p1) (fun j1 => (some (σ 1 j1 0)))) else (if p2 = (1 : Int32) then (bnd (ix 15 p1) (fun j2 => (some (σ 1 j2 1)))) else (some (-1000000001 : Int32)))))))
set_option maxRecDepth 100000 in
set_option maxHeartbeats 4000000 in
theorem F_X7_textTold {X : Cx} {p1 : Int32} {p2 : Int32} {σ : Mem} {res : Int32}  (h : f_X7_textTold p1 p2 σ = some res) : Tri X 2 mX7_textTold [rf X 7 0, .int p1, .int p2] σ (some (.int res)) σ := by
  unfold f_X7_textTold at h
  refine Tri.of (ls := [some (rf X 7 0), some (.int p1), some (.int p2)]) (by decide) (Nat.le_of_ble_eq_true rfl) rfl ?_
  refine i_iload_n dX7_textTold_0 rfl ?_
  refine i_iconst (v := 0) dX7_textTold_1 (by decide) ?_
  refine i_aload_n dX7_textTold_2 rfl ?_
  refine gf_X7_21 rfl (by omega) dX7_textTold_3 ?_
  refine gf_X7_238 rfl (by omega) dX7_textTold_6 ?_
  refine i_iconst (v := 1) dX7_textTold_9 (by decide) ?_
  refine i_isub dX7_textTold_10 ?_
  refine cS_ir dX7_textTold_11 cw_X7_62 ci_X7_isWithin h (fun a1 e => F_X7_isWithin  e) (Nat.le_of_ble_eq_true rfl) rfl rfl (Nat.le_of_ble_eq_true rfl) (fun a1 ea1 h => ?_)
  refine r_if_ne (tgt := 20) dX7_textTold_14 (by decide) h (fun c1 h => ?_) (fun c1 h => ?_)
  · refine i_iload_n dX7_textTold_20 rfl ?_
    refine r_case (c := p2 = (0 : Int32)) h (fun c2 h => ?_) (fun c2 h => ?_)
    · refine i_look (tgt := 48) (off := 27) dX7_textTold_21 (by decide) (by rw [c2]; decide) (by decide) ?_
      refine i_aload_n dX7_textTold_48 rfl ?_
      refine gf_X7_10 rfl (by omega) dX7_textTold_49 ?_
      refine gf_X7_241 rfl (by omega) dX7_textTold_52 ?_
      refine i_iload_n dX7_textTold_55 rfl ?_
      refine aa_9 dX7_textTold_56 (by omega) h (fun j1 lj1 h => ?_)
      refine gf_X7_252 rfl (by omega) dX7_textTold_57 ?_
      exact e_ir rfl dX7_textTold_60 h
    · refine r_case (c := p2 = (1 : Int32)) h (fun c3 h => ?_) (fun c3 h => ?_)
      · refine i_look (tgt := 61) (off := 40) dX7_textTold_21 (by decide) (by rw [c3]; decide) (by decide) ?_
        refine i_aload_n dX7_textTold_61 rfl ?_
        refine gf_X7_10 rfl (by omega) dX7_textTold_62 ?_
        refine gf_X7_241 rfl (by omega) dX7_textTold_65 ?_
        refine i_iload_n dX7_textTold_68 rfl ?_
        refine aa_9 dX7_textTold_69 (by omega) h (fun j2 lj2 h => ?_)
        refine gf_X7_257 rfl (by omega) dX7_textTold_70 ?_
        exact e_ir rfl dX7_textTold_73 h
      · refine i_look (tgt := 74) (off := 53) dX7_textTold_21 (by decide) (by
        show Op.lookupswitch.offset [(0, 27), (1, 40)] _ _ = _
        rw [Op.lookupswitch.offset_cons, if_neg (fun e => ne_toInt c2 (n := 0) (by decide) e.symm), Op.lookupswitch.offset_cons, if_neg (fun e => ne_toInt c3 (n := 1) (by decide) e.symm), Op.lookupswitch.offset_nil]) (by decide) ?_
        refine i_ldc (v := (-1000000001)) dX7_textTold_74 k_X7_66 ?_
        exact e_ir rfl dX7_textTold_76 h
  · refine i_ldc (v := (-1000000001)) dX7_textTold_17 k_X7_66 ?_
    exact e_ir rfl dX7_textTold_19 h
def f_X7_why  (p1 : Int32) (σ : Mem) : Option Int32 :=
  (bnd (f_X7_isWithin p1 (0 : Int32) (2 : Int32) σ) (fun a1 => (if a1 = 0 then (some (-1000000001 : Int32)) else (bnd (ix 3 p1) (fun j1 => (if 0 ≤ (σ 16 0 j1) then (bnd (ix 3 p1) (fun j2 => (some (σ 16 0 j2)))) else (some (-1000000005 : Int32))))))))
set_option maxRecDepth 100000 in
set_option maxHeartbeats 4000000 in
theorem F_X7_why {X : Cx} {p1 : Int32} {σ : Mem} {res : Int32}  (h : f_X7_why p1 σ = some res) : Tri X 2 mX7_why [rf X 7 0, .int p1] σ (some (.int res)) σ := by
  unfold f_X7_why at h
  refine Tri.of (ls := [some (rf X 7 0), some (.int p1)]) (by decide) (Nat.le_of_ble_eq_true rfl) rfl ?_
  refine i_iload_n dX7_why_0 rfl ?_
  refine i_iconst (v := 0) dX7_why_1 (by decide) ?_
  refine i_iconst (v := 2) dX7_why_2 (by decide) ?_
  refine cS_ir dX7_why_3 cw_X7_62 ci_X7_isWithin h (fun a1 e => F_X7_isWithin  e) (Nat.le_of_ble_eq_true rfl) rfl rfl (Nat.le_of_ble_eq_true rfl) (fun a1 ea1 h => ?_)
  refine r_if_ne (tgt := 12) dX7_why_6 (by decide) h (fun c1 h => ?_) (fun c1 h => ?_)
  · refine i_aload_n dX7_why_12 rfl ?_
    refine gf_X7_21 rfl (by omega) dX7_why_13 ?_
    refine gf_X7_225 rfl (by omega) dX7_why_16 ?_
    refine i_iload_n dX7_why_19 rfl ?_
    refine al_16 dX7_why_20 (by omega) h (fun j1 lj1 h => ?_)
    refine r_if_ge (tgt := 29) dX7_why_21 (by decide) h (fun c2 h => ?_) (fun c2 h => ?_)
    · refine i_aload_n dX7_why_29 rfl ?_
      refine gf_X7_21 rfl (by omega) dX7_why_30 ?_
      refine gf_X7_225 rfl (by omega) dX7_why_33 ?_
      refine i_iload_n dX7_why_36 rfl ?_
      refine al_16 dX7_why_37 (by omega) h (fun j2 lj2 h => ?_)
      exact e_ir rfl dX7_why_38 h
    · refine i_ldc (v := (-1000000005)) dX7_why_24 k_X7_139 ?_
      refine i_goto (tgt := 38) dX7_why_26 (by decide) ?_
      exact e_ir rfl dX7_why_38 h
  · refine i_ldc (v := (-1000000001)) dX7_why_9 k_X7_66 ?_
    exact e_ir rfl dX7_why_11 h
def f_X7_sheet  (p1 : Int32) (p2 : Int32) (p3 : Int32) (σ : Mem) : Option (Int32 × Mem) :=
  (bnd (f_X7_isWithin p1 (0 : Int32) (3 : Int32) σ) (fun a1 => (if a1 = 0 then (some ((-1000000001 : Int32), σ)) else (bnd (f_X7_isWithin p2 (-1 : Int32) (1 : Int32) σ) (fun a2 => (if a2 = 0 then (some ((-1000000001 : Int32), σ)) else (if p2 = (-1 : Int32) then (bnd (ix 4 p1) (fun j2 => (bnd (f_X5_startAnew j2 (-1 : Int32) (0 : Int32) σ) (fun a4 => (some ((0 : Int32), a4)))))) else (if p3 ≤ (24 : Int32) then (if 0 ≤ p3 then (bnd (ix 4 p1) (fun j1 => (bnd (f_X5_startAnew j1 p2 p3 σ) (fun a3 => (some (p3, a3)))))) else (some ((-1000000014 : Int32), σ))) else (some ((-1000000001 : Int32), σ))))))))))
set_option maxRecDepth 100000 in
set_option maxHeartbeats 4000000 in
theorem F_X7_sheet {X : Cx} {p1 : Int32} {p2 : Int32} {p3 : Int32} {σ : Mem} {res : (Int32 × Mem)}  (h : f_X7_sheet p1 p2 p3 σ = some res) : Tri X 2 mX7_sheet [rf X 7 0, .int p1, .int p2, .int p3] σ (some (.int res.1)) res.2 := by
  obtain ⟨r0, σ2⟩ := res
  unfold f_X7_sheet at h
  refine Tri.of (ls := [some (rf X 7 0), some (.int p1), some (.int p2), some (.int p3)]) (by decide) (Nat.le_of_ble_eq_true rfl) rfl ?_
  refine i_iload_n dX7_sheet_0 rfl ?_
  refine i_iconst (v := 0) dX7_sheet_1 (by decide) ?_
  refine i_iconst (v := 3) dX7_sheet_2 (by decide) ?_
  refine cS_ir dX7_sheet_3 cw_X7_62 ci_X7_isWithin h (fun a1 e => F_X7_isWithin  e) (Nat.le_of_ble_eq_true rfl) rfl rfl (Nat.le_of_ble_eq_true rfl) (fun a1 ea1 h => ?_)
  refine r_if_eq (tgt := 18) dX7_sheet_6 (by decide) h (fun c1 h => ?_) (fun c1 h => ?_)
  · refine i_ldc (v := (-1000000001)) dX7_sheet_18 k_X7_66 ?_
    exact e_iw rfl dX7_sheet_20 h
  · refine i_iload_n dX7_sheet_9 rfl ?_
    refine i_iconst (v := (-1)) dX7_sheet_10 (by decide) ?_
    refine i_iconst (v := 1) dX7_sheet_11 (by decide) ?_
    refine cS_ir dX7_sheet_12 cw_X7_62 ci_X7_isWithin h (fun a2 e => F_X7_isWithin  e) (Nat.le_of_ble_eq_true rfl) rfl rfl (Nat.le_of_ble_eq_true rfl) (fun a2 ea2 h => ?_)
    refine r_if_ne (tgt := 21) dX7_sheet_15 (by decide) h (fun c2 h => ?_) (fun c2 h => ?_)
    · refine i_iload_n dX7_sheet_21 rfl ?_
      refine i_iconst (v := (-1)) dX7_sheet_22 (by decide) ?_
      refine r_icmp_ne (tgt := 39) dX7_sheet_23 (by decide) h (fun c3 h => ?_) (fun c3 h => ?_)
      · refine i_iload_n dX7_sheet_39 rfl ?_
        refine i_bipush (v := 24) dX7_sheet_40 (by decide) ?_
        refine r_icmp_le (tgt := 48) dX7_sheet_42 (by decide) h (fun c4 h => ?_) (fun c4 h => ?_)
        · refine i_iload_n dX7_sheet_48 rfl ?_
          refine r_if_ge (tgt := 56) dX7_sheet_49 (by decide) h (fun c5 h => ?_) (fun c5 h => ?_)
          · refine i_aload_n dX7_sheet_56 rfl ?_
            refine gf_X7_50 rfl (by omega) dX7_sheet_57 ?_
            refine i_iload_n dX7_sheet_60 rfl ?_
            refine aa_19 dX7_sheet_61 (by omega) h (fun j1 lj1 h => ?_)
            refine i_iload_n dX7_sheet_62 rfl ?_
            refine i_iload_n dX7_sheet_63 rfl ?_
            refine cVN_vw dX7_sheet_64 cw_X7_260 ci_X5_startAnew rfl rfl (by decide) (show j1 < 9 by omega) h (fun a3 e => F_X5_startAnew (by omega) e) (Nat.le_of_ble_eq_true rfl) rfl rfl (Nat.le_of_ble_eq_true rfl) (fun a3 ea3 h => ?_)
            refine i_iload_n dX7_sheet_67 rfl ?_
            exact e_iw rfl dX7_sheet_68 h
          · refine i_ldcw (v := (-1000000014)) dX7_sheet_52 k_X7_264 ?_
            exact e_iw rfl dX7_sheet_55 h
        · refine i_ldc (v := (-1000000001)) dX7_sheet_45 k_X7_66 ?_
          exact e_iw rfl dX7_sheet_47 h
      · refine i_aload_n dX7_sheet_26 rfl ?_
        refine gf_X7_50 rfl (by omega) dX7_sheet_27 ?_
        refine i_iload_n dX7_sheet_30 rfl ?_
        refine aa_19 dX7_sheet_31 (by omega) h (fun j2 lj2 h => ?_)
        refine i_iconst (v := (-1)) dX7_sheet_32 (by decide) ?_
        refine i_iconst (v := 0) dX7_sheet_33 (by decide) ?_
        refine cVN_vw dX7_sheet_34 cw_X7_260 ci_X5_startAnew rfl rfl (by decide) (show j2 < 9 by omega) h (fun a4 e => F_X5_startAnew (by omega) e) (Nat.le_of_ble_eq_true rfl) rfl rfl (Nat.le_of_ble_eq_true rfl) (fun a4 ea4 h => ?_)
        refine i_iconst (v := 0) dX7_sheet_37 (by decide) ?_
        exact e_iw rfl dX7_sheet_38 h
    · refine i_ldc (v := (-1000000001)) dX7_sheet_18 k_X7_66 ?_
      exact e_iw rfl dX7_sheet_20 h
def f_X7_mark  (p1 : Int32) (p2 : Int32) (p3 : Int32) (σ : Mem) : Option (Int32 × Mem) :=
  (bnd (f_X7_isWithin p1 (0 : Int32) (3 : Int32) σ) (fun a1 => (if a1 = 0 then (some ((-1000000001 : Int32), σ)) else (bnd (ix 4 p1) (fun j1 => (bnd (f_X5_isMissing j1 σ) (fun a2 => (if a2 = 0 then (bnd (f_X5_hasPlace j1 p2 σ) (fun a3 => (if a3 = 0 then (some ((-1000000013 : Int32), σ)) else (if (σ 5 j1 0) = 0 then (if p3 = (-1000000005 : Int32) then (some ((-1000000012 : Int32), σ)) else (bnd (ix 24 p2) (fun j4 => (some ((1 : Int32), (mput σ 20 j1 j4 ((p3).toInt16.toInt32))))))) else (if p3 = (-1000000005 : Int32) then (bnd (ix 24 p2) (fun j2 => (some ((1 : Int32), (mput σ 20 j1 j2 p3))))) else (bnd (f_X7_isWithin p3 (-99999 : Int32) (99999 : Int32) σ) (fun a4 => (if a4 = 0 then (some ((-1000000001 : Int32), σ)) else (bnd (ix 24 p2) (fun j3 => (some ((1 : Int32), (mput σ 20 j1 j3 p3))))))))))))) else (some ((-1000000011 : Int32), σ))))))))))
set_option maxRecDepth 100000 in
set_option maxHeartbeats 4000000 in
theorem F_X7_mark {X : Cx} {p1 : Int32} {p2 : Int32} {p3 : Int32} {σ : Mem} {res : (Int32 × Mem)}  (h : f_X7_mark p1 p2 p3 σ = some res) : Tri X 3 mX7_mark [rf X 7 0, .int p1, .int p2, .int p3] σ (some (.int res.1)) res.2 := by
  obtain ⟨r0, σ2⟩ := res
  unfold f_X7_mark at h
  refine Tri.of (ls := [some (rf X 7 0), some (.int p1), some (.int p2), some (.int p3), none]) (by decide) (Nat.le_of_ble_eq_true rfl) rfl ?_
  refine i_iload_n dX7_mark_0 rfl ?_
  refine i_iconst (v := 0) dX7_mark_1 (by decide) ?_
  refine i_iconst (v := 3) dX7_mark_2 (by decide) ?_
  refine cS_ir dX7_mark_3 cw_X7_62 ci_X7_isWithin h (fun a1 e => F_X7_isWithin  e) (Nat.le_of_ble_eq_true rfl) rfl rfl (Nat.le_of_ble_eq_true rfl) (fun a1 ea1 h => ?_)
  refine r_if_ne (tgt := 12) dX7_mark_6 (by decide) h (fun c1 h => ?_) (fun c1 h => ?_)
  · refine i_aload_n dX7_mark_12 rfl ?_
    refine gf_X7_50 rfl (by omega) dX7_mark_13 ?_
    refine i_iload_n dX7_mark_16 rfl ?_
    refine aa_19 dX7_mark_17 (by omega) h (fun j1 lj1 h => ?_)
    refine i_astore (ls' := [some (rf X 7 0), some (.int p1), some (.int p2), some (.int p3), some (rf X 5 j1)]) dX7_mark_18 (by decide) (okp_at rfl) rfl ?_
    refine i_aload dX7_mark_20 rfl ?_
    refine cVN_ir dX7_mark_22 cw_X7_204 ci_X5_isMissing rfl rfl (by decide) (show j1 < 9 by omega) h (fun a2 e => F_X5_isMissing (by omega) e) (Nat.le_of_ble_eq_true rfl) rfl rfl (Nat.le_of_ble_eq_true rfl) (fun a2 ea2 h => ?_)
    refine r_if_eq (tgt := 31) dX7_mark_25 (by decide) h (fun c2 h => ?_) (fun c2 h => ?_)
    · refine i_aload dX7_mark_31 rfl ?_
      refine i_iload_n dX7_mark_33 rfl ?_
      refine cVN_ir dX7_mark_34 cw_X7_265 ci_X5_hasPlace rfl rfl (by decide) (show j1 < 9 by omega) h (fun a3 e => F_X5_hasPlace (by omega) e) (Nat.le_of_ble_eq_true rfl) rfl rfl (Nat.le_of_ble_eq_true rfl) (fun a3 ea3 h => ?_)
      refine r_if_ne (tgt := 44) dX7_mark_37 (by decide) h (fun c3 h => ?_) (fun c3 h => ?_)
      · refine i_aload dX7_mark_44 rfl ?_
        refine gf_X7_269 rfl (by omega) dX7_mark_46 ?_
        refine r_if_ne (tgt := 72) dX7_mark_49 (by decide) h (fun c4 h => ?_) (fun c4 h => ?_)
        · refine i_iload_n dX7_mark_72 rfl ?_
          refine i_ldc (v := (-1000000005)) dX7_mark_73 k_X7_139 ?_
          refine r_icmp_eq (tgt := 94) dX7_mark_75 (by decide) h (fun c5 h => ?_) (fun c5 h => ?_)
          · refine i_aload dX7_mark_94 rfl ?_
            refine gf_X7_219 rfl (by omega) dX7_mark_96 ?_
            refine i_iload_n dX7_mark_99 rfl ?_
            refine i_iload_n dX7_mark_100 rfl ?_
            refine as_20 dX7_mark_101 (by omega) h (fun j2 lj2 h => ?_)
            refine i_iconst (v := 1) dX7_mark_102 (by decide) ?_
            exact e_iw rfl dX7_mark_103 h
          · refine i_iload_n dX7_mark_78 rfl ?_
            refine i_ldcw (v := (-99999)) dX7_mark_79 k_X7_272 ?_
            refine i_ldcw (v := 99999) dX7_mark_82 k_X7_273 ?_
            refine cS_ir dX7_mark_85 cw_X7_62 ci_X7_isWithin h (fun a4 e => F_X7_isWithin  e) (Nat.le_of_ble_eq_true rfl) rfl rfl (Nat.le_of_ble_eq_true rfl) (fun a4 ea4 h => ?_)
            refine r_if_ne (tgt := 94) dX7_mark_88 (by decide) h (fun c6 h => ?_) (fun c6 h => ?_)
            · refine i_aload dX7_mark_94 rfl ?_
              refine gf_X7_219 rfl (by omega) dX7_mark_96 ?_
              refine i_iload_n dX7_mark_99 rfl ?_
              refine i_iload_n dX7_mark_100 rfl ?_
              refine as_20 dX7_mark_101 (by omega) h (fun j3 lj3 h => ?_)
              refine i_iconst (v := 1) dX7_mark_102 (by decide) ?_
              exact e_iw rfl dX7_mark_103 h
            · refine i_ldc (v := (-1000000001)) dX7_mark_91 k_X7_66 ?_
              exact e_iw rfl dX7_mark_93 h
        · refine i_iload_n dX7_mark_52 rfl ?_
          refine i_ldc (v := (-1000000005)) dX7_mark_53 k_X7_139 ?_
          refine r_icmp_ne (tgt := 61) dX7_mark_55 (by decide) h (fun c7 h => ?_) (fun c7 h => ?_)
          · refine i_aload dX7_mark_61 rfl ?_
            refine gf_X7_219 rfl (by omega) dX7_mark_63 ?_
            refine i_iload_n dX7_mark_66 rfl ?_
            refine i_iload_n dX7_mark_67 rfl ?_
            refine i_i2s dX7_mark_68 ?_
            refine as_20 dX7_mark_69 (by omega) h (fun j4 lj4 h => ?_)
            refine i_iconst (v := 1) dX7_mark_70 (by decide) ?_
            exact e_iw rfl dX7_mark_71 h
          · refine i_ldc (v := (-1000000012)) dX7_mark_58 k_X7_118 ?_
            exact e_iw rfl dX7_mark_60 h
      · refine i_ldcw (v := (-1000000013)) dX7_mark_40 k_X7_268 ?_
        exact e_iw rfl dX7_mark_43 h
    · refine i_ldc (v := (-1000000011)) dX7_mark_28 k_X7_208 ?_
      exact e_iw rfl dX7_mark_30 h
  · refine i_ldc (v := (-1000000001)) dX7_mark_9 k_X7_66 ?_
    exact e_iw rfl dX7_mark_11 h
def f_X7_pour_50 (p2 : Nat) (p4 : Int32) : Nat → Int32 → Int32 → Mem → (Int32 → Mem → Option (Int32 × Mem)) → Option (Int32 × Mem)
  | 0, _, _, _, _ => none
  | n + 1, v3, v5, σ, k =>
    (if p4 ≤ v5 then (k v3 σ) else (bnd (f_X5_isNumber p2 v5 σ) (fun a1 => (if a1 = 0 then (f_X7_pour_50 p2 p4 n v3 (v5 + (1 : Int32)) σ k) else (bnd (ix 24 v5) (fun j1 => (bnd (f_X7_heldWithin (σ 20 p2 j1) (0 : Int32) (99 : Int32) σ) (fun a2 => (bnd (ix 10 v5) (fun j2 => (bnd (f_X3_changeFaith (10 * 0 + j2) a2 σ) (fun a3 => (if a3.1 = a2 then (f_X7_pour_50 p2 p4 n v3 (v5 + (1 : Int32)) a3.2 k) else (f_X7_pour_50 p2 p4 n (v3 + (1 : Int32)) (v5 + (1 : Int32)) a3.2 k))))))))))))))
set_option maxRecDepth 100000 in
set_option maxHeartbeats 4000000 in
theorem L_X7_pour_50 {X : Cx} {p2 : Nat} {p4 : Int32} {r0 : Int32} {σ2 : Mem} {k : Int32 → Mem → Option (Int32 × Mem)} (h2 : p2 < 9) : ∀ (n : Nat) (v3 : Int32) (v5 : Int32) (σ : Mem), f_X7_pour_50 p2 p4 n v3 v5 σ k = some (r0, σ2) → (∀ (x3 : Int32) (σ1 : Mem), k x3 σ1 = some (r0, σ2) → At X 2 mX7_pour 110 [none, none, none, some (.int x3), none, none, none] [] σ1 (some (.int r0)) σ2) → At X 2 mX7_pour 50 [some (rf X 7 0), none, some (rf X 5 p2), some (.int v3), some (.int p4), some (.int v5), none] [] σ (some (.int r0)) σ2 := by
  intro n
  induction n with
  | zero =>
    intro v3 v5 σ h
    cases h
  | succ n ih =>
    intro v3 v5 σ h hk
    rw [f_X7_pour_50.eq_2] at h
    refine i_iload dX7_pour_50 rfl ?_
    refine i_iload dX7_pour_52 rfl ?_
    refine r_icmp_ge (tgt := 110) dX7_pour_54 (by decide) h (fun c1 h => ?_) (fun c1 h => ?_)
    · refine At.fewer (ls' := [none, none, none, some (.int v3), none, none, none]) (And.intro rfl trivial) ?_
      exact hk _ _ h
    · refine i_aload_n dX7_pour_57 rfl ?_
      refine i_iload dX7_pour_58 rfl ?_
      refine cVN_ir dX7_pour_60 cw_X7_216 ci_X5_isNumber rfl rfl (by decide) (show p2 < 9 by omega) h (fun a1 e => F_X5_isNumber (by omega) e) (Nat.le_of_ble_eq_true rfl) rfl rfl (Nat.le_of_ble_eq_true rfl) (fun a1 ea1 h => ?_)
      refine r_if_eq (tgt := 104) dX7_pour_63 (by decide) h (fun c2 h => ?_) (fun c2 h => ?_)
      · refine i_iinc (v := (v5 + (1 : Int32))) (ls' := [some (rf X 7 0), none, some (rf X 5 p2), some (.int v3), some (.int p4), some (.int (v5 + (1 : Int32))), none]) dX7_pour_104 rfl (by rfl) (by decide) (okp_at rfl) rfl ?_
        refine i_goto (tgt := 50) dX7_pour_107 (by decide) ?_
        exact ih _ _ _ h hk
      · refine i_aload_n dX7_pour_66 rfl ?_
        refine gf_X7_219 rfl (by omega) dX7_pour_67 ?_
        refine i_iload dX7_pour_70 rfl ?_
        refine al_20 dX7_pour_72 (by omega) h (fun j1 lj1 h => ?_)
        refine i_iconst (v := 0) dX7_pour_73 (by decide) ?_
        refine i_bipush (v := 99) dX7_pour_74 (by decide) ?_
        refine cS_ir dX7_pour_76 cw_X7_274 ci_X7_heldWithin h (fun a2 e => F_X7_heldWithin  e) (Nat.le_of_ble_eq_true rfl) rfl rfl (Nat.le_of_ble_eq_true rfl) (fun a2 ea2 h => ?_)
        refine i_istore (ls' := [some (rf X 7 0), none, some (rf X 5 p2), some (.int v3), some (.int p4), some (.int v5), some (.int a2)]) dX7_pour_79 (by decide) (okp_at rfl) rfl ?_
        refine i_aload_n dX7_pour_81 rfl ?_
        refine gf_X7_21 rfl (by omega) dX7_pour_82 ?_
        refine gf_X7_80 rfl (by omega) dX7_pour_85 ?_
        refine i_iload dX7_pour_88 rfl ?_
        refine aa_12 dX7_pour_90 (by omega) h (fun j2 lj2 h => ?_)
        refine i_iload dX7_pour_91 rfl ?_
        refine cVN_iw dX7_pour_93 cw_X7_122 ci_X3_changeFaith rfl rfl (by decide) (show (10 * 0 + j2) < 35 by omega) h (fun a3 e => F_X3_changeFaith (by omega) e) (Nat.le_of_ble_eq_true rfl) rfl rfl (Nat.le_of_ble_eq_true rfl) (fun a3 ea3 h => ?_)
        refine i_iload dX7_pour_96 rfl ?_
        refine r_icmp_eq (tgt := 104) dX7_pour_98 (by decide) h (fun c3 h => ?_) (fun c3 h => ?_)
        · refine i_iinc (v := (v5 + (1 : Int32))) (ls' := [some (rf X 7 0), none, some (rf X 5 p2), some (.int v3), some (.int p4), some (.int (v5 + (1 : Int32))), some (.int a2)]) dX7_pour_104 rfl (by rfl) (by decide) (okp_at rfl) rfl ?_
          refine i_goto (tgt := 50) dX7_pour_107 (by decide) ?_
          refine At.fewer (ls' := [some (rf X 7 0), none, some (rf X 5 p2), some (.int v3), some (.int p4), some (.int (v5 + (1 : Int32))), none]) (And.intro rfl (And.intro rfl (And.intro rfl (And.intro rfl (And.intro rfl trivial))))) ?_
          exact ih _ _ _ h hk
        · refine i_iinc (v := (v3 + (1 : Int32))) (ls' := [some (rf X 7 0), none, some (rf X 5 p2), some (.int (v3 + (1 : Int32))), some (.int p4), some (.int v5), some (.int a2)]) dX7_pour_101 rfl (by rfl) (by decide) (okp_at rfl) rfl ?_
          refine i_iinc (v := (v5 + (1 : Int32))) (ls' := [some (rf X 7 0), none, some (rf X 5 p2), some (.int (v3 + (1 : Int32))), some (.int p4), some (.int (v5 + (1 : Int32))), some (.int a2)]) dX7_pour_104 rfl (by rfl) (by decide) (okp_at rfl) rfl ?_
          refine i_goto (tgt := 50) dX7_pour_107 (by decide) ?_
          refine At.fewer (ls' := [some (rf X 7 0), none, some (rf X 5 p2), some (.int (v3 + (1 : Int32))), some (.int p4), some (.int (v5 + (1 : Int32))), none]) (And.intro rfl (And.intro rfl (And.intro rfl (And.intro rfl (And.intro rfl trivial))))) ?_
          exact ih _ _ _ h hk
def f_X7_pour  (p1 : Int32) (σ : Mem) : Option (Int32 × Mem) :=
  (bnd (f_X7_isWithin p1 (0 : Int32) (3 : Int32) σ) (fun a1 => (if a1 = 0 then (some ((-1000000001 : Int32), σ)) else (bnd (ix 4 p1) (fun j1 => (bnd (f_X5_isMissing j1 σ) (fun a2 => (if a2 = 0 then (f_X7_pour_50 j1 (if (σ 0 0 2) < (σ 5 j1 1) then (σ 0 0 2) else (σ 5 j1 1)) FU (0 : Int32) (0 : Int32) σ (fun e1 σ_1 => (some (e1, σ_1)))) else (some ((-1000000011 : Int32), σ))))))))))
set_option maxRecDepth 100000 in
set_option maxHeartbeats 4000000 in
theorem F_X7_pour {X : Cx} {p1 : Int32} {σ : Mem} {res : (Int32 × Mem)}  (h : f_X7_pour p1 σ = some res) : Tri X 2 mX7_pour [rf X 7 0, .int p1] σ (some (.int res.1)) res.2 := by
  obtain ⟨r0, σ2⟩ := res
  unfold f_X7_pour at h
  refine Tri.of (ls := [some (rf X 7 0), some (.int p1), none, none, none, none, none]) (by decide) (Nat.le_of_ble_eq_true rfl) rfl ?_
  refine i_iload_n dX7_pour_0 rfl ?_
  refine i_iconst (v := 0) dX7_pour_1 (by decide) ?_
  refine i_iconst (v := 3) dX7_pour_2 (by decide) ?_
  refine cS_ir dX7_pour_3 cw_X7_62 ci_X7_isWithin h (fun a1 e => F_X7_isWithin  e) (Nat.le_of_ble_eq_true rfl) rfl rfl (Nat.le_of_ble_eq_true rfl) (fun a1 ea1 h => ?_)
  refine r_if_ne (tgt := 12) dX7_pour_6 (by decide) h (fun c1 h => ?_) (fun c1 h => ?_)
  · refine i_aload_n dX7_pour_12 rfl ?_
    refine gf_X7_50 rfl (by omega) dX7_pour_13 ?_
    refine i_iload_n dX7_pour_16 rfl ?_
    refine aa_19 dX7_pour_17 (by omega) h (fun j1 lj1 h => ?_)
    refine i_astore_n (ls' := [some (rf X 7 0), some (.int p1), some (rf X 5 j1), none, none, none, none]) dX7_pour_18 (by decide) (okp_at rfl) rfl ?_
    refine i_aload_n dX7_pour_19 rfl ?_
    refine cVN_ir dX7_pour_20 cw_X7_204 ci_X5_isMissing rfl rfl (by decide) (show j1 < 9 by omega) h (fun a2 e => F_X5_isMissing (by omega) e) (Nat.le_of_ble_eq_true rfl) rfl rfl (Nat.le_of_ble_eq_true rfl) (fun a2 ea2 h => ?_)
    refine r_if_eq (tgt := 29) dX7_pour_23 (by decide) h (fun c2 h => ?_) (fun c2 h => ?_)
    · refine i_iconst (v := 0) dX7_pour_29 (by decide) ?_
      refine i_istore_n (ls' := [some (rf X 7 0), some (.int p1), some (rf X 5 j1), some (.int (0 : Int32)), none, none, none]) dX7_pour_30 (by decide) (okp_at rfl) rfl ?_
      refine i_aload_n dX7_pour_31 rfl ?_
      refine gf_X7_213 rfl (by omega) dX7_pour_32 ?_
      refine i_aload_n dX7_pour_35 rfl ?_
      refine gf_X7_21 rfl (by omega) dX7_pour_36 ?_
      refine gf_X7_67 rfl (by omega) dX7_pour_39 ?_
      refine i_mmin dX7_pour_42 k_X7_167 (by omega) (Nat.le_of_ble_eq_true rfl) ?_
      refine i_istore (ls' := [some (rf X 7 0), some (.int p1), some (rf X 5 j1), some (.int (0 : Int32)), some (.int (if (σ 0 0 2) < (σ 5 j1 1) then (σ 0 0 2) else (σ 5 j1 1))), none, none]) dX7_pour_45 (by decide) (okp_at rfl) rfl ?_
      refine i_iconst (v := 0) dX7_pour_47 (by decide) ?_
      refine i_istore (ls' := [some (rf X 7 0), some (.int p1), some (rf X 5 j1), some (.int (0 : Int32)), some (.int (if (σ 0 0 2) < (σ 5 j1 1) then (σ 0 0 2) else (σ 5 j1 1))), some (.int (0 : Int32)), none]) dX7_pour_48 (by decide) (okp_at rfl) rfl ?_
      refine At.fewer (ls' := [some (rf X 7 0), none, some (rf X 5 j1), some (.int (0 : Int32)), some (.int (if (σ 0 0 2) < (σ 5 j1 1) then (σ 0 0 2) else (σ 5 j1 1))), some (.int (0 : Int32)), none]) (And.intro rfl (And.intro rfl (And.intro rfl (And.intro rfl (And.intro rfl trivial))))) ?_
      refine L_X7_pour_50 (by omega) FU _ _ _ h (fun e1 σ_1 h => ?_)
      refine i_iload_n dX7_pour_110 rfl ?_
      exact e_iw rfl dX7_pour_111 h
    · refine i_ldc (v := (-1000000011)) dX7_pour_26 k_X7_208 ?_
      exact e_iw rfl dX7_pour_28 h
  · refine i_ldc (v := (-1000000001)) dX7_pour_9 k_X7_66 ?_
    exact e_iw rfl dX7_pour_11 h
def f_X7_reads_31 (p2 : Nat) (σ : Mem) : Nat → Int32 → (Option Int32) → Option Int32
  | 0, _, _ => none
  | n + 1, v3, k =>
    (if (σ 5 p2 1) ≤ v3 then (k) else (bnd (f_X5_isNumber p2 v3 σ) (fun a1 => (if a1 = 0 then (f_X7_reads_31 p2 σ n (v3 + (1 : Int32)) k) else (bnd (f_X0_hasPerson 0 v3 σ) (fun a2 => (if a2 = 0 then (some v3) else (bnd (ix 24 v3) (fun j1 => (bnd (ix 10 v3) (fun j2 => (bnd (f_X3_noon (10 * 0 + j2) σ) (fun a3 => (if (σ 20 p2 j1) = a3 then (f_X7_reads_31 p2 σ n (v3 + (1 : Int32)) k) else (some v3)))))))))))))))
set_option maxRecDepth 100000 in
set_option maxHeartbeats 4000000 in
theorem L_X7_reads_31 {X : Cx} {p2 : Nat} {σ : Mem} {r0 : Int32} {k : Option Int32} (h2 : p2 < 9) : ∀ (n : Nat) (v3 : Int32), f_X7_reads_31 p2 σ n v3 k = some r0 → (k = some r0 → At X 3 mX7_reads 87 [none, none, none, none] [] σ (some (.int r0)) σ) → At X 3 mX7_reads 31 [some (rf X 7 0), none, some (rf X 5 p2), some (.int v3)] [] σ (some (.int r0)) σ := by
  intro n
  induction n with
  | zero =>
    intro v3 h
    cases h
  | succ n ih =>
    intro v3 h hk
    rw [f_X7_reads_31.eq_2] at h
    refine i_iload_n dX7_reads_31 rfl ?_
    refine i_aload_n dX7_reads_32 rfl ?_
    refine gf_X7_213 rfl (by omega) dX7_reads_33 ?_
    refine r_icmp_ge (tgt := 87) dX7_reads_36 (by decide) h (fun c1 h => ?_) (fun c1 h => ?_)
    · refine At.fewer (ls' := [none, none, none, none]) trivial ?_
      exact hk h
    · refine i_aload_n dX7_reads_39 rfl ?_
      refine i_iload_n dX7_reads_40 rfl ?_
      refine cVN_ir dX7_reads_41 cw_X7_216 ci_X5_isNumber rfl rfl (by decide) (show p2 < 9 by omega) h (fun a1 e => F_X5_isNumber (by omega) e) (Nat.le_of_ble_eq_true rfl) rfl rfl (Nat.le_of_ble_eq_true rfl) (fun a1 ea1 h => ?_)
      refine r_if_eq (tgt := 81) dX7_reads_44 (by decide) h (fun c2 h => ?_) (fun c2 h => ?_)
      · refine i_iinc (v := (v3 + (1 : Int32))) (ls' := [some (rf X 7 0), none, some (rf X 5 p2), some (.int (v3 + (1 : Int32)))]) dX7_reads_81 rfl (by rfl) (by decide) (okp_at rfl) rfl ?_
        refine i_goto (tgt := 31) dX7_reads_84 (by decide) ?_
        exact ih _ h hk
      · refine i_aload_n dX7_reads_47 rfl ?_
        refine gf_X7_21 rfl (by omega) dX7_reads_48 ?_
        refine i_iload_n dX7_reads_51 rfl ?_
        refine cVN_ir dX7_reads_52 cw_X7_76 ci_X0_hasPerson rfl rfl (by decide) (show 0 < 3 by omega) h (fun a2 e => F_X0_hasPerson (by omega) e) (Nat.le_of_ble_eq_true rfl) rfl rfl (Nat.le_of_ble_eq_true rfl) (fun a2 ea2 h => ?_)
        refine r_if_eq (tgt := 79) dX7_reads_55 (by decide) h (fun c3 h => ?_) (fun c3 h => ?_)
        · refine i_iload_n dX7_reads_79 rfl ?_
          exact e_ir rfl dX7_reads_80 h
        · refine i_aload_n dX7_reads_58 rfl ?_
          refine gf_X7_219 rfl (by omega) dX7_reads_59 ?_
          refine i_iload_n dX7_reads_62 rfl ?_
          refine al_20 dX7_reads_63 (by omega) h (fun j1 lj1 h => ?_)
          refine i_aload_n dX7_reads_64 rfl ?_
          refine gf_X7_21 rfl (by omega) dX7_reads_65 ?_
          refine gf_X7_80 rfl (by omega) dX7_reads_68 ?_
          refine i_iload_n dX7_reads_71 rfl ?_
          refine aa_12 dX7_reads_72 (by omega) h (fun j2 lj2 h => ?_)
          refine cVN_ir dX7_reads_73 cw_X7_105 ci_X3_noon rfl rfl (by decide) (show (10 * 0 + j2) < 35 by omega) h (fun a3 e => F_X3_noon (by omega) e) (Nat.le_of_ble_eq_true rfl) rfl rfl (Nat.le_of_ble_eq_true rfl) (fun a3 ea3 h => ?_)
          refine r_icmp_eq (tgt := 81) dX7_reads_76 (by decide) h (fun c4 h => ?_) (fun c4 h => ?_)
          · refine i_iinc (v := (v3 + (1 : Int32))) (ls' := [some (rf X 7 0), none, some (rf X 5 p2), some (.int (v3 + (1 : Int32)))]) dX7_reads_81 rfl (by rfl) (by decide) (okp_at rfl) rfl ?_
            refine i_goto (tgt := 31) dX7_reads_84 (by decide) ?_
            exact ih _ h hk
          · refine i_iload_n dX7_reads_79 rfl ?_
            exact e_ir rfl dX7_reads_80 h
def f_X7_reads  (p1 : Int32) (σ : Mem) : Option Int32 :=
  (bnd (f_X7_isWithin p1 (0 : Int32) (3 : Int32) σ) (fun a1 => (if a1 = 0 then (some (-1000000001 : Int32)) else (bnd (ix 4 p1) (fun j1 => (bnd (f_X5_isMissing j1 σ) (fun a2 => (if a2 = 0 then (f_X7_reads_31 j1 σ FU (0 : Int32) ((some (-1000000005 : Int32)))) else (some (-1000000011 : Int32))))))))))
set_option maxRecDepth 100000 in
set_option maxHeartbeats 4000000 in
theorem F_X7_reads {X : Cx} {p1 : Int32} {σ : Mem} {res : Int32}  (h : f_X7_reads p1 σ = some res) : Tri X 3 mX7_reads [rf X 7 0, .int p1] σ (some (.int res)) σ := by
  unfold f_X7_reads at h
  refine Tri.of (ls := [some (rf X 7 0), some (.int p1), none, none]) (by decide) (Nat.le_of_ble_eq_true rfl) rfl ?_
  refine i_iload_n dX7_reads_0 rfl ?_
  refine i_iconst (v := 0) dX7_reads_1 (by decide) ?_
  refine i_iconst (v := 3) dX7_reads_2 (by decide) ?_
  refine cS_ir dX7_reads_3 cw_X7_62 ci_X7_isWithin h (fun a1 e => F_X7_isWithin  e) (Nat.le_of_ble_eq_true rfl) rfl rfl (Nat.le_of_ble_eq_true rfl) (fun a1 ea1 h => ?_)
  refine r_if_ne (tgt := 12) dX7_reads_6 (by decide) h (fun c1 h => ?_) (fun c1 h => ?_)
  · refine i_aload_n dX7_reads_12 rfl ?_
    refine gf_X7_50 rfl (by omega) dX7_reads_13 ?_
    refine i_iload_n dX7_reads_16 rfl ?_
    refine aa_19 dX7_reads_17 (by omega) h (fun j1 lj1 h => ?_)
    refine i_astore_n (ls' := [some (rf X 7 0), some (.int p1), some (rf X 5 j1), none]) dX7_reads_18 (by decide) (okp_at rfl) rfl ?_
    refine i_aload_n dX7_reads_19 rfl ?_
    refine cVN_ir dX7_reads_20 cw_X7_204 ci_X5_isMissing rfl rfl (by decide) (show j1 < 9 by omega) h (fun a2 e => F_X5_isMissing (by omega) e) (Nat.le_of_ble_eq_true rfl) rfl rfl (Nat.le_of_ble_eq_true rfl) (fun a2 ea2 h => ?_)
    refine r_if_eq (tgt := 29) dX7_reads_23 (by decide) h (fun c2 h => ?_) (fun c2 h => ?_)
    · refine i_iconst (v := 0) dX7_reads_29 (by decide) ?_
      refine i_istore_n (ls' := [some (rf X 7 0), some (.int p1), some (rf X 5 j1), some (.int (0 : Int32))]) dX7_reads_30 (by decide) (okp_at rfl) rfl ?_
      refine At.fewer (ls' := [some (rf X 7 0), none, some (rf X 5 j1), some (.int (0 : Int32))]) (And.intro rfl (And.intro rfl (And.intro rfl trivial))) ?_
      refine L_X7_reads_31 (by omega) FU _ h (fun  h => ?_)
      refine i_ldc (v := (-1000000005)) dX7_reads_87 k_X7_139 ?_
      exact e_ir rfl dX7_reads_89 h
    · refine i_ldc (v := (-1000000011)) dX7_reads_26 k_X7_208 ?_
      exact e_ir rfl dX7_reads_28 h
  · refine i_ldc (v := (-1000000001)) dX7_reads_9 k_X7_66 ?_
    exact e_ir rfl dX7_reads_11 h
def f_X7_copy  (p1 : Int32) (p2 : Int32) (p3 : Int32) (p4 : Int32) (p5 : Int32) (σ : Mem) : Option (Int32 × Mem) :=
  (bnd (f_X7_isWithin p1 (0 : Int32) (3 : Int32) σ) (fun a1 => (if a1 = 0 then (some ((-1000000001 : Int32), σ)) else (bnd (f_X7_isWithin p3 (0 : Int32) (3 : Int32) σ) (fun a2 => (if a2 = 0 then (some ((-1000000001 : Int32), σ)) else (bnd (ix 4 p1) (fun j1 => (bnd (ix 4 p3) (fun j2 => (bnd (f_X5_isMissing j1 σ) (fun a3 => (if a3 = 0 then (bnd (f_X5_isMissing j2 σ) (fun a4 => (if a4 = 0 then (if (σ 5 j1 0) = (σ 5 j2 0) then (bnd (f_X5_hasRun j1 p2 p5 σ) (fun a5 => (if a5 = 0 then (some ((-1000000013 : Int32), σ)) else (bnd (f_X5_hasRun j2 p4 p5 σ) (fun a6 => (if a6 = 0 then (some ((-1000000013 : Int32), σ)) else (if cpOK p2 p4 p5 24 24 = true then (some (p5, (mcopy σ 20 j1 (p2).toNatClampNeg 20 j2 (p4).toNatClampNeg (p5).toNatClampNeg))) else none))))))) else (some ((-1000000012 : Int32), σ))) else (some ((-1000000011 : Int32), σ))))) else (some ((-1000000011 : Int32), σ)))))))))))))))
set_option maxRecDepth 100000 in
set_option maxHeartbeats 4000000 in
theorem F_X7_copy {X : Cx} {p1 : Int32} {p2 : Int32} {p3 : Int32} {p4 : Int32} {p5 : Int32} {σ : Mem} {res : (Int32 × Mem)}  (h : f_X7_copy p1 p2 p3 p4 p5 σ = some res) : Tri X 3 mX7_copy [rf X 7 0, .int p1, .int p2, .int p3, .int p4, .int p5] σ (some (.int res.1)) res.2 := by
  obtain ⟨r0, σ2⟩ := res
  unfold f_X7_copy at h
  refine Tri.of (ls := [some (rf X 7 0), some (.int p1), some (.int p2), some (.int p3), some (.int p4), some (.int p5), none, none]) (by decide) (Nat.le_of_ble_eq_true rfl) rfl ?_
  refine i_iload_n dX7_copy_0 rfl ?_
  refine i_iconst (v := 0) dX7_copy_1 (by decide) ?_
  refine i_iconst (v := 3) dX7_copy_2 (by decide) ?_
  refine cS_ir dX7_copy_3 cw_X7_62 ci_X7_isWithin h (fun a1 e => F_X7_isWithin  e) (Nat.le_of_ble_eq_true rfl) rfl rfl (Nat.le_of_ble_eq_true rfl) (fun a1 ea1 h => ?_)
  refine r_if_eq (tgt := 18) dX7_copy_6 (by decide) h (fun c1 h => ?_) (fun c1 h => ?_)
  · refine i_ldc (v := (-1000000001)) dX7_copy_18 k_X7_66 ?_
    exact e_iw rfl dX7_copy_20 h
  · refine i_iload_n dX7_copy_9 rfl ?_
    refine i_iconst (v := 0) dX7_copy_10 (by decide) ?_
    refine i_iconst (v := 3) dX7_copy_11 (by decide) ?_
    refine cS_ir dX7_copy_12 cw_X7_62 ci_X7_isWithin h (fun a2 e => F_X7_isWithin  e) (Nat.le_of_ble_eq_true rfl) rfl rfl (Nat.le_of_ble_eq_true rfl) (fun a2 ea2 h => ?_)
    refine r_if_ne (tgt := 21) dX7_copy_15 (by decide) h (fun c2 h => ?_) (fun c2 h => ?_)
    · refine i_aload_n dX7_copy_21 rfl ?_
      refine gf_X7_50 rfl (by omega) dX7_copy_22 ?_
      refine i_iload_n dX7_copy_25 rfl ?_
      refine aa_19 dX7_copy_26 (by omega) h (fun j1 lj1 h => ?_)
      refine i_astore (ls' := [some (rf X 7 0), some (.int p1), some (.int p2), some (.int p3), some (.int p4), some (.int p5), some (rf X 5 j1), none]) dX7_copy_27 (by decide) (okp_at rfl) rfl ?_
      refine i_aload_n dX7_copy_29 rfl ?_
      refine gf_X7_50 rfl (by omega) dX7_copy_30 ?_
      refine i_iload_n dX7_copy_33 rfl ?_
      refine aa_19 dX7_copy_34 (by omega) h (fun j2 lj2 h => ?_)
      refine i_astore (ls' := [some (rf X 7 0), some (.int p1), some (.int p2), some (.int p3), some (.int p4), some (.int p5), some (rf X 5 j1), some (rf X 5 j2)]) dX7_copy_35 (by decide) (okp_at rfl) rfl ?_
      refine i_aload dX7_copy_37 rfl ?_
      refine cVN_ir dX7_copy_39 cw_X7_204 ci_X5_isMissing rfl rfl (by decide) (show j1 < 9 by omega) h (fun a3 e => F_X5_isMissing (by omega) e) (Nat.le_of_ble_eq_true rfl) rfl rfl (Nat.le_of_ble_eq_true rfl) (fun a3 ea3 h => ?_)
      refine r_if_ne (tgt := 53) dX7_copy_42 (by decide) h (fun c3 h => ?_) (fun c3 h => ?_)
      · refine i_ldc (v := (-1000000011)) dX7_copy_53 k_X7_208 ?_
        exact e_iw rfl dX7_copy_55 h
      · refine i_aload dX7_copy_45 rfl ?_
        refine cVN_ir dX7_copy_47 cw_X7_204 ci_X5_isMissing rfl rfl (by decide) (show j2 < 9 by omega) h (fun a4 e => F_X5_isMissing (by omega) e) (Nat.le_of_ble_eq_true rfl) rfl rfl (Nat.le_of_ble_eq_true rfl) (fun a4 ea4 h => ?_)
        refine r_if_eq (tgt := 56) dX7_copy_50 (by decide) h (fun c4 h => ?_) (fun c4 h => ?_)
        · refine i_aload dX7_copy_56 rfl ?_
          refine gf_X7_269 rfl (by omega) dX7_copy_58 ?_
          refine i_aload dX7_copy_61 rfl ?_
          refine gf_X7_269 rfl (by omega) dX7_copy_63 ?_
          refine r_icmp_eq (tgt := 72) dX7_copy_66 (by decide) h (fun c5 h => ?_) (fun c5 h => ?_)
          · refine i_aload dX7_copy_72 rfl ?_
            refine i_iload_n dX7_copy_74 rfl ?_
            refine i_iload dX7_copy_75 rfl ?_
            refine cVN_ir dX7_copy_77 cw_X7_278 ci_X5_hasRun rfl rfl (by decide) (show j1 < 9 by omega) h (fun a5 e => F_X5_hasRun (by omega) e) (Nat.le_of_ble_eq_true rfl) rfl rfl (Nat.le_of_ble_eq_true rfl) (fun a5 ea5 h => ?_)
            refine r_if_eq (tgt := 95) dX7_copy_80 (by decide) h (fun c6 h => ?_) (fun c6 h => ?_)
            · refine i_ldcw (v := (-1000000013)) dX7_copy_95 k_X7_268 ?_
              exact e_iw rfl dX7_copy_98 h
            · refine i_aload dX7_copy_83 rfl ?_
              refine i_iload dX7_copy_85 rfl ?_
              refine i_iload dX7_copy_87 rfl ?_
              refine cVN_ir dX7_copy_89 cw_X7_278 ci_X5_hasRun rfl rfl (by decide) (show j2 < 9 by omega) h (fun a6 e => F_X5_hasRun (by omega) e) (Nat.le_of_ble_eq_true rfl) rfl rfl (Nat.le_of_ble_eq_true rfl) (fun a6 ea6 h => ?_)
              refine r_if_ne (tgt := 99) dX7_copy_92 (by decide) h (fun c7 h => ?_) (fun c7 h => ?_)
              · refine i_aload dX7_copy_99 rfl ?_
                refine gf_X7_219 rfl (by omega) dX7_copy_101 ?_
                refine i_iload_n dX7_copy_104 rfl ?_
                refine i_aload dX7_copy_105 rfl ?_
                refine gf_X7_219 rfl (by omega) dX7_copy_107 ?_
                refine i_iload dX7_copy_110 rfl ?_
                refine i_iload dX7_copy_112 rfl ?_
                refine r_acopy dX7_copy_114 k_X7_282 (by decide) (by decide) rfl rfl rfl rfl (show j1 < 9 by omega) (show j2 < 9 by omega) (by omega) (Nat.le_of_ble_eq_true rfl) h (fun h => ?_)
                refine i_iload dX7_copy_117 rfl ?_
                exact e_iw rfl dX7_copy_119 h
              · refine i_ldcw (v := (-1000000013)) dX7_copy_95 k_X7_268 ?_
                exact e_iw rfl dX7_copy_98 h
          · refine i_ldc (v := (-1000000012)) dX7_copy_69 k_X7_118 ?_
            exact e_iw rfl dX7_copy_71 h
        · refine i_ldc (v := (-1000000011)) dX7_copy_53 k_X7_208 ?_
          exact e_iw rfl dX7_copy_55 h
    · refine i_ldc (v := (-1000000001)) dX7_copy_18 k_X7_66 ?_
      exact e_iw rfl dX7_copy_20 h
def f_X7_lay  (p1 : Int32) (p2 : Int32) (p3 : Int32) (σ : Mem) : Option (Int32 × Mem) :=
  (bnd (f_X7_isWithin p1 (0 : Int32) (4 : Int32) σ) (fun a1 => (if a1 = 0 then (some ((-1000000001 : Int32), σ)) else (bnd (f_X7_isWithin p2 (0 : Int32) (3 : Int32) σ) (fun a2 => (if a2 = 0 then (some ((-1000000001 : Int32), σ)) else (if p2 = (1 : Int32) then (bnd (f_X0_hasPerson 0 p3 σ) (fun a14 => (if a14 = 0 then (some ((-1000000001 : Int32), σ)) else (if p2 = (2 : Int32) then (bnd (f_X7_isWithin p3 (0 : Int32) (3 : Int32) σ) (fun a20 => (if a20 = 0 then (some ((-1000000001 : Int32), σ)) else (if p2 = (2 : Int32) then (bnd (ix 4 p3) (fun j25 => (bnd (f_X5_isMissing j25 σ) (fun a23 => (if a23 = 0 then (bnd (ix 5 p1) (fun j26 => (if p2 = (1 : Int32) then (bnd (ix 10 p3) (fun j27 => (bnd (f_X3_becomes (30 + j26) (10 * 0 + j27) (mput σ 6 j26 0 p2)) (fun a24 => (some ((σ 6 j26 0), a24)))))) else (if p2 = (2 : Int32) then (bnd (ix 4 p3) (fun j28 => (bnd (f_X5_becomes (4 + j26) j28 (mput σ 6 j26 0 p2)) (fun a25 => (some ((σ 6 j26 0), a25)))))) else (if p2 = (3 : Int32) then (some ((σ 6 j26 0), (mput (mput σ 6 j26 0 p2) 6 j26 3 p3))) else (some ((σ 6 j26 0), (mput σ 6 j26 0 p2)))))))) else (some ((-1000000011 : Int32), σ))))))) else (bnd (ix 5 p1) (fun j22 => (if p2 = (1 : Int32) then (bnd (ix 10 p3) (fun j23 => (bnd (f_X3_becomes (30 + j22) (10 * 0 + j23) (mput σ 6 j22 0 p2)) (fun a21 => (some ((σ 6 j22 0), a21)))))) else (if p2 = (2 : Int32) then (bnd (ix 4 p3) (fun j24 => (bnd (f_X5_becomes (4 + j22) j24 (mput σ 6 j22 0 p2)) (fun a22 => (some ((σ 6 j22 0), a22)))))) else (if p2 = (3 : Int32) then (some ((σ 6 j22 0), (mput (mput σ 6 j22 0 p2) 6 j22 3 p3))) else (some ((σ 6 j22 0), (mput σ 6 j22 0 p2)))))))))))) else (if p2 = (2 : Int32) then (bnd (ix 4 p3) (fun j18 => (bnd (f_X5_isMissing j18 σ) (fun a17 => (if a17 = 0 then (bnd (ix 5 p1) (fun j19 => (if p2 = (1 : Int32) then (bnd (ix 10 p3) (fun j20 => (bnd (f_X3_becomes (30 + j19) (10 * 0 + j20) (mput σ 6 j19 0 p2)) (fun a18 => (some ((σ 6 j19 0), a18)))))) else (if p2 = (2 : Int32) then (bnd (ix 4 p3) (fun j21 => (bnd (f_X5_becomes (4 + j19) j21 (mput σ 6 j19 0 p2)) (fun a19 => (some ((σ 6 j19 0), a19)))))) else (if p2 = (3 : Int32) then (some ((σ 6 j19 0), (mput (mput σ 6 j19 0 p2) 6 j19 3 p3))) else (some ((σ 6 j19 0), (mput σ 6 j19 0 p2)))))))) else (some ((-1000000011 : Int32), σ))))))) else (bnd (ix 5 p1) (fun j15 => (if p2 = (1 : Int32) then (bnd (ix 10 p3) (fun j16 => (bnd (f_X3_becomes (30 + j15) (10 * 0 + j16) (mput σ 6 j15 0 p2)) (fun a15 => (some ((σ 6 j15 0), a15)))))) else (if p2 = (2 : Int32) then (bnd (ix 4 p3) (fun j17 => (bnd (f_X5_becomes (4 + j15) j17 (mput σ 6 j15 0 p2)) (fun a16 => (some ((σ 6 j15 0), a16)))))) else (if p2 = (3 : Int32) then (some ((σ 6 j15 0), (mput (mput σ 6 j15 0 p2) 6 j15 3 p3))) else (some ((σ 6 j15 0), (mput σ 6 j15 0 p2))))))))))))) else (if p2 = (2 : Int32) then (bnd (f_X7_isWithin p3 (0 : Int32) (3 : Int32) σ) (fun a8 => (if a8 = 0 then (some ((-1000000001 : Int32), σ)) else (if p2 = (2 : Int32) then (bnd (ix 4 p3) (fun j11 => (bnd (f_X5_isMissing j11 σ) (fun a11 => (if a11 = 0 then (bnd (ix 5 p1) (fun j12 => (if p2 = (1 : Int32) then (bnd (ix 10 p3) (fun j13 => (bnd (f_X3_becomes (30 + j12) (10 * 0 + j13) (mput σ 6 j12 0 p2)) (fun a12 => (some ((σ 6 j12 0), a12)))))) else (if p2 = (2 : Int32) then (bnd (ix 4 p3) (fun j14 => (bnd (f_X5_becomes (4 + j12) j14 (mput σ 6 j12 0 p2)) (fun a13 => (some ((σ 6 j12 0), a13)))))) else (if p2 = (3 : Int32) then (some ((σ 6 j12 0), (mput (mput σ 6 j12 0 p2) 6 j12 3 p3))) else (some ((σ 6 j12 0), (mput σ 6 j12 0 p2)))))))) else (some ((-1000000011 : Int32), σ))))))) else (bnd (ix 5 p1) (fun j8 => (if p2 = (1 : Int32) then (bnd (ix 10 p3) (fun j9 => (bnd (f_X3_becomes (30 + j8) (10 * 0 + j9) (mput σ 6 j8 0 p2)) (fun a9 => (some ((σ 6 j8 0), a9)))))) else (if p2 = (2 : Int32) then (bnd (ix 4 p3) (fun j10 => (bnd (f_X5_becomes (4 + j8) j10 (mput σ 6 j8 0 p2)) (fun a10 => (some ((σ 6 j8 0), a10)))))) else (if p2 = (3 : Int32) then (some ((σ 6 j8 0), (mput (mput σ 6 j8 0 p2) 6 j8 3 p3))) else (some ((σ 6 j8 0), (mput σ 6 j8 0 p2)))))))))))) else (if p2 = (2 : Int32) then (bnd (ix 4 p3) (fun j4 => (bnd (f_X5_isMissing j4 σ) (fun a5 => (if a5 = 0 then (bnd (ix 5 p1) (fun j5 => (if p2 = (1 : Int32) then (bnd (ix 10 p3) (fun j6 => (bnd (f_X3_becomes (30 + j5) (10 * 0 + j6) (mput σ 6 j5 0 p2)) (fun a6 => (some ((σ 6 j5 0), a6)))))) else (if p2 = (2 : Int32) then (bnd (ix 4 p3) (fun j7 => (bnd (f_X5_becomes (4 + j5) j7 (mput σ 6 j5 0 p2)) (fun a7 => (some ((σ 6 j5 0), a7)))))) else (if p2 = (3 : Int32) then (some ((σ 6 j5 0), (mput (mput σ 6 j5 0 p2) 6 j5 3 p3))) else (some ((σ 6 j5 0), (mput σ 6 j5 0 p2)))))))) else (some ((-1000000011 : Int32), σ))))))) else (bnd (ix 5 p1) (fun j1 => (if p2 = (1 : Int32) then (bnd (ix 10 p3) (fun j2 => (bnd (f_X3_becomes (30 + j1) (10 * 0 + j2) (mput σ 6 j1 0 p2)) (fun a3 => (some ((σ 6 j1 0), a3)))))) else (if p2 = (2 : Int32) then (bnd (ix 4 p3) (fun j3 => (bnd (f_X5_becomes (4 + j1) j3 (mput σ 6 j1 0 p2)) (fun a4 => (some ((σ 6 j1 0), a4)))))) else (if p2 = (3 : Int32) then (some ((σ 6 j1 0), (mput (mput σ 6 j1 0 p2) 6 j1 3 p3))) else (some ((σ 6 j1 0), (mput σ 6 j1 0 p2)))))))))))))))))
set_option maxRecDepth 100000 in
set_option maxHeartbeats 4000000 in
theorem F_X7_lay {X : Cx} {p1 : Int32} {p2 : Int32} {p3 : Int32} {σ : Mem} {res : (Int32 × Mem)}  (h : f_X7_lay p1 p2 p3 σ = some res) : Tri X 3 mX7_lay [rf X 7 0, .int p1, .int p2, .int p3] σ (some (.int res.1)) res.2 := by
  obtain ⟨r0, σ2⟩ := res
  unfold f_X7_lay at h
  refine Tri.of (ls := [some (rf X 7 0), some (.int p1), some (.int p2), some (.int p3), none, none]) (by decide) (Nat.le_of_ble_eq_true rfl) rfl ?_
  refine i_iload_n dX7_lay_0 rfl ?_
  refine i_iconst (v := 0) dX7_lay_1 (by decide) ?_
  refine i_iconst (v := 4) dX7_lay_2 (by decide) ?_
  refine cS_ir dX7_lay_3 cw_X7_62 ci_X7_isWithin h (fun a1 e => F_X7_isWithin  e) (Nat.le_of_ble_eq_true rfl) rfl rfl (Nat.le_of_ble_eq_true rfl) (fun a1 ea1 h => ?_)
  refine r_if_eq (tgt := 18) dX7_lay_6 (by decide) h (fun c1 h => ?_) (fun c1 h => ?_)
  · refine i_ldc (v := (-1000000001)) dX7_lay_18 k_X7_66 ?_
    exact e_iw rfl dX7_lay_20 h
  · refine i_iload_n dX7_lay_9 rfl ?_
    refine i_iconst (v := 0) dX7_lay_10 (by decide) ?_
    refine i_iconst (v := 3) dX7_lay_11 (by decide) ?_
    refine cS_ir dX7_lay_12 cw_X7_62 ci_X7_isWithin h (fun a2 e => F_X7_isWithin  e) (Nat.le_of_ble_eq_true rfl) rfl rfl (Nat.le_of_ble_eq_true rfl) (fun a2 ea2 h => ?_)
    refine r_if_ne (tgt := 21) dX7_lay_15 (by decide) h (fun c2 h => ?_) (fun c2 h => ?_)
    · refine i_iload_n dX7_lay_21 rfl ?_
      refine i_iconst (v := 1) dX7_lay_22 (by decide) ?_
      refine r_icmp_ne (tgt := 40) dX7_lay_23 (by decide) h (fun c3 h => ?_) (fun c3 h => ?_)
      · refine i_iload_n dX7_lay_40 rfl ?_
        refine i_iconst (v := 2) dX7_lay_41 (by decide) ?_
        refine r_icmp_ne (tgt := 57) dX7_lay_42 (by decide) h (fun c4 h => ?_) (fun c4 h => ?_)
        · refine i_iload_n dX7_lay_57 rfl ?_
          refine i_iconst (v := 2) dX7_lay_58 (by decide) ?_
          refine r_icmp_ne (tgt := 77) dX7_lay_59 (by decide) h (fun c5 h => ?_) (fun c5 h => ?_)
          · refine i_aload_n dX7_lay_77 rfl ?_
            refine gf_X7_57 rfl (by omega) dX7_lay_78 ?_
            refine i_iload_n dX7_lay_81 rfl ?_
            refine aa_21 dX7_lay_82 (by omega) h (fun j1 lj1 h => ?_)
            refine i_astore (ls' := [some (rf X 7 0), some (.int p1), some (.int p2), some (.int p3), some (rf X 6 j1), none]) dX7_lay_83 (by decide) (okp_at rfl) rfl ?_
            refine i_aload dX7_lay_85 rfl ?_
            refine gf_X7_288 rfl (by omega) dX7_lay_87 ?_
            refine i_istore (ls' := [some (rf X 7 0), some (.int p1), some (.int p2), some (.int p3), some (rf X 6 j1), some (.int (σ 6 j1 0))]) dX7_lay_90 (by decide) (okp_at rfl) rfl ?_
            refine i_aload dX7_lay_92 rfl ?_
            refine i_iload_n dX7_lay_94 rfl ?_
            refine pf_X7_288 rfl (by omega) dX7_lay_95 ?_
            refine i_iload_n dX7_lay_98 rfl ?_
            refine r_case (c := p2 = (1 : Int32)) h (fun c6 h => ?_) (fun c6 h => ?_)
            · refine i_tin (tgt := 124) (off := 25) dX7_lay_99 (1 : Int32) c6 (by decide) (by decide) (by decide) (by decide) ?_
              refine i_aload dX7_lay_124 rfl ?_
              refine gf_X7_291 rfl (by omega) dX7_lay_126 ?_
              refine i_aload_n dX7_lay_129 rfl ?_
              refine gf_X7_21 rfl (by omega) dX7_lay_130 ?_
              refine gf_X7_80 rfl (by omega) dX7_lay_133 ?_
              refine i_iload_n dX7_lay_136 rfl ?_
              refine aa_12 dX7_lay_137 (by omega) h (fun j2 lj2 h => ?_)
              refine cVN_vw dX7_lay_138 cw_X7_295 ci_X3_becomes rfl rfl (by decide) (show (30 + j1) < 35 by omega) h (fun a3 e => F_X3_becomes (by omega) (by omega) e) (Nat.le_of_ble_eq_true rfl) rfl rfl (Nat.le_of_ble_eq_true rfl) (fun a3 ea3 h => ?_)
              refine i_goto (tgt := 170) dX7_lay_141 (by decide) ?_
              refine i_iload dX7_lay_170 rfl ?_
              exact e_iw rfl dX7_lay_172 h
            · refine r_case (c := p2 = (2 : Int32)) h (fun c7 h => ?_) (fun c7 h => ?_)
              · refine i_tin (tgt := 144) (off := 45) dX7_lay_99 (2 : Int32) c7 (by decide) (by decide) (by decide) (by decide) ?_
                refine i_aload dX7_lay_144 rfl ?_
                refine gf_X7_298 rfl (by omega) dX7_lay_146 ?_
                refine i_aload_n dX7_lay_149 rfl ?_
                refine gf_X7_50 rfl (by omega) dX7_lay_150 ?_
                refine i_iload_n dX7_lay_153 rfl ?_
                refine aa_19 dX7_lay_154 (by omega) h (fun j3 lj3 h => ?_)
                refine cVN_vw dX7_lay_155 cw_X7_302 ci_X5_becomes rfl rfl (by decide) (show (4 + j1) < 9 by omega) h (fun a4 e => F_X5_becomes (by omega) (by omega) e) (Nat.le_of_ble_eq_true rfl) rfl rfl (Nat.le_of_ble_eq_true rfl) (fun a4 ea4 h => ?_)
                refine i_goto (tgt := 170) dX7_lay_158 (by decide) ?_
                refine i_iload dX7_lay_170 rfl ?_
                exact e_iw rfl dX7_lay_172 h
              · refine r_case (c := p2 = (3 : Int32)) h (fun c8 h => ?_) (fun c8 h => ?_)
                · refine i_tin (tgt := 161) (off := 62) dX7_lay_99 (3 : Int32) c8 (by decide) (by decide) (by decide) (by decide) ?_
                  refine i_aload dX7_lay_161 rfl ?_
                  refine i_iload_n dX7_lay_163 rfl ?_
                  refine pf_X7_305 rfl (by omega) dX7_lay_164 ?_
                  refine i_goto (tgt := 170) dX7_lay_167 (by decide) ?_
                  refine i_iload dX7_lay_170 rfl ?_
                  exact e_iw rfl dX7_lay_172 h
                · refine i_tout (tgt := 170) dX7_lay_99 (tsw_1_3 c6 c7 c8) (by decide) ?_
                  refine i_iload dX7_lay_170 rfl ?_
                  exact e_iw rfl dX7_lay_172 h
          · refine i_aload_n dX7_lay_62 rfl ?_
            refine gf_X7_50 rfl (by omega) dX7_lay_63 ?_
            refine i_iload_n dX7_lay_66 rfl ?_
            refine aa_19 dX7_lay_67 (by omega) h (fun j4 lj4 h => ?_)
            refine cVN_ir dX7_lay_68 cw_X7_204 ci_X5_isMissing rfl rfl (by decide) (show j4 < 9 by omega) h (fun a5 e => F_X5_isMissing (by omega) e) (Nat.le_of_ble_eq_true rfl) rfl rfl (Nat.le_of_ble_eq_true rfl) (fun a5 ea5 h => ?_)
            refine r_if_eq (tgt := 77) dX7_lay_71 (by decide) h (fun c9 h => ?_) (fun c9 h => ?_)
            · refine i_aload_n dX7_lay_77 rfl ?_
              refine gf_X7_57 rfl (by omega) dX7_lay_78 ?_
              refine i_iload_n dX7_lay_81 rfl ?_
              refine aa_21 dX7_lay_82 (by omega) h (fun j5 lj5 h => ?_)
              refine i_astore (ls' := [some (rf X 7 0), some (.int p1), some (.int p2), some (.int p3), some (rf X 6 j5), none]) dX7_lay_83 (by decide) (okp_at rfl) rfl ?_
              refine i_aload dX7_lay_85 rfl ?_
              refine gf_X7_288 rfl (by omega) dX7_lay_87 ?_
              refine i_istore (ls' := [some (rf X 7 0), some (.int p1), some (.int p2), some (.int p3), some (rf X 6 j5), some (.int (σ 6 j5 0))]) dX7_lay_90 (by decide) (okp_at rfl) rfl ?_
              refine i_aload dX7_lay_92 rfl ?_
              refine i_iload_n dX7_lay_94 rfl ?_
              refine pf_X7_288 rfl (by omega) dX7_lay_95 ?_
              refine i_iload_n dX7_lay_98 rfl ?_
              refine r_case (c := p2 = (1 : Int32)) h (fun c10 h => ?_) (fun c10 h => ?_)
              · refine i_tin (tgt := 124) (off := 25) dX7_lay_99 (1 : Int32) c10 (by decide) (by decide) (by decide) (by decide) ?_
                refine i_aload dX7_lay_124 rfl ?_
                refine gf_X7_291 rfl (by omega) dX7_lay_126 ?_
                refine i_aload_n dX7_lay_129 rfl ?_
                refine gf_X7_21 rfl (by omega) dX7_lay_130 ?_
                refine gf_X7_80 rfl (by omega) dX7_lay_133 ?_
                refine i_iload_n dX7_lay_136 rfl ?_
                refine aa_12 dX7_lay_137 (by omega) h (fun j6 lj6 h => ?_)
                refine cVN_vw dX7_lay_138 cw_X7_295 ci_X3_becomes rfl rfl (by decide) (show (30 + j5) < 35 by omega) h (fun a6 e => F_X3_becomes (by omega) (by omega) e) (Nat.le_of_ble_eq_true rfl) rfl rfl (Nat.le_of_ble_eq_true rfl) (fun a6 ea6 h => ?_)
                refine i_goto (tgt := 170) dX7_lay_141 (by decide) ?_
                refine i_iload dX7_lay_170 rfl ?_
                exact e_iw rfl dX7_lay_172 h
              · refine r_case (c := p2 = (2 : Int32)) h (fun c11 h => ?_) (fun c11 h => ?_)
                · refine i_tin (tgt := 144) (off := 45) dX7_lay_99 (2 : Int32) c11 (by decide) (by decide) (by decide) (by decide) ?_
                  refine i_aload dX7_lay_144 rfl ?_
                  refine gf_X7_298 rfl (by omega) dX7_lay_146 ?_
                  refine i_aload_n dX7_lay_149 rfl ?_
                  refine gf_X7_50 rfl (by omega) dX7_lay_150 ?_
                  refine i_iload_n dX7_lay_153 rfl ?_
                  refine aa_19 dX7_lay_154 (by omega) h (fun j7 lj7 h => ?_)
                  refine cVN_vw dX7_lay_155 cw_X7_302 ci_X5_becomes rfl rfl (by decide) (show (4 + j5) < 9 by omega) h (fun a7 e => F_X5_becomes (by omega) (by omega) e) (Nat.le_of_ble_eq_true rfl) rfl rfl (Nat.le_of_ble_eq_true rfl) (fun a7 ea7 h => ?_)
                  refine i_goto (tgt := 170) dX7_lay_158 (by decide) ?_
                  refine i_iload dX7_lay_170 rfl ?_
                  exact e_iw rfl dX7_lay_172 h
                · refine r_case (c := p2 = (3 : Int32)) h (fun c12 h => ?_) (fun c12 h => ?_)
                  · refine i_tin (tgt := 161) (off := 62) dX7_lay_99 (3 : Int32) c12 (by decide) (by decide) (by decide) (by decide) ?_
                    refine i_aload dX7_lay_161 rfl ?_
                    refine i_iload_n dX7_lay_163 rfl ?_
                    refine pf_X7_305 rfl (by omega) dX7_lay_164 ?_
                    refine i_goto (tgt := 170) dX7_lay_167 (by decide) ?_
                    refine i_iload dX7_lay_170 rfl ?_
                    exact e_iw rfl dX7_lay_172 h
                  · refine i_tout (tgt := 170) dX7_lay_99 (tsw_1_3 c10 c11 c12) (by decide) ?_
                    refine i_iload dX7_lay_170 rfl ?_
                    exact e_iw rfl dX7_lay_172 h
            · refine i_ldc (v := (-1000000011)) dX7_lay_74 k_X7_208 ?_
              exact e_iw rfl dX7_lay_76 h
        · refine i_iload_n dX7_lay_45 rfl ?_
          refine i_iconst (v := 0) dX7_lay_46 (by decide) ?_
          refine i_iconst (v := 3) dX7_lay_47 (by decide) ?_
          refine cS_ir dX7_lay_48 cw_X7_62 ci_X7_isWithin h (fun a8 e => F_X7_isWithin  e) (Nat.le_of_ble_eq_true rfl) rfl rfl (Nat.le_of_ble_eq_true rfl) (fun a8 ea8 h => ?_)
          refine r_if_ne (tgt := 57) dX7_lay_51 (by decide) h (fun c13 h => ?_) (fun c13 h => ?_)
          · refine i_iload_n dX7_lay_57 rfl ?_
            refine i_iconst (v := 2) dX7_lay_58 (by decide) ?_
            refine r_icmp_ne (tgt := 77) dX7_lay_59 (by decide) h (fun c14 h => ?_) (fun c14 h => ?_)
            · refine i_aload_n dX7_lay_77 rfl ?_
              refine gf_X7_57 rfl (by omega) dX7_lay_78 ?_
              refine i_iload_n dX7_lay_81 rfl ?_
              refine aa_21 dX7_lay_82 (by omega) h (fun j8 lj8 h => ?_)
              refine i_astore (ls' := [some (rf X 7 0), some (.int p1), some (.int p2), some (.int p3), some (rf X 6 j8), none]) dX7_lay_83 (by decide) (okp_at rfl) rfl ?_
              refine i_aload dX7_lay_85 rfl ?_
              refine gf_X7_288 rfl (by omega) dX7_lay_87 ?_
              refine i_istore (ls' := [some (rf X 7 0), some (.int p1), some (.int p2), some (.int p3), some (rf X 6 j8), some (.int (σ 6 j8 0))]) dX7_lay_90 (by decide) (okp_at rfl) rfl ?_
              refine i_aload dX7_lay_92 rfl ?_
              refine i_iload_n dX7_lay_94 rfl ?_
              refine pf_X7_288 rfl (by omega) dX7_lay_95 ?_
              refine i_iload_n dX7_lay_98 rfl ?_
              refine r_case (c := p2 = (1 : Int32)) h (fun c15 h => ?_) (fun c15 h => ?_)
              · refine i_tin (tgt := 124) (off := 25) dX7_lay_99 (1 : Int32) c15 (by decide) (by decide) (by decide) (by decide) ?_
                refine i_aload dX7_lay_124 rfl ?_
                refine gf_X7_291 rfl (by omega) dX7_lay_126 ?_
                refine i_aload_n dX7_lay_129 rfl ?_
                refine gf_X7_21 rfl (by omega) dX7_lay_130 ?_
                refine gf_X7_80 rfl (by omega) dX7_lay_133 ?_
                refine i_iload_n dX7_lay_136 rfl ?_
                refine aa_12 dX7_lay_137 (by omega) h (fun j9 lj9 h => ?_)
                refine cVN_vw dX7_lay_138 cw_X7_295 ci_X3_becomes rfl rfl (by decide) (show (30 + j8) < 35 by omega) h (fun a9 e => F_X3_becomes (by omega) (by omega) e) (Nat.le_of_ble_eq_true rfl) rfl rfl (Nat.le_of_ble_eq_true rfl) (fun a9 ea9 h => ?_)
                refine i_goto (tgt := 170) dX7_lay_141 (by decide) ?_
                refine i_iload dX7_lay_170 rfl ?_
                exact e_iw rfl dX7_lay_172 h
              · refine r_case (c := p2 = (2 : Int32)) h (fun c16 h => ?_) (fun c16 h => ?_)
                · refine i_tin (tgt := 144) (off := 45) dX7_lay_99 (2 : Int32) c16 (by decide) (by decide) (by decide) (by decide) ?_
                  refine i_aload dX7_lay_144 rfl ?_
                  refine gf_X7_298 rfl (by omega) dX7_lay_146 ?_
                  refine i_aload_n dX7_lay_149 rfl ?_
                  refine gf_X7_50 rfl (by omega) dX7_lay_150 ?_
                  refine i_iload_n dX7_lay_153 rfl ?_
                  refine aa_19 dX7_lay_154 (by omega) h (fun j10 lj10 h => ?_)
                  refine cVN_vw dX7_lay_155 cw_X7_302 ci_X5_becomes rfl rfl (by decide) (show (4 + j8) < 9 by omega) h (fun a10 e => F_X5_becomes (by omega) (by omega) e) (Nat.le_of_ble_eq_true rfl) rfl rfl (Nat.le_of_ble_eq_true rfl) (fun a10 ea10 h => ?_)
                  refine i_goto (tgt := 170) dX7_lay_158 (by decide) ?_
                  refine i_iload dX7_lay_170 rfl ?_
                  exact e_iw rfl dX7_lay_172 h
                · refine r_case (c := p2 = (3 : Int32)) h (fun c17 h => ?_) (fun c17 h => ?_)
                  · refine i_tin (tgt := 161) (off := 62) dX7_lay_99 (3 : Int32) c17 (by decide) (by decide) (by decide) (by decide) ?_
                    refine i_aload dX7_lay_161 rfl ?_
                    refine i_iload_n dX7_lay_163 rfl ?_
                    refine pf_X7_305 rfl (by omega) dX7_lay_164 ?_
                    refine i_goto (tgt := 170) dX7_lay_167 (by decide) ?_
                    refine i_iload dX7_lay_170 rfl ?_
                    exact e_iw rfl dX7_lay_172 h
                  · refine i_tout (tgt := 170) dX7_lay_99 (tsw_1_3 c15 c16 c17) (by decide) ?_
                    refine i_iload dX7_lay_170 rfl ?_
                    exact e_iw rfl dX7_lay_172 h
            · refine i_aload_n dX7_lay_62 rfl ?_
              refine gf_X7_50 rfl (by omega) dX7_lay_63 ?_
              refine i_iload_n dX7_lay_66 rfl ?_
              refine aa_19 dX7_lay_67 (by omega) h (fun j11 lj11 h => ?_)
              refine cVN_ir dX7_lay_68 cw_X7_204 ci_X5_isMissing rfl rfl (by decide) (show j11 < 9 by omega) h (fun a11 e => F_X5_isMissing (by omega) e) (Nat.le_of_ble_eq_true rfl) rfl rfl (Nat.le_of_ble_eq_true rfl) (fun a11 ea11 h => ?_)
              refine r_if_eq (tgt := 77) dX7_lay_71 (by decide) h (fun c18 h => ?_) (fun c18 h => ?_)
              · refine i_aload_n dX7_lay_77 rfl ?_
                refine gf_X7_57 rfl (by omega) dX7_lay_78 ?_
                refine i_iload_n dX7_lay_81 rfl ?_
                refine aa_21 dX7_lay_82 (by omega) h (fun j12 lj12 h => ?_)
                refine i_astore (ls' := [some (rf X 7 0), some (.int p1), some (.int p2), some (.int p3), some (rf X 6 j12), none]) dX7_lay_83 (by decide) (okp_at rfl) rfl ?_
                refine i_aload dX7_lay_85 rfl ?_
                refine gf_X7_288 rfl (by omega) dX7_lay_87 ?_
                refine i_istore (ls' := [some (rf X 7 0), some (.int p1), some (.int p2), some (.int p3), some (rf X 6 j12), some (.int (σ 6 j12 0))]) dX7_lay_90 (by decide) (okp_at rfl) rfl ?_
                refine i_aload dX7_lay_92 rfl ?_
                refine i_iload_n dX7_lay_94 rfl ?_
                refine pf_X7_288 rfl (by omega) dX7_lay_95 ?_
                refine i_iload_n dX7_lay_98 rfl ?_
                refine r_case (c := p2 = (1 : Int32)) h (fun c19 h => ?_) (fun c19 h => ?_)
                · refine i_tin (tgt := 124) (off := 25) dX7_lay_99 (1 : Int32) c19 (by decide) (by decide) (by decide) (by decide) ?_
                  refine i_aload dX7_lay_124 rfl ?_
                  refine gf_X7_291 rfl (by omega) dX7_lay_126 ?_
                  refine i_aload_n dX7_lay_129 rfl ?_
                  refine gf_X7_21 rfl (by omega) dX7_lay_130 ?_
                  refine gf_X7_80 rfl (by omega) dX7_lay_133 ?_
                  refine i_iload_n dX7_lay_136 rfl ?_
                  refine aa_12 dX7_lay_137 (by omega) h (fun j13 lj13 h => ?_)
                  refine cVN_vw dX7_lay_138 cw_X7_295 ci_X3_becomes rfl rfl (by decide) (show (30 + j12) < 35 by omega) h (fun a12 e => F_X3_becomes (by omega) (by omega) e) (Nat.le_of_ble_eq_true rfl) rfl rfl (Nat.le_of_ble_eq_true rfl) (fun a12 ea12 h => ?_)
                  refine i_goto (tgt := 170) dX7_lay_141 (by decide) ?_
                  refine i_iload dX7_lay_170 rfl ?_
                  exact e_iw rfl dX7_lay_172 h
                · refine r_case (c := p2 = (2 : Int32)) h (fun c20 h => ?_) (fun c20 h => ?_)
                  · refine i_tin (tgt := 144) (off := 45) dX7_lay_99 (2 : Int32) c20 (by decide) (by decide) (by decide) (by decide) ?_
                    refine i_aload dX7_lay_144 rfl ?_
                    refine gf_X7_298 rfl (by omega) dX7_lay_146 ?_
                    refine i_aload_n dX7_lay_149 rfl ?_
                    refine gf_X7_50 rfl (by omega) dX7_lay_150 ?_
                    refine i_iload_n dX7_lay_153 rfl ?_
                    refine aa_19 dX7_lay_154 (by omega) h (fun j14 lj14 h => ?_)
                    refine cVN_vw dX7_lay_155 cw_X7_302 ci_X5_becomes rfl rfl (by decide) (show (4 + j12) < 9 by omega) h (fun a13 e => F_X5_becomes (by omega) (by omega) e) (Nat.le_of_ble_eq_true rfl) rfl rfl (Nat.le_of_ble_eq_true rfl) (fun a13 ea13 h => ?_)
                    refine i_goto (tgt := 170) dX7_lay_158 (by decide) ?_
                    refine i_iload dX7_lay_170 rfl ?_
                    exact e_iw rfl dX7_lay_172 h
                  · refine r_case (c := p2 = (3 : Int32)) h (fun c21 h => ?_) (fun c21 h => ?_)
                    · refine i_tin (tgt := 161) (off := 62) dX7_lay_99 (3 : Int32) c21 (by decide) (by decide) (by decide) (by decide) ?_
                      refine i_aload dX7_lay_161 rfl ?_
                      refine i_iload_n dX7_lay_163 rfl ?_
                      refine pf_X7_305 rfl (by omega) dX7_lay_164 ?_
                      refine i_goto (tgt := 170) dX7_lay_167 (by decide) ?_
                      refine i_iload dX7_lay_170 rfl ?_
                      exact e_iw rfl dX7_lay_172 h
                    · refine i_tout (tgt := 170) dX7_lay_99 (tsw_1_3 c19 c20 c21) (by decide) ?_
                      refine i_iload dX7_lay_170 rfl ?_
                      exact e_iw rfl dX7_lay_172 h
              · refine i_ldc (v := (-1000000011)) dX7_lay_74 k_X7_208 ?_
                exact e_iw rfl dX7_lay_76 h
          · refine i_ldc (v := (-1000000001)) dX7_lay_54 k_X7_66 ?_
            exact e_iw rfl dX7_lay_56 h
      · refine i_aload_n dX7_lay_26 rfl ?_
        refine gf_X7_21 rfl (by omega) dX7_lay_27 ?_
        refine i_iload_n dX7_lay_30 rfl ?_
        refine cVN_ir dX7_lay_31 cw_X7_76 ci_X0_hasPerson rfl rfl (by decide) (show 0 < 3 by omega) h (fun a14 e => F_X0_hasPerson (by omega) e) (Nat.le_of_ble_eq_true rfl) rfl rfl (Nat.le_of_ble_eq_true rfl) (fun a14 ea14 h => ?_)
        refine r_if_ne (tgt := 40) dX7_lay_34 (by decide) h (fun c22 h => ?_) (fun c22 h => ?_)
        · refine i_iload_n dX7_lay_40 rfl ?_
          refine i_iconst (v := 2) dX7_lay_41 (by decide) ?_
          refine r_icmp_ne (tgt := 57) dX7_lay_42 (by decide) h (fun c23 h => ?_) (fun c23 h => ?_)
          · refine i_iload_n dX7_lay_57 rfl ?_
            refine i_iconst (v := 2) dX7_lay_58 (by decide) ?_
            refine r_icmp_ne (tgt := 77) dX7_lay_59 (by decide) h (fun c24 h => ?_) (fun c24 h => ?_)
            · refine i_aload_n dX7_lay_77 rfl ?_
              refine gf_X7_57 rfl (by omega) dX7_lay_78 ?_
              refine i_iload_n dX7_lay_81 rfl ?_
              refine aa_21 dX7_lay_82 (by omega) h (fun j15 lj15 h => ?_)
              refine i_astore (ls' := [some (rf X 7 0), some (.int p1), some (.int p2), some (.int p3), some (rf X 6 j15), none]) dX7_lay_83 (by decide) (okp_at rfl) rfl ?_
              refine i_aload dX7_lay_85 rfl ?_
              refine gf_X7_288 rfl (by omega) dX7_lay_87 ?_
              refine i_istore (ls' := [some (rf X 7 0), some (.int p1), some (.int p2), some (.int p3), some (rf X 6 j15), some (.int (σ 6 j15 0))]) dX7_lay_90 (by decide) (okp_at rfl) rfl ?_
              refine i_aload dX7_lay_92 rfl ?_
              refine i_iload_n dX7_lay_94 rfl ?_
              refine pf_X7_288 rfl (by omega) dX7_lay_95 ?_
              refine i_iload_n dX7_lay_98 rfl ?_
              refine r_case (c := p2 = (1 : Int32)) h (fun c25 h => ?_) (fun c25 h => ?_)
              · refine i_tin (tgt := 124) (off := 25) dX7_lay_99 (1 : Int32) c25 (by decide) (by decide) (by decide) (by decide) ?_
                refine i_aload dX7_lay_124 rfl ?_
                refine gf_X7_291 rfl (by omega) dX7_lay_126 ?_
                refine i_aload_n dX7_lay_129 rfl ?_
                refine gf_X7_21 rfl (by omega) dX7_lay_130 ?_
                refine gf_X7_80 rfl (by omega) dX7_lay_133 ?_
                refine i_iload_n dX7_lay_136 rfl ?_
                refine aa_12 dX7_lay_137 (by omega) h (fun j16 lj16 h => ?_)
                refine cVN_vw dX7_lay_138 cw_X7_295 ci_X3_becomes rfl rfl (by decide) (show (30 + j15) < 35 by omega) h (fun a15 e => F_X3_becomes (by omega) (by omega) e) (Nat.le_of_ble_eq_true rfl) rfl rfl (Nat.le_of_ble_eq_true rfl) (fun a15 ea15 h => ?_)
                refine i_goto (tgt := 170) dX7_lay_141 (by decide) ?_
                refine i_iload dX7_lay_170 rfl ?_
                exact e_iw rfl dX7_lay_172 h
              · refine r_case (c := p2 = (2 : Int32)) h (fun c26 h => ?_) (fun c26 h => ?_)
                · refine i_tin (tgt := 144) (off := 45) dX7_lay_99 (2 : Int32) c26 (by decide) (by decide) (by decide) (by decide) ?_
                  refine i_aload dX7_lay_144 rfl ?_
                  refine gf_X7_298 rfl (by omega) dX7_lay_146 ?_
                  refine i_aload_n dX7_lay_149 rfl ?_
                  refine gf_X7_50 rfl (by omega) dX7_lay_150 ?_
                  refine i_iload_n dX7_lay_153 rfl ?_
                  refine aa_19 dX7_lay_154 (by omega) h (fun j17 lj17 h => ?_)
                  refine cVN_vw dX7_lay_155 cw_X7_302 ci_X5_becomes rfl rfl (by decide) (show (4 + j15) < 9 by omega) h (fun a16 e => F_X5_becomes (by omega) (by omega) e) (Nat.le_of_ble_eq_true rfl) rfl rfl (Nat.le_of_ble_eq_true rfl) (fun a16 ea16 h => ?_)
                  refine i_goto (tgt := 170) dX7_lay_158 (by decide) ?_
                  refine i_iload dX7_lay_170 rfl ?_
                  exact e_iw rfl dX7_lay_172 h
                · refine r_case (c := p2 = (3 : Int32)) h (fun c27 h => ?_) (fun c27 h => ?_)
                  · refine i_tin (tgt := 161) (off := 62) dX7_lay_99 (3 : Int32) c27 (by decide) (by decide) (by decide) (by decide) ?_
                    refine i_aload dX7_lay_161 rfl ?_
                    refine i_iload_n dX7_lay_163 rfl ?_
                    refine pf_X7_305 rfl (by omega) dX7_lay_164 ?_
                    refine i_goto (tgt := 170) dX7_lay_167 (by decide) ?_
                    refine i_iload dX7_lay_170 rfl ?_
                    exact e_iw rfl dX7_lay_172 h
                  · refine i_tout (tgt := 170) dX7_lay_99 (tsw_1_3 c25 c26 c27) (by decide) ?_
                    refine i_iload dX7_lay_170 rfl ?_
                    exact e_iw rfl dX7_lay_172 h
            · refine i_aload_n dX7_lay_62 rfl ?_
              refine gf_X7_50 rfl (by omega) dX7_lay_63 ?_
              refine i_iload_n dX7_lay_66 rfl ?_
              refine aa_19 dX7_lay_67 (by omega) h (fun j18 lj18 h => ?_)
              refine cVN_ir dX7_lay_68 cw_X7_204 ci_X5_isMissing rfl rfl (by decide) (show j18 < 9 by omega) h (fun a17 e => F_X5_isMissing (by omega) e) (Nat.le_of_ble_eq_true rfl) rfl rfl (Nat.le_of_ble_eq_true rfl) (fun a17 ea17 h => ?_)
              refine r_if_eq (tgt := 77) dX7_lay_71 (by decide) h (fun c28 h => ?_) (fun c28 h => ?_)
              · refine i_aload_n dX7_lay_77 rfl ?_
                refine gf_X7_57 rfl (by omega) dX7_lay_78 ?_
                refine i_iload_n dX7_lay_81 rfl ?_
                refine aa_21 dX7_lay_82 (by omega) h (fun j19 lj19 h => ?_)
                refine i_astore (ls' := [some (rf X 7 0), some (.int p1), some (.int p2), some (.int p3), some (rf X 6 j19), none]) dX7_lay_83 (by decide) (okp_at rfl) rfl ?_
                refine i_aload dX7_lay_85 rfl ?_
                refine gf_X7_288 rfl (by omega) dX7_lay_87 ?_
                refine i_istore (ls' := [some (rf X 7 0), some (.int p1), some (.int p2), some (.int p3), some (rf X 6 j19), some (.int (σ 6 j19 0))]) dX7_lay_90 (by decide) (okp_at rfl) rfl ?_
                refine i_aload dX7_lay_92 rfl ?_
                refine i_iload_n dX7_lay_94 rfl ?_
                refine pf_X7_288 rfl (by omega) dX7_lay_95 ?_
                refine i_iload_n dX7_lay_98 rfl ?_
                refine r_case (c := p2 = (1 : Int32)) h (fun c29 h => ?_) (fun c29 h => ?_)
                · refine i_tin (tgt := 124) (off := 25) dX7_lay_99 (1 : Int32) c29 (by decide) (by decide) (by decide) (by decide) ?_
                  refine i_aload dX7_lay_124 rfl ?_
                  refine gf_X7_291 rfl (by omega) dX7_lay_126 ?_
                  refine i_aload_n dX7_lay_129 rfl ?_
                  refine gf_X7_21 rfl (by omega) dX7_lay_130 ?_
                  refine gf_X7_80 rfl (by omega) dX7_lay_133 ?_
                  refine i_iload_n dX7_lay_136 rfl ?_
                  refine aa_12 dX7_lay_137 (by omega) h (fun j20 lj20 h => ?_)
                  refine cVN_vw dX7_lay_138 cw_X7_295 ci_X3_becomes rfl rfl (by decide) (show (30 + j19) < 35 by omega) h (fun a18 e => F_X3_becomes (by omega) (by omega) e) (Nat.le_of_ble_eq_true rfl) rfl rfl (Nat.le_of_ble_eq_true rfl) (fun a18 ea18 h => ?_)
                  refine i_goto (tgt := 170) dX7_lay_141 (by decide) ?_
                  refine i_iload dX7_lay_170 rfl ?_
                  exact e_iw rfl dX7_lay_172 h
                · refine r_case (c := p2 = (2 : Int32)) h (fun c30 h => ?_) (fun c30 h => ?_)
                  · refine i_tin (tgt := 144) (off := 45) dX7_lay_99 (2 : Int32) c30 (by decide) (by decide) (by decide) (by decide) ?_
                    refine i_aload dX7_lay_144 rfl ?_
                    refine gf_X7_298 rfl (by omega) dX7_lay_146 ?_
                    refine i_aload_n dX7_lay_149 rfl ?_
                    refine gf_X7_50 rfl (by omega) dX7_lay_150 ?_
                    refine i_iload_n dX7_lay_153 rfl ?_
                    refine aa_19 dX7_lay_154 (by omega) h (fun j21 lj21 h => ?_)
                    refine cVN_vw dX7_lay_155 cw_X7_302 ci_X5_becomes rfl rfl (by decide) (show (4 + j19) < 9 by omega) h (fun a19 e => F_X5_becomes (by omega) (by omega) e) (Nat.le_of_ble_eq_true rfl) rfl rfl (Nat.le_of_ble_eq_true rfl) (fun a19 ea19 h => ?_)
                    refine i_goto (tgt := 170) dX7_lay_158 (by decide) ?_
                    refine i_iload dX7_lay_170 rfl ?_
                    exact e_iw rfl dX7_lay_172 h
                  · refine r_case (c := p2 = (3 : Int32)) h (fun c31 h => ?_) (fun c31 h => ?_)
                    · refine i_tin (tgt := 161) (off := 62) dX7_lay_99 (3 : Int32) c31 (by decide) (by decide) (by decide) (by decide) ?_
                      refine i_aload dX7_lay_161 rfl ?_
                      refine i_iload_n dX7_lay_163 rfl ?_
                      refine pf_X7_305 rfl (by omega) dX7_lay_164 ?_
                      refine i_goto (tgt := 170) dX7_lay_167 (by decide) ?_
                      refine i_iload dX7_lay_170 rfl ?_
                      exact e_iw rfl dX7_lay_172 h
                    · refine i_tout (tgt := 170) dX7_lay_99 (tsw_1_3 c29 c30 c31) (by decide) ?_
                      refine i_iload dX7_lay_170 rfl ?_
                      exact e_iw rfl dX7_lay_172 h
              · refine i_ldc (v := (-1000000011)) dX7_lay_74 k_X7_208 ?_
                exact e_iw rfl dX7_lay_76 h
          · refine i_iload_n dX7_lay_45 rfl ?_
            refine i_iconst (v := 0) dX7_lay_46 (by decide) ?_
            refine i_iconst (v := 3) dX7_lay_47 (by decide) ?_
            refine cS_ir dX7_lay_48 cw_X7_62 ci_X7_isWithin h (fun a20 e => F_X7_isWithin  e) (Nat.le_of_ble_eq_true rfl) rfl rfl (Nat.le_of_ble_eq_true rfl) (fun a20 ea20 h => ?_)
            refine r_if_ne (tgt := 57) dX7_lay_51 (by decide) h (fun c32 h => ?_) (fun c32 h => ?_)
            · refine i_iload_n dX7_lay_57 rfl ?_
              refine i_iconst (v := 2) dX7_lay_58 (by decide) ?_
              refine r_icmp_ne (tgt := 77) dX7_lay_59 (by decide) h (fun c33 h => ?_) (fun c33 h => ?_)
              · refine i_aload_n dX7_lay_77 rfl ?_
                refine gf_X7_57 rfl (by omega) dX7_lay_78 ?_
                refine i_iload_n dX7_lay_81 rfl ?_
                refine aa_21 dX7_lay_82 (by omega) h (fun j22 lj22 h => ?_)
                refine i_astore (ls' := [some (rf X 7 0), some (.int p1), some (.int p2), some (.int p3), some (rf X 6 j22), none]) dX7_lay_83 (by decide) (okp_at rfl) rfl ?_
                refine i_aload dX7_lay_85 rfl ?_
                refine gf_X7_288 rfl (by omega) dX7_lay_87 ?_
                refine i_istore (ls' := [some (rf X 7 0), some (.int p1), some (.int p2), some (.int p3), some (rf X 6 j22), some (.int (σ 6 j22 0))]) dX7_lay_90 (by decide) (okp_at rfl) rfl ?_
                refine i_aload dX7_lay_92 rfl ?_
                refine i_iload_n dX7_lay_94 rfl ?_
                refine pf_X7_288 rfl (by omega) dX7_lay_95 ?_
                refine i_iload_n dX7_lay_98 rfl ?_
                refine r_case (c := p2 = (1 : Int32)) h (fun c34 h => ?_) (fun c34 h => ?_)
                · refine i_tin (tgt := 124) (off := 25) dX7_lay_99 (1 : Int32) c34 (by decide) (by decide) (by decide) (by decide) ?_
                  refine i_aload dX7_lay_124 rfl ?_
                  refine gf_X7_291 rfl (by omega) dX7_lay_126 ?_
                  refine i_aload_n dX7_lay_129 rfl ?_
                  refine gf_X7_21 rfl (by omega) dX7_lay_130 ?_
                  refine gf_X7_80 rfl (by omega) dX7_lay_133 ?_
                  refine i_iload_n dX7_lay_136 rfl ?_
                  refine aa_12 dX7_lay_137 (by omega) h (fun j23 lj23 h => ?_)
                  refine cVN_vw dX7_lay_138 cw_X7_295 ci_X3_becomes rfl rfl (by decide) (show (30 + j22) < 35 by omega) h (fun a21 e => F_X3_becomes (by omega) (by omega) e) (Nat.le_of_ble_eq_true rfl) rfl rfl (Nat.le_of_ble_eq_true rfl) (fun a21 ea21 h => ?_)
                  refine i_goto (tgt := 170) dX7_lay_141 (by decide) ?_
                  refine i_iload dX7_lay_170 rfl ?_
                  exact e_iw rfl dX7_lay_172 h
                · refine r_case (c := p2 = (2 : Int32)) h (fun c35 h => ?_) (fun c35 h => ?_)
                  · refine i_tin (tgt := 144) (off := 45) dX7_lay_99 (2 : Int32) c35 (by decide) (by decide) (by decide) (by decide) ?_
                    refine i_aload dX7_lay_144 rfl ?_
                    refine gf_X7_298 rfl (by omega) dX7_lay_146 ?_
                    refine i_aload_n dX7_lay_149 rfl ?_
                    refine gf_X7_50 rfl (by omega) dX7_lay_150 ?_
                    refine i_iload_n dX7_lay_153 rfl ?_
                    refine aa_19 dX7_lay_154 (by omega) h (fun j24 lj24 h => ?_)
                    refine cVN_vw dX7_lay_155 cw_X7_302 ci_X5_becomes rfl rfl (by decide) (show (4 + j22) < 9 by omega) h (fun a22 e => F_X5_becomes (by omega) (by omega) e) (Nat.le_of_ble_eq_true rfl) rfl rfl (Nat.le_of_ble_eq_true rfl) (fun a22 ea22 h => ?_)
                    refine i_goto (tgt := 170) dX7_lay_158 (by decide) ?_
                    refine i_iload dX7_lay_170 rfl ?_
                    exact e_iw rfl dX7_lay_172 h
                  · refine r_case (c := p2 = (3 : Int32)) h (fun c36 h => ?_) (fun c36 h => ?_)
                    · refine i_tin (tgt := 161) (off := 62) dX7_lay_99 (3 : Int32) c36 (by decide) (by decide) (by decide) (by decide) ?_
                      refine i_aload dX7_lay_161 rfl ?_
                      refine i_iload_n dX7_lay_163 rfl ?_
                      refine pf_X7_305 rfl (by omega) dX7_lay_164 ?_
                      refine i_goto (tgt := 170) dX7_lay_167 (by decide) ?_
                      refine i_iload dX7_lay_170 rfl ?_
                      exact e_iw rfl dX7_lay_172 h
                    · refine i_tout (tgt := 170) dX7_lay_99 (tsw_1_3 c34 c35 c36) (by decide) ?_
                      refine i_iload dX7_lay_170 rfl ?_
                      exact e_iw rfl dX7_lay_172 h
              · refine i_aload_n dX7_lay_62 rfl ?_
                refine gf_X7_50 rfl (by omega) dX7_lay_63 ?_
                refine i_iload_n dX7_lay_66 rfl ?_
                refine aa_19 dX7_lay_67 (by omega) h (fun j25 lj25 h => ?_)
                refine cVN_ir dX7_lay_68 cw_X7_204 ci_X5_isMissing rfl rfl (by decide) (show j25 < 9 by omega) h (fun a23 e => F_X5_isMissing (by omega) e) (Nat.le_of_ble_eq_true rfl) rfl rfl (Nat.le_of_ble_eq_true rfl) (fun a23 ea23 h => ?_)
                refine r_if_eq (tgt := 77) dX7_lay_71 (by decide) h (fun c37 h => ?_) (fun c37 h => ?_)
                · refine i_aload_n dX7_lay_77 rfl ?_
                  refine gf_X7_57 rfl (by omega) dX7_lay_78 ?_
                  refine i_iload_n dX7_lay_81 rfl ?_
                  refine aa_21 dX7_lay_82 (by omega) h (fun j26 lj26 h => ?_)
                  refine i_astore (ls' := [some (rf X 7 0), some (.int p1), some (.int p2), some (.int p3), some (rf X 6 j26), none]) dX7_lay_83 (by decide) (okp_at rfl) rfl ?_
                  refine i_aload dX7_lay_85 rfl ?_
                  refine gf_X7_288 rfl (by omega) dX7_lay_87 ?_
                  refine i_istore (ls' := [some (rf X 7 0), some (.int p1), some (.int p2), some (.int p3), some (rf X 6 j26), some (.int (σ 6 j26 0))]) dX7_lay_90 (by decide) (okp_at rfl) rfl ?_
                  refine i_aload dX7_lay_92 rfl ?_
                  refine i_iload_n dX7_lay_94 rfl ?_
                  refine pf_X7_288 rfl (by omega) dX7_lay_95 ?_
                  refine i_iload_n dX7_lay_98 rfl ?_
                  refine r_case (c := p2 = (1 : Int32)) h (fun c38 h => ?_) (fun c38 h => ?_)
                  · refine i_tin (tgt := 124) (off := 25) dX7_lay_99 (1 : Int32) c38 (by decide) (by decide) (by decide) (by decide) ?_
                    refine i_aload dX7_lay_124 rfl ?_
                    refine gf_X7_291 rfl (by omega) dX7_lay_126 ?_
                    refine i_aload_n dX7_lay_129 rfl ?_
                    refine gf_X7_21 rfl (by omega) dX7_lay_130 ?_
                    refine gf_X7_80 rfl (by omega) dX7_lay_133 ?_
                    refine i_iload_n dX7_lay_136 rfl ?_
                    refine aa_12 dX7_lay_137 (by omega) h (fun j27 lj27 h => ?_)
                    refine cVN_vw dX7_lay_138 cw_X7_295 ci_X3_becomes rfl rfl (by decide) (show (30 + j26) < 35 by omega) h (fun a24 e => F_X3_becomes (by omega) (by omega) e) (Nat.le_of_ble_eq_true rfl) rfl rfl (Nat.le_of_ble_eq_true rfl) (fun a24 ea24 h => ?_)
                    refine i_goto (tgt := 170) dX7_lay_141 (by decide) ?_
                    refine i_iload dX7_lay_170 rfl ?_
                    exact e_iw rfl dX7_lay_172 h
                  · refine r_case (c := p2 = (2 : Int32)) h (fun c39 h => ?_) (fun c39 h => ?_)
                    · refine i_tin (tgt := 144) (off := 45) dX7_lay_99 (2 : Int32) c39 (by decide) (by decide) (by decide) (by decide) ?_
                      refine i_aload dX7_lay_144 rfl ?_
                      refine gf_X7_298 rfl (by omega) dX7_lay_146 ?_
                      refine i_aload_n dX7_lay_149 rfl ?_
                      refine gf_X7_50 rfl (by omega) dX7_lay_150 ?_
                      refine i_iload_n dX7_lay_153 rfl ?_
                      refine aa_19 dX7_lay_154 (by omega) h (fun j28 lj28 h => ?_)
                      refine cVN_vw dX7_lay_155 cw_X7_302 ci_X5_becomes rfl rfl (by decide) (show (4 + j26) < 9 by omega) h (fun a25 e => F_X5_becomes (by omega) (by omega) e) (Nat.le_of_ble_eq_true rfl) rfl rfl (Nat.le_of_ble_eq_true rfl) (fun a25 ea25 h => ?_)
                      refine i_goto (tgt := 170) dX7_lay_158 (by decide) ?_
                      refine i_iload dX7_lay_170 rfl ?_
                      exact e_iw rfl dX7_lay_172 h
                    · refine r_case (c := p2 = (3 : Int32)) h (fun c40 h => ?_) (fun c40 h => ?_)
                      · refine i_tin (tgt := 161) (off := 62) dX7_lay_99 (3 : Int32) c40 (by decide) (by decide) (by decide) (by decide) ?_
                        refine i_aload dX7_lay_161 rfl ?_
                        refine i_iload_n dX7_lay_163 rfl ?_
                        refine pf_X7_305 rfl (by omega) dX7_lay_164 ?_
                        refine i_goto (tgt := 170) dX7_lay_167 (by decide) ?_
                        refine i_iload dX7_lay_170 rfl ?_
                        exact e_iw rfl dX7_lay_172 h
                      · refine i_tout (tgt := 170) dX7_lay_99 (tsw_1_3 c38 c39 c40) (by decide) ?_
                        refine i_iload dX7_lay_170 rfl ?_
                        exact e_iw rfl dX7_lay_172 h
                · refine i_ldc (v := (-1000000011)) dX7_lay_74 k_X7_208 ?_
                  exact e_iw rfl dX7_lay_76 h
            · refine i_ldc (v := (-1000000001)) dX7_lay_54 k_X7_66 ?_
              exact e_iw rfl dX7_lay_56 h
        · refine i_ldc (v := (-1000000001)) dX7_lay_37 k_X7_66 ?_
          exact e_iw rfl dX7_lay_39 h
    · refine i_ldc (v := (-1000000001)) dX7_lay_18 k_X7_66 ?_
      exact e_iw rfl dX7_lay_20 h
def f_X7_ask  (p1 : Int32) (p2 : Int32) (σ : Mem) : Option Int32 :=
  (bnd (f_X7_isWithin p1 (0 : Int32) (4 : Int32) σ) (fun a1 => (if a1 = 0 then (some (-1000000001 : Int32)) else (bnd (f_X7_isWithin p2 (0 : Int32) (5 : Int32) σ) (fun a2 => (if a2 = 0 then (some (-1000000001 : Int32)) else (bnd (ix 5 p1) (fun j1 => (if (σ 6 j1 0) = 0 then (some (-1000000011 : Int32)) else (if (σ 6 j1 0) = (1 : Int32) then (bnd (f_X3_isOf (30 + j1) p2 σ) (fun a3 => (if a3 = 0 then (some (-1000000012 : Int32)) else (bnd (f_X3_worth (30 + j1) σ) (fun a4 => (some a4)))))) else (some (-1000000012 : Int32))))))))))))
set_option maxRecDepth 100000 in
set_option maxHeartbeats 4000000 in
theorem F_X7_ask {X : Cx} {p1 : Int32} {p2 : Int32} {σ : Mem} {res : Int32}  (h : f_X7_ask p1 p2 σ = some res) : Tri X 2 mX7_ask [rf X 7 0, .int p1, .int p2] σ (some (.int res)) σ := by
  unfold f_X7_ask at h
  refine Tri.of (ls := [some (rf X 7 0), some (.int p1), some (.int p2), none]) (by decide) (Nat.le_of_ble_eq_true rfl) rfl ?_
  refine i_iload_n dX7_ask_0 rfl ?_
  refine i_iconst (v := 0) dX7_ask_1 (by decide) ?_
  refine i_iconst (v := 4) dX7_ask_2 (by decide) ?_
  refine cS_ir dX7_ask_3 cw_X7_62 ci_X7_isWithin h (fun a1 e => F_X7_isWithin  e) (Nat.le_of_ble_eq_true rfl) rfl rfl (Nat.le_of_ble_eq_true rfl) (fun a1 ea1 h => ?_)
  refine r_if_eq (tgt := 18) dX7_ask_6 (by decide) h (fun c1 h => ?_) (fun c1 h => ?_)
  · refine i_ldc (v := (-1000000001)) dX7_ask_18 k_X7_66 ?_
    exact e_ir rfl dX7_ask_20 h
  · refine i_iload_n dX7_ask_9 rfl ?_
    refine i_iconst (v := 0) dX7_ask_10 (by decide) ?_
    refine i_iconst (v := 5) dX7_ask_11 (by decide) ?_
    refine cS_ir dX7_ask_12 cw_X7_62 ci_X7_isWithin h (fun a2 e => F_X7_isWithin  e) (Nat.le_of_ble_eq_true rfl) rfl rfl (Nat.le_of_ble_eq_true rfl) (fun a2 ea2 h => ?_)
    refine r_if_ne (tgt := 21) dX7_ask_15 (by decide) h (fun c2 h => ?_) (fun c2 h => ?_)
    · refine i_aload_n dX7_ask_21 rfl ?_
      refine gf_X7_57 rfl (by omega) dX7_ask_22 ?_
      refine i_iload_n dX7_ask_25 rfl ?_
      refine aa_21 dX7_ask_26 (by omega) h (fun j1 lj1 h => ?_)
      refine i_astore_n (ls' := [some (rf X 7 0), some (.int p1), some (.int p2), some (rf X 6 j1)]) dX7_ask_27 (by decide) (okp_at rfl) rfl ?_
      refine i_aload_n dX7_ask_28 rfl ?_
      refine gf_X7_288 rfl (by omega) dX7_ask_29 ?_
      refine r_if_ne (tgt := 38) dX7_ask_32 (by decide) h (fun c3 h => ?_) (fun c3 h => ?_)
      · refine i_aload_n dX7_ask_38 rfl ?_
        refine gf_X7_288 rfl (by omega) dX7_ask_39 ?_
        refine i_iconst (v := 1) dX7_ask_42 (by decide) ?_
        refine r_icmp_ne (tgt := 57) dX7_ask_43 (by decide) h (fun c4 h => ?_) (fun c4 h => ?_)
        · refine i_ldc (v := (-1000000012)) dX7_ask_57 k_X7_118 ?_
          exact e_ir rfl dX7_ask_59 h
        · refine i_aload_n dX7_ask_46 rfl ?_
          refine gf_X7_291 rfl (by omega) dX7_ask_47 ?_
          refine i_iload_n dX7_ask_50 rfl ?_
          refine cVN_ir dX7_ask_51 cw_X7_115 ci_X3_isOf rfl rfl (by decide) (show (30 + j1) < 35 by omega) h (fun a3 e => F_X3_isOf (by omega) e) (Nat.le_of_ble_eq_true rfl) rfl rfl (Nat.le_of_ble_eq_true rfl) (fun a3 ea3 h => ?_)
          refine r_if_ne (tgt := 60) dX7_ask_54 (by decide) h (fun c5 h => ?_) (fun c5 h => ?_)
          · refine i_aload_n dX7_ask_60 rfl ?_
            refine gf_X7_291 rfl (by omega) dX7_ask_61 ?_
            refine cVN_ir dX7_ask_64 cw_X7_112 ci_X3_worth rfl rfl (by decide) (show (30 + j1) < 35 by omega) h (fun a4 e => F_X3_worth (by omega) e) (Nat.le_of_ble_eq_true rfl) rfl rfl (Nat.le_of_ble_eq_true rfl) (fun a4 ea4 h => ?_)
            exact e_ir rfl dX7_ask_67 h
          · refine i_ldc (v := (-1000000012)) dX7_ask_57 k_X7_118 ?_
            exact e_ir rfl dX7_ask_59 h
      · refine i_ldc (v := (-1000000011)) dX7_ask_35 k_X7_208 ?_
        exact e_ir rfl dX7_ask_37 h
    · refine i_ldc (v := (-1000000001)) dX7_ask_18 k_X7_66 ?_
      exact e_ir rfl dX7_ask_20 h
def f_X7_item  (p1 : Int32) (p2 : Int32) (σ : Mem) : Option Int32 :=
  (bnd (f_X7_isWithin p1 (0 : Int32) (4 : Int32) σ) (fun a1 => (if a1 = 0 then (some (-1000000001 : Int32)) else (bnd (ix 5 p1) (fun j1 => (if (σ 6 j1 0) = 0 then (some (-1000000011 : Int32)) else (if (σ 6 j1 0) = (2 : Int32) then (bnd (f_X5_hasPlace (4 + j1) p2 σ) (fun a2 => (if a2 = 0 then (some (-1000000013 : Int32)) else (bnd (f_X5_isNumber (4 + j1) p2 σ) (fun a3 => (if a3 = 0 then (some (-1000000012 : Int32)) else (bnd (ix 24 p2) (fun j2 => (some (σ 20 (4 + j1) j2)))))))))) else (some (-1000000012 : Int32)))))))))
set_option maxRecDepth 100000 in
set_option maxHeartbeats 4000000 in
theorem F_X7_item {X : Cx} {p1 : Int32} {p2 : Int32} {σ : Mem} {res : Int32}  (h : f_X7_item p1 p2 σ = some res) : Tri X 3 mX7_item [rf X 7 0, .int p1, .int p2] σ (some (.int res)) σ := by
  unfold f_X7_item at h
  refine Tri.of (ls := [some (rf X 7 0), some (.int p1), some (.int p2), none]) (by decide) (Nat.le_of_ble_eq_true rfl) rfl ?_
  refine i_iload_n dX7_item_0 rfl ?_
  refine i_iconst (v := 0) dX7_item_1 (by decide) ?_
  refine i_iconst (v := 4) dX7_item_2 (by decide) ?_
  refine cS_ir dX7_item_3 cw_X7_62 ci_X7_isWithin h (fun a1 e => F_X7_isWithin  e) (Nat.le_of_ble_eq_true rfl) rfl rfl (Nat.le_of_ble_eq_true rfl) (fun a1 ea1 h => ?_)
  refine r_if_ne (tgt := 12) dX7_item_6 (by decide) h (fun c1 h => ?_) (fun c1 h => ?_)
  · refine i_aload_n dX7_item_12 rfl ?_
    refine gf_X7_57 rfl (by omega) dX7_item_13 ?_
    refine i_iload_n dX7_item_16 rfl ?_
    refine aa_21 dX7_item_17 (by omega) h (fun j1 lj1 h => ?_)
    refine i_astore_n (ls' := [some (rf X 7 0), some (.int p1), some (.int p2), some (rf X 6 j1)]) dX7_item_18 (by decide) (okp_at rfl) rfl ?_
    refine i_aload_n dX7_item_19 rfl ?_
    refine gf_X7_288 rfl (by omega) dX7_item_20 ?_
    refine r_if_ne (tgt := 29) dX7_item_23 (by decide) h (fun c2 h => ?_) (fun c2 h => ?_)
    · refine i_aload_n dX7_item_29 rfl ?_
      refine gf_X7_288 rfl (by omega) dX7_item_30 ?_
      refine i_iconst (v := 2) dX7_item_33 (by decide) ?_
      refine r_icmp_eq (tgt := 40) dX7_item_34 (by decide) h (fun c3 h => ?_) (fun c3 h => ?_)
      · refine i_aload_n dX7_item_40 rfl ?_
        refine gf_X7_298 rfl (by omega) dX7_item_41 ?_
        refine i_iload_n dX7_item_44 rfl ?_
        refine cVN_ir dX7_item_45 cw_X7_265 ci_X5_hasPlace rfl rfl (by decide) (show (4 + j1) < 9 by omega) h (fun a2 e => F_X5_hasPlace (by omega) e) (Nat.le_of_ble_eq_true rfl) rfl rfl (Nat.le_of_ble_eq_true rfl) (fun a2 ea2 h => ?_)
        refine r_if_ne (tgt := 55) dX7_item_48 (by decide) h (fun c4 h => ?_) (fun c4 h => ?_)
        · refine i_aload_n dX7_item_55 rfl ?_
          refine gf_X7_298 rfl (by omega) dX7_item_56 ?_
          refine i_iload_n dX7_item_59 rfl ?_
          refine cVN_ir dX7_item_60 cw_X7_216 ci_X5_isNumber rfl rfl (by decide) (show (4 + j1) < 9 by omega) h (fun a3 e => F_X5_isNumber (by omega) e) (Nat.le_of_ble_eq_true rfl) rfl rfl (Nat.le_of_ble_eq_true rfl) (fun a3 ea3 h => ?_)
          refine r_if_eq (tgt := 78) dX7_item_63 (by decide) h (fun c5 h => ?_) (fun c5 h => ?_)
          · refine i_ldc (v := (-1000000012)) dX7_item_78 k_X7_118 ?_
            exact e_ir rfl dX7_item_80 h
          · refine i_aload_n dX7_item_66 rfl ?_
            refine gf_X7_298 rfl (by omega) dX7_item_67 ?_
            refine gf_X7_219 rfl (by omega) dX7_item_70 ?_
            refine i_iload_n dX7_item_73 rfl ?_
            refine al_20 dX7_item_74 (by omega) h (fun j2 lj2 h => ?_)
            refine i_goto (tgt := 80) dX7_item_75 (by decide) ?_
            exact e_ir rfl dX7_item_80 h
        · refine i_ldcw (v := (-1000000013)) dX7_item_51 k_X7_268 ?_
          exact e_ir rfl dX7_item_54 h
      · refine i_ldc (v := (-1000000012)) dX7_item_37 k_X7_118 ?_
        exact e_ir rfl dX7_item_39 h
    · refine i_ldc (v := (-1000000011)) dX7_item_26 k_X7_208 ?_
      exact e_ir rfl dX7_item_28 h
  · refine i_ldc (v := (-1000000001)) dX7_item_9 k_X7_66 ?_
    exact e_ir rfl dX7_item_11 h
def f_X7_rest  (p1 : Int32) (p2 : Int32) (σ : Mem) : Option Int32 :=
  (bnd (f_X7_isWithin p1 (0 : Int32) (4 : Int32) σ) (fun a1 => (if a1 = 0 then (some (-1000000001 : Int32)) else (bnd (ix 5 p1) (fun j1 => (if (σ 6 j1 0) = 0 then (some (-1000000011 : Int32)) else (if (σ 6 j1 0) = (3 : Int32) then (if p2 = 0 then (some (-1000000002 : Int32)) else (if p2 = 0 then none else (some ((σ 6 j1 3) - (σ 6 j1 3) / p2 * p2)))) else (some (-1000000012 : Int32)))))))))
set_option maxRecDepth 100000 in
set_option maxHeartbeats 4000000 in
theorem F_X7_rest {X : Cx} {p1 : Int32} {p2 : Int32} {σ : Mem} {res : Int32}  (h : f_X7_rest p1 p2 σ = some res) : Tri X 2 mX7_rest [rf X 7 0, .int p1, .int p2] σ (some (.int res)) σ := by
  unfold f_X7_rest at h
  refine Tri.of (ls := [some (rf X 7 0), some (.int p1), some (.int p2), none]) (by decide) (Nat.le_of_ble_eq_true rfl) rfl ?_
  refine i_iload_n dX7_rest_0 rfl ?_
  refine i_iconst (v := 0) dX7_rest_1 (by decide) ?_
  refine i_iconst (v := 4) dX7_rest_2 (by decide) ?_
  refine cS_ir dX7_rest_3 cw_X7_62 ci_X7_isWithin h (fun a1 e => F_X7_isWithin  e) (Nat.le_of_ble_eq_true rfl) rfl rfl (Nat.le_of_ble_eq_true rfl) (fun a1 ea1 h => ?_)
  refine r_if_ne (tgt := 12) dX7_rest_6 (by decide) h (fun c1 h => ?_) (fun c1 h => ?_)
  · refine i_aload_n dX7_rest_12 rfl ?_
    refine gf_X7_57 rfl (by omega) dX7_rest_13 ?_
    refine i_iload_n dX7_rest_16 rfl ?_
    refine aa_21 dX7_rest_17 (by omega) h (fun j1 lj1 h => ?_)
    refine i_astore_n (ls' := [some (rf X 7 0), some (.int p1), some (.int p2), some (rf X 6 j1)]) dX7_rest_18 (by decide) (okp_at rfl) rfl ?_
    refine i_aload_n dX7_rest_19 rfl ?_
    refine gf_X7_288 rfl (by omega) dX7_rest_20 ?_
    refine r_if_ne (tgt := 29) dX7_rest_23 (by decide) h (fun c2 h => ?_) (fun c2 h => ?_)
    · refine i_aload_n dX7_rest_29 rfl ?_
      refine gf_X7_288 rfl (by omega) dX7_rest_30 ?_
      refine i_iconst (v := 3) dX7_rest_33 (by decide) ?_
      refine r_icmp_eq (tgt := 40) dX7_rest_34 (by decide) h (fun c3 h => ?_) (fun c3 h => ?_)
      · refine i_iload_n dX7_rest_40 rfl ?_
        refine r_if_ne (tgt := 49) dX7_rest_41 (by decide) h (fun c4 h => ?_) (fun c4 h => ?_)
        · refine i_aload_n dX7_rest_49 rfl ?_
          refine gf_X7_305 rfl (by omega) dX7_rest_50 ?_
          refine i_iload_n dX7_rest_53 rfl ?_
          refine r_irem dX7_rest_54 h (fun h => ?_)
          exact e_ir rfl dX7_rest_55 h
        · refine i_ldc (v := (-1000000002)) dX7_rest_44 k_X7_128 ?_
          refine i_goto (tgt := 55) dX7_rest_46 (by decide) ?_
          exact e_ir rfl dX7_rest_55 h
      · refine i_ldc (v := (-1000000012)) dX7_rest_37 k_X7_118 ?_
        exact e_ir rfl dX7_rest_39 h
    · refine i_ldc (v := (-1000000011)) dX7_rest_26 k_X7_208 ?_
      exact e_ir rfl dX7_rest_28 h
  · refine i_ldc (v := (-1000000001)) dX7_rest_9 k_X7_66 ?_
    exact e_ir rfl dX7_rest_11 h
def f_X7_tell  (p1 : Int32) (σ : Mem) : Option (Int32 × Mem) :=
  (if (σ 7 0 9) < (60 : Int32) then (bnd (ix 60 (σ 7 0 9)) (fun j1 => (some (((mput (mput σ 18 0 j1 p1) 7 0 9 (((mput σ 18 0 j1 p1) 7 0 9) + (1 : Int32))) 7 0 9), (mput (mput σ 18 0 j1 p1) 7 0 9 (((mput σ 18 0 j1 p1) 7 0 9) + (1 : Int32))))))) else (some ((-1000000003 : Int32), σ)))
set_option maxRecDepth 100000 in
set_option maxHeartbeats 4000000 in
theorem F_X7_tell {X : Cx} {p1 : Int32} {σ : Mem} {res : (Int32 × Mem)}  (h : f_X7_tell p1 σ = some res) : Tri X 1 mX7_tell [rf X 7 0, .int p1] σ (some (.int res.1)) res.2 := by
  obtain ⟨r0, σ2⟩ := res
  unfold f_X7_tell at h
  refine Tri.of (ls := [some (rf X 7 0), some (.int p1)]) (by decide) (Nat.le_of_ble_eq_true rfl) rfl ?_
  refine i_aload_n dX7_tell_0 rfl ?_
  refine gf_X7_308 rfl (by omega) dX7_tell_1 ?_
  refine i_bipush (v := 60) dX7_tell_4 (by decide) ?_
  refine r_icmp_lt (tgt := 12) dX7_tell_6 (by decide) h (fun c1 h => ?_) (fun c1 h => ?_)
  · refine i_aload_n dX7_tell_12 rfl ?_
    refine gf_X7_44 rfl (by omega) dX7_tell_13 ?_
    refine i_aload_n dX7_tell_16 rfl ?_
    refine gf_X7_308 rfl (by omega) dX7_tell_17 ?_
    refine i_iload_n dX7_tell_20 rfl ?_
    refine as_18 dX7_tell_21 (by omega) h (fun j1 lj1 h => ?_)
    refine i_aload_n dX7_tell_22 rfl ?_
    refine i_dup dX7_tell_23 rfl ?_
    refine gf_X7_308 rfl (by omega) dX7_tell_24 ?_
    refine i_iconst (v := 1) dX7_tell_27 (by decide) ?_
    refine i_iadd dX7_tell_28 ?_
    refine pf_X7_308 rfl (by omega) dX7_tell_29 ?_
    refine i_aload_n dX7_tell_32 rfl ?_
    refine gf_X7_308 rfl (by omega) dX7_tell_33 ?_
    exact e_iw rfl dX7_tell_36 h
  · refine i_ldc (v := (-1000000003)) dX7_tell_9 k_X7_71 ?_
    exact e_iw rfl dX7_tell_11 h
end
