theorem dv_X0 : ∀ j, j < 13 → (if (0 = 4 ∧ j = 2) ∨ isR 0 j = true then defaultValue (tyX0 j) = .null else defaultValue (tyX0 j) = .int 0) := by decide +kernel
theorem dv_X1 : ∀ j, j < 4 → (if (1 = 4 ∧ j = 2) ∨ isR 1 j = true then defaultValue (tyX1 j) = .null else defaultValue (tyX1 j) = .int 0) := by decide +kernel
theorem dv_X2 : ∀ j, j < 2 → (if (2 = 4 ∧ j = 2) ∨ isR 2 j = true then defaultValue (tyX2 j) = .null else defaultValue (tyX2 j) = .int 0) := by decide +kernel
theorem dv_X3 : ∀ j, j < 5 → (if (3 = 4 ∧ j = 2) ∨ isR 3 j = true then defaultValue (tyX3 j) = .null else defaultValue (tyX3 j) = .int 0) := by decide +kernel
theorem dv_X4 : ∀ j, j < 6 → (if (4 = 4 ∧ j = 2) ∨ isR 4 j = true then defaultValue (tyX4 j) = .null else defaultValue (tyX4 j) = .int 0) := by decide +kernel
theorem dv_X5 : ∀ j, j < 3 → (if (5 = 4 ∧ j = 2) ∨ isR 5 j = true then defaultValue (tyX5 j) = .null else defaultValue (tyX5 j) = .int 0) := by decide +kernel
theorem dv_X6 : ∀ j, j < 4 → (if (6 = 4 ∧ j = 2) ∨ isR 6 j = true then defaultValue (tyX6 j) = .null else defaultValue (tyX6 j) = .int 0) := by decide +kernel
theorem dv_X7 : ∀ j, j < 12 → (if (7 = 4 ∧ j = 2) ∨ isR 7 j = true then defaultValue (tyX7 j) = .null else defaultValue (tyX7 j) = .int 0) := by decide +kernel
theorem dv_X8 : ∀ j, j < 33 → (if (8 = 4 ∧ j = 2) ∨ isR 8 j = true then defaultValue (tyX8 j) = .null else defaultValue (tyX8 j) = .int 0) := by decide +kernel
theorem in_X0 : Cond.instantiable RX0 13 ∈ GW := gw_at 170 (by decide +kernel) (by decide +kernel)
theorem ini_X0 : Cond.initialized RX0 ∈ GW := gw_at 108 (by decide +kernel) (by decide +kernel)
theorem in_X1 : Cond.instantiable RX1 4 ∈ GW := gw_at 137 (by decide +kernel) (by decide +kernel)
theorem ini_X1 : Cond.initialized RX1 ∈ GW := gw_at 107 (by decide +kernel) (by decide +kernel)
theorem in_X2 : Cond.instantiable RX2 2 ∈ GW := gw_at 130 (by decide +kernel) (by decide +kernel)
theorem ini_X2 : Cond.initialized RX2 ∈ GW := gw_at 106 (by decide +kernel) (by decide +kernel)
theorem in_X3 : Cond.instantiable RX3 5 ∈ GW := gw_at 177 (by decide +kernel) (by decide +kernel)
theorem ini_X3 : Cond.initialized RX3 ∈ GW := gw_at 109 (by decide +kernel) (by decide +kernel)
theorem in_X4 : Cond.instantiable RX4 6 ∈ GW := gw_at 258 (by decide +kernel) (by decide +kernel)
theorem ini_X4 : Cond.initialized RX4 ∈ GW := gw_at 110 (by decide +kernel) (by decide +kernel)
theorem in_X5 : Cond.instantiable RX5 3 ∈ GW := gw_at 286 (by decide +kernel) (by decide +kernel)
theorem ini_X5 : Cond.initialized RX5 ∈ GW := gw_at 111 (by decide +kernel) (by decide +kernel)
theorem in_X6 : Cond.instantiable RX6 4 ∈ GW := gw_at 306 (by decide +kernel) (by decide +kernel)
theorem ini_X6 : Cond.initialized RX6 ∈ GW := gw_at 112 (by decide +kernel) (by decide +kernel)
theorem in_X7 : Cond.instantiable RX7 12 ∈ GW := gw_at 122 (by decide +kernel) (by decide +kernel)
theorem ini_X7 : Cond.initialized RX7 ∈ GW := gw_at 105 (by decide +kernel) (by decide +kernel)
theorem in_X8 : Cond.instantiable RX8 33 ∈ GW := gw_at 954 (by decide +kernel) (by decide +kernel)
theorem ini_X8 : Cond.initialized RX8 ∈ GW := gw_at 113 (by decide +kernel) (by decide +kernel)
theorem ac_int : Cond.arrayClass .int ∈ GW := gw_at 159 (by decide +kernel) (by decide +kernel)
theorem ac_short : Cond.arrayClass .short ∈ GW := gw_at 160 (by decide +kernel) (by decide +kernel)
theorem ac_byte : Cond.arrayClass .byte ∈ GW := gw_at 283 (by decide +kernel) (by decide +kernel)
theorem ao_X1 : Cond.arrayOver (.object RX1) ∈ NW := nw_at 136 (by decide +kernel) (by decide +kernel)
theorem ao_X3 : Cond.arrayOver (.object RX3) ∈ NW := nw_at 176 (by decide +kernel) (by decide +kernel)
theorem ao_X5 : Cond.arrayOver (.object RX5) ∈ NW := nw_at 285 (by decide +kernel) (by decide +kernel)
theorem ao_X6 : Cond.arrayOver (.object RX6) ∈ NW := nw_at 305 (by decide +kernel) (by decide +kernel)
theorem oi_inst : Cond.instanceMethod Lib.objectInit ∈ GW := gw_at 127 (by decide +kernel) (by decide +kernel)
theorem oi_code : Cond.code Lib.objectInit ⟨#[0xb1]⟩ 1 none ∈ GW := gw_at 128 (by decide +kernel) (by decide +kernel)
theorem ml_X3_3 : Cond.methodLink RX3 3 Lib.objectInit ∈ GW := gw_at 181 (by decide +kernel) (by decide +kernel)
set_option maxRecDepth 100000 in
set_option maxHeartbeats 4000000 in
theorem CI_Person {X : Cx} {ρ : Rho} {σ : Mem} {a i : Nat}  : TriC X 1 0 0 mX3_init [rf X 3 i] ρ σ a ρ σ a := by
  refine TriC.of (ls := [some (rf X 3 i)]) (by decide) (Nat.le_of_ble_eq_true rfl) rfl ?_
  refine n_aload_n dX3_init_0 rfl ?_
  refine n_objInit dX3_init_1 ml_X3_3 oi_inst oi_code (Nat.le_of_ble_eq_true rfl) (Nat.le_of_ble_eq_true rfl) ?_
  exact n_return rfl dX3_init_4 rfl rfl
theorem ml_X5_3 : Cond.methodLink RX5 3 Lib.objectInit ∈ GW := gw_at 290 (by decide +kernel) (by decide +kernel)
theorem fl_X5_9 : Cond.fieldLink RX5 9 (TX5 0).1 (TX5 0).2.1 (TX5 0).2.2.1 ∈ GW := gw_at 291 (by decide +kernel) (by decide +kernel)
theorem fl_X5_15 : Cond.fieldLink RX5 15 (TX5 2).1 (TX5 2).2.1 (TX5 2).2.2.1 ∈ GW := gw_at 295 (by decide +kernel) (by decide +kernel)
set_option maxRecDepth 100000 in
set_option maxHeartbeats 4000000 in
theorem CI_Sheet {X : Cx} {ρ : Rho} {σ : Mem} {a i : Nat} (hp : PL[a]? = some (20, i)) (hi : i < 9) (ha : pix 5 i < a) : TriC X 1 1 24 mX5_init [rf X 5 i] ρ σ a (rput ρ 5 i 2 (20, i)) (mput σ 5 i 0 (-1 : Int32)) (a + 1) := by
  refine TriC.of (ls := [some (rf X 5 i)]) (by decide) (Nat.le_of_ble_eq_true rfl) rfl ?_
  refine n_aload_n dX5_init_0 rfl ?_
  refine n_objInit dX5_init_1 ml_X5_3 oi_inst oi_code (Nat.le_of_ble_eq_true rfl) (Nat.le_of_ble_eq_true rfl) ?_
  refine n_aload_n dX5_init_4 rfl ?_
  refine n_iconst (v := (-1)) dX5_init_5 (by decide) ?_
  refine n_putI 5 i 0 (C := RX5) (T := TX5) (N := 3) tyX5 tyX5_ok nmX5 rfl rfl (by decide) (by first | decide | assumption | omega) (by first | decide | assumption | omega) (by decide) uX5 fl_X5_9 rfl rfl (by decide) rfl dX5_init_6 ?_
  refine n_aload_n dX5_init_9 rfl ?_
  refine n_bipush (v := 24) dX5_init_10 (by decide) ?_
  refine n_newa 20 i (atype := .int) 0 hp (by decide) rfl (by decide) rfl rfl ac_int rfl (by decide) (by decide) (by decide) (Nat.le_of_ble_eq_true rfl) (Nat.le_of_ble_eq_true rfl) dX5_init_12 ?_
  refine n_putR 5 i 2 20 i (C := RX5) (T := TX5) (N := 3) tyX5 tyX5_ok nmX5 rfl rfl (by decide) (by first | decide | assumption | omega) (by first | decide | assumption | omega) (by decide) uX5 fl_X5_15 rfl rfl rfl rfl (by decide) rfl (fun _ => rfl) (fun _ => rfl) dX5_init_14 ?_
  exact n_return rfl dX5_init_17 rfl rfl
theorem ml_X1_3 : Cond.methodLink RX1 3 Lib.objectInit ∈ GW := gw_at 141 (by decide +kernel) (by decide +kernel)
theorem fl_X1_9 : Cond.fieldLink RX1 9 (TX1 2).1 (TX1 2).2.1 (TX1 2).2.2.1 ∈ GW := gw_at 146 (by decide +kernel) (by decide +kernel)
set_option maxRecDepth 100000 in
set_option maxHeartbeats 4000000 in
theorem CI_Law {X : Cx} {ρ : Rho} {σ : Mem} {a i : Nat} (hp : PL[a]? = some (11, i)) (hi : i < 15) (ha : pix 1 i < a) : TriC X 1 1 96 mX1_init [rf X 1 i] ρ σ a (rput ρ 1 i 2 (11, i)) σ (a + 1) := by
  refine TriC.of (ls := [some (rf X 1 i)]) (by decide) (Nat.le_of_ble_eq_true rfl) rfl ?_
  refine n_aload_n dX1_init_0 rfl ?_
  refine n_objInit dX1_init_1 ml_X1_3 oi_inst oi_code (Nat.le_of_ble_eq_true rfl) (Nat.le_of_ble_eq_true rfl) ?_
  refine n_aload_n dX1_init_4 rfl ?_
  refine n_bipush (v := 96) dX1_init_5 (by decide) ?_
  refine n_newa 11 i (atype := .short) 2 hp (by decide) rfl (by decide) rfl rfl ac_short rfl (by decide) (by decide) (by decide) (Nat.le_of_ble_eq_true rfl) (Nat.le_of_ble_eq_true rfl) dX1_init_7 ?_
  refine n_putR 1 i 2 11 i (C := RX1) (T := TX1) (N := 4) tyX1 tyX1_ok nmX1 rfl rfl (by decide) (by first | decide | assumption | omega) (by first | decide | assumption | omega) (by decide) uX1 fl_X1_9 rfl rfl rfl rfl (by decide) rfl (fun _ => rfl) (fun _ => rfl) dX1_init_9 ?_
  exact n_return rfl dX1_init_12 rfl rfl
theorem ml_X4_3 : Cond.methodLink RX4 3 Lib.objectInit ∈ GW := gw_at 262 (by decide +kernel) (by decide +kernel)
theorem fl_X4_9 : Cond.fieldLink RX4 9 (TX4 0).1 (TX4 0).2.1 (TX4 0).2.2.1 ∈ GW := gw_at 263 (by decide +kernel) (by decide +kernel)
set_option maxRecDepth 100000 in
set_option maxHeartbeats 4000000 in
theorem CI_Reader {X : Cx} {ρ : Rho} {σ : Mem} {a : Nat} (ha : pix 4 0 < a) : TriC X 1 0 0 mX4_init [rf X 4 0, rf X 17 0] ρ σ a (rput ρ 4 0 0 (17, 0)) σ a := by
  refine TriC.of (ls := [some (rf X 4 0), some (rf X 17 0)]) (by decide) (Nat.le_of_ble_eq_true rfl) rfl ?_
  refine n_aload_n dX4_init_0 rfl ?_
  refine n_objInit dX4_init_1 ml_X4_3 oi_inst oi_code (Nat.le_of_ble_eq_true rfl) (Nat.le_of_ble_eq_true rfl) ?_
  refine n_aload_n dX4_init_4 rfl ?_
  refine n_aload_n dX4_init_5 rfl ?_
  refine n_putR 4 0 0 17 0 (C := RX4) (T := TX4) (N := 6) tyX4 tyX4_ok nmX4 rfl rfl (by decide) (by first | decide | assumption | omega) (by first | decide | assumption | omega) (by decide) uX4 fl_X4_9 rfl rfl rfl rfl (by decide) rfl (fun _ => rfl) (fun _ => rfl) dX4_init_6 ?_
  exact n_return rfl dX4_init_9 rfl rfl
theorem ml_X6_3 : Cond.methodLink RX6 3 Lib.objectInit ∈ GW := gw_at 310 (by decide +kernel) (by decide +kernel)
theorem fl_X6_9 : Cond.fieldLink RX6 9 (TX6 0).1 (TX6 0).2.1 (TX6 0).2.2.1 ∈ GW := gw_at 315 (by decide +kernel) (by decide +kernel)
theorem cl_X6_15 : Cond.classLink RX6 15 RX3 ∈ GW := gw_at 311 (by decide +kernel) (by decide +kernel)
theorem cw_X6_17 : CwN RX6 17 "NoonVows" mX3_init 0 := ⟨nw_at 312 (by decide +kernel) (by decide +kernel), gw_at 109 (by decide +kernel) (by decide +kernel), gw_at 180 (by decide +kernel) (by decide +kernel), ⟨by decide +kernel, by decide +kernel, by decide +kernel⟩, by decide⟩
theorem im_X3_init : Cond.instanceMethod mX3_init.1 ∈ GW := gw_at 179 (by decide +kernel) (by decide +kernel)
theorem fl_X6_18 : Cond.fieldLink RX6 18 (TX6 1).1 (TX6 1).2.1 (TX6 1).2.2.1 ∈ GW := gw_at 317 (by decide +kernel) (by decide +kernel)
theorem cl_X6_22 : Cond.classLink RX6 22 RX5 ∈ GW := gw_at 313 (by decide +kernel) (by decide +kernel)
theorem cw_X6_24 : CwN RX6 24 "NoonVows" mX5_init 0 := ⟨nw_at 314 (by decide +kernel) (by decide +kernel), gw_at 111 (by decide +kernel) (by decide +kernel), gw_at 289 (by decide +kernel) (by decide +kernel), ⟨by decide +kernel, by decide +kernel, by decide +kernel⟩, by decide⟩
theorem im_X5_init : Cond.instanceMethod mX5_init.1 ∈ GW := gw_at 288 (by decide +kernel) (by decide +kernel)
theorem fl_X6_25 : Cond.fieldLink RX6 25 (TX6 2).1 (TX6 2).2.1 (TX6 2).2.2.1 ∈ GW := gw_at 319 (by decide +kernel) (by decide +kernel)
set_option maxRecDepth 100000 in
set_option maxHeartbeats 4000000 in
theorem CI_Slot {X : Cx} {ρ : Rho} {σ : Mem} {a i : Nat} (hp : PL[a]? = some (3, 30 + i)) (hq : PL[a + 1]? = some (5, 4 + i)) (hr : PL[a + 2]? = some (20, 4 + i)) (hi : i < 5) (ha : pix 6 i < a) : TriC X 2 3 32 mX6_init [rf X 6 i] ρ σ a (rput (rput (rput ρ 6 i 1 (3, (30 + i))) 5 (4 + i) 2 (20, (4 + i))) 6 i 2 (5, (4 + i))) (mput (mput σ 6 i 0 (0 : Int32)) 5 (4 + i) 0 (-1 : Int32)) (a + 3) := by
  refine TriC.of (ls := [some (rf X 6 i)]) (by decide) (Nat.le_of_ble_eq_true rfl) rfl ?_
  refine n_aload_n dX6_init_0 rfl ?_
  refine n_objInit dX6_init_1 ml_X6_3 oi_inst oi_code (Nat.le_of_ble_eq_true rfl) (Nat.le_of_ble_eq_true rfl) ?_
  refine n_aload_n dX6_init_4 rfl ?_
  refine n_iconst (v := 0) dX6_init_5 (by decide) ?_
  refine n_putI 6 i 0 (C := RX6) (T := TX6) (N := 4) tyX6 tyX6_ok nmX6 rfl rfl (by decide) (by first | decide | assumption | omega) (by first | decide | assumption | omega) (by decide) uX6 fl_X6_9 rfl rfl (by decide) rfl dX6_init_6 ?_
  refine n_aload_n dX6_init_9 rfl ?_
  refine n_new 3 (30 + i) tyX3 tyX3_ok hp rfl rfl (by decide) uX3 cl_X6_15 in_X3 ini_X3 dv_X3 (Nat.le_of_ble_eq_true rfl) (Nat.le_of_ble_eq_true rfl) dX6_init_10 ?_
  refine n_dup dX6_init_13 rfl ?_
  refine n_callIN dX6_init_14 cw_X6_17 im_X3_init rfl rfl (CI_Person) (by have := pl_a hr; omega) rfl (Nat.le_of_ble_eq_true rfl) (Nat.le_of_ble_eq_true rfl) (Nat.le_of_ble_eq_true rfl) (Nat.le_of_ble_eq_true rfl) rfl rfl (Nat.le_of_ble_eq_true rfl) ?_
  refine n_putR 6 i 1 3 (30 + i) (C := RX6) (T := TX6) (N := 4) tyX6 tyX6_ok nmX6 rfl rfl (by decide) (by first | decide | assumption | omega) (by first | decide | assumption | omega) (by decide) uX6 fl_X6_18 rfl rfl rfl rfl (by decide) rfl (fun _ => rfl) (fun _ => rfl) dX6_init_17 ?_
  refine n_aload_n dX6_init_20 rfl ?_
  refine n_new 5 (4 + i) tyX5 tyX5_ok hq rfl rfl (by decide) uX5 cl_X6_22 in_X5 ini_X5 dv_X5 (Nat.le_of_ble_eq_true rfl) (Nat.le_of_ble_eq_true rfl) dX6_init_21 ?_
  refine n_dup dX6_init_24 rfl ?_
  refine n_callIN dX6_init_25 cw_X6_24 im_X5_init rfl rfl (CI_Sheet hr (by omega) (by have := pl_ix hq; omega)) (by have := pl_a hr; omega) rfl (Nat.le_of_ble_eq_true rfl) (Nat.le_of_ble_eq_true rfl) (Nat.le_of_ble_eq_true rfl) (Nat.le_of_ble_eq_true rfl) rfl rfl (Nat.le_of_ble_eq_true rfl) ?_
  refine n_putR 6 i 2 5 (4 + i) (C := RX6) (T := TX6) (N := 4) tyX6 tyX6_ok nmX6 rfl rfl (by decide) (by first | decide | assumption | omega) (by first | decide | assumption | omega) (by decide) uX6 fl_X6_25 rfl rfl rfl rfl (by decide) rfl (fun _ => rfl) (fun _ => rfl) dX6_init_28 ?_
  exact n_return rfl dX6_init_31 rfl rfl
theorem ml_X2_3 : Cond.methodLink RX2 3 Lib.objectInit ∈ GW := gw_at 134 (by decide +kernel) (by decide +kernel)
theorem cl_X2_9 : Cond.classLink RX2 9 RX1 ∈ GW := gw_at 135 (by decide +kernel) (by decide +kernel)
theorem fl_X2_11 : Cond.fieldLink RX2 11 (TX2 0).1 (TX2 0).2.1 (TX2 0).2.2.1 ∈ GW := gw_at 161 (by decide +kernel) (by decide +kernel)
theorem fl_X2_17 : Cond.fieldLink RX2 17 (TX2 1).1 (TX2 1).2.1 (TX2 1).2.2.1 ∈ GW := gw_at 163 (by decide +kernel) (by decide +kernel)
theorem cw_X2_21 : CwN RX2 21 "NoonVows" mX1_init 0 := ⟨nw_at 138 (by decide +kernel) (by decide +kernel), gw_at 107 (by decide +kernel) (by decide +kernel), gw_at 140 (by decide +kernel) (by decide +kernel), ⟨by decide +kernel, by decide +kernel, by decide +kernel⟩, by decide⟩
theorem im_X1_init : Cond.instanceMethod mX1_init.1 ∈ GW := gw_at 139 (by decide +kernel) (by decide +kernel)
set_option maxRecDepth 100000 in
set_option maxHeartbeats 4000000 in
theorem CI_Laws {X : Cx} {ρ : Rho} {σ : Mem}   : TriC X 2 32 1611 mX2_init [rf X 2 0] ρ σ 2 (rput (rput (rput (rput (rput (rput (rput (rput (rput (rput (rput (rput (rput (rput (rput (rput (rput (rput (rput (rput (rput (rput (rput (rput (rput (rput (rput (rput (rput (rput (rput (rput ρ 2 0 0 (9, 0)) 2 0 1 (10, 0)) 1 0 2 (11, 0)) 9 0 0 (1, 0)) 1 1 2 (11, 1)) 9 0 1 (1, 1)) 1 2 2 (11, 2)) 9 0 2 (1, 2)) 1 3 2 (11, 3)) 9 0 3 (1, 3)) 1 4 2 (11, 4)) 9 0 4 (1, 4)) 1 5 2 (11, 5)) 9 0 5 (1, 5)) 1 6 2 (11, 6)) 9 0 6 (1, 6)) 1 7 2 (11, 7)) 9 0 7 (1, 7)) 1 8 2 (11, 8)) 9 0 8 (1, 8)) 1 9 2 (11, 9)) 9 0 9 (1, 9)) 1 10 2 (11, 10)) 9 0 10 (1, 10)) 1 11 2 (11, 11)) 9 0 11 (1, 11)) 1 12 2 (11, 12)) 9 0 12 (1, 12)) 1 13 2 (11, 13)) 9 0 13 (1, 13)) 1 14 2 (11, 14)) 9 0 14 (1, 14)) σ 34 := by
  refine TriC.of (ls := [some (rf X 2 0), none]) (by decide) (Nat.le_of_ble_eq_true rfl) rfl ?_
  refine n_aload_n dX2_init_0 rfl ?_
  refine n_objInit dX2_init_1 ml_X2_3 oi_inst oi_code (Nat.le_of_ble_eq_true rfl) (Nat.le_of_ble_eq_true rfl) ?_
  refine n_aload_n dX2_init_4 rfl ?_
  refine n_bipush (v := 15) dX2_init_5 (by decide) ?_
  refine n_newq 9 0 (C := RX1) 3 (by decide) (by decide) rfl (by decide) rfl rfl cl_X2_9 ao_X1 (by decide) (by decide) (by decide) (Nat.le_of_ble_eq_true rfl) (Nat.le_of_ble_eq_true rfl) dX2_init_7 ?_
  refine n_putR 2 0 0 9 0 (C := RX2) (T := TX2) (N := 2) tyX2 tyX2_ok nmX2 rfl rfl (by decide) (by decide) (by decide) (by decide) uX2 fl_X2_11 rfl rfl rfl rfl (by decide) rfl (fun _ => rfl) (fun _ => rfl) dX2_init_10 ?_
  refine n_aload_n dX2_init_13 rfl ?_
  refine n_bipush (v := 96) dX2_init_14 (by decide) ?_
  refine n_newa 10 0 (atype := .int) 0 (by decide) (by decide) rfl (by decide) rfl rfl ac_int rfl (by decide) (by decide) (by decide) (Nat.le_of_ble_eq_true rfl) (Nat.le_of_ble_eq_true rfl) dX2_init_16 ?_
  refine n_putR 2 0 1 10 0 (C := RX2) (T := TX2) (N := 2) tyX2 tyX2_ok nmX2 rfl rfl (by decide) (by decide) (by decide) (by decide) uX2 fl_X2_17 rfl rfl rfl rfl (by decide) rfl (fun _ => rfl) (fun _ => rfl) dX2_init_18 ?_
  refine n_iconst (v := 0) dX2_init_21 (by decide) ?_
  refine n_istore_n (ls' := [some (rf X 2 0), some (.int (0 : Int32))]) dX2_init_22 (by decide) (okp_at rfl) rfl ?_
  refine n_iload_n dX2_init_23 rfl ?_
  refine n_bipush (v := 14) dX2_init_24 (by decide) ?_
  refine n_icmp_gt (tgt := 48) dX2_init_26 (by decide) (fun c => absurd c (by decide)) (fun _ => ?_)
  refine n_aload_n dX2_init_29 rfl ?_
  refine n_getR 2 0 0 9 0 (C := RX2) (T := TX2) (N := 2) rfl rfl (by decide) (by decide) (by decide) (by decide) uX2 fl_X2_11 rfl (by decide) rfl dX2_init_30 ?_
  refine n_iload_n dX2_init_33 rfl ?_
  refine n_new 1 0 tyX1 tyX1_ok (by decide) rfl rfl (by decide) uX1 cl_X2_9 in_X1 ini_X1 dv_X1 (Nat.le_of_ble_eq_true rfl) (Nat.le_of_ble_eq_true rfl) dX2_init_34 ?_
  refine n_dup dX2_init_37 rfl ?_
  refine n_callIN dX2_init_38 cw_X2_21 im_X1_init rfl rfl (CI_Law (by decide) (by decide) (by decide)) (by decide) rfl (Nat.le_of_ble_eq_true rfl) (Nat.le_of_ble_eq_true rfl) (Nat.le_of_ble_eq_true rfl) (Nat.le_of_ble_eq_true rfl) rfl rfl (Nat.le_of_ble_eq_true rfl) ?_
  refine n_aast 9 0 0 1 0 3 (C := RX1) (T := TX1) (N := 4) dX2_init_41 (by decide) rfl (by decide) rfl rfl (by decide) (by decide) (by decide) rfl (by decide) (by decide) (by decide) ?_
  refine n_iinc (v := (1 : Int32)) (ls' := [some (rf X 2 0), some (.int (1 : Int32))]) dX2_init_42 rfl (by decide) (by decide) (okp_at rfl) rfl ?_
  refine n_goto (tgt := 23) dX2_init_45 (by decide) ?_
  refine n_iload_n dX2_init_23 rfl ?_
  refine n_bipush (v := 14) dX2_init_24 (by decide) ?_
  refine n_icmp_gt (tgt := 48) dX2_init_26 (by decide) (fun c => absurd c (by decide)) (fun _ => ?_)
  refine n_aload_n dX2_init_29 rfl ?_
  refine n_getR 2 0 0 9 0 (C := RX2) (T := TX2) (N := 2) rfl rfl (by decide) (by decide) (by decide) (by decide) uX2 fl_X2_11 rfl (by decide) rfl dX2_init_30 ?_
  refine n_iload_n dX2_init_33 rfl ?_
  refine n_new 1 1 tyX1 tyX1_ok (by decide) rfl rfl (by decide) uX1 cl_X2_9 in_X1 ini_X1 dv_X1 (Nat.le_of_ble_eq_true rfl) (Nat.le_of_ble_eq_true rfl) dX2_init_34 ?_
  refine n_dup dX2_init_37 rfl ?_
  refine n_callIN dX2_init_38 cw_X2_21 im_X1_init rfl rfl (CI_Law (by decide) (by decide) (by decide)) (by decide) rfl (Nat.le_of_ble_eq_true rfl) (Nat.le_of_ble_eq_true rfl) (Nat.le_of_ble_eq_true rfl) (Nat.le_of_ble_eq_true rfl) rfl rfl (Nat.le_of_ble_eq_true rfl) ?_
  refine n_aast 9 0 1 1 1 3 (C := RX1) (T := TX1) (N := 4) dX2_init_41 (by decide) rfl (by decide) rfl rfl (by decide) (by decide) (by decide) rfl (by decide) (by decide) (by decide) ?_
  refine n_iinc (v := (2 : Int32)) (ls' := [some (rf X 2 0), some (.int (2 : Int32))]) dX2_init_42 rfl (by decide) (by decide) (okp_at rfl) rfl ?_
  refine n_goto (tgt := 23) dX2_init_45 (by decide) ?_
  refine n_iload_n dX2_init_23 rfl ?_
  refine n_bipush (v := 14) dX2_init_24 (by decide) ?_
  refine n_icmp_gt (tgt := 48) dX2_init_26 (by decide) (fun c => absurd c (by decide)) (fun _ => ?_)
  refine n_aload_n dX2_init_29 rfl ?_
  refine n_getR 2 0 0 9 0 (C := RX2) (T := TX2) (N := 2) rfl rfl (by decide) (by decide) (by decide) (by decide) uX2 fl_X2_11 rfl (by decide) rfl dX2_init_30 ?_
  refine n_iload_n dX2_init_33 rfl ?_
  refine n_new 1 2 tyX1 tyX1_ok (by decide) rfl rfl (by decide) uX1 cl_X2_9 in_X1 ini_X1 dv_X1 (Nat.le_of_ble_eq_true rfl) (Nat.le_of_ble_eq_true rfl) dX2_init_34 ?_
  refine n_dup dX2_init_37 rfl ?_
  refine n_callIN dX2_init_38 cw_X2_21 im_X1_init rfl rfl (CI_Law (by decide) (by decide) (by decide)) (by decide) rfl (Nat.le_of_ble_eq_true rfl) (Nat.le_of_ble_eq_true rfl) (Nat.le_of_ble_eq_true rfl) (Nat.le_of_ble_eq_true rfl) rfl rfl (Nat.le_of_ble_eq_true rfl) ?_
  refine n_aast 9 0 2 1 2 3 (C := RX1) (T := TX1) (N := 4) dX2_init_41 (by decide) rfl (by decide) rfl rfl (by decide) (by decide) (by decide) rfl (by decide) (by decide) (by decide) ?_
  refine n_iinc (v := (3 : Int32)) (ls' := [some (rf X 2 0), some (.int (3 : Int32))]) dX2_init_42 rfl (by decide) (by decide) (okp_at rfl) rfl ?_
  refine n_goto (tgt := 23) dX2_init_45 (by decide) ?_
  refine n_iload_n dX2_init_23 rfl ?_
  refine n_bipush (v := 14) dX2_init_24 (by decide) ?_
  refine n_icmp_gt (tgt := 48) dX2_init_26 (by decide) (fun c => absurd c (by decide)) (fun _ => ?_)
  refine n_aload_n dX2_init_29 rfl ?_
  refine n_getR 2 0 0 9 0 (C := RX2) (T := TX2) (N := 2) rfl rfl (by decide) (by decide) (by decide) (by decide) uX2 fl_X2_11 rfl (by decide) rfl dX2_init_30 ?_
  refine n_iload_n dX2_init_33 rfl ?_
  refine n_new 1 3 tyX1 tyX1_ok (by decide) rfl rfl (by decide) uX1 cl_X2_9 in_X1 ini_X1 dv_X1 (Nat.le_of_ble_eq_true rfl) (Nat.le_of_ble_eq_true rfl) dX2_init_34 ?_
  refine n_dup dX2_init_37 rfl ?_
  refine n_callIN dX2_init_38 cw_X2_21 im_X1_init rfl rfl (CI_Law (by decide) (by decide) (by decide)) (by decide) rfl (Nat.le_of_ble_eq_true rfl) (Nat.le_of_ble_eq_true rfl) (Nat.le_of_ble_eq_true rfl) (Nat.le_of_ble_eq_true rfl) rfl rfl (Nat.le_of_ble_eq_true rfl) ?_
  refine n_aast 9 0 3 1 3 3 (C := RX1) (T := TX1) (N := 4) dX2_init_41 (by decide) rfl (by decide) rfl rfl (by decide) (by decide) (by decide) rfl (by decide) (by decide) (by decide) ?_
  refine n_iinc (v := (4 : Int32)) (ls' := [some (rf X 2 0), some (.int (4 : Int32))]) dX2_init_42 rfl (by decide) (by decide) (okp_at rfl) rfl ?_
  refine n_goto (tgt := 23) dX2_init_45 (by decide) ?_
  refine n_iload_n dX2_init_23 rfl ?_
  refine n_bipush (v := 14) dX2_init_24 (by decide) ?_
  refine n_icmp_gt (tgt := 48) dX2_init_26 (by decide) (fun c => absurd c (by decide)) (fun _ => ?_)
  refine n_aload_n dX2_init_29 rfl ?_
  refine n_getR 2 0 0 9 0 (C := RX2) (T := TX2) (N := 2) rfl rfl (by decide) (by decide) (by decide) (by decide) uX2 fl_X2_11 rfl (by decide) rfl dX2_init_30 ?_
  refine n_iload_n dX2_init_33 rfl ?_
  refine n_new 1 4 tyX1 tyX1_ok (by decide) rfl rfl (by decide) uX1 cl_X2_9 in_X1 ini_X1 dv_X1 (Nat.le_of_ble_eq_true rfl) (Nat.le_of_ble_eq_true rfl) dX2_init_34 ?_
  refine n_dup dX2_init_37 rfl ?_
  refine n_callIN dX2_init_38 cw_X2_21 im_X1_init rfl rfl (CI_Law (by decide) (by decide) (by decide)) (by decide) rfl (Nat.le_of_ble_eq_true rfl) (Nat.le_of_ble_eq_true rfl) (Nat.le_of_ble_eq_true rfl) (Nat.le_of_ble_eq_true rfl) rfl rfl (Nat.le_of_ble_eq_true rfl) ?_
  refine n_aast 9 0 4 1 4 3 (C := RX1) (T := TX1) (N := 4) dX2_init_41 (by decide) rfl (by decide) rfl rfl (by decide) (by decide) (by decide) rfl (by decide) (by decide) (by decide) ?_
  refine n_iinc (v := (5 : Int32)) (ls' := [some (rf X 2 0), some (.int (5 : Int32))]) dX2_init_42 rfl (by decide) (by decide) (okp_at rfl) rfl ?_
  refine n_goto (tgt := 23) dX2_init_45 (by decide) ?_
  refine n_iload_n dX2_init_23 rfl ?_
  refine n_bipush (v := 14) dX2_init_24 (by decide) ?_
  refine n_icmp_gt (tgt := 48) dX2_init_26 (by decide) (fun c => absurd c (by decide)) (fun _ => ?_)
  refine n_aload_n dX2_init_29 rfl ?_
  refine n_getR 2 0 0 9 0 (C := RX2) (T := TX2) (N := 2) rfl rfl (by decide) (by decide) (by decide) (by decide) uX2 fl_X2_11 rfl (by decide) rfl dX2_init_30 ?_
  refine n_iload_n dX2_init_33 rfl ?_
  refine n_new 1 5 tyX1 tyX1_ok (by decide) rfl rfl (by decide) uX1 cl_X2_9 in_X1 ini_X1 dv_X1 (Nat.le_of_ble_eq_true rfl) (Nat.le_of_ble_eq_true rfl) dX2_init_34 ?_
  refine n_dup dX2_init_37 rfl ?_
  refine n_callIN dX2_init_38 cw_X2_21 im_X1_init rfl rfl (CI_Law (by decide) (by decide) (by decide)) (by decide) rfl (Nat.le_of_ble_eq_true rfl) (Nat.le_of_ble_eq_true rfl) (Nat.le_of_ble_eq_true rfl) (Nat.le_of_ble_eq_true rfl) rfl rfl (Nat.le_of_ble_eq_true rfl) ?_
  refine n_aast 9 0 5 1 5 3 (C := RX1) (T := TX1) (N := 4) dX2_init_41 (by decide) rfl (by decide) rfl rfl (by decide) (by decide) (by decide) rfl (by decide) (by decide) (by decide) ?_
  refine n_iinc (v := (6 : Int32)) (ls' := [some (rf X 2 0), some (.int (6 : Int32))]) dX2_init_42 rfl (by decide) (by decide) (okp_at rfl) rfl ?_
  refine n_goto (tgt := 23) dX2_init_45 (by decide) ?_
  refine n_iload_n dX2_init_23 rfl ?_
  refine n_bipush (v := 14) dX2_init_24 (by decide) ?_
  refine n_icmp_gt (tgt := 48) dX2_init_26 (by decide) (fun c => absurd c (by decide)) (fun _ => ?_)
  refine n_aload_n dX2_init_29 rfl ?_
  refine n_getR 2 0 0 9 0 (C := RX2) (T := TX2) (N := 2) rfl rfl (by decide) (by decide) (by decide) (by decide) uX2 fl_X2_11 rfl (by decide) rfl dX2_init_30 ?_
  refine n_iload_n dX2_init_33 rfl ?_
  refine n_new 1 6 tyX1 tyX1_ok (by decide) rfl rfl (by decide) uX1 cl_X2_9 in_X1 ini_X1 dv_X1 (Nat.le_of_ble_eq_true rfl) (Nat.le_of_ble_eq_true rfl) dX2_init_34 ?_
  refine n_dup dX2_init_37 rfl ?_
  refine n_callIN dX2_init_38 cw_X2_21 im_X1_init rfl rfl (CI_Law (by decide) (by decide) (by decide)) (by decide) rfl (Nat.le_of_ble_eq_true rfl) (Nat.le_of_ble_eq_true rfl) (Nat.le_of_ble_eq_true rfl) (Nat.le_of_ble_eq_true rfl) rfl rfl (Nat.le_of_ble_eq_true rfl) ?_
  refine n_aast 9 0 6 1 6 3 (C := RX1) (T := TX1) (N := 4) dX2_init_41 (by decide) rfl (by decide) rfl rfl (by decide) (by decide) (by decide) rfl (by decide) (by decide) (by decide) ?_
  refine n_iinc (v := (7 : Int32)) (ls' := [some (rf X 2 0), some (.int (7 : Int32))]) dX2_init_42 rfl (by decide) (by decide) (okp_at rfl) rfl ?_
  refine n_goto (tgt := 23) dX2_init_45 (by decide) ?_
  refine n_iload_n dX2_init_23 rfl ?_
  refine n_bipush (v := 14) dX2_init_24 (by decide) ?_
  refine n_icmp_gt (tgt := 48) dX2_init_26 (by decide) (fun c => absurd c (by decide)) (fun _ => ?_)
  refine n_aload_n dX2_init_29 rfl ?_
  refine n_getR 2 0 0 9 0 (C := RX2) (T := TX2) (N := 2) rfl rfl (by decide) (by decide) (by decide) (by decide) uX2 fl_X2_11 rfl (by decide) rfl dX2_init_30 ?_
  refine n_iload_n dX2_init_33 rfl ?_
  refine n_new 1 7 tyX1 tyX1_ok (by decide) rfl rfl (by decide) uX1 cl_X2_9 in_X1 ini_X1 dv_X1 (Nat.le_of_ble_eq_true rfl) (Nat.le_of_ble_eq_true rfl) dX2_init_34 ?_
  refine n_dup dX2_init_37 rfl ?_
  refine n_callIN dX2_init_38 cw_X2_21 im_X1_init rfl rfl (CI_Law (by decide) (by decide) (by decide)) (by decide) rfl (Nat.le_of_ble_eq_true rfl) (Nat.le_of_ble_eq_true rfl) (Nat.le_of_ble_eq_true rfl) (Nat.le_of_ble_eq_true rfl) rfl rfl (Nat.le_of_ble_eq_true rfl) ?_
  refine n_aast 9 0 7 1 7 3 (C := RX1) (T := TX1) (N := 4) dX2_init_41 (by decide) rfl (by decide) rfl rfl (by decide) (by decide) (by decide) rfl (by decide) (by decide) (by decide) ?_
  refine n_iinc (v := (8 : Int32)) (ls' := [some (rf X 2 0), some (.int (8 : Int32))]) dX2_init_42 rfl (by decide) (by decide) (okp_at rfl) rfl ?_
  refine n_goto (tgt := 23) dX2_init_45 (by decide) ?_
  refine n_iload_n dX2_init_23 rfl ?_
  refine n_bipush (v := 14) dX2_init_24 (by decide) ?_
  refine n_icmp_gt (tgt := 48) dX2_init_26 (by decide) (fun c => absurd c (by decide)) (fun _ => ?_)
  refine n_aload_n dX2_init_29 rfl ?_
  refine n_getR 2 0 0 9 0 (C := RX2) (T := TX2) (N := 2) rfl rfl (by decide) (by decide) (by decide) (by decide) uX2 fl_X2_11 rfl (by decide) rfl dX2_init_30 ?_
  refine n_iload_n dX2_init_33 rfl ?_
  refine n_new 1 8 tyX1 tyX1_ok (by decide) rfl rfl (by decide) uX1 cl_X2_9 in_X1 ini_X1 dv_X1 (Nat.le_of_ble_eq_true rfl) (Nat.le_of_ble_eq_true rfl) dX2_init_34 ?_
  refine n_dup dX2_init_37 rfl ?_
  refine n_callIN dX2_init_38 cw_X2_21 im_X1_init rfl rfl (CI_Law (by decide) (by decide) (by decide)) (by decide) rfl (Nat.le_of_ble_eq_true rfl) (Nat.le_of_ble_eq_true rfl) (Nat.le_of_ble_eq_true rfl) (Nat.le_of_ble_eq_true rfl) rfl rfl (Nat.le_of_ble_eq_true rfl) ?_
  refine n_aast 9 0 8 1 8 3 (C := RX1) (T := TX1) (N := 4) dX2_init_41 (by decide) rfl (by decide) rfl rfl (by decide) (by decide) (by decide) rfl (by decide) (by decide) (by decide) ?_
  refine n_iinc (v := (9 : Int32)) (ls' := [some (rf X 2 0), some (.int (9 : Int32))]) dX2_init_42 rfl (by decide) (by decide) (okp_at rfl) rfl ?_
  refine n_goto (tgt := 23) dX2_init_45 (by decide) ?_
  refine n_iload_n dX2_init_23 rfl ?_
  refine n_bipush (v := 14) dX2_init_24 (by decide) ?_
  refine n_icmp_gt (tgt := 48) dX2_init_26 (by decide) (fun c => absurd c (by decide)) (fun _ => ?_)
  refine n_aload_n dX2_init_29 rfl ?_
  refine n_getR 2 0 0 9 0 (C := RX2) (T := TX2) (N := 2) rfl rfl (by decide) (by decide) (by decide) (by decide) uX2 fl_X2_11 rfl (by decide) rfl dX2_init_30 ?_
  refine n_iload_n dX2_init_33 rfl ?_
  refine n_new 1 9 tyX1 tyX1_ok (by decide) rfl rfl (by decide) uX1 cl_X2_9 in_X1 ini_X1 dv_X1 (Nat.le_of_ble_eq_true rfl) (Nat.le_of_ble_eq_true rfl) dX2_init_34 ?_
  refine n_dup dX2_init_37 rfl ?_
  refine n_callIN dX2_init_38 cw_X2_21 im_X1_init rfl rfl (CI_Law (by decide) (by decide) (by decide)) (by decide) rfl (Nat.le_of_ble_eq_true rfl) (Nat.le_of_ble_eq_true rfl) (Nat.le_of_ble_eq_true rfl) (Nat.le_of_ble_eq_true rfl) rfl rfl (Nat.le_of_ble_eq_true rfl) ?_
  refine n_aast 9 0 9 1 9 3 (C := RX1) (T := TX1) (N := 4) dX2_init_41 (by decide) rfl (by decide) rfl rfl (by decide) (by decide) (by decide) rfl (by decide) (by decide) (by decide) ?_
  refine n_iinc (v := (10 : Int32)) (ls' := [some (rf X 2 0), some (.int (10 : Int32))]) dX2_init_42 rfl (by decide) (by decide) (okp_at rfl) rfl ?_
  refine n_goto (tgt := 23) dX2_init_45 (by decide) ?_
  refine n_iload_n dX2_init_23 rfl ?_
  refine n_bipush (v := 14) dX2_init_24 (by decide) ?_
  refine n_icmp_gt (tgt := 48) dX2_init_26 (by decide) (fun c => absurd c (by decide)) (fun _ => ?_)
  refine n_aload_n dX2_init_29 rfl ?_
  refine n_getR 2 0 0 9 0 (C := RX2) (T := TX2) (N := 2) rfl rfl (by decide) (by decide) (by decide) (by decide) uX2 fl_X2_11 rfl (by decide) rfl dX2_init_30 ?_
  refine n_iload_n dX2_init_33 rfl ?_
  refine n_new 1 10 tyX1 tyX1_ok (by decide) rfl rfl (by decide) uX1 cl_X2_9 in_X1 ini_X1 dv_X1 (Nat.le_of_ble_eq_true rfl) (Nat.le_of_ble_eq_true rfl) dX2_init_34 ?_
  refine n_dup dX2_init_37 rfl ?_
  refine n_callIN dX2_init_38 cw_X2_21 im_X1_init rfl rfl (CI_Law (by decide) (by decide) (by decide)) (by decide) rfl (Nat.le_of_ble_eq_true rfl) (Nat.le_of_ble_eq_true rfl) (Nat.le_of_ble_eq_true rfl) (Nat.le_of_ble_eq_true rfl) rfl rfl (Nat.le_of_ble_eq_true rfl) ?_
  refine n_aast 9 0 10 1 10 3 (C := RX1) (T := TX1) (N := 4) dX2_init_41 (by decide) rfl (by decide) rfl rfl (by decide) (by decide) (by decide) rfl (by decide) (by decide) (by decide) ?_
  refine n_iinc (v := (11 : Int32)) (ls' := [some (rf X 2 0), some (.int (11 : Int32))]) dX2_init_42 rfl (by decide) (by decide) (okp_at rfl) rfl ?_
  refine n_goto (tgt := 23) dX2_init_45 (by decide) ?_
  refine n_iload_n dX2_init_23 rfl ?_
  refine n_bipush (v := 14) dX2_init_24 (by decide) ?_
  refine n_icmp_gt (tgt := 48) dX2_init_26 (by decide) (fun c => absurd c (by decide)) (fun _ => ?_)
  refine n_aload_n dX2_init_29 rfl ?_
  refine n_getR 2 0 0 9 0 (C := RX2) (T := TX2) (N := 2) rfl rfl (by decide) (by decide) (by decide) (by decide) uX2 fl_X2_11 rfl (by decide) rfl dX2_init_30 ?_
  refine n_iload_n dX2_init_33 rfl ?_
  refine n_new 1 11 tyX1 tyX1_ok (by decide) rfl rfl (by decide) uX1 cl_X2_9 in_X1 ini_X1 dv_X1 (Nat.le_of_ble_eq_true rfl) (Nat.le_of_ble_eq_true rfl) dX2_init_34 ?_
  refine n_dup dX2_init_37 rfl ?_
  refine n_callIN dX2_init_38 cw_X2_21 im_X1_init rfl rfl (CI_Law (by decide) (by decide) (by decide)) (by decide) rfl (Nat.le_of_ble_eq_true rfl) (Nat.le_of_ble_eq_true rfl) (Nat.le_of_ble_eq_true rfl) (Nat.le_of_ble_eq_true rfl) rfl rfl (Nat.le_of_ble_eq_true rfl) ?_
  refine n_aast 9 0 11 1 11 3 (C := RX1) (T := TX1) (N := 4) dX2_init_41 (by decide) rfl (by decide) rfl rfl (by decide) (by decide) (by decide) rfl (by decide) (by decide) (by decide) ?_
  refine n_iinc (v := (12 : Int32)) (ls' := [some (rf X 2 0), some (.int (12 : Int32))]) dX2_init_42 rfl (by decide) (by decide) (okp_at rfl) rfl ?_
  refine n_goto (tgt := 23) dX2_init_45 (by decide) ?_
  refine n_iload_n dX2_init_23 rfl ?_
  refine n_bipush (v := 14) dX2_init_24 (by decide) ?_
  refine n_icmp_gt (tgt := 48) dX2_init_26 (by decide) (fun c => absurd c (by decide)) (fun _ => ?_)
  refine n_aload_n dX2_init_29 rfl ?_
  refine n_getR 2 0 0 9 0 (C := RX2) (T := TX2) (N := 2) rfl rfl (by decide) (by decide) (by decide) (by decide) uX2 fl_X2_11 rfl (by decide) rfl dX2_init_30 ?_
  refine n_iload_n dX2_init_33 rfl ?_
  refine n_new 1 12 tyX1 tyX1_ok (by decide) rfl rfl (by decide) uX1 cl_X2_9 in_X1 ini_X1 dv_X1 (Nat.le_of_ble_eq_true rfl) (Nat.le_of_ble_eq_true rfl) dX2_init_34 ?_
  refine n_dup dX2_init_37 rfl ?_
  refine n_callIN dX2_init_38 cw_X2_21 im_X1_init rfl rfl (CI_Law (by decide) (by decide) (by decide)) (by decide) rfl (Nat.le_of_ble_eq_true rfl) (Nat.le_of_ble_eq_true rfl) (Nat.le_of_ble_eq_true rfl) (Nat.le_of_ble_eq_true rfl) rfl rfl (Nat.le_of_ble_eq_true rfl) ?_
  refine n_aast 9 0 12 1 12 3 (C := RX1) (T := TX1) (N := 4) dX2_init_41 (by decide) rfl (by decide) rfl rfl (by decide) (by decide) (by decide) rfl (by decide) (by decide) (by decide) ?_
  refine n_iinc (v := (13 : Int32)) (ls' := [some (rf X 2 0), some (.int (13 : Int32))]) dX2_init_42 rfl (by decide) (by decide) (okp_at rfl) rfl ?_
  refine n_goto (tgt := 23) dX2_init_45 (by decide) ?_
  refine n_iload_n dX2_init_23 rfl ?_
  refine n_bipush (v := 14) dX2_init_24 (by decide) ?_
  refine n_icmp_gt (tgt := 48) dX2_init_26 (by decide) (fun c => absurd c (by decide)) (fun _ => ?_)
  refine n_aload_n dX2_init_29 rfl ?_
  refine n_getR 2 0 0 9 0 (C := RX2) (T := TX2) (N := 2) rfl rfl (by decide) (by decide) (by decide) (by decide) uX2 fl_X2_11 rfl (by decide) rfl dX2_init_30 ?_
  refine n_iload_n dX2_init_33 rfl ?_
  refine n_new 1 13 tyX1 tyX1_ok (by decide) rfl rfl (by decide) uX1 cl_X2_9 in_X1 ini_X1 dv_X1 (Nat.le_of_ble_eq_true rfl) (Nat.le_of_ble_eq_true rfl) dX2_init_34 ?_
  refine n_dup dX2_init_37 rfl ?_
  refine n_callIN dX2_init_38 cw_X2_21 im_X1_init rfl rfl (CI_Law (by decide) (by decide) (by decide)) (by decide) rfl (Nat.le_of_ble_eq_true rfl) (Nat.le_of_ble_eq_true rfl) (Nat.le_of_ble_eq_true rfl) (Nat.le_of_ble_eq_true rfl) rfl rfl (Nat.le_of_ble_eq_true rfl) ?_
  refine n_aast 9 0 13 1 13 3 (C := RX1) (T := TX1) (N := 4) dX2_init_41 (by decide) rfl (by decide) rfl rfl (by decide) (by decide) (by decide) rfl (by decide) (by decide) (by decide) ?_
  refine n_iinc (v := (14 : Int32)) (ls' := [some (rf X 2 0), some (.int (14 : Int32))]) dX2_init_42 rfl (by decide) (by decide) (okp_at rfl) rfl ?_
  refine n_goto (tgt := 23) dX2_init_45 (by decide) ?_
  refine n_iload_n dX2_init_23 rfl ?_
  refine n_bipush (v := 14) dX2_init_24 (by decide) ?_
  refine n_icmp_gt (tgt := 48) dX2_init_26 (by decide) (fun c => absurd c (by decide)) (fun _ => ?_)
  refine n_aload_n dX2_init_29 rfl ?_
  refine n_getR 2 0 0 9 0 (C := RX2) (T := TX2) (N := 2) rfl rfl (by decide) (by decide) (by decide) (by decide) uX2 fl_X2_11 rfl (by decide) rfl dX2_init_30 ?_
  refine n_iload_n dX2_init_33 rfl ?_
  refine n_new 1 14 tyX1 tyX1_ok (by decide) rfl rfl (by decide) uX1 cl_X2_9 in_X1 ini_X1 dv_X1 (Nat.le_of_ble_eq_true rfl) (Nat.le_of_ble_eq_true rfl) dX2_init_34 ?_
  refine n_dup dX2_init_37 rfl ?_
  refine n_callIN dX2_init_38 cw_X2_21 im_X1_init rfl rfl (CI_Law (by decide) (by decide) (by decide)) (by decide) rfl (Nat.le_of_ble_eq_true rfl) (Nat.le_of_ble_eq_true rfl) (Nat.le_of_ble_eq_true rfl) (Nat.le_of_ble_eq_true rfl) rfl rfl (Nat.le_of_ble_eq_true rfl) ?_
  refine n_aast 9 0 14 1 14 3 (C := RX1) (T := TX1) (N := 4) dX2_init_41 (by decide) rfl (by decide) rfl rfl (by decide) (by decide) (by decide) rfl (by decide) (by decide) (by decide) ?_
  refine n_iinc (v := (15 : Int32)) (ls' := [some (rf X 2 0), some (.int (15 : Int32))]) dX2_init_42 rfl (by decide) (by decide) (okp_at rfl) rfl ?_
  refine n_goto (tgt := 23) dX2_init_45 (by decide) ?_
  refine n_iload_n dX2_init_23 rfl ?_
  refine n_bipush (v := 14) dX2_init_24 (by decide) ?_
  refine n_icmp_gt (tgt := 48) dX2_init_26 (by decide) (fun _ => ?_) (fun c => absurd (by decide) c)
  exact n_return rfl dX2_init_48 rfl rfl
theorem ml_X0_3 : Cond.methodLink RX0 3 Lib.objectInit ∈ GW := gw_at 174 (by decide +kernel) (by decide +kernel)
theorem cl_X0_9 : Cond.classLink RX0 9 RX3 ∈ GW := gw_at 175 (by decide +kernel) (by decide +kernel)
theorem fl_X0_11 : Cond.fieldLink RX0 11 (TX0 1).1 (TX0 1).2.1 (TX0 1).2.2.1 ∈ GW := gw_at 206 (by decide +kernel) (by decide +kernel)
theorem fl_X0_17 : Cond.fieldLink RX0 17 (TX0 3).1 (TX0 3).2.1 (TX0 3).2.2.1 ∈ GW := gw_at 210 (by decide +kernel) (by decide +kernel)
theorem fl_X0_21 : Cond.fieldLink RX0 21 (TX0 4).1 (TX0 4).2.1 (TX0 4).2.2.1 ∈ GW := gw_at 212 (by decide +kernel) (by decide +kernel)
theorem fl_X0_24 : Cond.fieldLink RX0 24 (TX0 5).1 (TX0 5).2.1 (TX0 5).2.2.1 ∈ GW := gw_at 214 (by decide +kernel) (by decide +kernel)
theorem fl_X0_27 : Cond.fieldLink RX0 27 (TX0 10).1 (TX0 10).2.1 (TX0 10).2.2.1 ∈ GW := gw_at 224 (by decide +kernel) (by decide +kernel)
theorem fl_X0_31 : Cond.fieldLink RX0 31 (TX0 12).1 (TX0 12).2.1 (TX0 12).2.2.1 ∈ GW := gw_at 228 (by decide +kernel) (by decide +kernel)
theorem fl_X0_34 : Cond.fieldLink RX0 34 (TX0 0).1 (TX0 0).2.1 (TX0 0).2.2.1 ∈ GW := gw_at 205 (by decide +kernel) (by decide +kernel)
theorem cw_X0_38 : CwN RX0 38 "NoonVows" mX3_init 0 := ⟨nw_at 178 (by decide +kernel) (by decide +kernel), gw_at 109 (by decide +kernel) (by decide +kernel), gw_at 180 (by decide +kernel) (by decide +kernel), ⟨by decide +kernel, by decide +kernel, by decide +kernel⟩, by decide⟩
set_option maxRecDepth 100000 in
set_option maxHeartbeats 4000000 in
theorem CI_Land0 {X : Cx} {ρ : Rho} {σ : Mem}   : TriC X 2 15 114 mX0_init [rf X 0 0, rf X 2 0] ρ σ 35 (rput (rput (rput (rput (rput (rput (rput (rput (rput (rput (rput (rput (rput (rput (rput (rput ρ 0 0 1 (12, 0)) 0 0 3 (13, 0)) 0 0 4 (14, 0)) 0 0 5 (15, 0)) 0 0 12 (16, 0)) 0 0 0 (2, 0)) 12 0 0 (3, 0)) 12 0 1 (3, 1)) 12 0 2 (3, 2)) 12 0 3 (3, 3)) 12 0 4 (3, 4)) 12 0 5 (3, 5)) 12 0 6 (3, 6)) 12 0 7 (3, 7)) 12 0 8 (3, 8)) 12 0 9 (3, 9)) (mput (mput (mput (mput σ 0 0 10 (1 : Int32)) 16 0 0 (-1 : Int32)) 16 0 1 (-1 : Int32)) 16 0 2 (-1 : Int32)) 50 := by
  refine TriC.of (ls := [some (rf X 0 0), some (rf X 2 0), none]) (by decide) (Nat.le_of_ble_eq_true rfl) rfl ?_
  refine n_aload_n dX0_init_0 rfl ?_
  refine n_objInit dX0_init_1 ml_X0_3 oi_inst oi_code (Nat.le_of_ble_eq_true rfl) (Nat.le_of_ble_eq_true rfl) ?_
  refine n_aload_n dX0_init_4 rfl ?_
  refine n_bipush (v := 10) dX0_init_5 (by decide) ?_
  refine n_newq 12 0 (C := RX3) 4 (by decide) (by decide) rfl (by decide) rfl rfl cl_X0_9 ao_X3 (by decide) (by decide) (by decide) (Nat.le_of_ble_eq_true rfl) (Nat.le_of_ble_eq_true rfl) dX0_init_7 ?_
  refine n_putR 0 0 1 12 0 (C := RX0) (T := TX0) (N := 13) tyX0 tyX0_ok nmX0 rfl rfl (by decide) (by decide) (by decide) (by decide) uX0 fl_X0_11 rfl rfl rfl rfl (by decide) rfl (fun _ => rfl) (fun _ => rfl) dX0_init_10 ?_
  refine n_aload_n dX0_init_13 rfl ?_
  refine n_bipush (v := 17) dX0_init_14 (by decide) ?_
  refine n_newa 13 0 (atype := .int) 0 (by decide) (by decide) rfl (by decide) rfl rfl ac_int rfl (by decide) (by decide) (by decide) (Nat.le_of_ble_eq_true rfl) (Nat.le_of_ble_eq_true rfl) dX0_init_16 ?_
  refine n_putR 0 0 3 13 0 (C := RX0) (T := TX0) (N := 13) tyX0 tyX0_ok nmX0 rfl rfl (by decide) (by decide) (by decide) (by decide) uX0 fl_X0_17 rfl rfl rfl rfl (by decide) rfl (fun _ => rfl) (fun _ => rfl) dX0_init_18 ?_
  refine n_aload_n dX0_init_21 rfl ?_
  refine n_bipush (v := 17) dX0_init_22 (by decide) ?_
  refine n_newa 14 0 (atype := .int) 0 (by decide) (by decide) rfl (by decide) rfl rfl ac_int rfl (by decide) (by decide) (by decide) (Nat.le_of_ble_eq_true rfl) (Nat.le_of_ble_eq_true rfl) dX0_init_24 ?_
  refine n_putR 0 0 4 14 0 (C := RX0) (T := TX0) (N := 13) tyX0 tyX0_ok nmX0 rfl rfl (by decide) (by decide) (by decide) (by decide) uX0 fl_X0_21 rfl rfl rfl rfl (by decide) rfl (fun _ => rfl) (fun _ => rfl) dX0_init_26 ?_
  refine n_aload_n dX0_init_29 rfl ?_
  refine n_bipush (v := 17) dX0_init_30 (by decide) ?_
  refine n_newa 15 0 (atype := .int) 0 (by decide) (by decide) rfl (by decide) rfl rfl ac_int rfl (by decide) (by decide) (by decide) (Nat.le_of_ble_eq_true rfl) (Nat.le_of_ble_eq_true rfl) dX0_init_32 ?_
  refine n_putR 0 0 5 15 0 (C := RX0) (T := TX0) (N := 13) tyX0 tyX0_ok nmX0 rfl rfl (by decide) (by decide) (by decide) (by decide) uX0 fl_X0_24 rfl rfl rfl rfl (by decide) rfl (fun _ => rfl) (fun _ => rfl) dX0_init_34 ?_
  refine n_aload_n dX0_init_37 rfl ?_
  refine n_iconst (v := 1) dX0_init_38 (by decide) ?_
  refine n_putI 0 0 10 (C := RX0) (T := TX0) (N := 13) tyX0 tyX0_ok nmX0 rfl rfl (by decide) (by decide) (by decide) (by decide) uX0 fl_X0_27 rfl rfl (by decide) rfl dX0_init_39 ?_
  refine n_aload_n dX0_init_42 rfl ?_
  refine n_iconst (v := 3) dX0_init_43 (by decide) ?_
  refine n_newa 16 0 (atype := .int) 0 (by decide) (by decide) rfl (by decide) rfl rfl ac_int rfl (by decide) (by decide) (by decide) (Nat.le_of_ble_eq_true rfl) (Nat.le_of_ble_eq_true rfl) dX0_init_44 ?_
  refine n_dup dX0_init_46 rfl ?_
  refine n_iconst (v := 0) dX0_init_47 (by decide) ?_
  refine n_iconst (v := (-1)) dX0_init_48 (by decide) ?_
  refine n_iast 16 0 0 dX0_init_49 (by decide) rfl rfl (by decide) (by decide) (by decide) ?_
  refine n_dup dX0_init_50 rfl ?_
  refine n_iconst (v := 1) dX0_init_51 (by decide) ?_
  refine n_iconst (v := (-1)) dX0_init_52 (by decide) ?_
  refine n_iast 16 0 1 dX0_init_53 (by decide) rfl rfl (by decide) (by decide) (by decide) ?_
  refine n_dup dX0_init_54 rfl ?_
  refine n_iconst (v := 2) dX0_init_55 (by decide) ?_
  refine n_iconst (v := (-1)) dX0_init_56 (by decide) ?_
  refine n_iast 16 0 2 dX0_init_57 (by decide) rfl rfl (by decide) (by decide) (by decide) ?_
  refine n_putR 0 0 12 16 0 (C := RX0) (T := TX0) (N := 13) tyX0 tyX0_ok nmX0 rfl rfl (by decide) (by decide) (by decide) (by decide) uX0 fl_X0_31 rfl rfl rfl rfl (by decide) rfl (fun _ => rfl) (fun _ => rfl) dX0_init_58 ?_
  refine n_aload_n dX0_init_61 rfl ?_
  refine n_aload_n dX0_init_62 rfl ?_
  refine n_putR 0 0 0 2 0 (C := RX0) (T := TX0) (N := 13) tyX0 tyX0_ok nmX0 rfl rfl (by decide) (by decide) (by decide) (by decide) uX0 fl_X0_34 rfl rfl rfl rfl (by decide) rfl (fun _ => rfl) (fun _ => rfl) dX0_init_63 ?_
  refine n_iconst (v := 0) dX0_init_66 (by decide) ?_
  refine n_istore_n (ls' := [some (rf X 0 0), some (rf X 2 0), some (.int (0 : Int32))]) dX0_init_67 (by decide) (okp_at rfl) rfl ?_
  refine n_iload_n dX0_init_68 rfl ?_
  refine n_bipush (v := 10) dX0_init_69 (by decide) ?_
  refine n_icmp_ge (tgt := 93) dX0_init_71 (by decide) (fun c => absurd c (by decide)) (fun _ => ?_)
  refine n_aload_n dX0_init_74 rfl ?_
  refine n_getR 0 0 1 12 0 (C := RX0) (T := TX0) (N := 13) rfl rfl (by decide) (by decide) (by decide) (by decide) uX0 fl_X0_11 rfl (by decide) rfl dX0_init_75 ?_
  refine n_iload_n dX0_init_78 rfl ?_
  refine n_new 3 0 tyX3 tyX3_ok (by decide) rfl rfl (by decide) uX3 cl_X0_9 in_X3 ini_X3 dv_X3 (Nat.le_of_ble_eq_true rfl) (Nat.le_of_ble_eq_true rfl) dX0_init_79 ?_
  refine n_dup dX0_init_82 rfl ?_
  refine n_callIN dX0_init_83 cw_X0_38 im_X3_init rfl rfl (CI_Person) (by decide) rfl (Nat.le_of_ble_eq_true rfl) (Nat.le_of_ble_eq_true rfl) (Nat.le_of_ble_eq_true rfl) (Nat.le_of_ble_eq_true rfl) rfl rfl (Nat.le_of_ble_eq_true rfl) ?_
  refine n_aast 12 0 0 3 0 4 (C := RX3) (T := TX3) (N := 5) dX0_init_86 (by decide) rfl (by decide) rfl rfl (by decide) (by decide) (by decide) rfl (by decide) (by decide) (by decide) ?_
  refine n_iinc (v := (1 : Int32)) (ls' := [some (rf X 0 0), some (rf X 2 0), some (.int (1 : Int32))]) dX0_init_87 rfl (by decide) (by decide) (okp_at rfl) rfl ?_
  refine n_goto (tgt := 68) dX0_init_90 (by decide) ?_
  refine n_iload_n dX0_init_68 rfl ?_
  refine n_bipush (v := 10) dX0_init_69 (by decide) ?_
  refine n_icmp_ge (tgt := 93) dX0_init_71 (by decide) (fun c => absurd c (by decide)) (fun _ => ?_)
  refine n_aload_n dX0_init_74 rfl ?_
  refine n_getR 0 0 1 12 0 (C := RX0) (T := TX0) (N := 13) rfl rfl (by decide) (by decide) (by decide) (by decide) uX0 fl_X0_11 rfl (by decide) rfl dX0_init_75 ?_
  refine n_iload_n dX0_init_78 rfl ?_
  refine n_new 3 1 tyX3 tyX3_ok (by decide) rfl rfl (by decide) uX3 cl_X0_9 in_X3 ini_X3 dv_X3 (Nat.le_of_ble_eq_true rfl) (Nat.le_of_ble_eq_true rfl) dX0_init_79 ?_
  refine n_dup dX0_init_82 rfl ?_
  refine n_callIN dX0_init_83 cw_X0_38 im_X3_init rfl rfl (CI_Person) (by decide) rfl (Nat.le_of_ble_eq_true rfl) (Nat.le_of_ble_eq_true rfl) (Nat.le_of_ble_eq_true rfl) (Nat.le_of_ble_eq_true rfl) rfl rfl (Nat.le_of_ble_eq_true rfl) ?_
  refine n_aast 12 0 1 3 1 4 (C := RX3) (T := TX3) (N := 5) dX0_init_86 (by decide) rfl (by decide) rfl rfl (by decide) (by decide) (by decide) rfl (by decide) (by decide) (by decide) ?_
  refine n_iinc (v := (2 : Int32)) (ls' := [some (rf X 0 0), some (rf X 2 0), some (.int (2 : Int32))]) dX0_init_87 rfl (by decide) (by decide) (okp_at rfl) rfl ?_
  refine n_goto (tgt := 68) dX0_init_90 (by decide) ?_
  refine n_iload_n dX0_init_68 rfl ?_
  refine n_bipush (v := 10) dX0_init_69 (by decide) ?_
  refine n_icmp_ge (tgt := 93) dX0_init_71 (by decide) (fun c => absurd c (by decide)) (fun _ => ?_)
  refine n_aload_n dX0_init_74 rfl ?_
  refine n_getR 0 0 1 12 0 (C := RX0) (T := TX0) (N := 13) rfl rfl (by decide) (by decide) (by decide) (by decide) uX0 fl_X0_11 rfl (by decide) rfl dX0_init_75 ?_
  refine n_iload_n dX0_init_78 rfl ?_
  refine n_new 3 2 tyX3 tyX3_ok (by decide) rfl rfl (by decide) uX3 cl_X0_9 in_X3 ini_X3 dv_X3 (Nat.le_of_ble_eq_true rfl) (Nat.le_of_ble_eq_true rfl) dX0_init_79 ?_
  refine n_dup dX0_init_82 rfl ?_
  refine n_callIN dX0_init_83 cw_X0_38 im_X3_init rfl rfl (CI_Person) (by decide) rfl (Nat.le_of_ble_eq_true rfl) (Nat.le_of_ble_eq_true rfl) (Nat.le_of_ble_eq_true rfl) (Nat.le_of_ble_eq_true rfl) rfl rfl (Nat.le_of_ble_eq_true rfl) ?_
  refine n_aast 12 0 2 3 2 4 (C := RX3) (T := TX3) (N := 5) dX0_init_86 (by decide) rfl (by decide) rfl rfl (by decide) (by decide) (by decide) rfl (by decide) (by decide) (by decide) ?_
  refine n_iinc (v := (3 : Int32)) (ls' := [some (rf X 0 0), some (rf X 2 0), some (.int (3 : Int32))]) dX0_init_87 rfl (by decide) (by decide) (okp_at rfl) rfl ?_
  refine n_goto (tgt := 68) dX0_init_90 (by decide) ?_
  refine n_iload_n dX0_init_68 rfl ?_
  refine n_bipush (v := 10) dX0_init_69 (by decide) ?_
  refine n_icmp_ge (tgt := 93) dX0_init_71 (by decide) (fun c => absurd c (by decide)) (fun _ => ?_)
  refine n_aload_n dX0_init_74 rfl ?_
  refine n_getR 0 0 1 12 0 (C := RX0) (T := TX0) (N := 13) rfl rfl (by decide) (by decide) (by decide) (by decide) uX0 fl_X0_11 rfl (by decide) rfl dX0_init_75 ?_
  refine n_iload_n dX0_init_78 rfl ?_
  refine n_new 3 3 tyX3 tyX3_ok (by decide) rfl rfl (by decide) uX3 cl_X0_9 in_X3 ini_X3 dv_X3 (Nat.le_of_ble_eq_true rfl) (Nat.le_of_ble_eq_true rfl) dX0_init_79 ?_
  refine n_dup dX0_init_82 rfl ?_
  refine n_callIN dX0_init_83 cw_X0_38 im_X3_init rfl rfl (CI_Person) (by decide) rfl (Nat.le_of_ble_eq_true rfl) (Nat.le_of_ble_eq_true rfl) (Nat.le_of_ble_eq_true rfl) (Nat.le_of_ble_eq_true rfl) rfl rfl (Nat.le_of_ble_eq_true rfl) ?_
  refine n_aast 12 0 3 3 3 4 (C := RX3) (T := TX3) (N := 5) dX0_init_86 (by decide) rfl (by decide) rfl rfl (by decide) (by decide) (by decide) rfl (by decide) (by decide) (by decide) ?_
  refine n_iinc (v := (4 : Int32)) (ls' := [some (rf X 0 0), some (rf X 2 0), some (.int (4 : Int32))]) dX0_init_87 rfl (by decide) (by decide) (okp_at rfl) rfl ?_
  refine n_goto (tgt := 68) dX0_init_90 (by decide) ?_
  refine n_iload_n dX0_init_68 rfl ?_
  refine n_bipush (v := 10) dX0_init_69 (by decide) ?_
  refine n_icmp_ge (tgt := 93) dX0_init_71 (by decide) (fun c => absurd c (by decide)) (fun _ => ?_)
  refine n_aload_n dX0_init_74 rfl ?_
  refine n_getR 0 0 1 12 0 (C := RX0) (T := TX0) (N := 13) rfl rfl (by decide) (by decide) (by decide) (by decide) uX0 fl_X0_11 rfl (by decide) rfl dX0_init_75 ?_
  refine n_iload_n dX0_init_78 rfl ?_
  refine n_new 3 4 tyX3 tyX3_ok (by decide) rfl rfl (by decide) uX3 cl_X0_9 in_X3 ini_X3 dv_X3 (Nat.le_of_ble_eq_true rfl) (Nat.le_of_ble_eq_true rfl) dX0_init_79 ?_
  refine n_dup dX0_init_82 rfl ?_
  refine n_callIN dX0_init_83 cw_X0_38 im_X3_init rfl rfl (CI_Person) (by decide) rfl (Nat.le_of_ble_eq_true rfl) (Nat.le_of_ble_eq_true rfl) (Nat.le_of_ble_eq_true rfl) (Nat.le_of_ble_eq_true rfl) rfl rfl (Nat.le_of_ble_eq_true rfl) ?_
  refine n_aast 12 0 4 3 4 4 (C := RX3) (T := TX3) (N := 5) dX0_init_86 (by decide) rfl (by decide) rfl rfl (by decide) (by decide) (by decide) rfl (by decide) (by decide) (by decide) ?_
  refine n_iinc (v := (5 : Int32)) (ls' := [some (rf X 0 0), some (rf X 2 0), some (.int (5 : Int32))]) dX0_init_87 rfl (by decide) (by decide) (okp_at rfl) rfl ?_
  refine n_goto (tgt := 68) dX0_init_90 (by decide) ?_
  refine n_iload_n dX0_init_68 rfl ?_
  refine n_bipush (v := 10) dX0_init_69 (by decide) ?_
  refine n_icmp_ge (tgt := 93) dX0_init_71 (by decide) (fun c => absurd c (by decide)) (fun _ => ?_)
  refine n_aload_n dX0_init_74 rfl ?_
  refine n_getR 0 0 1 12 0 (C := RX0) (T := TX0) (N := 13) rfl rfl (by decide) (by decide) (by decide) (by decide) uX0 fl_X0_11 rfl (by decide) rfl dX0_init_75 ?_
  refine n_iload_n dX0_init_78 rfl ?_
  refine n_new 3 5 tyX3 tyX3_ok (by decide) rfl rfl (by decide) uX3 cl_X0_9 in_X3 ini_X3 dv_X3 (Nat.le_of_ble_eq_true rfl) (Nat.le_of_ble_eq_true rfl) dX0_init_79 ?_
  refine n_dup dX0_init_82 rfl ?_
  refine n_callIN dX0_init_83 cw_X0_38 im_X3_init rfl rfl (CI_Person) (by decide) rfl (Nat.le_of_ble_eq_true rfl) (Nat.le_of_ble_eq_true rfl) (Nat.le_of_ble_eq_true rfl) (Nat.le_of_ble_eq_true rfl) rfl rfl (Nat.le_of_ble_eq_true rfl) ?_
  refine n_aast 12 0 5 3 5 4 (C := RX3) (T := TX3) (N := 5) dX0_init_86 (by decide) rfl (by decide) rfl rfl (by decide) (by decide) (by decide) rfl (by decide) (by decide) (by decide) ?_
  refine n_iinc (v := (6 : Int32)) (ls' := [some (rf X 0 0), some (rf X 2 0), some (.int (6 : Int32))]) dX0_init_87 rfl (by decide) (by decide) (okp_at rfl) rfl ?_
  refine n_goto (tgt := 68) dX0_init_90 (by decide) ?_
  refine n_iload_n dX0_init_68 rfl ?_
  refine n_bipush (v := 10) dX0_init_69 (by decide) ?_
  refine n_icmp_ge (tgt := 93) dX0_init_71 (by decide) (fun c => absurd c (by decide)) (fun _ => ?_)
  refine n_aload_n dX0_init_74 rfl ?_
  refine n_getR 0 0 1 12 0 (C := RX0) (T := TX0) (N := 13) rfl rfl (by decide) (by decide) (by decide) (by decide) uX0 fl_X0_11 rfl (by decide) rfl dX0_init_75 ?_
  refine n_iload_n dX0_init_78 rfl ?_
  refine n_new 3 6 tyX3 tyX3_ok (by decide) rfl rfl (by decide) uX3 cl_X0_9 in_X3 ini_X3 dv_X3 (Nat.le_of_ble_eq_true rfl) (Nat.le_of_ble_eq_true rfl) dX0_init_79 ?_
  refine n_dup dX0_init_82 rfl ?_
  refine n_callIN dX0_init_83 cw_X0_38 im_X3_init rfl rfl (CI_Person) (by decide) rfl (Nat.le_of_ble_eq_true rfl) (Nat.le_of_ble_eq_true rfl) (Nat.le_of_ble_eq_true rfl) (Nat.le_of_ble_eq_true rfl) rfl rfl (Nat.le_of_ble_eq_true rfl) ?_
  refine n_aast 12 0 6 3 6 4 (C := RX3) (T := TX3) (N := 5) dX0_init_86 (by decide) rfl (by decide) rfl rfl (by decide) (by decide) (by decide) rfl (by decide) (by decide) (by decide) ?_
  refine n_iinc (v := (7 : Int32)) (ls' := [some (rf X 0 0), some (rf X 2 0), some (.int (7 : Int32))]) dX0_init_87 rfl (by decide) (by decide) (okp_at rfl) rfl ?_
  refine n_goto (tgt := 68) dX0_init_90 (by decide) ?_
  refine n_iload_n dX0_init_68 rfl ?_
  refine n_bipush (v := 10) dX0_init_69 (by decide) ?_
  refine n_icmp_ge (tgt := 93) dX0_init_71 (by decide) (fun c => absurd c (by decide)) (fun _ => ?_)
  refine n_aload_n dX0_init_74 rfl ?_
  refine n_getR 0 0 1 12 0 (C := RX0) (T := TX0) (N := 13) rfl rfl (by decide) (by decide) (by decide) (by decide) uX0 fl_X0_11 rfl (by decide) rfl dX0_init_75 ?_
  refine n_iload_n dX0_init_78 rfl ?_
  refine n_new 3 7 tyX3 tyX3_ok (by decide) rfl rfl (by decide) uX3 cl_X0_9 in_X3 ini_X3 dv_X3 (Nat.le_of_ble_eq_true rfl) (Nat.le_of_ble_eq_true rfl) dX0_init_79 ?_
  refine n_dup dX0_init_82 rfl ?_
  refine n_callIN dX0_init_83 cw_X0_38 im_X3_init rfl rfl (CI_Person) (by decide) rfl (Nat.le_of_ble_eq_true rfl) (Nat.le_of_ble_eq_true rfl) (Nat.le_of_ble_eq_true rfl) (Nat.le_of_ble_eq_true rfl) rfl rfl (Nat.le_of_ble_eq_true rfl) ?_
  refine n_aast 12 0 7 3 7 4 (C := RX3) (T := TX3) (N := 5) dX0_init_86 (by decide) rfl (by decide) rfl rfl (by decide) (by decide) (by decide) rfl (by decide) (by decide) (by decide) ?_
  refine n_iinc (v := (8 : Int32)) (ls' := [some (rf X 0 0), some (rf X 2 0), some (.int (8 : Int32))]) dX0_init_87 rfl (by decide) (by decide) (okp_at rfl) rfl ?_
  refine n_goto (tgt := 68) dX0_init_90 (by decide) ?_
  refine n_iload_n dX0_init_68 rfl ?_
  refine n_bipush (v := 10) dX0_init_69 (by decide) ?_
  refine n_icmp_ge (tgt := 93) dX0_init_71 (by decide) (fun c => absurd c (by decide)) (fun _ => ?_)
  refine n_aload_n dX0_init_74 rfl ?_
  refine n_getR 0 0 1 12 0 (C := RX0) (T := TX0) (N := 13) rfl rfl (by decide) (by decide) (by decide) (by decide) uX0 fl_X0_11 rfl (by decide) rfl dX0_init_75 ?_
  refine n_iload_n dX0_init_78 rfl ?_
  refine n_new 3 8 tyX3 tyX3_ok (by decide) rfl rfl (by decide) uX3 cl_X0_9 in_X3 ini_X3 dv_X3 (Nat.le_of_ble_eq_true rfl) (Nat.le_of_ble_eq_true rfl) dX0_init_79 ?_
  refine n_dup dX0_init_82 rfl ?_
  refine n_callIN dX0_init_83 cw_X0_38 im_X3_init rfl rfl (CI_Person) (by decide) rfl (Nat.le_of_ble_eq_true rfl) (Nat.le_of_ble_eq_true rfl) (Nat.le_of_ble_eq_true rfl) (Nat.le_of_ble_eq_true rfl) rfl rfl (Nat.le_of_ble_eq_true rfl) ?_
  refine n_aast 12 0 8 3 8 4 (C := RX3) (T := TX3) (N := 5) dX0_init_86 (by decide) rfl (by decide) rfl rfl (by decide) (by decide) (by decide) rfl (by decide) (by decide) (by decide) ?_
  refine n_iinc (v := (9 : Int32)) (ls' := [some (rf X 0 0), some (rf X 2 0), some (.int (9 : Int32))]) dX0_init_87 rfl (by decide) (by decide) (okp_at rfl) rfl ?_
  refine n_goto (tgt := 68) dX0_init_90 (by decide) ?_
  refine n_iload_n dX0_init_68 rfl ?_
  refine n_bipush (v := 10) dX0_init_69 (by decide) ?_
  refine n_icmp_ge (tgt := 93) dX0_init_71 (by decide) (fun c => absurd c (by decide)) (fun _ => ?_)
  refine n_aload_n dX0_init_74 rfl ?_
  refine n_getR 0 0 1 12 0 (C := RX0) (T := TX0) (N := 13) rfl rfl (by decide) (by decide) (by decide) (by decide) uX0 fl_X0_11 rfl (by decide) rfl dX0_init_75 ?_
  refine n_iload_n dX0_init_78 rfl ?_
  refine n_new 3 9 tyX3 tyX3_ok (by decide) rfl rfl (by decide) uX3 cl_X0_9 in_X3 ini_X3 dv_X3 (Nat.le_of_ble_eq_true rfl) (Nat.le_of_ble_eq_true rfl) dX0_init_79 ?_
  refine n_dup dX0_init_82 rfl ?_
  refine n_callIN dX0_init_83 cw_X0_38 im_X3_init rfl rfl (CI_Person) (by decide) rfl (Nat.le_of_ble_eq_true rfl) (Nat.le_of_ble_eq_true rfl) (Nat.le_of_ble_eq_true rfl) (Nat.le_of_ble_eq_true rfl) rfl rfl (Nat.le_of_ble_eq_true rfl) ?_
  refine n_aast 12 0 9 3 9 4 (C := RX3) (T := TX3) (N := 5) dX0_init_86 (by decide) rfl (by decide) rfl rfl (by decide) (by decide) (by decide) rfl (by decide) (by decide) (by decide) ?_
  refine n_iinc (v := (10 : Int32)) (ls' := [some (rf X 0 0), some (rf X 2 0), some (.int (10 : Int32))]) dX0_init_87 rfl (by decide) (by decide) (okp_at rfl) rfl ?_
  refine n_goto (tgt := 68) dX0_init_90 (by decide) ?_
  refine n_iload_n dX0_init_68 rfl ?_
  refine n_bipush (v := 10) dX0_init_69 (by decide) ?_
  refine n_icmp_ge (tgt := 93) dX0_init_71 (by decide) (fun _ => ?_) (fun c => absurd (by decide) c)
  exact n_return rfl dX0_init_93 rfl rfl
set_option maxRecDepth 100000 in
set_option maxHeartbeats 4000000 in
theorem CI_Land1 {X : Cx} {ρ : Rho} {σ : Mem}   : TriC X 2 15 114 mX0_init [rf X 0 1, rf X 2 0] ρ σ 51 (rput (rput (rput (rput (rput (rput (rput (rput (rput (rput (rput (rput (rput (rput (rput (rput ρ 0 1 1 (12, 1)) 0 1 3 (13, 1)) 0 1 4 (14, 1)) 0 1 5 (15, 1)) 0 1 12 (16, 1)) 0 1 0 (2, 0)) 12 1 0 (3, 10)) 12 1 1 (3, 11)) 12 1 2 (3, 12)) 12 1 3 (3, 13)) 12 1 4 (3, 14)) 12 1 5 (3, 15)) 12 1 6 (3, 16)) 12 1 7 (3, 17)) 12 1 8 (3, 18)) 12 1 9 (3, 19)) (mput (mput (mput (mput σ 0 1 10 (1 : Int32)) 16 1 0 (-1 : Int32)) 16 1 1 (-1 : Int32)) 16 1 2 (-1 : Int32)) 66 := by
  refine TriC.of (ls := [some (rf X 0 1), some (rf X 2 0), none]) (by decide) (Nat.le_of_ble_eq_true rfl) rfl ?_
  refine n_aload_n dX0_init_0 rfl ?_
  refine n_objInit dX0_init_1 ml_X0_3 oi_inst oi_code (Nat.le_of_ble_eq_true rfl) (Nat.le_of_ble_eq_true rfl) ?_
  refine n_aload_n dX0_init_4 rfl ?_
  refine n_bipush (v := 10) dX0_init_5 (by decide) ?_
  refine n_newq 12 1 (C := RX3) 4 (by decide) (by decide) rfl (by decide) rfl rfl cl_X0_9 ao_X3 (by decide) (by decide) (by decide) (Nat.le_of_ble_eq_true rfl) (Nat.le_of_ble_eq_true rfl) dX0_init_7 ?_
  refine n_putR 0 1 1 12 1 (C := RX0) (T := TX0) (N := 13) tyX0 tyX0_ok nmX0 rfl rfl (by decide) (by decide) (by decide) (by decide) uX0 fl_X0_11 rfl rfl rfl rfl (by decide) rfl (fun _ => rfl) (fun _ => rfl) dX0_init_10 ?_
  refine n_aload_n dX0_init_13 rfl ?_
  refine n_bipush (v := 17) dX0_init_14 (by decide) ?_
  refine n_newa 13 1 (atype := .int) 0 (by decide) (by decide) rfl (by decide) rfl rfl ac_int rfl (by decide) (by decide) (by decide) (Nat.le_of_ble_eq_true rfl) (Nat.le_of_ble_eq_true rfl) dX0_init_16 ?_
  refine n_putR 0 1 3 13 1 (C := RX0) (T := TX0) (N := 13) tyX0 tyX0_ok nmX0 rfl rfl (by decide) (by decide) (by decide) (by decide) uX0 fl_X0_17 rfl rfl rfl rfl (by decide) rfl (fun _ => rfl) (fun _ => rfl) dX0_init_18 ?_
  refine n_aload_n dX0_init_21 rfl ?_
  refine n_bipush (v := 17) dX0_init_22 (by decide) ?_
  refine n_newa 14 1 (atype := .int) 0 (by decide) (by decide) rfl (by decide) rfl rfl ac_int rfl (by decide) (by decide) (by decide) (Nat.le_of_ble_eq_true rfl) (Nat.le_of_ble_eq_true rfl) dX0_init_24 ?_
  refine n_putR 0 1 4 14 1 (C := RX0) (T := TX0) (N := 13) tyX0 tyX0_ok nmX0 rfl rfl (by decide) (by decide) (by decide) (by decide) uX0 fl_X0_21 rfl rfl rfl rfl (by decide) rfl (fun _ => rfl) (fun _ => rfl) dX0_init_26 ?_
  refine n_aload_n dX0_init_29 rfl ?_
  refine n_bipush (v := 17) dX0_init_30 (by decide) ?_
  refine n_newa 15 1 (atype := .int) 0 (by decide) (by decide) rfl (by decide) rfl rfl ac_int rfl (by decide) (by decide) (by decide) (Nat.le_of_ble_eq_true rfl) (Nat.le_of_ble_eq_true rfl) dX0_init_32 ?_
  refine n_putR 0 1 5 15 1 (C := RX0) (T := TX0) (N := 13) tyX0 tyX0_ok nmX0 rfl rfl (by decide) (by decide) (by decide) (by decide) uX0 fl_X0_24 rfl rfl rfl rfl (by decide) rfl (fun _ => rfl) (fun _ => rfl) dX0_init_34 ?_
  refine n_aload_n dX0_init_37 rfl ?_
  refine n_iconst (v := 1) dX0_init_38 (by decide) ?_
  refine n_putI 0 1 10 (C := RX0) (T := TX0) (N := 13) tyX0 tyX0_ok nmX0 rfl rfl (by decide) (by decide) (by decide) (by decide) uX0 fl_X0_27 rfl rfl (by decide) rfl dX0_init_39 ?_
  refine n_aload_n dX0_init_42 rfl ?_
  refine n_iconst (v := 3) dX0_init_43 (by decide) ?_
  refine n_newa 16 1 (atype := .int) 0 (by decide) (by decide) rfl (by decide) rfl rfl ac_int rfl (by decide) (by decide) (by decide) (Nat.le_of_ble_eq_true rfl) (Nat.le_of_ble_eq_true rfl) dX0_init_44 ?_
  refine n_dup dX0_init_46 rfl ?_
  refine n_iconst (v := 0) dX0_init_47 (by decide) ?_
  refine n_iconst (v := (-1)) dX0_init_48 (by decide) ?_
  refine n_iast 16 1 0 dX0_init_49 (by decide) rfl rfl (by decide) (by decide) (by decide) ?_
  refine n_dup dX0_init_50 rfl ?_
  refine n_iconst (v := 1) dX0_init_51 (by decide) ?_
  refine n_iconst (v := (-1)) dX0_init_52 (by decide) ?_
  refine n_iast 16 1 1 dX0_init_53 (by decide) rfl rfl (by decide) (by decide) (by decide) ?_
  refine n_dup dX0_init_54 rfl ?_
  refine n_iconst (v := 2) dX0_init_55 (by decide) ?_
  refine n_iconst (v := (-1)) dX0_init_56 (by decide) ?_
  refine n_iast 16 1 2 dX0_init_57 (by decide) rfl rfl (by decide) (by decide) (by decide) ?_
  refine n_putR 0 1 12 16 1 (C := RX0) (T := TX0) (N := 13) tyX0 tyX0_ok nmX0 rfl rfl (by decide) (by decide) (by decide) (by decide) uX0 fl_X0_31 rfl rfl rfl rfl (by decide) rfl (fun _ => rfl) (fun _ => rfl) dX0_init_58 ?_
  refine n_aload_n dX0_init_61 rfl ?_
  refine n_aload_n dX0_init_62 rfl ?_
  refine n_putR 0 1 0 2 0 (C := RX0) (T := TX0) (N := 13) tyX0 tyX0_ok nmX0 rfl rfl (by decide) (by decide) (by decide) (by decide) uX0 fl_X0_34 rfl rfl rfl rfl (by decide) rfl (fun _ => rfl) (fun _ => rfl) dX0_init_63 ?_
  refine n_iconst (v := 0) dX0_init_66 (by decide) ?_
  refine n_istore_n (ls' := [some (rf X 0 1), some (rf X 2 0), some (.int (0 : Int32))]) dX0_init_67 (by decide) (okp_at rfl) rfl ?_
  refine n_iload_n dX0_init_68 rfl ?_
  refine n_bipush (v := 10) dX0_init_69 (by decide) ?_
  refine n_icmp_ge (tgt := 93) dX0_init_71 (by decide) (fun c => absurd c (by decide)) (fun _ => ?_)
  refine n_aload_n dX0_init_74 rfl ?_
  refine n_getR 0 1 1 12 1 (C := RX0) (T := TX0) (N := 13) rfl rfl (by decide) (by decide) (by decide) (by decide) uX0 fl_X0_11 rfl (by decide) rfl dX0_init_75 ?_
  refine n_iload_n dX0_init_78 rfl ?_
  refine n_new 3 10 tyX3 tyX3_ok (by decide) rfl rfl (by decide) uX3 cl_X0_9 in_X3 ini_X3 dv_X3 (Nat.le_of_ble_eq_true rfl) (Nat.le_of_ble_eq_true rfl) dX0_init_79 ?_
  refine n_dup dX0_init_82 rfl ?_
  refine n_callIN dX0_init_83 cw_X0_38 im_X3_init rfl rfl (CI_Person) (by decide) rfl (Nat.le_of_ble_eq_true rfl) (Nat.le_of_ble_eq_true rfl) (Nat.le_of_ble_eq_true rfl) (Nat.le_of_ble_eq_true rfl) rfl rfl (Nat.le_of_ble_eq_true rfl) ?_
  refine n_aast 12 1 0 3 10 4 (C := RX3) (T := TX3) (N := 5) dX0_init_86 (by decide) rfl (by decide) rfl rfl (by decide) (by decide) (by decide) rfl (by decide) (by decide) (by decide) ?_
  refine n_iinc (v := (1 : Int32)) (ls' := [some (rf X 0 1), some (rf X 2 0), some (.int (1 : Int32))]) dX0_init_87 rfl (by decide) (by decide) (okp_at rfl) rfl ?_
  refine n_goto (tgt := 68) dX0_init_90 (by decide) ?_
  refine n_iload_n dX0_init_68 rfl ?_
  refine n_bipush (v := 10) dX0_init_69 (by decide) ?_
  refine n_icmp_ge (tgt := 93) dX0_init_71 (by decide) (fun c => absurd c (by decide)) (fun _ => ?_)
  refine n_aload_n dX0_init_74 rfl ?_
  refine n_getR 0 1 1 12 1 (C := RX0) (T := TX0) (N := 13) rfl rfl (by decide) (by decide) (by decide) (by decide) uX0 fl_X0_11 rfl (by decide) rfl dX0_init_75 ?_
  refine n_iload_n dX0_init_78 rfl ?_
  refine n_new 3 11 tyX3 tyX3_ok (by decide) rfl rfl (by decide) uX3 cl_X0_9 in_X3 ini_X3 dv_X3 (Nat.le_of_ble_eq_true rfl) (Nat.le_of_ble_eq_true rfl) dX0_init_79 ?_
  refine n_dup dX0_init_82 rfl ?_
  refine n_callIN dX0_init_83 cw_X0_38 im_X3_init rfl rfl (CI_Person) (by decide) rfl (Nat.le_of_ble_eq_true rfl) (Nat.le_of_ble_eq_true rfl) (Nat.le_of_ble_eq_true rfl) (Nat.le_of_ble_eq_true rfl) rfl rfl (Nat.le_of_ble_eq_true rfl) ?_
  refine n_aast 12 1 1 3 11 4 (C := RX3) (T := TX3) (N := 5) dX0_init_86 (by decide) rfl (by decide) rfl rfl (by decide) (by decide) (by decide) rfl (by decide) (by decide) (by decide) ?_
  refine n_iinc (v := (2 : Int32)) (ls' := [some (rf X 0 1), some (rf X 2 0), some (.int (2 : Int32))]) dX0_init_87 rfl (by decide) (by decide) (okp_at rfl) rfl ?_
  refine n_goto (tgt := 68) dX0_init_90 (by decide) ?_
  refine n_iload_n dX0_init_68 rfl ?_
  refine n_bipush (v := 10) dX0_init_69 (by decide) ?_
  refine n_icmp_ge (tgt := 93) dX0_init_71 (by decide) (fun c => absurd c (by decide)) (fun _ => ?_)
  refine n_aload_n dX0_init_74 rfl ?_
  refine n_getR 0 1 1 12 1 (C := RX0) (T := TX0) (N := 13) rfl rfl (by decide) (by decide) (by decide) (by decide) uX0 fl_X0_11 rfl (by decide) rfl dX0_init_75 ?_
  refine n_iload_n dX0_init_78 rfl ?_
  refine n_new 3 12 tyX3 tyX3_ok (by decide) rfl rfl (by decide) uX3 cl_X0_9 in_X3 ini_X3 dv_X3 (Nat.le_of_ble_eq_true rfl) (Nat.le_of_ble_eq_true rfl) dX0_init_79 ?_
  refine n_dup dX0_init_82 rfl ?_
  refine n_callIN dX0_init_83 cw_X0_38 im_X3_init rfl rfl (CI_Person) (by decide) rfl (Nat.le_of_ble_eq_true rfl) (Nat.le_of_ble_eq_true rfl) (Nat.le_of_ble_eq_true rfl) (Nat.le_of_ble_eq_true rfl) rfl rfl (Nat.le_of_ble_eq_true rfl) ?_
  refine n_aast 12 1 2 3 12 4 (C := RX3) (T := TX3) (N := 5) dX0_init_86 (by decide) rfl (by decide) rfl rfl (by decide) (by decide) (by decide) rfl (by decide) (by decide) (by decide) ?_
  refine n_iinc (v := (3 : Int32)) (ls' := [some (rf X 0 1), some (rf X 2 0), some (.int (3 : Int32))]) dX0_init_87 rfl (by decide) (by decide) (okp_at rfl) rfl ?_
  refine n_goto (tgt := 68) dX0_init_90 (by decide) ?_
  refine n_iload_n dX0_init_68 rfl ?_
  refine n_bipush (v := 10) dX0_init_69 (by decide) ?_
  refine n_icmp_ge (tgt := 93) dX0_init_71 (by decide) (fun c => absurd c (by decide)) (fun _ => ?_)
  refine n_aload_n dX0_init_74 rfl ?_
  refine n_getR 0 1 1 12 1 (C := RX0) (T := TX0) (N := 13) rfl rfl (by decide) (by decide) (by decide) (by decide) uX0 fl_X0_11 rfl (by decide) rfl dX0_init_75 ?_
  refine n_iload_n dX0_init_78 rfl ?_
  refine n_new 3 13 tyX3 tyX3_ok (by decide) rfl rfl (by decide) uX3 cl_X0_9 in_X3 ini_X3 dv_X3 (Nat.le_of_ble_eq_true rfl) (Nat.le_of_ble_eq_true rfl) dX0_init_79 ?_
  refine n_dup dX0_init_82 rfl ?_
  refine n_callIN dX0_init_83 cw_X0_38 im_X3_init rfl rfl (CI_Person) (by decide) rfl (Nat.le_of_ble_eq_true rfl) (Nat.le_of_ble_eq_true rfl) (Nat.le_of_ble_eq_true rfl) (Nat.le_of_ble_eq_true rfl) rfl rfl (Nat.le_of_ble_eq_true rfl) ?_
  refine n_aast 12 1 3 3 13 4 (C := RX3) (T := TX3) (N := 5) dX0_init_86 (by decide) rfl (by decide) rfl rfl (by decide) (by decide) (by decide) rfl (by decide) (by decide) (by decide) ?_
  refine n_iinc (v := (4 : Int32)) (ls' := [some (rf X 0 1), some (rf X 2 0), some (.int (4 : Int32))]) dX0_init_87 rfl (by decide) (by decide) (okp_at rfl) rfl ?_
  refine n_goto (tgt := 68) dX0_init_90 (by decide) ?_
  refine n_iload_n dX0_init_68 rfl ?_
  refine n_bipush (v := 10) dX0_init_69 (by decide) ?_
  refine n_icmp_ge (tgt := 93) dX0_init_71 (by decide) (fun c => absurd c (by decide)) (fun _ => ?_)
  refine n_aload_n dX0_init_74 rfl ?_
  refine n_getR 0 1 1 12 1 (C := RX0) (T := TX0) (N := 13) rfl rfl (by decide) (by decide) (by decide) (by decide) uX0 fl_X0_11 rfl (by decide) rfl dX0_init_75 ?_
  refine n_iload_n dX0_init_78 rfl ?_
  refine n_new 3 14 tyX3 tyX3_ok (by decide) rfl rfl (by decide) uX3 cl_X0_9 in_X3 ini_X3 dv_X3 (Nat.le_of_ble_eq_true rfl) (Nat.le_of_ble_eq_true rfl) dX0_init_79 ?_
  refine n_dup dX0_init_82 rfl ?_
  refine n_callIN dX0_init_83 cw_X0_38 im_X3_init rfl rfl (CI_Person) (by decide) rfl (Nat.le_of_ble_eq_true rfl) (Nat.le_of_ble_eq_true rfl) (Nat.le_of_ble_eq_true rfl) (Nat.le_of_ble_eq_true rfl) rfl rfl (Nat.le_of_ble_eq_true rfl) ?_
  refine n_aast 12 1 4 3 14 4 (C := RX3) (T := TX3) (N := 5) dX0_init_86 (by decide) rfl (by decide) rfl rfl (by decide) (by decide) (by decide) rfl (by decide) (by decide) (by decide) ?_
  refine n_iinc (v := (5 : Int32)) (ls' := [some (rf X 0 1), some (rf X 2 0), some (.int (5 : Int32))]) dX0_init_87 rfl (by decide) (by decide) (okp_at rfl) rfl ?_
  refine n_goto (tgt := 68) dX0_init_90 (by decide) ?_
  refine n_iload_n dX0_init_68 rfl ?_
  refine n_bipush (v := 10) dX0_init_69 (by decide) ?_
  refine n_icmp_ge (tgt := 93) dX0_init_71 (by decide) (fun c => absurd c (by decide)) (fun _ => ?_)
  refine n_aload_n dX0_init_74 rfl ?_
  refine n_getR 0 1 1 12 1 (C := RX0) (T := TX0) (N := 13) rfl rfl (by decide) (by decide) (by decide) (by decide) uX0 fl_X0_11 rfl (by decide) rfl dX0_init_75 ?_
  refine n_iload_n dX0_init_78 rfl ?_
  refine n_new 3 15 tyX3 tyX3_ok (by decide) rfl rfl (by decide) uX3 cl_X0_9 in_X3 ini_X3 dv_X3 (Nat.le_of_ble_eq_true rfl) (Nat.le_of_ble_eq_true rfl) dX0_init_79 ?_
  refine n_dup dX0_init_82 rfl ?_
  refine n_callIN dX0_init_83 cw_X0_38 im_X3_init rfl rfl (CI_Person) (by decide) rfl (Nat.le_of_ble_eq_true rfl) (Nat.le_of_ble_eq_true rfl) (Nat.le_of_ble_eq_true rfl) (Nat.le_of_ble_eq_true rfl) rfl rfl (Nat.le_of_ble_eq_true rfl) ?_
  refine n_aast 12 1 5 3 15 4 (C := RX3) (T := TX3) (N := 5) dX0_init_86 (by decide) rfl (by decide) rfl rfl (by decide) (by decide) (by decide) rfl (by decide) (by decide) (by decide) ?_
  refine n_iinc (v := (6 : Int32)) (ls' := [some (rf X 0 1), some (rf X 2 0), some (.int (6 : Int32))]) dX0_init_87 rfl (by decide) (by decide) (okp_at rfl) rfl ?_
  refine n_goto (tgt := 68) dX0_init_90 (by decide) ?_
  refine n_iload_n dX0_init_68 rfl ?_
  refine n_bipush (v := 10) dX0_init_69 (by decide) ?_
  refine n_icmp_ge (tgt := 93) dX0_init_71 (by decide) (fun c => absurd c (by decide)) (fun _ => ?_)
  refine n_aload_n dX0_init_74 rfl ?_
  refine n_getR 0 1 1 12 1 (C := RX0) (T := TX0) (N := 13) rfl rfl (by decide) (by decide) (by decide) (by decide) uX0 fl_X0_11 rfl (by decide) rfl dX0_init_75 ?_
  refine n_iload_n dX0_init_78 rfl ?_
  refine n_new 3 16 tyX3 tyX3_ok (by decide) rfl rfl (by decide) uX3 cl_X0_9 in_X3 ini_X3 dv_X3 (Nat.le_of_ble_eq_true rfl) (Nat.le_of_ble_eq_true rfl) dX0_init_79 ?_
  refine n_dup dX0_init_82 rfl ?_
  refine n_callIN dX0_init_83 cw_X0_38 im_X3_init rfl rfl (CI_Person) (by decide) rfl (Nat.le_of_ble_eq_true rfl) (Nat.le_of_ble_eq_true rfl) (Nat.le_of_ble_eq_true rfl) (Nat.le_of_ble_eq_true rfl) rfl rfl (Nat.le_of_ble_eq_true rfl) ?_
  refine n_aast 12 1 6 3 16 4 (C := RX3) (T := TX3) (N := 5) dX0_init_86 (by decide) rfl (by decide) rfl rfl (by decide) (by decide) (by decide) rfl (by decide) (by decide) (by decide) ?_
  refine n_iinc (v := (7 : Int32)) (ls' := [some (rf X 0 1), some (rf X 2 0), some (.int (7 : Int32))]) dX0_init_87 rfl (by decide) (by decide) (okp_at rfl) rfl ?_
  refine n_goto (tgt := 68) dX0_init_90 (by decide) ?_
  refine n_iload_n dX0_init_68 rfl ?_
  refine n_bipush (v := 10) dX0_init_69 (by decide) ?_
  refine n_icmp_ge (tgt := 93) dX0_init_71 (by decide) (fun c => absurd c (by decide)) (fun _ => ?_)
  refine n_aload_n dX0_init_74 rfl ?_
  refine n_getR 0 1 1 12 1 (C := RX0) (T := TX0) (N := 13) rfl rfl (by decide) (by decide) (by decide) (by decide) uX0 fl_X0_11 rfl (by decide) rfl dX0_init_75 ?_
  refine n_iload_n dX0_init_78 rfl ?_
  refine n_new 3 17 tyX3 tyX3_ok (by decide) rfl rfl (by decide) uX3 cl_X0_9 in_X3 ini_X3 dv_X3 (Nat.le_of_ble_eq_true rfl) (Nat.le_of_ble_eq_true rfl) dX0_init_79 ?_
  refine n_dup dX0_init_82 rfl ?_
  refine n_callIN dX0_init_83 cw_X0_38 im_X3_init rfl rfl (CI_Person) (by decide) rfl (Nat.le_of_ble_eq_true rfl) (Nat.le_of_ble_eq_true rfl) (Nat.le_of_ble_eq_true rfl) (Nat.le_of_ble_eq_true rfl) rfl rfl (Nat.le_of_ble_eq_true rfl) ?_
  refine n_aast 12 1 7 3 17 4 (C := RX3) (T := TX3) (N := 5) dX0_init_86 (by decide) rfl (by decide) rfl rfl (by decide) (by decide) (by decide) rfl (by decide) (by decide) (by decide) ?_
  refine n_iinc (v := (8 : Int32)) (ls' := [some (rf X 0 1), some (rf X 2 0), some (.int (8 : Int32))]) dX0_init_87 rfl (by decide) (by decide) (okp_at rfl) rfl ?_
  refine n_goto (tgt := 68) dX0_init_90 (by decide) ?_
  refine n_iload_n dX0_init_68 rfl ?_
  refine n_bipush (v := 10) dX0_init_69 (by decide) ?_
  refine n_icmp_ge (tgt := 93) dX0_init_71 (by decide) (fun c => absurd c (by decide)) (fun _ => ?_)
  refine n_aload_n dX0_init_74 rfl ?_
  refine n_getR 0 1 1 12 1 (C := RX0) (T := TX0) (N := 13) rfl rfl (by decide) (by decide) (by decide) (by decide) uX0 fl_X0_11 rfl (by decide) rfl dX0_init_75 ?_
  refine n_iload_n dX0_init_78 rfl ?_
  refine n_new 3 18 tyX3 tyX3_ok (by decide) rfl rfl (by decide) uX3 cl_X0_9 in_X3 ini_X3 dv_X3 (Nat.le_of_ble_eq_true rfl) (Nat.le_of_ble_eq_true rfl) dX0_init_79 ?_
  refine n_dup dX0_init_82 rfl ?_
  refine n_callIN dX0_init_83 cw_X0_38 im_X3_init rfl rfl (CI_Person) (by decide) rfl (Nat.le_of_ble_eq_true rfl) (Nat.le_of_ble_eq_true rfl) (Nat.le_of_ble_eq_true rfl) (Nat.le_of_ble_eq_true rfl) rfl rfl (Nat.le_of_ble_eq_true rfl) ?_
  refine n_aast 12 1 8 3 18 4 (C := RX3) (T := TX3) (N := 5) dX0_init_86 (by decide) rfl (by decide) rfl rfl (by decide) (by decide) (by decide) rfl (by decide) (by decide) (by decide) ?_
  refine n_iinc (v := (9 : Int32)) (ls' := [some (rf X 0 1), some (rf X 2 0), some (.int (9 : Int32))]) dX0_init_87 rfl (by decide) (by decide) (okp_at rfl) rfl ?_
  refine n_goto (tgt := 68) dX0_init_90 (by decide) ?_
  refine n_iload_n dX0_init_68 rfl ?_
  refine n_bipush (v := 10) dX0_init_69 (by decide) ?_
  refine n_icmp_ge (tgt := 93) dX0_init_71 (by decide) (fun c => absurd c (by decide)) (fun _ => ?_)
  refine n_aload_n dX0_init_74 rfl ?_
  refine n_getR 0 1 1 12 1 (C := RX0) (T := TX0) (N := 13) rfl rfl (by decide) (by decide) (by decide) (by decide) uX0 fl_X0_11 rfl (by decide) rfl dX0_init_75 ?_
  refine n_iload_n dX0_init_78 rfl ?_
  refine n_new 3 19 tyX3 tyX3_ok (by decide) rfl rfl (by decide) uX3 cl_X0_9 in_X3 ini_X3 dv_X3 (Nat.le_of_ble_eq_true rfl) (Nat.le_of_ble_eq_true rfl) dX0_init_79 ?_
  refine n_dup dX0_init_82 rfl ?_
  refine n_callIN dX0_init_83 cw_X0_38 im_X3_init rfl rfl (CI_Person) (by decide) rfl (Nat.le_of_ble_eq_true rfl) (Nat.le_of_ble_eq_true rfl) (Nat.le_of_ble_eq_true rfl) (Nat.le_of_ble_eq_true rfl) rfl rfl (Nat.le_of_ble_eq_true rfl) ?_
  refine n_aast 12 1 9 3 19 4 (C := RX3) (T := TX3) (N := 5) dX0_init_86 (by decide) rfl (by decide) rfl rfl (by decide) (by decide) (by decide) rfl (by decide) (by decide) (by decide) ?_
  refine n_iinc (v := (10 : Int32)) (ls' := [some (rf X 0 1), some (rf X 2 0), some (.int (10 : Int32))]) dX0_init_87 rfl (by decide) (by decide) (okp_at rfl) rfl ?_
  refine n_goto (tgt := 68) dX0_init_90 (by decide) ?_
  refine n_iload_n dX0_init_68 rfl ?_
  refine n_bipush (v := 10) dX0_init_69 (by decide) ?_
  refine n_icmp_ge (tgt := 93) dX0_init_71 (by decide) (fun _ => ?_) (fun c => absurd (by decide) c)
  exact n_return rfl dX0_init_93 rfl rfl
set_option maxRecDepth 100000 in
set_option maxHeartbeats 4000000 in
theorem CI_Land2 {X : Cx} {ρ : Rho} {σ : Mem}   : TriC X 2 15 114 mX0_init [rf X 0 2, rf X 2 0] ρ σ 67 (rput (rput (rput (rput (rput (rput (rput (rput (rput (rput (rput (rput (rput (rput (rput (rput ρ 0 2 1 (12, 2)) 0 2 3 (13, 2)) 0 2 4 (14, 2)) 0 2 5 (15, 2)) 0 2 12 (16, 2)) 0 2 0 (2, 0)) 12 2 0 (3, 20)) 12 2 1 (3, 21)) 12 2 2 (3, 22)) 12 2 3 (3, 23)) 12 2 4 (3, 24)) 12 2 5 (3, 25)) 12 2 6 (3, 26)) 12 2 7 (3, 27)) 12 2 8 (3, 28)) 12 2 9 (3, 29)) (mput (mput (mput (mput σ 0 2 10 (1 : Int32)) 16 2 0 (-1 : Int32)) 16 2 1 (-1 : Int32)) 16 2 2 (-1 : Int32)) 82 := by
  refine TriC.of (ls := [some (rf X 0 2), some (rf X 2 0), none]) (by decide) (Nat.le_of_ble_eq_true rfl) rfl ?_
  refine n_aload_n dX0_init_0 rfl ?_
  refine n_objInit dX0_init_1 ml_X0_3 oi_inst oi_code (Nat.le_of_ble_eq_true rfl) (Nat.le_of_ble_eq_true rfl) ?_
  refine n_aload_n dX0_init_4 rfl ?_
  refine n_bipush (v := 10) dX0_init_5 (by decide) ?_
  refine n_newq 12 2 (C := RX3) 4 (by decide) (by decide) rfl (by decide) rfl rfl cl_X0_9 ao_X3 (by decide) (by decide) (by decide) (Nat.le_of_ble_eq_true rfl) (Nat.le_of_ble_eq_true rfl) dX0_init_7 ?_
  refine n_putR 0 2 1 12 2 (C := RX0) (T := TX0) (N := 13) tyX0 tyX0_ok nmX0 rfl rfl (by decide) (by decide) (by decide) (by decide) uX0 fl_X0_11 rfl rfl rfl rfl (by decide) rfl (fun _ => rfl) (fun _ => rfl) dX0_init_10 ?_
  refine n_aload_n dX0_init_13 rfl ?_
  refine n_bipush (v := 17) dX0_init_14 (by decide) ?_
  refine n_newa 13 2 (atype := .int) 0 (by decide) (by decide) rfl (by decide) rfl rfl ac_int rfl (by decide) (by decide) (by decide) (Nat.le_of_ble_eq_true rfl) (Nat.le_of_ble_eq_true rfl) dX0_init_16 ?_
  refine n_putR 0 2 3 13 2 (C := RX0) (T := TX0) (N := 13) tyX0 tyX0_ok nmX0 rfl rfl (by decide) (by decide) (by decide) (by decide) uX0 fl_X0_17 rfl rfl rfl rfl (by decide) rfl (fun _ => rfl) (fun _ => rfl) dX0_init_18 ?_
  refine n_aload_n dX0_init_21 rfl ?_
  refine n_bipush (v := 17) dX0_init_22 (by decide) ?_
  refine n_newa 14 2 (atype := .int) 0 (by decide) (by decide) rfl (by decide) rfl rfl ac_int rfl (by decide) (by decide) (by decide) (Nat.le_of_ble_eq_true rfl) (Nat.le_of_ble_eq_true rfl) dX0_init_24 ?_
  refine n_putR 0 2 4 14 2 (C := RX0) (T := TX0) (N := 13) tyX0 tyX0_ok nmX0 rfl rfl (by decide) (by decide) (by decide) (by decide) uX0 fl_X0_21 rfl rfl rfl rfl (by decide) rfl (fun _ => rfl) (fun _ => rfl) dX0_init_26 ?_
  refine n_aload_n dX0_init_29 rfl ?_
  refine n_bipush (v := 17) dX0_init_30 (by decide) ?_
  refine n_newa 15 2 (atype := .int) 0 (by decide) (by decide) rfl (by decide) rfl rfl ac_int rfl (by decide) (by decide) (by decide) (Nat.le_of_ble_eq_true rfl) (Nat.le_of_ble_eq_true rfl) dX0_init_32 ?_
  refine n_putR 0 2 5 15 2 (C := RX0) (T := TX0) (N := 13) tyX0 tyX0_ok nmX0 rfl rfl (by decide) (by decide) (by decide) (by decide) uX0 fl_X0_24 rfl rfl rfl rfl (by decide) rfl (fun _ => rfl) (fun _ => rfl) dX0_init_34 ?_
  refine n_aload_n dX0_init_37 rfl ?_
  refine n_iconst (v := 1) dX0_init_38 (by decide) ?_
  refine n_putI 0 2 10 (C := RX0) (T := TX0) (N := 13) tyX0 tyX0_ok nmX0 rfl rfl (by decide) (by decide) (by decide) (by decide) uX0 fl_X0_27 rfl rfl (by decide) rfl dX0_init_39 ?_
  refine n_aload_n dX0_init_42 rfl ?_
  refine n_iconst (v := 3) dX0_init_43 (by decide) ?_
  refine n_newa 16 2 (atype := .int) 0 (by decide) (by decide) rfl (by decide) rfl rfl ac_int rfl (by decide) (by decide) (by decide) (Nat.le_of_ble_eq_true rfl) (Nat.le_of_ble_eq_true rfl) dX0_init_44 ?_
  refine n_dup dX0_init_46 rfl ?_
  refine n_iconst (v := 0) dX0_init_47 (by decide) ?_
  refine n_iconst (v := (-1)) dX0_init_48 (by decide) ?_
  refine n_iast 16 2 0 dX0_init_49 (by decide) rfl rfl (by decide) (by decide) (by decide) ?_
  refine n_dup dX0_init_50 rfl ?_
  refine n_iconst (v := 1) dX0_init_51 (by decide) ?_
  refine n_iconst (v := (-1)) dX0_init_52 (by decide) ?_
  refine n_iast 16 2 1 dX0_init_53 (by decide) rfl rfl (by decide) (by decide) (by decide) ?_
  refine n_dup dX0_init_54 rfl ?_
  refine n_iconst (v := 2) dX0_init_55 (by decide) ?_
  refine n_iconst (v := (-1)) dX0_init_56 (by decide) ?_
  refine n_iast 16 2 2 dX0_init_57 (by decide) rfl rfl (by decide) (by decide) (by decide) ?_
  refine n_putR 0 2 12 16 2 (C := RX0) (T := TX0) (N := 13) tyX0 tyX0_ok nmX0 rfl rfl (by decide) (by decide) (by decide) (by decide) uX0 fl_X0_31 rfl rfl rfl rfl (by decide) rfl (fun _ => rfl) (fun _ => rfl) dX0_init_58 ?_
  refine n_aload_n dX0_init_61 rfl ?_
  refine n_aload_n dX0_init_62 rfl ?_
  refine n_putR 0 2 0 2 0 (C := RX0) (T := TX0) (N := 13) tyX0 tyX0_ok nmX0 rfl rfl (by decide) (by decide) (by decide) (by decide) uX0 fl_X0_34 rfl rfl rfl rfl (by decide) rfl (fun _ => rfl) (fun _ => rfl) dX0_init_63 ?_
  refine n_iconst (v := 0) dX0_init_66 (by decide) ?_
  refine n_istore_n (ls' := [some (rf X 0 2), some (rf X 2 0), some (.int (0 : Int32))]) dX0_init_67 (by decide) (okp_at rfl) rfl ?_
  refine n_iload_n dX0_init_68 rfl ?_
  refine n_bipush (v := 10) dX0_init_69 (by decide) ?_
  refine n_icmp_ge (tgt := 93) dX0_init_71 (by decide) (fun c => absurd c (by decide)) (fun _ => ?_)
  refine n_aload_n dX0_init_74 rfl ?_
  refine n_getR 0 2 1 12 2 (C := RX0) (T := TX0) (N := 13) rfl rfl (by decide) (by decide) (by decide) (by decide) uX0 fl_X0_11 rfl (by decide) rfl dX0_init_75 ?_
  refine n_iload_n dX0_init_78 rfl ?_
  refine n_new 3 20 tyX3 tyX3_ok (by decide) rfl rfl (by decide) uX3 cl_X0_9 in_X3 ini_X3 dv_X3 (Nat.le_of_ble_eq_true rfl) (Nat.le_of_ble_eq_true rfl) dX0_init_79 ?_
  refine n_dup dX0_init_82 rfl ?_
  refine n_callIN dX0_init_83 cw_X0_38 im_X3_init rfl rfl (CI_Person) (by decide) rfl (Nat.le_of_ble_eq_true rfl) (Nat.le_of_ble_eq_true rfl) (Nat.le_of_ble_eq_true rfl) (Nat.le_of_ble_eq_true rfl) rfl rfl (Nat.le_of_ble_eq_true rfl) ?_
  refine n_aast 12 2 0 3 20 4 (C := RX3) (T := TX3) (N := 5) dX0_init_86 (by decide) rfl (by decide) rfl rfl (by decide) (by decide) (by decide) rfl (by decide) (by decide) (by decide) ?_
  refine n_iinc (v := (1 : Int32)) (ls' := [some (rf X 0 2), some (rf X 2 0), some (.int (1 : Int32))]) dX0_init_87 rfl (by decide) (by decide) (okp_at rfl) rfl ?_
  refine n_goto (tgt := 68) dX0_init_90 (by decide) ?_
  refine n_iload_n dX0_init_68 rfl ?_
  refine n_bipush (v := 10) dX0_init_69 (by decide) ?_
  refine n_icmp_ge (tgt := 93) dX0_init_71 (by decide) (fun c => absurd c (by decide)) (fun _ => ?_)
  refine n_aload_n dX0_init_74 rfl ?_
  refine n_getR 0 2 1 12 2 (C := RX0) (T := TX0) (N := 13) rfl rfl (by decide) (by decide) (by decide) (by decide) uX0 fl_X0_11 rfl (by decide) rfl dX0_init_75 ?_
  refine n_iload_n dX0_init_78 rfl ?_
  refine n_new 3 21 tyX3 tyX3_ok (by decide) rfl rfl (by decide) uX3 cl_X0_9 in_X3 ini_X3 dv_X3 (Nat.le_of_ble_eq_true rfl) (Nat.le_of_ble_eq_true rfl) dX0_init_79 ?_
  refine n_dup dX0_init_82 rfl ?_
  refine n_callIN dX0_init_83 cw_X0_38 im_X3_init rfl rfl (CI_Person) (by decide) rfl (Nat.le_of_ble_eq_true rfl) (Nat.le_of_ble_eq_true rfl) (Nat.le_of_ble_eq_true rfl) (Nat.le_of_ble_eq_true rfl) rfl rfl (Nat.le_of_ble_eq_true rfl) ?_
  refine n_aast 12 2 1 3 21 4 (C := RX3) (T := TX3) (N := 5) dX0_init_86 (by decide) rfl (by decide) rfl rfl (by decide) (by decide) (by decide) rfl (by decide) (by decide) (by decide) ?_
  refine n_iinc (v := (2 : Int32)) (ls' := [some (rf X 0 2), some (rf X 2 0), some (.int (2 : Int32))]) dX0_init_87 rfl (by decide) (by decide) (okp_at rfl) rfl ?_
  refine n_goto (tgt := 68) dX0_init_90 (by decide) ?_
  refine n_iload_n dX0_init_68 rfl ?_
  refine n_bipush (v := 10) dX0_init_69 (by decide) ?_
  refine n_icmp_ge (tgt := 93) dX0_init_71 (by decide) (fun c => absurd c (by decide)) (fun _ => ?_)
  refine n_aload_n dX0_init_74 rfl ?_
  refine n_getR 0 2 1 12 2 (C := RX0) (T := TX0) (N := 13) rfl rfl (by decide) (by decide) (by decide) (by decide) uX0 fl_X0_11 rfl (by decide) rfl dX0_init_75 ?_
  refine n_iload_n dX0_init_78 rfl ?_
  refine n_new 3 22 tyX3 tyX3_ok (by decide) rfl rfl (by decide) uX3 cl_X0_9 in_X3 ini_X3 dv_X3 (Nat.le_of_ble_eq_true rfl) (Nat.le_of_ble_eq_true rfl) dX0_init_79 ?_
  refine n_dup dX0_init_82 rfl ?_
  refine n_callIN dX0_init_83 cw_X0_38 im_X3_init rfl rfl (CI_Person) (by decide) rfl (Nat.le_of_ble_eq_true rfl) (Nat.le_of_ble_eq_true rfl) (Nat.le_of_ble_eq_true rfl) (Nat.le_of_ble_eq_true rfl) rfl rfl (Nat.le_of_ble_eq_true rfl) ?_
  refine n_aast 12 2 2 3 22 4 (C := RX3) (T := TX3) (N := 5) dX0_init_86 (by decide) rfl (by decide) rfl rfl (by decide) (by decide) (by decide) rfl (by decide) (by decide) (by decide) ?_
  refine n_iinc (v := (3 : Int32)) (ls' := [some (rf X 0 2), some (rf X 2 0), some (.int (3 : Int32))]) dX0_init_87 rfl (by decide) (by decide) (okp_at rfl) rfl ?_
  refine n_goto (tgt := 68) dX0_init_90 (by decide) ?_
  refine n_iload_n dX0_init_68 rfl ?_
  refine n_bipush (v := 10) dX0_init_69 (by decide) ?_
  refine n_icmp_ge (tgt := 93) dX0_init_71 (by decide) (fun c => absurd c (by decide)) (fun _ => ?_)
  refine n_aload_n dX0_init_74 rfl ?_
  refine n_getR 0 2 1 12 2 (C := RX0) (T := TX0) (N := 13) rfl rfl (by decide) (by decide) (by decide) (by decide) uX0 fl_X0_11 rfl (by decide) rfl dX0_init_75 ?_
  refine n_iload_n dX0_init_78 rfl ?_
  refine n_new 3 23 tyX3 tyX3_ok (by decide) rfl rfl (by decide) uX3 cl_X0_9 in_X3 ini_X3 dv_X3 (Nat.le_of_ble_eq_true rfl) (Nat.le_of_ble_eq_true rfl) dX0_init_79 ?_
  refine n_dup dX0_init_82 rfl ?_
  refine n_callIN dX0_init_83 cw_X0_38 im_X3_init rfl rfl (CI_Person) (by decide) rfl (Nat.le_of_ble_eq_true rfl) (Nat.le_of_ble_eq_true rfl) (Nat.le_of_ble_eq_true rfl) (Nat.le_of_ble_eq_true rfl) rfl rfl (Nat.le_of_ble_eq_true rfl) ?_
  refine n_aast 12 2 3 3 23 4 (C := RX3) (T := TX3) (N := 5) dX0_init_86 (by decide) rfl (by decide) rfl rfl (by decide) (by decide) (by decide) rfl (by decide) (by decide) (by decide) ?_
  refine n_iinc (v := (4 : Int32)) (ls' := [some (rf X 0 2), some (rf X 2 0), some (.int (4 : Int32))]) dX0_init_87 rfl (by decide) (by decide) (okp_at rfl) rfl ?_
  refine n_goto (tgt := 68) dX0_init_90 (by decide) ?_
  refine n_iload_n dX0_init_68 rfl ?_
  refine n_bipush (v := 10) dX0_init_69 (by decide) ?_
  refine n_icmp_ge (tgt := 93) dX0_init_71 (by decide) (fun c => absurd c (by decide)) (fun _ => ?_)
  refine n_aload_n dX0_init_74 rfl ?_
  refine n_getR 0 2 1 12 2 (C := RX0) (T := TX0) (N := 13) rfl rfl (by decide) (by decide) (by decide) (by decide) uX0 fl_X0_11 rfl (by decide) rfl dX0_init_75 ?_
  refine n_iload_n dX0_init_78 rfl ?_
  refine n_new 3 24 tyX3 tyX3_ok (by decide) rfl rfl (by decide) uX3 cl_X0_9 in_X3 ini_X3 dv_X3 (Nat.le_of_ble_eq_true rfl) (Nat.le_of_ble_eq_true rfl) dX0_init_79 ?_
  refine n_dup dX0_init_82 rfl ?_
  refine n_callIN dX0_init_83 cw_X0_38 im_X3_init rfl rfl (CI_Person) (by decide) rfl (Nat.le_of_ble_eq_true rfl) (Nat.le_of_ble_eq_true rfl) (Nat.le_of_ble_eq_true rfl) (Nat.le_of_ble_eq_true rfl) rfl rfl (Nat.le_of_ble_eq_true rfl) ?_
  refine n_aast 12 2 4 3 24 4 (C := RX3) (T := TX3) (N := 5) dX0_init_86 (by decide) rfl (by decide) rfl rfl (by decide) (by decide) (by decide) rfl (by decide) (by decide) (by decide) ?_
  refine n_iinc (v := (5 : Int32)) (ls' := [some (rf X 0 2), some (rf X 2 0), some (.int (5 : Int32))]) dX0_init_87 rfl (by decide) (by decide) (okp_at rfl) rfl ?_
  refine n_goto (tgt := 68) dX0_init_90 (by decide) ?_
  refine n_iload_n dX0_init_68 rfl ?_
  refine n_bipush (v := 10) dX0_init_69 (by decide) ?_
  refine n_icmp_ge (tgt := 93) dX0_init_71 (by decide) (fun c => absurd c (by decide)) (fun _ => ?_)
  refine n_aload_n dX0_init_74 rfl ?_
  refine n_getR 0 2 1 12 2 (C := RX0) (T := TX0) (N := 13) rfl rfl (by decide) (by decide) (by decide) (by decide) uX0 fl_X0_11 rfl (by decide) rfl dX0_init_75 ?_
  refine n_iload_n dX0_init_78 rfl ?_
  refine n_new 3 25 tyX3 tyX3_ok (by decide) rfl rfl (by decide) uX3 cl_X0_9 in_X3 ini_X3 dv_X3 (Nat.le_of_ble_eq_true rfl) (Nat.le_of_ble_eq_true rfl) dX0_init_79 ?_
  refine n_dup dX0_init_82 rfl ?_
  refine n_callIN dX0_init_83 cw_X0_38 im_X3_init rfl rfl (CI_Person) (by decide) rfl (Nat.le_of_ble_eq_true rfl) (Nat.le_of_ble_eq_true rfl) (Nat.le_of_ble_eq_true rfl) (Nat.le_of_ble_eq_true rfl) rfl rfl (Nat.le_of_ble_eq_true rfl) ?_
  refine n_aast 12 2 5 3 25 4 (C := RX3) (T := TX3) (N := 5) dX0_init_86 (by decide) rfl (by decide) rfl rfl (by decide) (by decide) (by decide) rfl (by decide) (by decide) (by decide) ?_
  refine n_iinc (v := (6 : Int32)) (ls' := [some (rf X 0 2), some (rf X 2 0), some (.int (6 : Int32))]) dX0_init_87 rfl (by decide) (by decide) (okp_at rfl) rfl ?_
  refine n_goto (tgt := 68) dX0_init_90 (by decide) ?_
  refine n_iload_n dX0_init_68 rfl ?_
  refine n_bipush (v := 10) dX0_init_69 (by decide) ?_
  refine n_icmp_ge (tgt := 93) dX0_init_71 (by decide) (fun c => absurd c (by decide)) (fun _ => ?_)
  refine n_aload_n dX0_init_74 rfl ?_
  refine n_getR 0 2 1 12 2 (C := RX0) (T := TX0) (N := 13) rfl rfl (by decide) (by decide) (by decide) (by decide) uX0 fl_X0_11 rfl (by decide) rfl dX0_init_75 ?_
  refine n_iload_n dX0_init_78 rfl ?_
  refine n_new 3 26 tyX3 tyX3_ok (by decide) rfl rfl (by decide) uX3 cl_X0_9 in_X3 ini_X3 dv_X3 (Nat.le_of_ble_eq_true rfl) (Nat.le_of_ble_eq_true rfl) dX0_init_79 ?_
  refine n_dup dX0_init_82 rfl ?_
  refine n_callIN dX0_init_83 cw_X0_38 im_X3_init rfl rfl (CI_Person) (by decide) rfl (Nat.le_of_ble_eq_true rfl) (Nat.le_of_ble_eq_true rfl) (Nat.le_of_ble_eq_true rfl) (Nat.le_of_ble_eq_true rfl) rfl rfl (Nat.le_of_ble_eq_true rfl) ?_
  refine n_aast 12 2 6 3 26 4 (C := RX3) (T := TX3) (N := 5) dX0_init_86 (by decide) rfl (by decide) rfl rfl (by decide) (by decide) (by decide) rfl (by decide) (by decide) (by decide) ?_
  refine n_iinc (v := (7 : Int32)) (ls' := [some (rf X 0 2), some (rf X 2 0), some (.int (7 : Int32))]) dX0_init_87 rfl (by decide) (by decide) (okp_at rfl) rfl ?_
  refine n_goto (tgt := 68) dX0_init_90 (by decide) ?_
  refine n_iload_n dX0_init_68 rfl ?_
  refine n_bipush (v := 10) dX0_init_69 (by decide) ?_
  refine n_icmp_ge (tgt := 93) dX0_init_71 (by decide) (fun c => absurd c (by decide)) (fun _ => ?_)
  refine n_aload_n dX0_init_74 rfl ?_
  refine n_getR 0 2 1 12 2 (C := RX0) (T := TX0) (N := 13) rfl rfl (by decide) (by decide) (by decide) (by decide) uX0 fl_X0_11 rfl (by decide) rfl dX0_init_75 ?_
  refine n_iload_n dX0_init_78 rfl ?_
  refine n_new 3 27 tyX3 tyX3_ok (by decide) rfl rfl (by decide) uX3 cl_X0_9 in_X3 ini_X3 dv_X3 (Nat.le_of_ble_eq_true rfl) (Nat.le_of_ble_eq_true rfl) dX0_init_79 ?_
  refine n_dup dX0_init_82 rfl ?_
  refine n_callIN dX0_init_83 cw_X0_38 im_X3_init rfl rfl (CI_Person) (by decide) rfl (Nat.le_of_ble_eq_true rfl) (Nat.le_of_ble_eq_true rfl) (Nat.le_of_ble_eq_true rfl) (Nat.le_of_ble_eq_true rfl) rfl rfl (Nat.le_of_ble_eq_true rfl) ?_
  refine n_aast 12 2 7 3 27 4 (C := RX3) (T := TX3) (N := 5) dX0_init_86 (by decide) rfl (by decide) rfl rfl (by decide) (by decide) (by decide) rfl (by decide) (by decide) (by decide) ?_
  refine n_iinc (v := (8 : Int32)) (ls' := [some (rf X 0 2), some (rf X 2 0), some (.int (8 : Int32))]) dX0_init_87 rfl (by decide) (by decide) (okp_at rfl) rfl ?_
  refine n_goto (tgt := 68) dX0_init_90 (by decide) ?_
  refine n_iload_n dX0_init_68 rfl ?_
  refine n_bipush (v := 10) dX0_init_69 (by decide) ?_
  refine n_icmp_ge (tgt := 93) dX0_init_71 (by decide) (fun c => absurd c (by decide)) (fun _ => ?_)
  refine n_aload_n dX0_init_74 rfl ?_
  refine n_getR 0 2 1 12 2 (C := RX0) (T := TX0) (N := 13) rfl rfl (by decide) (by decide) (by decide) (by decide) uX0 fl_X0_11 rfl (by decide) rfl dX0_init_75 ?_
  refine n_iload_n dX0_init_78 rfl ?_
  refine n_new 3 28 tyX3 tyX3_ok (by decide) rfl rfl (by decide) uX3 cl_X0_9 in_X3 ini_X3 dv_X3 (Nat.le_of_ble_eq_true rfl) (Nat.le_of_ble_eq_true rfl) dX0_init_79 ?_
  refine n_dup dX0_init_82 rfl ?_
  refine n_callIN dX0_init_83 cw_X0_38 im_X3_init rfl rfl (CI_Person) (by decide) rfl (Nat.le_of_ble_eq_true rfl) (Nat.le_of_ble_eq_true rfl) (Nat.le_of_ble_eq_true rfl) (Nat.le_of_ble_eq_true rfl) rfl rfl (Nat.le_of_ble_eq_true rfl) ?_
  refine n_aast 12 2 8 3 28 4 (C := RX3) (T := TX3) (N := 5) dX0_init_86 (by decide) rfl (by decide) rfl rfl (by decide) (by decide) (by decide) rfl (by decide) (by decide) (by decide) ?_
  refine n_iinc (v := (9 : Int32)) (ls' := [some (rf X 0 2), some (rf X 2 0), some (.int (9 : Int32))]) dX0_init_87 rfl (by decide) (by decide) (okp_at rfl) rfl ?_
  refine n_goto (tgt := 68) dX0_init_90 (by decide) ?_
  refine n_iload_n dX0_init_68 rfl ?_
  refine n_bipush (v := 10) dX0_init_69 (by decide) ?_
  refine n_icmp_ge (tgt := 93) dX0_init_71 (by decide) (fun c => absurd c (by decide)) (fun _ => ?_)
  refine n_aload_n dX0_init_74 rfl ?_
  refine n_getR 0 2 1 12 2 (C := RX0) (T := TX0) (N := 13) rfl rfl (by decide) (by decide) (by decide) (by decide) uX0 fl_X0_11 rfl (by decide) rfl dX0_init_75 ?_
  refine n_iload_n dX0_init_78 rfl ?_
  refine n_new 3 29 tyX3 tyX3_ok (by decide) rfl rfl (by decide) uX3 cl_X0_9 in_X3 ini_X3 dv_X3 (Nat.le_of_ble_eq_true rfl) (Nat.le_of_ble_eq_true rfl) dX0_init_79 ?_
  refine n_dup dX0_init_82 rfl ?_
  refine n_callIN dX0_init_83 cw_X0_38 im_X3_init rfl rfl (CI_Person) (by decide) rfl (Nat.le_of_ble_eq_true rfl) (Nat.le_of_ble_eq_true rfl) (Nat.le_of_ble_eq_true rfl) (Nat.le_of_ble_eq_true rfl) rfl rfl (Nat.le_of_ble_eq_true rfl) ?_
  refine n_aast 12 2 9 3 29 4 (C := RX3) (T := TX3) (N := 5) dX0_init_86 (by decide) rfl (by decide) rfl rfl (by decide) (by decide) (by decide) rfl (by decide) (by decide) (by decide) ?_
  refine n_iinc (v := (10 : Int32)) (ls' := [some (rf X 0 2), some (rf X 2 0), some (.int (10 : Int32))]) dX0_init_87 rfl (by decide) (by decide) (okp_at rfl) rfl ?_
  refine n_goto (tgt := 68) dX0_init_90 (by decide) ?_
  refine n_iload_n dX0_init_68 rfl ?_
  refine n_bipush (v := 10) dX0_init_69 (by decide) ?_
  refine n_icmp_ge (tgt := 93) dX0_init_71 (by decide) (fun _ => ?_) (fun c => absurd (by decide) c)
  exact n_return rfl dX0_init_93 rfl rfl
theorem ml_X7_1 : Cond.methodLink RX7 1 Lib.objectInit ∈ GW := gw_at 126 (by decide +kernel) (by decide +kernel)
theorem cl_X7_7 : Cond.classLink RX7 7 RX2 ∈ GW := gw_at 129 (by decide +kernel) (by decide +kernel)
theorem cw_X7_9 : CwN RX7 9 "NoonVows" mX2_init 0 := ⟨nw_at 131 (by decide +kernel) (by decide +kernel), gw_at 106 (by decide +kernel) (by decide +kernel), gw_at 133 (by decide +kernel) (by decide +kernel), ⟨by decide +kernel, by decide +kernel, by decide +kernel⟩, by decide⟩
theorem im_X2_init : Cond.instanceMethod mX2_init.1 ∈ GW := gw_at 132 (by decide +kernel) (by decide +kernel)
theorem fl_X7_10 : Cond.fieldLink RX7 10 (TX7 0).1 (TX7 0).2.1 (TX7 0).2.2.1 ∈ GW := gw_at 331 (by decide +kernel) (by decide +kernel)
theorem cl_X7_16 : Cond.classLink RX7 16 RX0 ∈ GW := gw_at 169 (by decide +kernel) (by decide +kernel)
theorem cw_X7_18 : CwN RX7 18 "NoonVows" mX0_init 1 := ⟨nw_at 171 (by decide +kernel) (by decide +kernel), gw_at 108 (by decide +kernel) (by decide +kernel), gw_at 173 (by decide +kernel) (by decide +kernel), ⟨by decide +kernel, by decide +kernel, by decide +kernel⟩, by decide⟩
theorem im_X0_init : Cond.instanceMethod mX0_init.1 ∈ GW := gw_at 172 (by decide +kernel) (by decide +kernel)
theorem fl_X7_21 : Cond.fieldLink RX7 21 (TX7 1).1 (TX7 1).2.1 (TX7 1).2.2.1 ∈ GW := gw_at 332 (by decide +kernel) (by decide +kernel)
theorem fl_X7_25 : Cond.fieldLink RX7 25 (TX7 2).1 (TX7 2).2.1 (TX7 2).2.2.1 ∈ GW := gw_at 333 (by decide +kernel) (by decide +kernel)
theorem fl_X7_28 : Cond.fieldLink RX7 28 (TX7 3).1 (TX7 3).2.1 (TX7 3).2.2.1 ∈ GW := gw_at 334 (by decide +kernel) (by decide +kernel)
theorem fl_X7_31 : Cond.fieldLink RX7 31 (TX7 5).1 (TX7 5).2.1 (TX7 5).2.2.1 ∈ GW := gw_at 336 (by decide +kernel) (by decide +kernel)
theorem cl_X7_35 : Cond.classLink RX7 35 RX4 ∈ GW := gw_at 257 (by decide +kernel) (by decide +kernel)
theorem cw_X7_37 : CwN RX7 37 "NoonVows" mX4_init 1 := ⟨nw_at 259 (by decide +kernel) (by decide +kernel), gw_at 110 (by decide +kernel) (by decide +kernel), gw_at 261 (by decide +kernel) (by decide +kernel), ⟨by decide +kernel, by decide +kernel, by decide +kernel⟩, by decide⟩
theorem im_X4_init : Cond.instanceMethod mX4_init.1 ∈ GW := gw_at 260 (by decide +kernel) (by decide +kernel)
theorem fl_X7_40 : Cond.fieldLink RX7 40 (TX7 7).1 (TX7 7).2.1 (TX7 7).2.2.1 ∈ GW := gw_at 338 (by decide +kernel) (by decide +kernel)
theorem fl_X7_44 : Cond.fieldLink RX7 44 (TX7 8).1 (TX7 8).2.1 (TX7 8).2.2.1 ∈ GW := gw_at 339 (by decide +kernel) (by decide +kernel)
theorem cl_X7_48 : Cond.classLink RX7 48 RX5 ∈ GW := gw_at 284 (by decide +kernel) (by decide +kernel)
theorem fl_X7_50 : Cond.fieldLink RX7 50 (TX7 10).1 (TX7 10).2.1 (TX7 10).2.2.1 ∈ GW := gw_at 341 (by decide +kernel) (by decide +kernel)
theorem cw_X7_54 : CwN RX7 54 "NoonVows" mX5_init 0 := ⟨nw_at 287 (by decide +kernel) (by decide +kernel), gw_at 111 (by decide +kernel) (by decide +kernel), gw_at 289 (by decide +kernel) (by decide +kernel), ⟨by decide +kernel, by decide +kernel, by decide +kernel⟩, by decide⟩
theorem cl_X7_55 : Cond.classLink RX7 55 RX6 ∈ GW := gw_at 304 (by decide +kernel) (by decide +kernel)
theorem fl_X7_57 : Cond.fieldLink RX7 57 (TX7 11).1 (TX7 11).2.1 (TX7 11).2.2.1 ∈ GW := gw_at 342 (by decide +kernel) (by decide +kernel)
theorem cw_X7_61 : CwN RX7 61 "NoonVows" mX6_init 0 := ⟨nw_at 307 (by decide +kernel) (by decide +kernel), gw_at 112 (by decide +kernel) (by decide +kernel), gw_at 309 (by decide +kernel) (by decide +kernel), ⟨by decide +kernel, by decide +kernel, by decide +kernel⟩, by decide⟩
theorem im_X6_init : Cond.instanceMethod mX6_init.1 ∈ GW := gw_at 308 (by decide +kernel) (by decide +kernel)
set_option maxRecDepth 100000 in
set_option maxHeartbeats 4000000 in
theorem CI_Noon {X : Cx} {ρ : Rho} {σ : Mem}   : TriC X 3 114 2453 mX7_init [rf X 7 0] ρ σ 1 (rput (rput (rput (rput (rput (rput (rput (rput (rput (rput (rput (rput (rput (rput (rput (rput (rput (rput (rput (rput (rput (rput (rput (rput (rput (rput (rput (rput (rput (rput (rput (rput (rput (rput (rput (rput (rput (rput (rput (rput (rput (rput (rput (rput (rput (rput (rput (rput (rput (rput (rput (rput (rput (rput (rput (rput (rput (rput (rput (rput (rput (rput (rput (rput (rput (rput (rput (rput (rput (rput (rput (rput (rput (rput (rput (rput (rput (rput (rput (rput (rput (rput (rput (rput (rput (rput (rput (rput (rput (rput (rput (rput (rput (rput (rput (rput (rput (rput (rput (rput (rput (rput (rput (rput (rput (rput (rput (rput (rput (rput (rput (rput (rput (rput (rput (rput (rput (rput ρ 2 0 0 (9, 0)) 2 0 1 (10, 0)) 1 0 2 (11, 0)) 9 0 0 (1, 0)) 1 1 2 (11, 1)) 9 0 1 (1, 1)) 1 2 2 (11, 2)) 9 0 2 (1, 2)) 1 3 2 (11, 3)) 9 0 3 (1, 3)) 1 4 2 (11, 4)) 9 0 4 (1, 4)) 1 5 2 (11, 5)) 9 0 5 (1, 5)) 1 6 2 (11, 6)) 9 0 6 (1, 6)) 1 7 2 (11, 7)) 9 0 7 (1, 7)) 1 8 2 (11, 8)) 9 0 8 (1, 8)) 1 9 2 (11, 9)) 9 0 9 (1, 9)) 1 10 2 (11, 10)) 9 0 10 (1, 10)) 1 11 2 (11, 11)) 9 0 11 (1, 11)) 1 12 2 (11, 12)) 9 0 12 (1, 12)) 1 13 2 (11, 13)) 9 0 13 (1, 13)) 1 14 2 (11, 14)) 9 0 14 (1, 14)) 7 0 0 (2, 0)) 0 0 1 (12, 0)) 0 0 3 (13, 0)) 0 0 4 (14, 0)) 0 0 5 (15, 0)) 0 0 12 (16, 0)) 0 0 0 (2, 0)) 12 0 0 (3, 0)) 12 0 1 (3, 1)) 12 0 2 (3, 2)) 12 0 3 (3, 3)) 12 0 4 (3, 4)) 12 0 5 (3, 5)) 12 0 6 (3, 6)) 12 0 7 (3, 7)) 12 0 8 (3, 8)) 12 0 9 (3, 9)) 7 0 1 (0, 0)) 0 1 1 (12, 1)) 0 1 3 (13, 1)) 0 1 4 (14, 1)) 0 1 5 (15, 1)) 0 1 12 (16, 1)) 0 1 0 (2, 0)) 12 1 0 (3, 10)) 12 1 1 (3, 11)) 12 1 2 (3, 12)) 12 1 3 (3, 13)) 12 1 4 (3, 14)) 12 1 5 (3, 15)) 12 1 6 (3, 16)) 12 1 7 (3, 17)) 12 1 8 (3, 18)) 12 1 9 (3, 19)) 7 0 2 (0, 1)) 0 2 1 (12, 2)) 0 2 3 (13, 2)) 0 2 4 (14, 2)) 0 2 5 (15, 2)) 0 2 12 (16, 2)) 0 2 0 (2, 0)) 12 2 0 (3, 20)) 12 2 1 (3, 21)) 12 2 2 (3, 22)) 12 2 3 (3, 23)) 12 2 4 (3, 24)) 12 2 5 (3, 25)) 12 2 6 (3, 26)) 12 2 7 (3, 27)) 12 2 8 (3, 28)) 12 2 9 (3, 29)) 7 0 3 (0, 2)) 7 0 5 (17, 0)) 4 0 0 (17, 0)) 7 0 7 (4, 0)) 7 0 8 (18, 0)) 7 0 10 (19, 0)) 5 0 2 (20, 0)) 19 0 0 (5, 0)) 5 1 2 (20, 1)) 19 0 1 (5, 1)) 5 2 2 (20, 2)) 19 0 2 (5, 2)) 5 3 2 (20, 3)) 19 0 3 (5, 3)) 7 0 11 (21, 0)) 6 0 1 (3, (30 + 0))) 5 (4 + 0) 2 (20, (4 + 0))) 6 0 2 (5, (4 + 0))) 21 0 0 (6, 0)) 6 1 1 (3, (30 + 1))) 5 (4 + 1) 2 (20, (4 + 1))) 6 1 2 (5, (4 + 1))) 21 0 1 (6, 1)) 6 2 1 (3, (30 + 2))) 5 (4 + 2) 2 (20, (4 + 2))) 6 2 2 (5, (4 + 2))) 21 0 2 (6, 2)) 6 3 1 (3, (30 + 3))) 5 (4 + 3) 2 (20, (4 + 3))) 6 3 2 (5, (4 + 3))) 21 0 3 (6, 3)) 6 4 1 (3, (30 + 4))) 5 (4 + 4) 2 (20, (4 + 4))) 6 4 2 (5, (4 + 4))) 21 0 4 (6, 4)) (mput (mput (mput (mput (mput (mput (mput (mput (mput (mput (mput (mput (mput (mput (mput (mput (mput (mput (mput (mput (mput (mput (mput (mput (mput (mput σ 0 0 10 (1 : Int32)) 16 0 0 (-1 : Int32)) 16 0 1 (-1 : Int32)) 16 0 2 (-1 : Int32)) 0 1 10 (1 : Int32)) 16 1 0 (-1 : Int32)) 16 1 1 (-1 : Int32)) 16 1 2 (-1 : Int32)) 0 2 10 (1 : Int32)) 16 2 0 (-1 : Int32)) 16 2 1 (-1 : Int32)) 16 2 2 (-1 : Int32)) 5 0 0 (-1 : Int32)) 5 1 0 (-1 : Int32)) 5 2 0 (-1 : Int32)) 5 3 0 (-1 : Int32)) 6 0 0 (0 : Int32)) 5 (4 + 0) 0 (-1 : Int32)) 6 1 0 (0 : Int32)) 5 (4 + 1) 0 (-1 : Int32)) 6 2 0 (0 : Int32)) 5 (4 + 2) 0 (-1 : Int32)) 6 3 0 (0 : Int32)) 5 (4 + 3) 0 (-1 : Int32)) 6 4 0 (0 : Int32)) 5 (4 + 4) 0 (-1 : Int32)) 115 := by
  refine TriC.of (ls := [some (rf X 7 0), none]) (by decide) (Nat.le_of_ble_eq_true rfl) rfl ?_
  refine n_aload_n dX7_init_0 rfl ?_
  refine n_objInit dX7_init_1 ml_X7_1 oi_inst oi_code (Nat.le_of_ble_eq_true rfl) (Nat.le_of_ble_eq_true rfl) ?_
  refine n_aload_n dX7_init_4 rfl ?_
  refine n_new 2 0 tyX2 tyX2_ok (by decide) rfl rfl (by decide) uX2 cl_X7_7 in_X2 ini_X2 dv_X2 (Nat.le_of_ble_eq_true rfl) (Nat.le_of_ble_eq_true rfl) dX7_init_5 ?_
  refine n_dup dX7_init_8 rfl ?_
  refine n_callIN dX7_init_9 cw_X7_9 im_X2_init rfl rfl (CI_Laws) (by decide) rfl (Nat.le_of_ble_eq_true rfl) (Nat.le_of_ble_eq_true rfl) (Nat.le_of_ble_eq_true rfl) (Nat.le_of_ble_eq_true rfl) rfl rfl (Nat.le_of_ble_eq_true rfl) ?_
  refine n_putR 7 0 0 2 0 (C := RX7) (T := TX7) (N := 12) tyX7 tyX7_ok nmX7 rfl rfl (by decide) (by decide) (by decide) (by decide) uX7 fl_X7_10 rfl rfl rfl rfl (by decide) rfl (fun _ => rfl) (fun _ => rfl) dX7_init_12 ?_
  refine n_aload_n dX7_init_15 rfl ?_
  refine n_new 0 0 tyX0 tyX0_ok (by decide) rfl rfl (by decide) uX0 cl_X7_16 in_X0 ini_X0 dv_X0 (Nat.le_of_ble_eq_true rfl) (Nat.le_of_ble_eq_true rfl) dX7_init_16 ?_
  refine n_dup dX7_init_19 rfl ?_
  refine n_aload_n dX7_init_20 rfl ?_
  refine n_getR 7 0 0 2 0 (C := RX7) (T := TX7) (N := 12) rfl rfl (by decide) (by decide) (by decide) (by decide) uX7 fl_X7_10 rfl (by decide) rfl dX7_init_21 ?_
  refine n_callIN dX7_init_24 cw_X7_18 im_X0_init rfl rfl (CI_Land0) (by decide) rfl (Nat.le_of_ble_eq_true rfl) (Nat.le_of_ble_eq_true rfl) (Nat.le_of_ble_eq_true rfl) (Nat.le_of_ble_eq_true rfl) rfl rfl (Nat.le_of_ble_eq_true rfl) ?_
  refine n_putR 7 0 1 0 0 (C := RX7) (T := TX7) (N := 12) tyX7 tyX7_ok nmX7 rfl rfl (by decide) (by decide) (by decide) (by decide) uX7 fl_X7_21 rfl rfl rfl rfl (by decide) rfl (fun _ => rfl) (fun _ => rfl) dX7_init_27 ?_
  refine n_aload_n dX7_init_30 rfl ?_
  refine n_new 0 1 tyX0 tyX0_ok (by decide) rfl rfl (by decide) uX0 cl_X7_16 in_X0 ini_X0 dv_X0 (Nat.le_of_ble_eq_true rfl) (Nat.le_of_ble_eq_true rfl) dX7_init_31 ?_
  refine n_dup dX7_init_34 rfl ?_
  refine n_aload_n dX7_init_35 rfl ?_
  refine n_getR 7 0 0 2 0 (C := RX7) (T := TX7) (N := 12) rfl rfl (by decide) (by decide) (by decide) (by decide) uX7 fl_X7_10 rfl (by decide) rfl dX7_init_36 ?_
  refine n_callIN dX7_init_39 cw_X7_18 im_X0_init rfl rfl (CI_Land1) (by decide) rfl (Nat.le_of_ble_eq_true rfl) (Nat.le_of_ble_eq_true rfl) (Nat.le_of_ble_eq_true rfl) (Nat.le_of_ble_eq_true rfl) rfl rfl (Nat.le_of_ble_eq_true rfl) ?_
  refine n_putR 7 0 2 0 1 (C := RX7) (T := TX7) (N := 12) tyX7 tyX7_ok nmX7 rfl rfl (by decide) (by decide) (by decide) (by decide) uX7 fl_X7_25 rfl rfl rfl rfl (by decide) rfl (fun _ => rfl) (fun _ => rfl) dX7_init_42 ?_
  refine n_aload_n dX7_init_45 rfl ?_
  refine n_new 0 2 tyX0 tyX0_ok (by decide) rfl rfl (by decide) uX0 cl_X7_16 in_X0 ini_X0 dv_X0 (Nat.le_of_ble_eq_true rfl) (Nat.le_of_ble_eq_true rfl) dX7_init_46 ?_
  refine n_dup dX7_init_49 rfl ?_
  refine n_aload_n dX7_init_50 rfl ?_
  refine n_getR 7 0 0 2 0 (C := RX7) (T := TX7) (N := 12) rfl rfl (by decide) (by decide) (by decide) (by decide) uX7 fl_X7_10 rfl (by decide) rfl dX7_init_51 ?_
  refine n_callIN dX7_init_54 cw_X7_18 im_X0_init rfl rfl (CI_Land2) (by decide) rfl (Nat.le_of_ble_eq_true rfl) (Nat.le_of_ble_eq_true rfl) (Nat.le_of_ble_eq_true rfl) (Nat.le_of_ble_eq_true rfl) rfl rfl (Nat.le_of_ble_eq_true rfl) ?_
  refine n_putR 7 0 3 0 2 (C := RX7) (T := TX7) (N := 12) tyX7 tyX7_ok nmX7 rfl rfl (by decide) (by decide) (by decide) (by decide) uX7 fl_X7_28 rfl rfl rfl rfl (by decide) rfl (fun _ => rfl) (fun _ => rfl) dX7_init_57 ?_
  refine n_aload_n dX7_init_60 rfl ?_
  refine n_bipush (v := 96) dX7_init_61 (by decide) ?_
  refine n_newa 17 0 (atype := .byte) 1 (by decide) (by decide) rfl (by decide) rfl rfl ac_byte rfl (by decide) (by decide) (by decide) (Nat.le_of_ble_eq_true rfl) (Nat.le_of_ble_eq_true rfl) dX7_init_63 ?_
  refine n_putR 7 0 5 17 0 (C := RX7) (T := TX7) (N := 12) tyX7 tyX7_ok nmX7 rfl rfl (by decide) (by decide) (by decide) (by decide) uX7 fl_X7_31 rfl rfl rfl rfl (by decide) rfl (fun _ => rfl) (fun _ => rfl) dX7_init_65 ?_
  refine n_aload_n dX7_init_68 rfl ?_
  refine n_new 4 0 tyX4 tyX4_ok (by decide) rfl rfl (by decide) uX4 cl_X7_35 in_X4 ini_X4 dv_X4 (Nat.le_of_ble_eq_true rfl) (Nat.le_of_ble_eq_true rfl) dX7_init_69 ?_
  refine n_dup dX7_init_72 rfl ?_
  refine n_aload_n dX7_init_73 rfl ?_
  refine n_getR 7 0 5 17 0 (C := RX7) (T := TX7) (N := 12) rfl rfl (by decide) (by decide) (by decide) (by decide) uX7 fl_X7_31 rfl (by decide) rfl dX7_init_74 ?_
  refine n_callIN dX7_init_77 cw_X7_37 im_X4_init rfl rfl (CI_Reader (by decide)) (by decide) rfl (Nat.le_of_ble_eq_true rfl) (Nat.le_of_ble_eq_true rfl) (Nat.le_of_ble_eq_true rfl) (Nat.le_of_ble_eq_true rfl) rfl rfl (Nat.le_of_ble_eq_true rfl) ?_
  refine n_putR 7 0 7 4 0 (C := RX7) (T := TX7) (N := 12) tyX7 tyX7_ok nmX7 rfl rfl (by decide) (by decide) (by decide) (by decide) uX7 fl_X7_40 rfl rfl rfl rfl (by decide) rfl (fun _ => rfl) (fun _ => rfl) dX7_init_80 ?_
  refine n_aload_n dX7_init_83 rfl ?_
  refine n_bipush (v := 60) dX7_init_84 (by decide) ?_
  refine n_newa 18 0 (atype := .int) 0 (by decide) (by decide) rfl (by decide) rfl rfl ac_int rfl (by decide) (by decide) (by decide) (Nat.le_of_ble_eq_true rfl) (Nat.le_of_ble_eq_true rfl) dX7_init_86 ?_
  refine n_putR 7 0 8 18 0 (C := RX7) (T := TX7) (N := 12) tyX7 tyX7_ok nmX7 rfl rfl (by decide) (by decide) (by decide) (by decide) uX7 fl_X7_44 rfl rfl rfl rfl (by decide) rfl (fun _ => rfl) (fun _ => rfl) dX7_init_88 ?_
  refine n_aload_n dX7_init_91 rfl ?_
  refine n_iconst (v := 4) dX7_init_92 (by decide) ?_
  refine n_newq 19 0 (C := RX5) 5 (by decide) (by decide) rfl (by decide) rfl rfl cl_X7_48 ao_X5 (by decide) (by decide) (by decide) (Nat.le_of_ble_eq_true rfl) (Nat.le_of_ble_eq_true rfl) dX7_init_93 ?_
  refine n_putR 7 0 10 19 0 (C := RX7) (T := TX7) (N := 12) tyX7 tyX7_ok nmX7 rfl rfl (by decide) (by decide) (by decide) (by decide) uX7 fl_X7_50 rfl rfl rfl rfl (by decide) rfl (fun _ => rfl) (fun _ => rfl) dX7_init_96 ?_
  refine n_iconst (v := 0) dX7_init_99 (by decide) ?_
  refine n_istore_n (ls' := [some (rf X 7 0), some (.int (0 : Int32))]) dX7_init_100 (by decide) (okp_at rfl) rfl ?_
  refine n_iload_n dX7_init_101 rfl ?_
  refine n_iconst (v := 4) dX7_init_102 (by decide) ?_
  refine n_icmp_ge (tgt := 125) dX7_init_103 (by decide) (fun c => absurd c (by decide)) (fun _ => ?_)
  refine n_aload_n dX7_init_106 rfl ?_
  refine n_getR 7 0 10 19 0 (C := RX7) (T := TX7) (N := 12) rfl rfl (by decide) (by decide) (by decide) (by decide) uX7 fl_X7_50 rfl (by decide) rfl dX7_init_107 ?_
  refine n_iload_n dX7_init_110 rfl ?_
  refine n_new 5 0 tyX5 tyX5_ok (by decide) rfl rfl (by decide) uX5 cl_X7_48 in_X5 ini_X5 dv_X5 (Nat.le_of_ble_eq_true rfl) (Nat.le_of_ble_eq_true rfl) dX7_init_111 ?_
  refine n_dup dX7_init_114 rfl ?_
  refine n_callIN dX7_init_115 cw_X7_54 im_X5_init rfl rfl (CI_Sheet (by decide) (by decide) (by decide)) (by decide) rfl (Nat.le_of_ble_eq_true rfl) (Nat.le_of_ble_eq_true rfl) (Nat.le_of_ble_eq_true rfl) (Nat.le_of_ble_eq_true rfl) rfl rfl (Nat.le_of_ble_eq_true rfl) ?_
  refine n_aast 19 0 0 5 0 5 (C := RX5) (T := TX5) (N := 3) dX7_init_118 (by decide) rfl (by decide) rfl rfl (by decide) (by decide) (by decide) rfl (by decide) (by decide) (by decide) ?_
  refine n_iinc (v := (1 : Int32)) (ls' := [some (rf X 7 0), some (.int (1 : Int32))]) dX7_init_119 rfl (by decide) (by decide) (okp_at rfl) rfl ?_
  refine n_goto (tgt := 101) dX7_init_122 (by decide) ?_
  refine n_iload_n dX7_init_101 rfl ?_
  refine n_iconst (v := 4) dX7_init_102 (by decide) ?_
  refine n_icmp_ge (tgt := 125) dX7_init_103 (by decide) (fun c => absurd c (by decide)) (fun _ => ?_)
  refine n_aload_n dX7_init_106 rfl ?_
  refine n_getR 7 0 10 19 0 (C := RX7) (T := TX7) (N := 12) rfl rfl (by decide) (by decide) (by decide) (by decide) uX7 fl_X7_50 rfl (by decide) rfl dX7_init_107 ?_
  refine n_iload_n dX7_init_110 rfl ?_
  refine n_new 5 1 tyX5 tyX5_ok (by decide) rfl rfl (by decide) uX5 cl_X7_48 in_X5 ini_X5 dv_X5 (Nat.le_of_ble_eq_true rfl) (Nat.le_of_ble_eq_true rfl) dX7_init_111 ?_
  refine n_dup dX7_init_114 rfl ?_
  refine n_callIN dX7_init_115 cw_X7_54 im_X5_init rfl rfl (CI_Sheet (by decide) (by decide) (by decide)) (by decide) rfl (Nat.le_of_ble_eq_true rfl) (Nat.le_of_ble_eq_true rfl) (Nat.le_of_ble_eq_true rfl) (Nat.le_of_ble_eq_true rfl) rfl rfl (Nat.le_of_ble_eq_true rfl) ?_
  refine n_aast 19 0 1 5 1 5 (C := RX5) (T := TX5) (N := 3) dX7_init_118 (by decide) rfl (by decide) rfl rfl (by decide) (by decide) (by decide) rfl (by decide) (by decide) (by decide) ?_
  refine n_iinc (v := (2 : Int32)) (ls' := [some (rf X 7 0), some (.int (2 : Int32))]) dX7_init_119 rfl (by decide) (by decide) (okp_at rfl) rfl ?_
  refine n_goto (tgt := 101) dX7_init_122 (by decide) ?_
  refine n_iload_n dX7_init_101 rfl ?_
  refine n_iconst (v := 4) dX7_init_102 (by decide) ?_
  refine n_icmp_ge (tgt := 125) dX7_init_103 (by decide) (fun c => absurd c (by decide)) (fun _ => ?_)
  refine n_aload_n dX7_init_106 rfl ?_
  refine n_getR 7 0 10 19 0 (C := RX7) (T := TX7) (N := 12) rfl rfl (by decide) (by decide) (by decide) (by decide) uX7 fl_X7_50 rfl (by decide) rfl dX7_init_107 ?_
  refine n_iload_n dX7_init_110 rfl ?_
  refine n_new 5 2 tyX5 tyX5_ok (by decide) rfl rfl (by decide) uX5 cl_X7_48 in_X5 ini_X5 dv_X5 (Nat.le_of_ble_eq_true rfl) (Nat.le_of_ble_eq_true rfl) dX7_init_111 ?_
  refine n_dup dX7_init_114 rfl ?_
  refine n_callIN dX7_init_115 cw_X7_54 im_X5_init rfl rfl (CI_Sheet (by decide) (by decide) (by decide)) (by decide) rfl (Nat.le_of_ble_eq_true rfl) (Nat.le_of_ble_eq_true rfl) (Nat.le_of_ble_eq_true rfl) (Nat.le_of_ble_eq_true rfl) rfl rfl (Nat.le_of_ble_eq_true rfl) ?_
  refine n_aast 19 0 2 5 2 5 (C := RX5) (T := TX5) (N := 3) dX7_init_118 (by decide) rfl (by decide) rfl rfl (by decide) (by decide) (by decide) rfl (by decide) (by decide) (by decide) ?_
  refine n_iinc (v := (3 : Int32)) (ls' := [some (rf X 7 0), some (.int (3 : Int32))]) dX7_init_119 rfl (by decide) (by decide) (okp_at rfl) rfl ?_
  refine n_goto (tgt := 101) dX7_init_122 (by decide) ?_
  refine n_iload_n dX7_init_101 rfl ?_
  refine n_iconst (v := 4) dX7_init_102 (by decide) ?_
  refine n_icmp_ge (tgt := 125) dX7_init_103 (by decide) (fun c => absurd c (by decide)) (fun _ => ?_)
  refine n_aload_n dX7_init_106 rfl ?_
  refine n_getR 7 0 10 19 0 (C := RX7) (T := TX7) (N := 12) rfl rfl (by decide) (by decide) (by decide) (by decide) uX7 fl_X7_50 rfl (by decide) rfl dX7_init_107 ?_
  refine n_iload_n dX7_init_110 rfl ?_
  refine n_new 5 3 tyX5 tyX5_ok (by decide) rfl rfl (by decide) uX5 cl_X7_48 in_X5 ini_X5 dv_X5 (Nat.le_of_ble_eq_true rfl) (Nat.le_of_ble_eq_true rfl) dX7_init_111 ?_
  refine n_dup dX7_init_114 rfl ?_
  refine n_callIN dX7_init_115 cw_X7_54 im_X5_init rfl rfl (CI_Sheet (by decide) (by decide) (by decide)) (by decide) rfl (Nat.le_of_ble_eq_true rfl) (Nat.le_of_ble_eq_true rfl) (Nat.le_of_ble_eq_true rfl) (Nat.le_of_ble_eq_true rfl) rfl rfl (Nat.le_of_ble_eq_true rfl) ?_
  refine n_aast 19 0 3 5 3 5 (C := RX5) (T := TX5) (N := 3) dX7_init_118 (by decide) rfl (by decide) rfl rfl (by decide) (by decide) (by decide) rfl (by decide) (by decide) (by decide) ?_
  refine n_iinc (v := (4 : Int32)) (ls' := [some (rf X 7 0), some (.int (4 : Int32))]) dX7_init_119 rfl (by decide) (by decide) (okp_at rfl) rfl ?_
  refine n_goto (tgt := 101) dX7_init_122 (by decide) ?_
  refine n_iload_n dX7_init_101 rfl ?_
  refine n_iconst (v := 4) dX7_init_102 (by decide) ?_
  refine n_icmp_ge (tgt := 125) dX7_init_103 (by decide) (fun _ => ?_) (fun c => absurd (by decide) c)
  refine n_aload_n dX7_init_125 rfl ?_
  refine n_iconst (v := 5) dX7_init_126 (by decide) ?_
  refine n_newq 21 0 (C := RX6) 6 (by decide) (by decide) rfl (by decide) rfl rfl cl_X7_55 ao_X6 (by decide) (by decide) (by decide) (Nat.le_of_ble_eq_true rfl) (Nat.le_of_ble_eq_true rfl) dX7_init_127 ?_
  refine n_putR 7 0 11 21 0 (C := RX7) (T := TX7) (N := 12) tyX7 tyX7_ok nmX7 rfl rfl (by decide) (by decide) (by decide) (by decide) uX7 fl_X7_57 rfl rfl rfl rfl (by decide) rfl (fun _ => rfl) (fun _ => rfl) dX7_init_130 ?_
  refine n_iconst (v := 0) dX7_init_133 (by decide) ?_
  refine n_istore_n (ls' := [some (rf X 7 0), some (.int (0 : Int32))]) dX7_init_134 (by decide) (okp_at rfl) rfl ?_
  refine n_iload_n dX7_init_135 rfl ?_
  refine n_iconst (v := 5) dX7_init_136 (by decide) ?_
  refine n_icmp_ge (tgt := 159) dX7_init_137 (by decide) (fun c => absurd c (by decide)) (fun _ => ?_)
  refine n_aload_n dX7_init_140 rfl ?_
  refine n_getR 7 0 11 21 0 (C := RX7) (T := TX7) (N := 12) rfl rfl (by decide) (by decide) (by decide) (by decide) uX7 fl_X7_57 rfl (by decide) rfl dX7_init_141 ?_
  refine n_iload_n dX7_init_144 rfl ?_
  refine n_new 6 0 tyX6 tyX6_ok (by decide) rfl rfl (by decide) uX6 cl_X7_55 in_X6 ini_X6 dv_X6 (Nat.le_of_ble_eq_true rfl) (Nat.le_of_ble_eq_true rfl) dX7_init_145 ?_
  refine n_dup dX7_init_148 rfl ?_
  refine n_callIN dX7_init_149 cw_X7_61 im_X6_init rfl rfl (CI_Slot (i := 0) (by decide) (by decide) (by decide) (by decide) (by decide)) (by decide) rfl (Nat.le_of_ble_eq_true rfl) (Nat.le_of_ble_eq_true rfl) (Nat.le_of_ble_eq_true rfl) (Nat.le_of_ble_eq_true rfl) rfl rfl (Nat.le_of_ble_eq_true rfl) ?_
  refine n_aast 21 0 0 6 0 6 (C := RX6) (T := TX6) (N := 4) dX7_init_152 (by decide) rfl (by decide) rfl rfl (by decide) (by decide) (by decide) rfl (by decide) (by decide) (by decide) ?_
  refine n_iinc (v := (1 : Int32)) (ls' := [some (rf X 7 0), some (.int (1 : Int32))]) dX7_init_153 rfl (by decide) (by decide) (okp_at rfl) rfl ?_
  refine n_goto (tgt := 135) dX7_init_156 (by decide) ?_
  refine n_iload_n dX7_init_135 rfl ?_
  refine n_iconst (v := 5) dX7_init_136 (by decide) ?_
  refine n_icmp_ge (tgt := 159) dX7_init_137 (by decide) (fun c => absurd c (by decide)) (fun _ => ?_)
  refine n_aload_n dX7_init_140 rfl ?_
  refine n_getR 7 0 11 21 0 (C := RX7) (T := TX7) (N := 12) rfl rfl (by decide) (by decide) (by decide) (by decide) uX7 fl_X7_57 rfl (by decide) rfl dX7_init_141 ?_
  refine n_iload_n dX7_init_144 rfl ?_
  refine n_new 6 1 tyX6 tyX6_ok (by decide) rfl rfl (by decide) uX6 cl_X7_55 in_X6 ini_X6 dv_X6 (Nat.le_of_ble_eq_true rfl) (Nat.le_of_ble_eq_true rfl) dX7_init_145 ?_
  refine n_dup dX7_init_148 rfl ?_
  refine n_callIN dX7_init_149 cw_X7_61 im_X6_init rfl rfl (CI_Slot (i := 1) (by decide) (by decide) (by decide) (by decide) (by decide)) (by decide) rfl (Nat.le_of_ble_eq_true rfl) (Nat.le_of_ble_eq_true rfl) (Nat.le_of_ble_eq_true rfl) (Nat.le_of_ble_eq_true rfl) rfl rfl (Nat.le_of_ble_eq_true rfl) ?_
  refine n_aast 21 0 1 6 1 6 (C := RX6) (T := TX6) (N := 4) dX7_init_152 (by decide) rfl (by decide) rfl rfl (by decide) (by decide) (by decide) rfl (by decide) (by decide) (by decide) ?_
  refine n_iinc (v := (2 : Int32)) (ls' := [some (rf X 7 0), some (.int (2 : Int32))]) dX7_init_153 rfl (by decide) (by decide) (okp_at rfl) rfl ?_
  refine n_goto (tgt := 135) dX7_init_156 (by decide) ?_
  refine n_iload_n dX7_init_135 rfl ?_
  refine n_iconst (v := 5) dX7_init_136 (by decide) ?_
  refine n_icmp_ge (tgt := 159) dX7_init_137 (by decide) (fun c => absurd c (by decide)) (fun _ => ?_)
  refine n_aload_n dX7_init_140 rfl ?_
  refine n_getR 7 0 11 21 0 (C := RX7) (T := TX7) (N := 12) rfl rfl (by decide) (by decide) (by decide) (by decide) uX7 fl_X7_57 rfl (by decide) rfl dX7_init_141 ?_
  refine n_iload_n dX7_init_144 rfl ?_
  refine n_new 6 2 tyX6 tyX6_ok (by decide) rfl rfl (by decide) uX6 cl_X7_55 in_X6 ini_X6 dv_X6 (Nat.le_of_ble_eq_true rfl) (Nat.le_of_ble_eq_true rfl) dX7_init_145 ?_
  refine n_dup dX7_init_148 rfl ?_
  refine n_callIN dX7_init_149 cw_X7_61 im_X6_init rfl rfl (CI_Slot (i := 2) (by decide) (by decide) (by decide) (by decide) (by decide)) (by decide) rfl (Nat.le_of_ble_eq_true rfl) (Nat.le_of_ble_eq_true rfl) (Nat.le_of_ble_eq_true rfl) (Nat.le_of_ble_eq_true rfl) rfl rfl (Nat.le_of_ble_eq_true rfl) ?_
  refine n_aast 21 0 2 6 2 6 (C := RX6) (T := TX6) (N := 4) dX7_init_152 (by decide) rfl (by decide) rfl rfl (by decide) (by decide) (by decide) rfl (by decide) (by decide) (by decide) ?_
  refine n_iinc (v := (3 : Int32)) (ls' := [some (rf X 7 0), some (.int (3 : Int32))]) dX7_init_153 rfl (by decide) (by decide) (okp_at rfl) rfl ?_
  refine n_goto (tgt := 135) dX7_init_156 (by decide) ?_
  refine n_iload_n dX7_init_135 rfl ?_
  refine n_iconst (v := 5) dX7_init_136 (by decide) ?_
  refine n_icmp_ge (tgt := 159) dX7_init_137 (by decide) (fun c => absurd c (by decide)) (fun _ => ?_)
  refine n_aload_n dX7_init_140 rfl ?_
  refine n_getR 7 0 11 21 0 (C := RX7) (T := TX7) (N := 12) rfl rfl (by decide) (by decide) (by decide) (by decide) uX7 fl_X7_57 rfl (by decide) rfl dX7_init_141 ?_
  refine n_iload_n dX7_init_144 rfl ?_
  refine n_new 6 3 tyX6 tyX6_ok (by decide) rfl rfl (by decide) uX6 cl_X7_55 in_X6 ini_X6 dv_X6 (Nat.le_of_ble_eq_true rfl) (Nat.le_of_ble_eq_true rfl) dX7_init_145 ?_
  refine n_dup dX7_init_148 rfl ?_
  refine n_callIN dX7_init_149 cw_X7_61 im_X6_init rfl rfl (CI_Slot (i := 3) (by decide) (by decide) (by decide) (by decide) (by decide)) (by decide) rfl (Nat.le_of_ble_eq_true rfl) (Nat.le_of_ble_eq_true rfl) (Nat.le_of_ble_eq_true rfl) (Nat.le_of_ble_eq_true rfl) rfl rfl (Nat.le_of_ble_eq_true rfl) ?_
  refine n_aast 21 0 3 6 3 6 (C := RX6) (T := TX6) (N := 4) dX7_init_152 (by decide) rfl (by decide) rfl rfl (by decide) (by decide) (by decide) rfl (by decide) (by decide) (by decide) ?_
  refine n_iinc (v := (4 : Int32)) (ls' := [some (rf X 7 0), some (.int (4 : Int32))]) dX7_init_153 rfl (by decide) (by decide) (okp_at rfl) rfl ?_
  refine n_goto (tgt := 135) dX7_init_156 (by decide) ?_
  refine n_iload_n dX7_init_135 rfl ?_
  refine n_iconst (v := 5) dX7_init_136 (by decide) ?_
  refine n_icmp_ge (tgt := 159) dX7_init_137 (by decide) (fun c => absurd c (by decide)) (fun _ => ?_)
  refine n_aload_n dX7_init_140 rfl ?_
  refine n_getR 7 0 11 21 0 (C := RX7) (T := TX7) (N := 12) rfl rfl (by decide) (by decide) (by decide) (by decide) uX7 fl_X7_57 rfl (by decide) rfl dX7_init_141 ?_
  refine n_iload_n dX7_init_144 rfl ?_
  refine n_new 6 4 tyX6 tyX6_ok (by decide) rfl rfl (by decide) uX6 cl_X7_55 in_X6 ini_X6 dv_X6 (Nat.le_of_ble_eq_true rfl) (Nat.le_of_ble_eq_true rfl) dX7_init_145 ?_
  refine n_dup dX7_init_148 rfl ?_
  refine n_callIN dX7_init_149 cw_X7_61 im_X6_init rfl rfl (CI_Slot (i := 4) (by decide) (by decide) (by decide) (by decide) (by decide)) (by decide) rfl (Nat.le_of_ble_eq_true rfl) (Nat.le_of_ble_eq_true rfl) (Nat.le_of_ble_eq_true rfl) (Nat.le_of_ble_eq_true rfl) rfl rfl (Nat.le_of_ble_eq_true rfl) ?_
  refine n_aast 21 0 4 6 4 6 (C := RX6) (T := TX6) (N := 4) dX7_init_152 (by decide) rfl (by decide) rfl rfl (by decide) (by decide) (by decide) rfl (by decide) (by decide) (by decide) ?_
  refine n_iinc (v := (5 : Int32)) (ls' := [some (rf X 7 0), some (.int (5 : Int32))]) dX7_init_153 rfl (by decide) (by decide) (okp_at rfl) rfl ?_
  refine n_goto (tgt := 135) dX7_init_156 (by decide) ?_
  refine n_iload_n dX7_init_135 rfl ?_
  refine n_iconst (v := 5) dX7_init_136 (by decide) ?_
  refine n_icmp_ge (tgt := 159) dX7_init_137 (by decide) (fun _ => ?_) (fun c => absurd (by decide) c)
  exact n_return rfl dX7_init_159 rfl rfl
theorem ml_X8_1 : Cond.methodLink RX8 1 Lib.objectInit ∈ GW := gw_at 958 (by decide +kernel) (by decide +kernel)
theorem fl_X8_7 : Cond.fieldLink RX8 7 (TX8 0).1 (TX8 0).2.1 (TX8 0).2.2.1 ∈ GW := gw_at 959 (by decide +kernel) (by decide +kernel)
theorem fl_X8_13 : Cond.fieldLink RX8 13 (TX8 1).1 (TX8 1).2.1 (TX8 1).2.2.1 ∈ GW := gw_at 960 (by decide +kernel) (by decide +kernel)
theorem fl_X8_16 : Cond.fieldLink RX8 16 (TX8 2).1 (TX8 2).2.1 (TX8 2).2.2.1 ∈ GW := gw_at 961 (by decide +kernel) (by decide +kernel)
theorem fl_X8_19 : Cond.fieldLink RX8 19 (TX8 4).1 (TX8 4).2.1 (TX8 4).2.2.1 ∈ GW := gw_at 963 (by decide +kernel) (by decide +kernel)
theorem fl_X8_22 : Cond.fieldLink RX8 22 (TX8 5).1 (TX8 5).2.1 (TX8 5).2.2.1 ∈ GW := gw_at 964 (by decide +kernel) (by decide +kernel)
theorem fl_X8_25 : Cond.fieldLink RX8 25 (TX8 6).1 (TX8 6).2.1 (TX8 6).2.2.1 ∈ GW := gw_at 965 (by decide +kernel) (by decide +kernel)
theorem fl_X8_28 : Cond.fieldLink RX8 28 (TX8 7).1 (TX8 7).2.1 (TX8 7).2.2.1 ∈ GW := gw_at 966 (by decide +kernel) (by decide +kernel)
theorem fl_X8_31 : Cond.fieldLink RX8 31 (TX8 8).1 (TX8 8).2.1 (TX8 8).2.2.1 ∈ GW := gw_at 967 (by decide +kernel) (by decide +kernel)
theorem fl_X8_34 : Cond.fieldLink RX8 34 (TX8 9).1 (TX8 9).2.1 (TX8 9).2.2.1 ∈ GW := gw_at 968 (by decide +kernel) (by decide +kernel)
theorem fl_X8_37 : Cond.fieldLink RX8 37 (TX8 10).1 (TX8 10).2.1 (TX8 10).2.2.1 ∈ GW := gw_at 969 (by decide +kernel) (by decide +kernel)
theorem fl_X8_40 : Cond.fieldLink RX8 40 (TX8 11).1 (TX8 11).2.1 (TX8 11).2.2.1 ∈ GW := gw_at 970 (by decide +kernel) (by decide +kernel)
theorem fl_X8_43 : Cond.fieldLink RX8 43 (TX8 12).1 (TX8 12).2.1 (TX8 12).2.2.1 ∈ GW := gw_at 971 (by decide +kernel) (by decide +kernel)
theorem fl_X8_46 : Cond.fieldLink RX8 46 (TX8 13).1 (TX8 13).2.1 (TX8 13).2.2.1 ∈ GW := gw_at 972 (by decide +kernel) (by decide +kernel)
theorem fl_X8_49 : Cond.fieldLink RX8 49 (TX8 14).1 (TX8 14).2.1 (TX8 14).2.2.1 ∈ GW := gw_at 973 (by decide +kernel) (by decide +kernel)
theorem fl_X8_52 : Cond.fieldLink RX8 52 (TX8 15).1 (TX8 15).2.1 (TX8 15).2.2.1 ∈ GW := gw_at 974 (by decide +kernel) (by decide +kernel)
theorem fl_X8_55 : Cond.fieldLink RX8 55 (TX8 27).1 (TX8 27).2.1 (TX8 27).2.2.1 ∈ GW := gw_at 986 (by decide +kernel) (by decide +kernel)
theorem fl_X8_58 : Cond.fieldLink RX8 58 (TX8 28).1 (TX8 28).2.1 (TX8 28).2.2.1 ∈ GW := gw_at 987 (by decide +kernel) (by decide +kernel)
theorem fl_X8_61 : Cond.fieldLink RX8 61 (TX8 29).1 (TX8 29).2.1 (TX8 29).2.2.1 ∈ GW := gw_at 988 (by decide +kernel) (by decide +kernel)
theorem fl_X8_64 : Cond.fieldLink RX8 64 (TX8 30).1 (TX8 30).2.1 (TX8 30).2.2.1 ∈ GW := gw_at 989 (by decide +kernel) (by decide +kernel)
theorem fl_X8_67 : Cond.fieldLink RX8 67 (TX8 32).1 (TX8 32).2.1 (TX8 32).2.2.1 ∈ GW := gw_at 991 (by decide +kernel) (by decide +kernel)
set_option maxRecDepth 100000 in
set_option maxHeartbeats 4000000 in
theorem CI_Model {X : Cx} {ρ : Rho} {σ : Mem}   : TriC X 1 20 11178 mX8_init [rf X 8 0] ρ σ 116 (rput (rput (rput (rput (rput (rput (rput (rput (rput (rput (rput (rput (rput (rput (rput (rput (rput (rput (rput (rput ρ 8 0 0 (22, 0)) 8 0 1 (23, 0)) 8 0 2 (24, 0)) 8 0 4 (25, 0)) 8 0 5 (26, 0)) 8 0 6 (27, 0)) 8 0 7 (28, 0)) 8 0 8 (29, 0)) 8 0 9 (30, 0)) 8 0 10 (31, 0)) 8 0 11 (32, 0)) 8 0 12 (33, 0)) 8 0 13 (34, 0)) 8 0 14 (35, 0)) 8 0 15 (36, 0)) 8 0 27 (37, 0)) 8 0 28 (38, 0)) 8 0 29 (39, 0)) 8 0 30 (40, 0)) 8 0 32 (41, 0)) (mput (mput (mput (mput (mput σ 22 0 6 (1 : Int32)) 25 0 0 (-1 : Int32)) 25 0 1 (-1 : Int32)) 25 0 2 (-1 : Int32)) 25 0 3 (-1 : Int32)) 136 := by
  refine TriC.of (ls := [some (rf X 8 0), none]) (by decide) (Nat.le_of_ble_eq_true rfl) rfl ?_
  refine n_aload_n dX8_init_0 rfl ?_
  refine n_objInit dX8_init_1 ml_X8_1 oi_inst oi_code (Nat.le_of_ble_eq_true rfl) (Nat.le_of_ble_eq_true rfl) ?_
  refine n_aload_n dX8_init_4 rfl ?_
  refine n_sipush (v := 3108) dX8_init_5 (by decide) ?_
  refine n_newa 22 0 (atype := .int) 0 (by decide) (by decide) rfl (by decide) rfl rfl ac_int rfl (by decide) (by decide) (by decide) (Nat.le_of_ble_eq_true rfl) (Nat.le_of_ble_eq_true rfl) dX8_init_8 ?_
  refine n_putR 8 0 0 22 0 (C := RX8) (T := TX8) (N := 33) tyX8 tyX8_ok nmX8 rfl rfl (by decide) (by decide) (by decide) (by decide) uX8 fl_X8_7 rfl rfl rfl rfl (by decide) rfl (fun _ => rfl) (fun _ => rfl) dX8_init_10 ?_
  refine n_aload_n dX8_init_13 rfl ?_
  refine n_sipush (v := 3108) dX8_init_14 (by decide) ?_
  refine n_newa 23 0 (atype := .int) 0 (by decide) (by decide) rfl (by decide) rfl rfl ac_int rfl (by decide) (by decide) (by decide) (Nat.le_of_ble_eq_true rfl) (Nat.le_of_ble_eq_true rfl) dX8_init_17 ?_
  refine n_putR 8 0 1 23 0 (C := RX8) (T := TX8) (N := 33) tyX8 tyX8_ok nmX8 rfl rfl (by decide) (by decide) (by decide) (by decide) uX8 fl_X8_13 rfl rfl rfl rfl (by decide) rfl (fun _ => rfl) (fun _ => rfl) dX8_init_19 ?_
  refine n_aload_n dX8_init_22 rfl ?_
  refine n_sipush (v := 3108) dX8_init_23 (by decide) ?_
  refine n_newa 24 0 (atype := .int) 0 (by decide) (by decide) rfl (by decide) rfl rfl ac_int rfl (by decide) (by decide) (by decide) (Nat.le_of_ble_eq_true rfl) (Nat.le_of_ble_eq_true rfl) dX8_init_26 ?_
  refine n_putR 8 0 2 24 0 (C := RX8) (T := TX8) (N := 33) tyX8 tyX8_ok nmX8 rfl rfl (by decide) (by decide) (by decide) (by decide) uX8 fl_X8_16 rfl rfl rfl rfl (by decide) rfl (fun _ => rfl) (fun _ => rfl) dX8_init_28 ?_
  refine n_aload_n dX8_init_31 rfl ?_
  refine n_iconst (v := 4) dX8_init_32 (by decide) ?_
  refine n_newa 25 0 (atype := .int) 0 (by decide) (by decide) rfl (by decide) rfl rfl ac_int rfl (by decide) (by decide) (by decide) (Nat.le_of_ble_eq_true rfl) (Nat.le_of_ble_eq_true rfl) dX8_init_33 ?_
  refine n_putR 8 0 4 25 0 (C := RX8) (T := TX8) (N := 33) tyX8 tyX8_ok nmX8 rfl rfl (by decide) (by decide) (by decide) (by decide) uX8 fl_X8_19 rfl rfl rfl rfl (by decide) rfl (fun _ => rfl) (fun _ => rfl) dX8_init_35 ?_
  refine n_aload_n dX8_init_38 rfl ?_
  refine n_iconst (v := 4) dX8_init_39 (by decide) ?_
  refine n_newa 26 0 (atype := .int) 0 (by decide) (by decide) rfl (by decide) rfl rfl ac_int rfl (by decide) (by decide) (by decide) (Nat.le_of_ble_eq_true rfl) (Nat.le_of_ble_eq_true rfl) dX8_init_40 ?_
  refine n_putR 8 0 5 26 0 (C := RX8) (T := TX8) (N := 33) tyX8 tyX8_ok nmX8 rfl rfl (by decide) (by decide) (by decide) (by decide) uX8 fl_X8_22 rfl rfl rfl rfl (by decide) rfl (fun _ => rfl) (fun _ => rfl) dX8_init_42 ?_
  refine n_aload_n dX8_init_45 rfl ?_
  refine n_bipush (v := 96) dX8_init_46 (by decide) ?_
  refine n_newa 27 0 (atype := .int) 0 (by decide) (by decide) rfl (by decide) rfl rfl ac_int rfl (by decide) (by decide) (by decide) (Nat.le_of_ble_eq_true rfl) (Nat.le_of_ble_eq_true rfl) dX8_init_48 ?_
  refine n_putR 8 0 6 27 0 (C := RX8) (T := TX8) (N := 33) tyX8 tyX8_ok nmX8 rfl rfl (by decide) (by decide) (by decide) (by decide) uX8 fl_X8_25 rfl rfl rfl rfl (by decide) rfl (fun _ => rfl) (fun _ => rfl) dX8_init_50 ?_
  refine n_aload_n dX8_init_53 rfl ?_
  refine n_iconst (v := 5) dX8_init_54 (by decide) ?_
  refine n_newa 28 0 (atype := .int) 0 (by decide) (by decide) rfl (by decide) rfl rfl ac_int rfl (by decide) (by decide) (by decide) (Nat.le_of_ble_eq_true rfl) (Nat.le_of_ble_eq_true rfl) dX8_init_55 ?_
  refine n_putR 8 0 7 28 0 (C := RX8) (T := TX8) (N := 33) tyX8 tyX8_ok nmX8 rfl rfl (by decide) (by decide) (by decide) (by decide) uX8 fl_X8_28 rfl rfl rfl rfl (by decide) rfl (fun _ => rfl) (fun _ => rfl) dX8_init_57 ?_
  refine n_aload_n dX8_init_60 rfl ?_
  refine n_iconst (v := 5) dX8_init_61 (by decide) ?_
  refine n_newa 29 0 (atype := .int) 0 (by decide) (by decide) rfl (by decide) rfl rfl ac_int rfl (by decide) (by decide) (by decide) (Nat.le_of_ble_eq_true rfl) (Nat.le_of_ble_eq_true rfl) dX8_init_62 ?_
  refine n_putR 8 0 8 29 0 (C := RX8) (T := TX8) (N := 33) tyX8 tyX8_ok nmX8 rfl rfl (by decide) (by decide) (by decide) (by decide) uX8 fl_X8_31 rfl rfl rfl rfl (by decide) rfl (fun _ => rfl) (fun _ => rfl) dX8_init_64 ?_
  refine n_aload_n dX8_init_67 rfl ?_
  refine n_iconst (v := 5) dX8_init_68 (by decide) ?_
  refine n_newa 30 0 (atype := .int) 0 (by decide) (by decide) rfl (by decide) rfl rfl ac_int rfl (by decide) (by decide) (by decide) (Nat.le_of_ble_eq_true rfl) (Nat.le_of_ble_eq_true rfl) dX8_init_69 ?_
  refine n_putR 8 0 9 30 0 (C := RX8) (T := TX8) (N := 33) tyX8 tyX8_ok nmX8 rfl rfl (by decide) (by decide) (by decide) (by decide) uX8 fl_X8_34 rfl rfl rfl rfl (by decide) rfl (fun _ => rfl) (fun _ => rfl) dX8_init_71 ?_
  refine n_aload_n dX8_init_74 rfl ?_
  refine n_iconst (v := 5) dX8_init_75 (by decide) ?_
  refine n_newa 31 0 (atype := .int) 0 (by decide) (by decide) rfl (by decide) rfl rfl ac_int rfl (by decide) (by decide) (by decide) (Nat.le_of_ble_eq_true rfl) (Nat.le_of_ble_eq_true rfl) dX8_init_76 ?_
  refine n_putR 8 0 10 31 0 (C := RX8) (T := TX8) (N := 33) tyX8 tyX8_ok nmX8 rfl rfl (by decide) (by decide) (by decide) (by decide) uX8 fl_X8_37 rfl rfl rfl rfl (by decide) rfl (fun _ => rfl) (fun _ => rfl) dX8_init_78 ?_
  refine n_aload_n dX8_init_81 rfl ?_
  refine n_bipush (v := 120) dX8_init_82 (by decide) ?_
  refine n_newa 32 0 (atype := .int) 0 (by decide) (by decide) rfl (by decide) rfl rfl ac_int rfl (by decide) (by decide) (by decide) (Nat.le_of_ble_eq_true rfl) (Nat.le_of_ble_eq_true rfl) dX8_init_84 ?_
  refine n_putR 8 0 11 32 0 (C := RX8) (T := TX8) (N := 33) tyX8 tyX8_ok nmX8 rfl rfl (by decide) (by decide) (by decide) (by decide) uX8 fl_X8_40 rfl rfl rfl rfl (by decide) rfl (fun _ => rfl) (fun _ => rfl) dX8_init_86 ?_
  refine n_aload_n dX8_init_89 rfl ?_
  refine n_bipush (v := 10) dX8_init_90 (by decide) ?_
  refine n_newa 33 0 (atype := .int) 0 (by decide) (by decide) rfl (by decide) rfl rfl ac_int rfl (by decide) (by decide) (by decide) (Nat.le_of_ble_eq_true rfl) (Nat.le_of_ble_eq_true rfl) dX8_init_92 ?_
  refine n_putR 8 0 12 33 0 (C := RX8) (T := TX8) (N := 33) tyX8 tyX8_ok nmX8 rfl rfl (by decide) (by decide) (by decide) (by decide) uX8 fl_X8_43 rfl rfl rfl rfl (by decide) rfl (fun _ => rfl) (fun _ => rfl) dX8_init_94 ?_
  refine n_aload_n dX8_init_97 rfl ?_
  refine n_sipush (v := 1024) dX8_init_98 (by decide) ?_
  refine n_newa 34 0 (atype := .int) 0 (by decide) (by decide) rfl (by decide) rfl rfl ac_int rfl (by decide) (by decide) (by decide) (Nat.le_of_ble_eq_true rfl) (Nat.le_of_ble_eq_true rfl) dX8_init_101 ?_
  refine n_putR 8 0 13 34 0 (C := RX8) (T := TX8) (N := 33) tyX8 tyX8_ok nmX8 rfl rfl (by decide) (by decide) (by decide) (by decide) uX8 fl_X8_46 rfl rfl rfl rfl (by decide) rfl (fun _ => rfl) (fun _ => rfl) dX8_init_103 ?_
  refine n_aload_n dX8_init_106 rfl ?_
  refine n_bipush (v := 108) dX8_init_107 (by decide) ?_
  refine n_newa 35 0 (atype := .int) 0 (by decide) (by decide) rfl (by decide) rfl rfl ac_int rfl (by decide) (by decide) (by decide) (Nat.le_of_ble_eq_true rfl) (Nat.le_of_ble_eq_true rfl) dX8_init_109 ?_
  refine n_putR 8 0 14 35 0 (C := RX8) (T := TX8) (N := 33) tyX8 tyX8_ok nmX8 rfl rfl (by decide) (by decide) (by decide) (by decide) uX8 fl_X8_49 rfl rfl rfl rfl (by decide) rfl (fun _ => rfl) (fun _ => rfl) dX8_init_111 ?_
  refine n_aload_n dX8_init_114 rfl ?_
  refine n_bipush (v := 96) dX8_init_115 (by decide) ?_
  refine n_newa 36 0 (atype := .int) 0 (by decide) (by decide) rfl (by decide) rfl rfl ac_int rfl (by decide) (by decide) (by decide) (Nat.le_of_ble_eq_true rfl) (Nat.le_of_ble_eq_true rfl) dX8_init_117 ?_
  refine n_putR 8 0 15 36 0 (C := RX8) (T := TX8) (N := 33) tyX8 tyX8_ok nmX8 rfl rfl (by decide) (by decide) (by decide) (by decide) uX8 fl_X8_52 rfl rfl rfl rfl (by decide) rfl (fun _ => rfl) (fun _ => rfl) dX8_init_119 ?_
  refine n_aload_n dX8_init_122 rfl ?_
  refine n_sipush (v := 128) dX8_init_123 (by decide) ?_
  refine n_newa 37 0 (atype := .int) 0 (by decide) (by decide) rfl (by decide) rfl rfl ac_int rfl (by decide) (by decide) (by decide) (Nat.le_of_ble_eq_true rfl) (Nat.le_of_ble_eq_true rfl) dX8_init_126 ?_
  refine n_putR 8 0 27 37 0 (C := RX8) (T := TX8) (N := 33) tyX8 tyX8_ok nmX8 rfl rfl (by decide) (by decide) (by decide) (by decide) uX8 fl_X8_55 rfl rfl rfl rfl (by decide) rfl (fun _ => rfl) (fun _ => rfl) dX8_init_128 ?_
  refine n_aload_n dX8_init_131 rfl ?_
  refine n_bipush (v := 100) dX8_init_132 (by decide) ?_
  refine n_newa 38 0 (atype := .int) 0 (by decide) (by decide) rfl (by decide) rfl rfl ac_int rfl (by decide) (by decide) (by decide) (Nat.le_of_ble_eq_true rfl) (Nat.le_of_ble_eq_true rfl) dX8_init_134 ?_
  refine n_putR 8 0 28 38 0 (C := RX8) (T := TX8) (N := 33) tyX8 tyX8_ok nmX8 rfl rfl (by decide) (by decide) (by decide) (by decide) uX8 fl_X8_58 rfl rfl rfl rfl (by decide) rfl (fun _ => rfl) (fun _ => rfl) dX8_init_136 ?_
  refine n_aload_n dX8_init_139 rfl ?_
  refine n_bipush (v := 24) dX8_init_140 (by decide) ?_
  refine n_newa 39 0 (atype := .int) 0 (by decide) (by decide) rfl (by decide) rfl rfl ac_int rfl (by decide) (by decide) (by decide) (Nat.le_of_ble_eq_true rfl) (Nat.le_of_ble_eq_true rfl) dX8_init_142 ?_
  refine n_putR 8 0 29 39 0 (C := RX8) (T := TX8) (N := 33) tyX8 tyX8_ok nmX8 rfl rfl (by decide) (by decide) (by decide) (by decide) uX8 fl_X8_61 rfl rfl rfl rfl (by decide) rfl (fun _ => rfl) (fun _ => rfl) dX8_init_144 ?_
  refine n_aload_n dX8_init_147 rfl ?_
  refine n_bipush (v := 60) dX8_init_148 (by decide) ?_
  refine n_newa 40 0 (atype := .int) 0 (by decide) (by decide) rfl (by decide) rfl rfl ac_int rfl (by decide) (by decide) (by decide) (Nat.le_of_ble_eq_true rfl) (Nat.le_of_ble_eq_true rfl) dX8_init_150 ?_
  refine n_putR 8 0 30 40 0 (C := RX8) (T := TX8) (N := 33) tyX8 tyX8_ok nmX8 rfl rfl (by decide) (by decide) (by decide) (by decide) uX8 fl_X8_64 rfl rfl rfl rfl (by decide) rfl (fun _ => rfl) (fun _ => rfl) dX8_init_152 ?_
  refine n_aload_n dX8_init_155 rfl ?_
  refine n_bipush (v := 60) dX8_init_156 (by decide) ?_
  refine n_newa 41 0 (atype := .int) 0 (by decide) (by decide) rfl (by decide) rfl rfl ac_int rfl (by decide) (by decide) (by decide) (Nat.le_of_ble_eq_true rfl) (Nat.le_of_ble_eq_true rfl) dX8_init_158 ?_
  refine n_putR 8 0 32 41 0 (C := RX8) (T := TX8) (N := 33) tyX8 tyX8_ok nmX8 rfl rfl (by decide) (by decide) (by decide) (by decide) uX8 fl_X8_67 rfl rfl rfl rfl (by decide) rfl (fun _ => rfl) (fun _ => rfl) dX8_init_160 ?_
  refine n_aload_n dX8_init_163 rfl ?_
  refine n_getR 8 0 0 22 0 (C := RX8) (T := TX8) (N := 33) rfl rfl (by decide) (by decide) (by decide) (by decide) uX8 fl_X8_7 rfl (by decide) rfl dX8_init_164 ?_
  refine n_bipush (v := 6) dX8_init_167 (by decide) ?_
  refine n_iconst (v := 1) dX8_init_169 (by decide) ?_
  refine n_iast 22 0 6 dX8_init_170 (by decide) rfl rfl (by decide) (by decide) (by decide) ?_
  refine n_iconst (v := 0) dX8_init_171 (by decide) ?_
  refine n_istore_n (ls' := [some (rf X 8 0), some (.int (0 : Int32))]) dX8_init_172 (by decide) (okp_at rfl) rfl ?_
  refine n_iload_n dX8_init_173 rfl ?_
  refine n_iconst (v := 4) dX8_init_174 (by decide) ?_
  refine n_icmp_ge (tgt := 191) dX8_init_175 (by decide) (fun c => absurd c (by decide)) (fun _ => ?_)
  refine n_aload_n dX8_init_178 rfl ?_
  refine n_getR 8 0 4 25 0 (C := RX8) (T := TX8) (N := 33) rfl rfl (by decide) (by decide) (by decide) (by decide) uX8 fl_X8_19 rfl (by decide) rfl dX8_init_179 ?_
  refine n_iload_n dX8_init_182 rfl ?_
  refine n_iconst (v := (-1)) dX8_init_183 (by decide) ?_
  refine n_iast 25 0 0 dX8_init_184 (by decide) rfl rfl (by decide) (by decide) (by decide) ?_
  refine n_iinc (v := (1 : Int32)) (ls' := [some (rf X 8 0), some (.int (1 : Int32))]) dX8_init_185 rfl (by decide) (by decide) (okp_at rfl) rfl ?_
  refine n_goto (tgt := 173) dX8_init_188 (by decide) ?_
  refine n_iload_n dX8_init_173 rfl ?_
  refine n_iconst (v := 4) dX8_init_174 (by decide) ?_
  refine n_icmp_ge (tgt := 191) dX8_init_175 (by decide) (fun c => absurd c (by decide)) (fun _ => ?_)
  refine n_aload_n dX8_init_178 rfl ?_
  refine n_getR 8 0 4 25 0 (C := RX8) (T := TX8) (N := 33) rfl rfl (by decide) (by decide) (by decide) (by decide) uX8 fl_X8_19 rfl (by decide) rfl dX8_init_179 ?_
  refine n_iload_n dX8_init_182 rfl ?_
  refine n_iconst (v := (-1)) dX8_init_183 (by decide) ?_
  refine n_iast 25 0 1 dX8_init_184 (by decide) rfl rfl (by decide) (by decide) (by decide) ?_
  refine n_iinc (v := (2 : Int32)) (ls' := [some (rf X 8 0), some (.int (2 : Int32))]) dX8_init_185 rfl (by decide) (by decide) (okp_at rfl) rfl ?_
  refine n_goto (tgt := 173) dX8_init_188 (by decide) ?_
  refine n_iload_n dX8_init_173 rfl ?_
  refine n_iconst (v := 4) dX8_init_174 (by decide) ?_
  refine n_icmp_ge (tgt := 191) dX8_init_175 (by decide) (fun c => absurd c (by decide)) (fun _ => ?_)
  refine n_aload_n dX8_init_178 rfl ?_
  refine n_getR 8 0 4 25 0 (C := RX8) (T := TX8) (N := 33) rfl rfl (by decide) (by decide) (by decide) (by decide) uX8 fl_X8_19 rfl (by decide) rfl dX8_init_179 ?_
  refine n_iload_n dX8_init_182 rfl ?_
  refine n_iconst (v := (-1)) dX8_init_183 (by decide) ?_
  refine n_iast 25 0 2 dX8_init_184 (by decide) rfl rfl (by decide) (by decide) (by decide) ?_
  refine n_iinc (v := (3 : Int32)) (ls' := [some (rf X 8 0), some (.int (3 : Int32))]) dX8_init_185 rfl (by decide) (by decide) (okp_at rfl) rfl ?_
  refine n_goto (tgt := 173) dX8_init_188 (by decide) ?_
  refine n_iload_n dX8_init_173 rfl ?_
  refine n_iconst (v := 4) dX8_init_174 (by decide) ?_
  refine n_icmp_ge (tgt := 191) dX8_init_175 (by decide) (fun c => absurd c (by decide)) (fun _ => ?_)
  refine n_aload_n dX8_init_178 rfl ?_
  refine n_getR 8 0 4 25 0 (C := RX8) (T := TX8) (N := 33) rfl rfl (by decide) (by decide) (by decide) (by decide) uX8 fl_X8_19 rfl (by decide) rfl dX8_init_179 ?_
  refine n_iload_n dX8_init_182 rfl ?_
  refine n_iconst (v := (-1)) dX8_init_183 (by decide) ?_
  refine n_iast 25 0 3 dX8_init_184 (by decide) rfl rfl (by decide) (by decide) (by decide) ?_
  refine n_iinc (v := (4 : Int32)) (ls' := [some (rf X 8 0), some (.int (4 : Int32))]) dX8_init_185 rfl (by decide) (by decide) (okp_at rfl) rfl ?_
  refine n_goto (tgt := 173) dX8_init_188 (by decide) ?_
  refine n_iload_n dX8_init_173 rfl ?_
  refine n_iconst (v := 4) dX8_init_174 (by decide) ?_
  refine n_icmp_ge (tgt := 191) dX8_init_175 (by decide) (fun _ => ?_) (fun c => absurd (by decide) c)
  exact n_return rfl dX8_init_191 rfl rfl
