def σz : Mem := fun _ _ _ => 0
def ρz : Rho := fun _ _ _ => none
def σ0 : Mem := (mput (mput (mput (mput (mput (mput (mput (mput (mput (mput (mput (mput (mput (mput (mput (mput (mput (mput (mput (mput (mput (mput (mput (mput (mput (mput (mput (mput (mput (mput (mput (fun _ _ _ => 0) 0 0 10 (1 : Int32)) 16 0 0 (-1 : Int32)) 16 0 1 (-1 : Int32)) 16 0 2 (-1 : Int32)) 0 1 10 (1 : Int32)) 16 1 0 (-1 : Int32)) 16 1 1 (-1 : Int32)) 16 1 2 (-1 : Int32)) 0 2 10 (1 : Int32)) 16 2 0 (-1 : Int32)) 16 2 1 (-1 : Int32)) 16 2 2 (-1 : Int32)) 5 0 0 (-1 : Int32)) 5 1 0 (-1 : Int32)) 5 2 0 (-1 : Int32)) 5 3 0 (-1 : Int32)) 6 0 0 (0 : Int32)) 5 (4 + 0) 0 (-1 : Int32)) 6 1 0 (0 : Int32)) 5 (4 + 1) 0 (-1 : Int32)) 6 2 0 (0 : Int32)) 5 (4 + 2) 0 (-1 : Int32)) 6 3 0 (0 : Int32)) 5 (4 + 3) 0 (-1 : Int32)) 6 4 0 (0 : Int32)) 5 (4 + 4) 0 (-1 : Int32)) 22 0 6 (1 : Int32)) 25 0 0 (-1 : Int32)) 25 0 1 (-1 : Int32)) 25 0 2 (-1 : Int32)) 25 0 3 (-1 : Int32))
def ρ0 : Rho := (rput (rput (rput (rput (rput (rput (rput (rput (rput (rput (rput (rput (rput (rput (rput (rput (rput (rput (rput (rput (rput (rput (rput (rput (rput (rput (rput (rput (rput (rput (rput (rput (rput (rput (rput (rput (rput (rput (rput (rput (rput (rput (rput (rput (rput (rput (rput (rput (rput (rput (rput (rput (rput (rput (rput (rput (rput (rput (rput (rput (rput (rput (rput (rput (rput (rput (rput (rput (rput (rput (rput (rput (rput (rput (rput (rput (rput (rput (rput (rput (rput (rput (rput (rput (rput (rput (rput (rput (rput (rput (rput (rput (rput (rput (rput (rput (rput (rput (rput (rput (rput (rput (rput (rput (rput (rput (rput (rput (rput (rput (rput (rput (rput (rput (rput (rput (rput (rput (rput (rput (rput (rput (rput (rput (rput (rput (rput (rput (rput (rput (rput (rput (rput (rput (rput (rput (rput (rput (fun _ _ _ => none) 2 0 0 (9, 0)) 2 0 1 (10, 0)) 1 0 2 (11, 0)) 9 0 0 (1, 0)) 1 1 2 (11, 1)) 9 0 1 (1, 1)) 1 2 2 (11, 2)) 9 0 2 (1, 2)) 1 3 2 (11, 3)) 9 0 3 (1, 3)) 1 4 2 (11, 4)) 9 0 4 (1, 4)) 1 5 2 (11, 5)) 9 0 5 (1, 5)) 1 6 2 (11, 6)) 9 0 6 (1, 6)) 1 7 2 (11, 7)) 9 0 7 (1, 7)) 1 8 2 (11, 8)) 9 0 8 (1, 8)) 1 9 2 (11, 9)) 9 0 9 (1, 9)) 1 10 2 (11, 10)) 9 0 10 (1, 10)) 1 11 2 (11, 11)) 9 0 11 (1, 11)) 1 12 2 (11, 12)) 9 0 12 (1, 12)) 1 13 2 (11, 13)) 9 0 13 (1, 13)) 1 14 2 (11, 14)) 9 0 14 (1, 14)) 7 0 0 (2, 0)) 0 0 1 (12, 0)) 0 0 3 (13, 0)) 0 0 4 (14, 0)) 0 0 5 (15, 0)) 0 0 12 (16, 0)) 0 0 0 (2, 0)) 12 0 0 (3, 0)) 12 0 1 (3, 1)) 12 0 2 (3, 2)) 12 0 3 (3, 3)) 12 0 4 (3, 4)) 12 0 5 (3, 5)) 12 0 6 (3, 6)) 12 0 7 (3, 7)) 12 0 8 (3, 8)) 12 0 9 (3, 9)) 7 0 1 (0, 0)) 0 1 1 (12, 1)) 0 1 3 (13, 1)) 0 1 4 (14, 1)) 0 1 5 (15, 1)) 0 1 12 (16, 1)) 0 1 0 (2, 0)) 12 1 0 (3, 10)) 12 1 1 (3, 11)) 12 1 2 (3, 12)) 12 1 3 (3, 13)) 12 1 4 (3, 14)) 12 1 5 (3, 15)) 12 1 6 (3, 16)) 12 1 7 (3, 17)) 12 1 8 (3, 18)) 12 1 9 (3, 19)) 7 0 2 (0, 1)) 0 2 1 (12, 2)) 0 2 3 (13, 2)) 0 2 4 (14, 2)) 0 2 5 (15, 2)) 0 2 12 (16, 2)) 0 2 0 (2, 0)) 12 2 0 (3, 20)) 12 2 1 (3, 21)) 12 2 2 (3, 22)) 12 2 3 (3, 23)) 12 2 4 (3, 24)) 12 2 5 (3, 25)) 12 2 6 (3, 26)) 12 2 7 (3, 27)) 12 2 8 (3, 28)) 12 2 9 (3, 29)) 7 0 3 (0, 2)) 7 0 5 (17, 0)) 4 0 0 (17, 0)) 7 0 7 (4, 0)) 7 0 8 (18, 0)) 7 0 10 (19, 0)) 5 0 2 (20, 0)) 19 0 0 (5, 0)) 5 1 2 (20, 1)) 19 0 1 (5, 1)) 5 2 2 (20, 2)) 19 0 2 (5, 2)) 5 3 2 (20, 3)) 19 0 3 (5, 3)) 7 0 11 (21, 0)) 6 0 1 (3, (30 + 0))) 5 (4 + 0) 2 (20, (4 + 0))) 6 0 2 (5, (4 + 0))) 21 0 0 (6, 0)) 6 1 1 (3, (30 + 1))) 5 (4 + 1) 2 (20, (4 + 1))) 6 1 2 (5, (4 + 1))) 21 0 1 (6, 1)) 6 2 1 (3, (30 + 2))) 5 (4 + 2) 2 (20, (4 + 2))) 6 2 2 (5, (4 + 2))) 21 0 2 (6, 2)) 6 3 1 (3, (30 + 3))) 5 (4 + 3) 2 (20, (4 + 3))) 6 3 2 (5, (4 + 3))) 21 0 3 (6, 3)) 6 4 1 (3, (30 + 4))) 5 (4 + 4) 2 (20, (4 + 4))) 6 4 2 (5, (4 + 4))) 21 0 4 (6, 4)) 8 0 0 (22, 0)) 8 0 1 (23, 0)) 8 0 2 (24, 0)) 8 0 4 (25, 0)) 8 0 5 (26, 0)) 8 0 6 (27, 0)) 8 0 7 (28, 0)) 8 0 8 (29, 0)) 8 0 9 (30, 0)) 8 0 10 (31, 0)) 8 0 11 (32, 0)) 8 0 12 (33, 0)) 8 0 13 (34, 0)) 8 0 14 (35, 0)) 8 0 15 (36, 0)) 8 0 27 (37, 0)) 8 0 28 (38, 0)) 8 0 29 (39, 0)) 8 0 30 (40, 0)) 8 0 32 (41, 0))
def szE (g : Nat) : Nat := if g < 9 then nF g else if ak g < 4 then 0 else alen g
theorem ρ0_RR : ∀ n, n < 136 → ∀ k, k < szE (PL.getD n (0, 0)).1 → isR (PL.getD n (0, 0)).1 k = true ∨ 9 ≤ (PL.getD n (0, 0)).1 → ρ0 (PL.getD n (0, 0)).1 (PL.getD n (0, 0)).2 k = RR (PL.getD n (0, 0)).1 (PL.getD n (0, 0)).2 k := by decide +kernel
theorem arrV_ext {cA : ClassId} {n : Nat} {f g : Nat → Value} (h : ∀ j, j < n → f j = g j) : arrV cA n f = arrV cA n g := by
  unfold arrV
  congr 1
  apply Array.ext
  · simp
  · intro i h1 h2
    simp only [Array.getElem_ofFn]
    exact h i (by simpa using h1)
theorem wl_RR {X : Cx} {σ : Mem} {H : Heap} (h : va_P X.2.1 vwCl (wl X ρ0 σ 136) H) : va_P X.2.1 vwCl (wl X RR σ ALL) H := by
  intro n q hq
  obtain ⟨g, i, h1, h2, h3, h4⟩ := wl_inv hq
  subst h4
  have hb : (wl X ρ0 σ 136)[n]? = some (X.1 + n, cellE X ρ0 σ g i) := by
    unfold wl
    rw [List.getElem?_map, List.getElem?_take_of_lt h1, h2]
    simp [h3]
  have ha := h n _ hb
  have hR := ρ0_RR n h1
  rw [List.getD_eq_getElem?_getD, h2] at hR
  have hR : ∀ k, k < szE g → isR g k = true ∨ 9 ≤ g → ρ0 g i k = RR g i k := hR
  by_cases hg : g < 9
  · rw [cellE_obj hg] at ha ⊢
    have e : objE X.1 ρ0 σ g i = objE X.1 RR σ g i := by
      unfold objE
      apply List.map_congr_left
      intro k hk
      have hk := List.mem_range.mp hk
      unfold fvE
      by_cases h9 : isR g k = true
      · rw [hR k (by unfold szE; rw [if_pos hg]; exact hk) (Or.inl h9)]
      · rw [if_neg h9, if_neg h9]
    rw [← e]
    exact ha
  · by_cases hk : ak g < 4
    · rw [cellE_arr (by omega) hk] at ha ⊢
      exact ha
    · rw [cellE_ref (by omega) hk] at ha ⊢
      have ha : H[X.1 + n]? = some (vp_cell _ _) := ha
      show H[X.1 + n]? = some (vp_cell _ _)
      rw [ha, vp_cell_q, vp_cell_q]
      congr 1
      apply arrV_ext
      intro j hj
      rw [hR j (by unfold szE; rw [if_neg hg, if_neg hk]; exact hj) (Or.inr (by omega))]
theorem ag_al {X : Cx} {σ : Mem} {pc : Nat} {ls : List (Option Value)} {st : List Value} (hB : ∀ s : State, StX X s → s.heap.size + 136 = X.1 + 136 → X.1 = s.heap.size) (h : AL X pc ls st σ) : AG X room_1 mL (fun below args s => lw_Z below args s) pc ls st ρ0 σ 136 136 13676 := by
  intro l p e s m args below meth c H locs lsA E hmn hC hS hl
  exact h l p e s m args below meth c H locs lsA E (by have := hmn.2; omega) (wl_RR hC.1) hS hl
theorem cl_L_7 : Cond.classLink RL 7 RX7 ∈ GW := gw_at 121 (by decide +kernel) (by decide +kernel)
theorem cl_L_10 : Cond.classLink RL 10 RX8 ∈ GW := gw_at 953 (by decide +kernel) (by decide +kernel)
theorem cw_L_9 : CwB RL 9 mX7_init 0 := ⟨gw_at 123 (by decide +kernel) (by decide +kernel), gw_at 105 (by decide +kernel) (by decide +kernel), gw_at 125 (by decide +kernel) (by decide +kernel), ⟨by decide +kernel, by decide +kernel, by decide +kernel⟩, by decide⟩
theorem im_X7_init : Cond.instanceMethod mX7_init.1 ∈ GW := gw_at 124 (by decide +kernel) (by decide +kernel)
theorem cw_L_12 : CwB RL 12 mX8_init 0 := ⟨gw_at 955 (by decide +kernel) (by decide +kernel), gw_at 113 (by decide +kernel) (by decide +kernel), gw_at 957 (by decide +kernel) (by decide +kernel), ⟨by decide +kernel, by decide +kernel, by decide +kernel⟩, by decide⟩
theorem im_X8_init : Cond.instanceMethod mX8_init.1 ∈ GW := gw_at 956 (by decide +kernel) (by decide +kernel)
set_option maxRecDepth 100000 in
set_option maxHeartbeats 4000000 in
theorem law_walk {X : Cx} {σ2 : Mem} (h : f_law (xL X) (xs X) FU 0 σ0 (fun σ => some (1, σ)) = some (1, σ2)) : AG X room_1 mL (fun below args s => lw_Z below args s) 0 [some (.ref (xb X)), none, none, none] [] ρz σz 0 0 0 := by
  refine n_new 7 0 tyX7 tyX7_ok (by decide) rfl rfl (by decide) uX7 cl_L_7 in_X7 ini_X7 dv_X7 (Nat.le_of_ble_eq_true rfl) (Nat.le_of_ble_eq_true rfl) dL_law_0 ?_
  refine n_dup dL_law_3 rfl ?_
  refine n_callI dL_law_4 cw_L_9 im_X7_init rfl rfl CI_Noon (by decide) rfl (Nat.le_of_ble_eq_true rfl) (Nat.le_of_ble_eq_true rfl) (Nat.le_of_ble_eq_true rfl) (Nat.le_of_ble_eq_true rfl) rfl rfl (Nat.le_of_ble_eq_true rfl) ?_
  refine n_astore_n (ls' := [some (.ref (xb X)), some (rf X 7 0), none, none]) dL_law_7 (by decide) (okp_at rfl) rfl ?_
  refine n_new 8 0 tyX8 tyX8_ok (by decide) rfl rfl (by decide) uX8 cl_L_10 in_X8 ini_X8 dv_X8 (Nat.le_of_ble_eq_true rfl) (Nat.le_of_ble_eq_true rfl) dL_law_8 ?_
  refine n_dup dL_law_11 rfl ?_
  refine n_callI dL_law_12 cw_L_12 im_X8_init rfl rfl CI_Model (by decide) rfl (Nat.le_of_ble_eq_true rfl) (Nat.le_of_ble_eq_true rfl) (Nat.le_of_ble_eq_true rfl) (Nat.le_of_ble_eq_true rfl) rfl rfl (Nat.le_of_ble_eq_true rfl) ?_
  refine n_astore_n (ls' := [some (.ref (xb X)), some (rf X 7 0), some (rf X 8 0), none]) dL_law_15 (by decide) (okp_at rfl) rfl ?_
  show AG X room_1 mL (fun below args s => lw_Z below args s) _ _ [] ρ0 σ0 136 136 13676
  refine ag_al (fun s _ q => by omega) ?_
  refine tq_iconst (v := 0) dL_law_16 (by decide) ?_
  refine tq_istore_n (ls' := [some (.ref (xb X)), some (rf X 7 0), some (rf X 8 0), some (.int 0)]) dL_law_17 (by decide) (okp_at rfl) rfl ?_
  refine L_law FU 0 σ0 h (fun σ1 h => ?_)
  refine tq_iconst (v := 1) dL_law_1431 (by decide) ?_
  exact tq_end dL_law_1432 h
set_option maxRecDepth 100000 in
set_option maxHeartbeats 4000000 in
theorem whole_of (pure : ∀ (L : Nat) (ys : Nat → Int32), L ≤ 3072 → ∃ σ2, f_law L ys FU 0 σ0 (fun σ => some (1, σ)) = some (1, σ2)) {p : Program} {e : Env} {s : State} {m : MethodId} {below : List Frame} {meth : Method} {c : Code} (l : Launch) {b L : Nat} {ys : Nat → Int32} (hL : L ≤ 3072) (C0 : lw_At p s m meth c b L ys) : W p l e room_1 s m #[Value.ref b] below meth c s.heap [] 0 0 (lw_Z below #[Value.ref b] s) (entryFrame m ([Value.ref b] : List Value).toArray 4) := by
  obtain ⟨hx, hb, hr, hml, hown, hts, hX, hbl, hlocks, hgv⟩ := C0
  obtain ⟨X, x1, x2, x3, x4, hSt⟩ := stx_start hts hX hbl hgv
  obtain ⟨σ2, hp⟩ := pure L ys hL
  rw [← x3, ← x4] at hp
  have hl := lv_entry ([.ref b]) (n := 4) (Nat.le_of_ble_eq_true rfl)
  rw [lg_entry_eq]
  refine law_walk hp l p e s m _ below meth c s.heap [] _ ⟨hx, hb, hml, hown, fun w hw => hts w (List.mem_filter.mp hw).1, hr, hlocks, hSt⟩ ⟨fun q => absurd q (by decide), by omega⟩ ⟨fun k q h => by simp [wl] at h, fun g i _ => ⟨fun _ => rfl, fun _ => rfl⟩⟩ va_S.rf ⟨hl.1, hl.2.1, fun k v hk => ?_⟩
  match k, hk with
  | 0, hk =>
    cases hk
    rw [x2]
    exact hl.2.2 (0, .ref b) List.mem_cons_self
  | 1, hk => cases hk
  | 2, hk => cases hk
  | 3, hk => cases hk
  | k + 4, hk => simp at hk
