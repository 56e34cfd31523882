abbrev FL : List Cond := flatC (Jvm.Cond.and given_1 narrow_1)
def tmT (k : Nat) : Term := .static "NoonVows" (stN k) "[I"
def tmS (i : Nat) : Term := .string RX4 (txI.getD i 0)
theorem fl_arr : ∀ k, k < 3 → Cond.arrayOf (tmT k) .int ∈ FL := by decide +kernel
theorem fl_len : ∀ k, k < 3 → Cond.eq (.length (tmT k)) (.int (Int32.ofNat 6)) ∈ FL := by decide +kernel
theorem fl_el : ∀ k, k < 3 → ∀ j, j < 6 → Cond.eq (.elem (tmT k) (.int (Int32.ofNat j))) (.int ((stR k).getD j 0)) ∈ FL := by decide +kernel
theorem fl_cs : Cond.eq (.static "java/lang/String" "COMPACT_STRINGS" "Z") (.int 1) ∈ FL := by decide +kernel
theorem fl_sf : Cond.isRef (.static "jdk/internal/util/Preconditions" "SIOOBE_FORMATTER" "Ljava/util/function/BiFunction;") ∈ FL := by decide +kernel
theorem fl_ex : ∀ i, i < 11 → Cond.exactly (tmS i) "java/lang/String" ∈ FL := by decide +kernel
theorem fl_co : ∀ i, i < 11 → Cond.eq (.field (tmS i) "java/lang/String" "coder" "B") (.int 0) ∈ FL := by decide +kernel
theorem fl_ar : ∀ i, i < 11 → Cond.arrayOf (.field (tmS i) "java/lang/String" "value" "[B") .byte ∈ FL := by decide +kernel
theorem fl_le : ∀ i, i < 11 → Cond.eq (.length (.field (tmS i) "java/lang/String" "value" "[B")) (.int (Int32.ofNat (txL.getD i 0))) ∈ FL := by decide +kernel
theorem fl_by : ∀ i, i < 11 → ∀ j, j < txL.getD i 0 → Cond.eq (.elem (.field (tmS i) "java/lang/String" "value" "[B") (.int (Int32.ofNat j))) (.int ((txB.getD i []).getD j 0)) ∈ FL := by decide +kernel
theorem fl_ne : ∀ i, i < 11 → ∀ j, j < 11 → i ≠ j → Cond.not (Cond.eq (tmS i) (tmS j)) ∈ FL ∨ Cond.not (Cond.eq (tmS j) (tmS i)) ∈ FL := by decide +kernel
theorem wd_st : ∀ k, k < 3 → Cond.laysStatic "NoonVows" (stN k) "[I" ∈ lw_tbl := by decide +kernel
theorem wd_cs : Cond.laysStatic "java/lang/String" "COMPACT_STRINGS" "Z" ∈ lw_tbl := by decide +kernel
theorem wd_sf : Cond.laysStatic "jdk/internal/util/Preconditions" "SIOOBE_FORMATTER" "Ljava/util/function/BiFunction;" ∈ lw_tbl := by decide +kernel
theorem wd_in : Cond.initialized "NoonVows" ∈ lw_tbl ∧ Cond.initialized "java/lang/String" ∈ lw_tbl ∧ Cond.initialized "jdk/internal/util/Preconditions" ∈ lw_tbl := by decide +kernel
theorem wd_sr : ∀ i, i < 11 → Cond.stringRef RX4 (txI.getD i 0) (txS.getD i "") ∈ lw_tbl := by decide +kernel
theorem wd_ac : Cond.arrayClass .int ∈ lw_tbl ∧ Cond.arrayClass .byte ∈ lw_tbl ∧ Cond.arrayClass .short ∈ lw_tbl := by decide +kernel
theorem wd_ao : Cond.arrayOver (.object RX1) ∈ lw_tbl ∧ Cond.arrayOver (.object RX3) ∈ lw_tbl ∧ Cond.arrayOver (.object RX5) ∈ lw_tbl ∧ Cond.arrayOver (.object RX6) ∈ lw_tbl := by decide +kernel
theorem nw_before {w : Cond} (hn : isNest w = true) {A : Array Value} {s : State} (h : w.before A s = true) : va_Nw w s := by
  cases w <;> first | exact va_Nw.of rfl h | (cases hn; done) | (rename_i ty; cases ty <;> first | exact h | cases hn)
theorem ac_of {A : Array Value} {s : State} {ty : FieldType} (hp : ∀ C, ty ≠ .object C) (h : (Cond.arrayClass ty).before A s = true) : ∃ cA, ArrOfT s cA ty ∧ va_RA s cA ty := by
  obtain ⟨c, k, comp, h1, h2, h3⟩ := Cond.arrayClass_spec (args := A) (first := s) (o := none) (idx := []) h
  refine ⟨c, fun n z => ⟨fun k h => (by cases h), k, h2, comp, h3⟩, ?_⟩
  cases ty with
  | object C => exact absurd rfl (hp C)
  | _ => exact h1
theorem ao_of {A : Array Value} {s : State} {C : String} (h : (Cond.arrayOver (.object C)).before A s = true) : ∃ cA, ArrOfT s cA (.object C) ∧ va_RA s cA (.object C) := by
  obtain ⟨comp, c, k, h1, -, h2, h3, h4⟩ := Cond.arrayOver_spec (args := A) (first := s) (o := none) (idx := []) h
  exact ⟨c, fun n z => ⟨fun k h => (by cases h), k, h2, comp, h3⟩, k, comp, h2, h3, h1, h4⟩
set_option maxRecDepth 100000 in
set_option maxHeartbeats 4000000 in
theorem stx_start {s : State} {b L : Nat} {ys : Nat → Int32} (hts : ∀ w ∈ lw_tbl, w.before #[Value.ref b] s = true) (hX : va_X b L ys s s.heap) (hbl : b < s.heap.size) (hgv : (Jvm.Cond.and given_1 narrow_1).before #[Value.ref b] s = true) : ∃ X : Cx, X.1 = s.heap.size ∧ xb X = b ∧ xL X = L ∧ xs X = ys ∧ StX X s := by
  have hs := flat_of_before _ hgv
  obtain ⟨c0, iS0, hKn0⟩ := u_known (C := RX0) (T := TX0) (N := 13) (n := 13) hts (fun w hw => (List.mem_filter.mp (uX0 w hw)).1) (hts (.instantiable RX0 13) (List.mem_filter.mp in_X0).1)
  obtain ⟨c1, iS1, hKn1⟩ := u_known (C := RX1) (T := TX1) (N := 4) (n := 4) hts (fun w hw => (List.mem_filter.mp (uX1 w hw)).1) (hts (.instantiable RX1 4) (List.mem_filter.mp in_X1).1)
  obtain ⟨c2, iS2, hKn2⟩ := u_known (C := RX2) (T := TX2) (N := 2) (n := 2) hts (fun w hw => (List.mem_filter.mp (uX2 w hw)).1) (hts (.instantiable RX2 2) (List.mem_filter.mp in_X2).1)
  obtain ⟨c3, iS3, hKn3⟩ := u_known (C := RX3) (T := TX3) (N := 5) (n := 5) hts (fun w hw => (List.mem_filter.mp (uX3 w hw)).1) (hts (.instantiable RX3 5) (List.mem_filter.mp in_X3).1)
  obtain ⟨c4, iS4, hKn4⟩ := u_known (C := RX4) (T := TX4) (N := 6) (n := 6) hts (fun w hw => (List.mem_filter.mp (uX4 w hw)).1) (hts (.instantiable RX4 6) (List.mem_filter.mp in_X4).1)
  obtain ⟨c5, iS5, hKn5⟩ := u_known (C := RX5) (T := TX5) (N := 3) (n := 3) hts (fun w hw => (List.mem_filter.mp (uX5 w hw)).1) (hts (.instantiable RX5 3) (List.mem_filter.mp in_X5).1)
  obtain ⟨c6, iS6, hKn6⟩ := u_known (C := RX6) (T := TX6) (N := 4) (n := 4) hts (fun w hw => (List.mem_filter.mp (uX6 w hw)).1) (hts (.instantiable RX6 4) (List.mem_filter.mp in_X6).1)
  obtain ⟨c7, iS7, hKn7⟩ := u_known (C := RX7) (T := TX7) (N := 12) (n := 12) hts (fun w hw => (List.mem_filter.mp (uX7 w hw)).1) (hts (.instantiable RX7 12) (List.mem_filter.mp in_X7).1)
  obtain ⟨c8, iS8, hKn8⟩ := u_known (C := RX8) (T := TX8) (N := 33) (n := 33) hts (fun w hw => (List.mem_filter.mp (uX8 w hw)).1) (hts (.instantiable RX8 33) (List.mem_filter.mp in_X8).1)
  obtain ⟨dC, dI, hKc⟩ : ∃ (dC : Nat → ClassId) (dI : Nat → Nat → Nat), ∀ (k : Nat) (q : vw_C), vwCl[k]? = some q → u_Kn s q.1 q.2.1 q.2.2 (dC k) (dI k) := by
    refine ⟨fun k => [c0, c1, c2, c3, c4, c5, c6, c7, c8].getD k c8, fun k => [iS0, iS1, iS2, iS3, iS4, iS5, iS6, iS7, iS8].getD k iS8, ?_⟩
    intro k q hq
    match k, hq with
    | 0, hq => cases hq; exact hKn0
    | 1, hq => cases hq; exact hKn1
    | 2, hq => cases hq; exact hKn2
    | 3, hq => cases hq; exact hKn3
    | 4, hq => cases hq; exact hKn4
    | 5, hq => cases hq; exact hKn5
    | 6, hq => cases hq; exact hKn6
    | 7, hq => cases hq; exact hKn7
    | 8, hq => cases hq; exact hKn8
    | k + 9, hq => simp [vwCl] at hq
  obtain ⟨a1, g1⟩ := ac_of (fun C h => by cases h) (hts _ wd_ac.1)
  obtain ⟨a2, g2⟩ := ac_of (fun C h => by cases h) (hts _ wd_ac.2.1)
  obtain ⟨a3, g3⟩ := ac_of (fun C h => by cases h) (hts _ wd_ac.2.2)
  obtain ⟨a4, g4⟩ := ao_of (hts _ wd_ao.1)
  obtain ⟨a5, g5⟩ := ao_of (hts _ wd_ao.2.1)
  obtain ⟨a6, g6⟩ := ao_of (hts _ wd_ao.2.2.1)
  obtain ⟨a7, g7⟩ := ao_of (hts _ wd_ao.2.2.2)
  have hA : ∀ a : Nat, a < s.heap.size → ¬ (fun q : Nat => s.heap.size ≤ q) a := fun a h q => absurd q (Nat.not_le.mpr h)
  have hT : ∀ k, ∃ t : Nat, k < 3 → (tmT k).eval #[Value.ref b] s none [] s = some (.ref t) ∧ va_T .int t 6 (fun j => .int ((stR k).getD j 0)) (fun q : Nat => s.heap.size ≤ q) s s.heap := by
    intro k
    by_cases hk : k < 3
    · obtain ⟨t, h1, h2⟩ := va_Tof (f := fun j => .int ((stR k).getD j 0)) (by decide) (hs _ (fl_arr k hk)) (va_eqt (hs _ (fl_len k hk))) (fun j hj => va_eqt (hs _ (fl_el k hk j hj))) hA
      exact ⟨t, fun _ => ⟨h1, h2⟩⟩
    · exact ⟨0, fun h => absurd h hk⟩
  obtain ⟨adT, hadT⟩ := Classical.axiomOfChoice hT
  obtain ⟨adK, adV, hSt, hev⟩ := vk_Sof (N := 11) (tm := tmS) (len := txL) (byt := txB) (A := fun q : Nat => s.heap.size ≤ q) (by decide +kernel) (fun i hi => hs _ (fl_ex i hi)) (fun i hi => hs _ (fl_co i hi)) (fun i hi => hs _ (fl_ar i hi)) (fun i hi => hs _ (fl_le i hi)) (fun i hi j hj => hs _ (fl_by i hi j hj)) (fun i j hi hj hij => (fl_ne i hi j hj hij).imp (hs _) (hs _)) hA
  refine ⟨(s.heap.size, (dC, dI), fun k => [0, a1, a2, a3, a4, a5, a6, a7].getD k 0, adT, adK, adV, b, L, ys), rfl, rfl, rfl, rfl, ⟨⟨hKc, ?_⟩, ?_⟩, ⟨?_, ?_⟩, ⟨hX, hbl⟩, Nat.le_refl _, ?_, hSt, ?_⟩
  · intro k q hq
    match k, hq with
    | 0, hq => cases hq; exact g1
    | 1, hq => cases hq; exact g2
    | 2, hq => cases hq; exact g3
    | 3, hq => cases hq; exact g4
    | 4, hq => cases hq; exact g5
    | 5, hq => cases hq; exact g6
    | 6, hq => cases hq; exact g7
    | k + 7, hq => simp [tysX] at hq
  · intro w hw
    have hm := List.mem_filter.mp hw
    exact nw_before hm.2 (hts w hm.1)
  · intro k hk
    exact ⟨va_Zof (hts _ (wd_st k hk)) (hts _ wd_in.1) (hadT k hk).1 hA, (hadT k hk).2⟩
  · exact va_Zof (hts _ wd_cs) (hts _ wd_in.2.1) (va_eqi (hs _ fl_cs)) hA
  · intro i hi
    exact vk_R.of (hts _ (wd_sr i hi)) (hev i hi)
  · exact va_Zqof (hts _ wd_sf) (hts _ wd_in.2.2) (hs _ fl_sf) hA
