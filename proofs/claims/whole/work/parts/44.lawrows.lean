def R_law : String := "NoonVowsLaw"
abbrev mL : Mi := (x, code, 4, ret)
def lw_P (b : Addr) (xs : List Int32) (args : Array Value) (s : State) : Prop := args = #[.ref b] ∧ s.IntsAt b xs ∧ xs.length ≤ 3072 ∧ (Jvm.Cond.and given_1 narrow_1).before args s = true
def lw_Q (_ : Array Value) (s : State) (o : Outcome) (t : State) : Prop := o = .returned (some (.int 1)) ∧ Framed s o t [] 600000 7302250
def lw_Z (below : List Frame) (a : Array Value) (s : State) : State → Prop := fun t => ∃ o, t.status = .running ∧ Ended t below o ∧ lw_Q a s o t
/-- the law's own end, with 1 on the stack, nothing written that was there before, its room as the claim has it -/
theorem lw_ret {args : Array Value} {p : Program} {l : Launch} {e : Env} {s : State} {m : MethodId} {below : List Frame} {meth : Method} {c : Code} (hx : p.tables.exec = Jvm.exec) (hb : c.code = code) (hr : meth.sig.returnType = ret) (hlocks : meth.locks = false) {pc : Nat} {H : Heap} {ls : Array Slot} (hdg : decode code pc = .ok (.ireturn, 1)) : W p l e room_1 s m args below meth c H [] 600000 7302250 (lw_Z below args s) (F0 m pc ls [.int 1]) := by
  intro T hT X
  obtain ⟨fs, hret, hrun, hended, hW, hframe⟩ := X.leave (v := some (.int 1)) (hlocks := hlocks) (fun h => by rw [hr] at h; cases h)
  have hmeth' : T.vm.method? m = some meth := X.method'
  refine ⟨T.setFrames fs, ?_, .returned (some (.int 1)), hrun, hended, rfl, ⟨_, rfl⟩, hW, hframe⟩
  jvm_step X.here [X.here.top, hx, hb, hdg, hmeth', hr, ret, narrow_b1]
  (try refine ⟨rfl, ?_⟩); (try refine ⟨rfl, ?_⟩)
  first | (intro acts; rw [hret _ acts rfl rfl rfl]) | rw [hret _ _ rfl rfl rfl]
  exact Steps.refl _
def lw_At (p : Program) (s : State) (m : MethodId) (meth : Method) (c : Code) (b L : Nat) (xs : Nat → Int32) : Prop :=
  p.tables.exec = Jvm.exec ∧ c.code = code ∧ meth.sig.returnType = ret ∧ c.maxLocals = 4 ∧ s.vm.findClass R_law = some m.cls ∧ (∀ w ∈ lw_tbl, w.before #[Value.ref b] s = true) ∧ va_X b L xs s s.heap ∧ b < s.heap.size ∧ meth.locks = false ∧ (Jvm.Cond.and given_1 narrow_1).before #[Value.ref b] s = true
def AL (X : Cx) (pc : Nat) (ls : List (Option Value)) (st : List Value) (σ : Mem) : Prop :=
  ∀ (l : Launch) (p : Program) (e : Env) (s : State) (m : MethodId) (args : Array Value) (below : List Frame) (meth : Method) (c : Code) (H : Heap) (locs : List Loc) (lsA : Array Slot),
    EnvA X mL p s m args meth c → X.1 = s.heap.size → va_P X.2.1 vwCl (wl X RR σ ALL) H → va_S (Ax X) s.heap H locs → lvo lsA 4 ls →
    W p l e room_1 s m args below meth c H locs 136 13676 (lw_Z below args s) (F0 m pc lsA st)
section ALR
variable {X : Cx} {pc : Nat} {ls : List (Option Value)} {st : List Value} {σ : Mem} {ρ : Type} {res : ρ} {A B : Option ρ}
theorem AL.fewer {ls' : List (Option Value)} (hs : lsub ls' ls) (h : AL X pc ls' st σ) : AL X pc ls st σ := by
  intro l p e s m args below meth c H locs lsA E hB hP hS hl
  exact h l p e s m args below meth c H locs lsA E hB hP hS ⟨hl.1, hl.2.1, fun k v hk => hl.2.2 k v (lsub_at ls' ls hs k v hk)⟩
theorem tq_iconst {n : Int} {v : Int32} (hd : decode code pc = .ok (.iconst n, 1)) (hv : Int32.ofInt n = v) (h : AL X (pc + 1) ls (.int v :: st) σ) : AL X pc ls (st) σ := by
  intro l p e s m args below meth c H locs lsA E hB hP hS hl
  exact lv_iconst E.1 E.2.1 hd hv (h l p e s m args below meth c H locs lsA E hB hP hS hl)
theorem tq_bipush {n : Int} {v : Int32} (hd : decode code pc = .ok (.bipush n, 2)) (hv : (Int8.ofInt n).toInt32 = v) (h : AL X (pc + 2) ls (.int v :: st) σ) : AL X pc ls (st) σ := by
  intro l p e s m args below meth c H locs lsA E hB hP hS hl
  exact lv_bipush E.1 E.2.1 hd hv (h l p e s m args below meth c H locs lsA E hB hP hS hl)
theorem tq_iload_n {k : Fin 4} {y : Int32} (hd : decode code pc = .ok (.iload_n k, 1)) (hk : ls[(k : Nat)]? = some (some (.int y))) (h : AL X (pc + 1) ls (.int y :: st) σ) : AL X pc ls (st) σ := by
  intro l p e s m args below meth c H locs lsA E hB hP hS hl
  exact lv_iload_n E.1 E.2.1 hd rfl (hl.get hk) (h l p e s m args below meth c H locs lsA E hB hP hS hl)
theorem tq_aload_n {k : Fin 4} {g i : Nat} (hd : decode code pc = .ok (.aload_n k, 1)) (hk : ls[(k : Nat)]? = some (some (rf X g i))) (h : AL X (pc + 1) ls (rf X g i :: st) σ) : AL X pc ls (st) σ := by
  intro l p e s m args below meth c H locs lsA E hB hP hS hl
  exact lv_aload_n E.1 E.2.1 hd rfl (hl.get hk) (h l p e s m args below meth c H locs lsA E hB hP hS hl)
theorem tq_xload_n {k : Fin 4} {a : Nat} (hd : decode code pc = .ok (.aload_n k, 1)) (hk : ls[(k : Nat)]? = some (some (.ref a))) (h : AL X (pc + 1) ls (.ref a :: st) σ) : AL X pc ls (st) σ := by
  intro l p e s m args below meth c H locs lsA E hB hP hS hl
  exact lv_aload_n E.1 E.2.1 hd rfl (hl.get hk) (h l p e s m args below meth c H locs lsA E hB hP hS hl)
theorem tq_iadd {y z : Int32} (hd : decode code pc = .ok (.iadd, 1)) (h : AL X (pc + 1) ls (.int (y + z) :: st) σ) : AL X pc ls (.int z :: .int y :: st) σ := by
  intro l p e s m args below meth c H locs lsA E hB hP hS hl
  exact lv_iadd E.1 E.2.1 hd (h l p e s m args below meth c H locs lsA E hB hP hS hl)
theorem tq_isub {y z : Int32} (hd : decode code pc = .ok (.isub, 1)) (h : AL X (pc + 1) ls (.int (y - z) :: st) σ) : AL X pc ls (.int z :: .int y :: st) σ := by
  intro l p e s m args below meth c H locs lsA E hB hP hS hl
  exact lv_isub E.1 E.2.1 hd (h l p e s m args below meth c H locs lsA E hB hP hS hl)
theorem tq_iand {y z : Int32} (hd : decode code pc = .ok (.iand, 1)) (h : AL X (pc + 1) ls (.int (y &&& z) :: st) σ) : AL X pc ls (.int z :: .int y :: st) σ := by
  intro l p e s m args below meth c H locs lsA E hB hP hS hl
  exact lv_iand E.1 E.2.1 hd (h l p e s m args below meth c H locs lsA E hB hP hS hl)
theorem tq_goto {off : Int} {tgt : Nat} (hd : decode code pc = .ok (.goto off, 3)) (ht : (pc : Int) + off = (tgt : Int)) (h : AL X tgt ls st σ) : AL X pc ls st σ := by
  intro l p e s m args below meth c H locs lsA E hB hP hS hl
  exact lv_goto E.1 E.2.1 hd ht (h l p e s m args below meth c H locs lsA E hB hP hS hl)
theorem tq_iinc {k : Nat} {n : Int} {y v : Int32} {ls' : List (Option Value)} (hd : decode code pc = .ok (.iinc k n, 3)) (hk : ls[k]? = some (some (.int y))) (hv : y + Int32.ofInt n = v) (hn : k < 4) (hp : ∀ (j : Nat) (w : Value), ls[j]? = some (some w) → j + 1 = k → w.category = 1) (he : ls.set k (some (.int v)) = ls') (h : AL X (pc + 3) ls' st σ) : AL X pc ls st σ := by
  intro l p e s m args below meth c H locs lsA E hB hP hS hl
  obtain ⟨ls2, e2, h2⟩ := hl.store (k := k) (v := .int v) hn rfl hp
  subst he
  subst hv
  have hx := E.1
  have hb : c.code = code := E.2.1
  have hg := hl.get hk
  intro T hT Z
  obtain ⟨t, a, b⟩ := h l p e s m args below meth c H locs ls2 E hB hP hS h2 T hT Z
  refine ⟨t, ?_, b⟩
  jvm_step Z.here [Z.here.top, ↓top_set Z.here.top, hx, hb, hd, hg, e2]
  exact a
theorem tq_istore_n {k : Fin 4} {y : Int32} {ls' : List (Option Value)} (hd : decode code pc = .ok (.istore_n k, 1)) (hk : (k : Nat) < 4) (hp : ∀ (j : Nat) (w : Value), ls[j]? = some (some w) → j + 1 = (k : Nat) → w.category = 1) (he : ls.set (k : Nat) (some (.int y)) = ls') (h : AL X (pc + 1) ls' st σ) : AL X pc ls (.int y :: st) σ := by
  intro l p e s m args below meth c H locs lsA E hB hP hS hl
  obtain ⟨ls2, e2, h2⟩ := hl.store (k := (k : Nat)) (v := .int y) hk rfl hp
  subst he
  have hx := E.1
  have hb : c.code = code := E.2.1
  intro T hT Z
  obtain ⟨t, a, b⟩ := h l p e s m args below meth c H locs ls2 E hB hP hS h2 T hT Z
  refine ⟨t, ?_, b⟩
  jvm_step Z.here [Z.here.top, ↓top_set Z.here.top, hx, hb, hd, e2]
  exact a
theorem tr_icmp_gt {y z : Int32} {off : Int} {tgt : Nat} {inst : Decidable (z < y)} (hd : decode code pc = .ok (.if_icmp .gt off, 3)) (ht : (pc : Int) + off = (tgt : Int)) (hh : @ite _ (z < y) inst A B = some res) (h1 : z < y → A = some res → AL X tgt ls st σ) (h2 : ¬ z < y → B = some res → AL X (pc + 3) ls st σ) : AL X pc ls (.int z :: .int y :: st) σ := by
  intro l p e s m args below meth c H locs lsA E hB hP hS hl
  exact lv_icmp_gt E.1 E.2.1 hd ht (fun q => by rw [if_pos q] at hh; exact h1 q hh l p e s m args below meth c H locs lsA E hB hP hS hl) (fun q => by rw [if_neg q] at hh; exact h2 q hh l p e s m args below meth c H locs lsA E hB hP hS hl)
theorem tr_icmp_eq {y z : Int32} {off : Int} {tgt : Nat} {inst : Decidable (y = z)} (hd : decode code pc = .ok (.if_icmp .eq off, 3)) (ht : (pc : Int) + off = (tgt : Int)) (hh : @ite _ (y = z) inst A B = some res) (h1 : y = z → A = some res → AL X tgt ls st σ) (h2 : ¬ y = z → B = some res → AL X (pc + 3) ls st σ) : AL X pc ls (.int z :: .int y :: st) σ := by
  intro l p e s m args below meth c H locs lsA E hB hP hS hl
  exact lv_icmp_eq E.1 E.2.1 hd ht (fun q => by rw [if_pos q] at hh; exact h1 q hh l p e s m args below meth c H locs lsA E hB hP hS hl) (fun q => by rw [if_neg q] at hh; exact h2 q hh l p e s m args below meth c H locs lsA E hB hP hS hl)
theorem tq_tin {dflt lo hi : Int} {offs : Array Int} {len : Nat} {y : Int32} {off : Int} {tgt : Nat} (hd : decode code pc = .ok (.tableswitch dflt lo hi offs, len)) (v : Int32) (hx : y = v) (h1 : ¬ v.toInt < lo) (h2 : ¬ hi < v.toInt) (ho : offs[(v.toInt - lo).toNat]? = some off) (ht : (pc : Int) + off = (tgt : Int)) (h : AL X tgt ls st σ) : AL X pc ls (.int y :: st) σ := by
  subst hx
  intro l p e s m args below meth c H locs lsA E hB hP hS hl
  exact lv_tableIn E.1 E.2.1 hd h1 h2 ho ht (h l p e s m args below meth c H locs lsA E hB hP hS hl)
theorem tq_tout {dflt lo hi : Int} {offs : Array Int} {len : Nat} {y : Int32} {tgt : Nat} (hd : decode code pc = .ok (.tableswitch dflt lo hi offs, len)) (h1 : y.toInt < lo ∨ hi < y.toInt) (ht : (pc : Int) + dflt = (tgt : Int)) (h : AL X tgt ls st σ) : AL X pc ls (.int y :: st) σ := by
  intro l p e s m args below meth c H locs lsA E hB hP hS hl
  exact lv_tableOut E.1 E.2.1 hd h1 ht (h l p e s m args below meth c H locs lsA E hB hP hS hl)
theorem tr_sld {v : Int32} {k : Nat → Option ρ} (hd : decode code pc = .ok (.iaload, 1)) (hh : bnd (ix (xL X) v) k = some res) (h : ∀ j, j < xL X → k j = some res → AL X (pc + 1) ls (.int (xs X j) :: st) σ) : AL X pc ls (.int v :: .ref (xb X) :: st) σ := by
  obtain ⟨j, e1, h2⟩ := bnd_some hh
  obtain ⟨x1, x2, x3⟩ := ix_in e1
  have h := h j x3 h2
  subst x2
  intro l p e s m args below meth c H locs lsA E hB hP hS hl
  obtain ⟨hX, hb⟩ := E.2.2.2.2.2.2.2.2.2.1
  exact va_sld E.1 E.2.1 hX (Nat.lt_of_lt_of_le hb E.2.2.2.2.2.2.2.2.2.2.1) (Nat.not_le.mpr hb) hS x1 hd (h l p e s m args below meth c H locs lsA E hB hP hS hl)
theorem tq_slen (hd : decode code pc = .ok (.arraylength, 1)) (h : AL X (pc + 1) ls (.int (Int32.ofNat (xL X)) :: st) σ) : AL X pc ls (.ref (xb X) :: st) σ := by
  intro l p e s m args below meth c H locs lsA E hB hP hS hl
  obtain ⟨hX, hb⟩ := E.2.2.2.2.2.2.2.2.2.1
  exact va_slen E.1 E.2.1 hX (Nat.lt_of_lt_of_le hb E.2.2.2.2.2.2.2.2.2.2.1) (Nat.not_le.mpr hb) hS hd (h l p e s m args below meth c H locs lsA E hB hP hS hl)
theorem tq_end {y : Int32} {σ2 : Mem} (hd : decode code pc = .ok (.ireturn, 1)) (hh : some (y, σ) = some ((1 : Int32), σ2)) : AL X pc ls [.int y] σ := by
  cases hh
  intro l p e s m args below meth c H locs lsA E hB hP hS hl
  refine va_forget (fun q hq => by have := hS.2.2 q hq; rw [← hB]; exact this) ?_
  refine W.widen (k := 600000) (n := 7302250) (Nat.le_of_ble_eq_true rfl) (Nat.le_of_ble_eq_true rfl) ?_
  exact lw_ret E.1 E.2.1 E.2.2.2.2.2.1 E.2.2.2.2.2.2.1 hd
theorem call_goL {p : Program} {l : Launch} {e : Env} {s : State} {m : MethodId} {args : Array Value} {below : List Frame} {meth : Method} {c : Code} {H : Heap} {locs : List Loc} {lsA : Array Slot} {st0 rest : List Value} {r1 : Option Value} {σ1 : Mem} {a : Array Value} {Q : State → Prop} {R : Room} {kc ks : Nat} (hr : va_Run p l e R s m args below meth c H locs kc ks 0 0 (F0 m pc lsA st0) rest (QcX X r1 σ1 a) (Ax X)) (hS : va_S (Ax X) s.heap H locs)
    (kk : ∀ (H1 : Heap) (locs1 : List Loc), va_P X.2.1 vwCl (wl X RR σ1 ALL) H1 → va_S (Ax X) s.heap H1 locs1 → W p l e R s m args below meth c H1 locs1 kc ks Q (F0 m (pc + 3) lsA (r1.toList ++ rest))) : W p l e R s m args below meth c H locs kc ks Q (F0 m pc lsA st0) := by
  intro T hT Z
  obtain ⟨v, st₀, t, T', L, h0, Z', hL, e1, e2, ⟨⟨hv, hp⟩, hz, hk⟩, sg⟩ := hr T hT Z
  cases hv
  rw [h0] at hz hk
  obtain ⟨t2, a1, b1⟩ := kk T'.heap (locs ++ L) (by rw [e1]; exact hp)
    ⟨Nat.le_trans hS.1 (by rw [e1]; exact hz), fun q h1 h2 => by rw [e1, hk q (Nat.lt_of_lt_of_le h1 hS.1) h2]; exact hS.2.1 q h1 h2, fun q hq => by
      rcases List.mem_append.mp hq with h | h
      · exact hS.2.2 q h
      · exact hL q h⟩ T' rfl Z'
  exact ⟨t2, sg t2 a1, b1⟩
theorem tq_callV {idx n : Nat} {M' : Mi} {d' g i : Nat} {As rest : List Value} {v1 : Value} {σ1 : Mem} {C : String} {T : u_T} {N : Nat} (hd : decode code pc = .ok (.invokevirtual idx, 3)) (hw : CwB RL idx M' n) (hwi : CwI M') (hc : vwCl[g]? = some (C, T, N)) (hq : C = M'.1.cls) (hg : g < 9) (hi : i < cnt g) (hM : Tri X d' M' (rf X g i :: As) σ (some v1) σ1) (hdd : d' + 1 ≤ 2000) (hn : As.length = n) (hst : st = As.reverse ++ rf X g i :: rest) (hW : (rest.map fun v => v.category).sum ≤ 8) (h : AL X (pc + 3) ls (v1 :: rest) σ1) : AL X pc ls st σ := by
  subst hst
  subst hq
  intro l p e s m args below meth c H locs lsA E hB hP hS hl
  have he : (wl X RR σ ALL)[pix g i]? = some (X.1 + pix g i, .inr (g, objE X.1 RR σ g i)) := by
    rw [wl_at (by omega) hi (pl_lt (by omega) hi), cellE_obj hg]
  have hrv := va_recv E.2.2.2.2.2.2.2.1.1 hP hc he
  have hcb : CallB room_1 s args RL idx M'.1 M'.2.1 M'.2.2.1 M'.2.2.2 (wsm M') (rmd d') 0 0 n := by
    refine callB_of n E.2.2.2.2.1 (gw_goodM hw.2.2.1) rfl rfl rfl (E.2.2.2.2.1 _ hw.2.1) (E.2.2.2.2.1 _ hw.1) hw.2.2.2.1 ⟨?_, ?_⟩
    · show d' + 1 ≤ 2048
      omega
    · have := hw.2.2.2.2
      show 8 + (M'.2.2.1 + 11) + 40 * d' ≤ 84000
      omega
  refine call_goL (va_runV (l := l) (Ts := GW) (own := RL) (C := M'.1.cls) (As := As) (rest := rest) (b := X.1 + pix g i) ⟨E.1, E.2.1, E.2.2.1, E.2.2.2.1, E.2.2.2.2.1⟩ (hM l) ⟨hcb, E.2.2.2.2.1 _ hwi.1, E.2.2.2.2.1 _ hwi.2⟩ ⟨PcX.blind X _ _, hrv, fun U hU hW => ⟨rfl, E.2.2.2.2.2.2.2.call hU hW hS, by rw [hU]; exact hP⟩⟩ rfl hn hl.1 rfl (lv_room hW) hd ⟨Nat.le_of_ble_eq_true rfl, Nat.le_of_ble_eq_true rfl⟩) hS (fun H1 locs1 hP1 hS1 => ?_)
  exact h l p e s m args below meth c H1 locs1 lsA E hB hP1 hS1 hl
theorem tcV_ir {idx n : Nat} {M' : Mi} {d' g i : Nat} {As rest : List Value} {C : String} {T : u_T} {N : Nat} {f : Option Int32} {k : Int32 → Option ρ} (hd : decode code pc = .ok (.invokevirtual idx, 3)) (hw : CwB RL idx M' n) (hwi : CwI M') (hc : vwCl[g]? = some (C, T, N)) (hq : C = M'.1.cls) (hg : g < 9) (hi : i < cnt g) (hh : bnd f k = some res) (hM : ∀ a, f = some a → Tri X d' M' (rf X g i :: As) σ (some (.int a)) σ) (hdd : d' + 1 ≤ 2000) (hn : As.length = n) (hst : st = As.reverse ++ rf X g i :: rest) (hW : (rest.map fun v => v.category).sum ≤ 8) (h : ∀ a, f = some a → k a = some res → AL X (pc + 3) ls (.int a :: rest) σ) : AL X pc ls st σ := by
  obtain ⟨a, e, h2⟩ := bnd_some hh
  exact tq_callV hd hw hwi hc hq hg hi (hM a e) hdd hn hst hW (h a e h2)
theorem tcV_iw {idx n : Nat} {M' : Mi} {d' g i : Nat} {As rest : List Value} {C : String} {T : u_T} {N : Nat} {f : Option (Int32 × Mem)} {k : (Int32 × Mem) → Option ρ} (hd : decode code pc = .ok (.invokevirtual idx, 3)) (hw : CwB RL idx M' n) (hwi : CwI M') (hc : vwCl[g]? = some (C, T, N)) (hq : C = M'.1.cls) (hg : g < 9) (hi : i < cnt g) (hh : bnd f k = some res) (hM : ∀ a, f = some a → Tri X d' M' (rf X g i :: As) σ (some (.int a.1)) a.2) (hdd : d' + 1 ≤ 2000) (hn : As.length = n) (hst : st = As.reverse ++ rf X g i :: rest) (hW : (rest.map fun v => v.category).sum ≤ 8) (h : ∀ a, f = some a → k a = some res → AL X (pc + 3) ls (.int a.1 :: rest) a.2) : AL X pc ls st σ := by
  obtain ⟨a, e, h2⟩ := bnd_some hh
  exact tq_callV hd hw hwi hc hq hg hi (hM a e) hdd hn hst hW (h a e h2)
end ALR
