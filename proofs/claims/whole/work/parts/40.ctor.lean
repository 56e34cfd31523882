def Fr (σ : Mem) (ρ : Rho) (a : Nat) : Prop := ∀ g i, a ≤ pix g i → (∀ k, σ g i k = 0) ∧ ∀ k, ρ g i k = none
def rput (ρ : Rho) (g i k : Nat) (q : Nat × Nat) : Rho := fun g' i' k' => if g' = g ∧ i' = i ∧ k' = k then some q else ρ g' i' k'
theorem Fr.mono {σ : Mem} {ρ : Rho} {a b : Nat} (h : Fr σ ρ a) (hab : a ≤ b) : Fr σ ρ b := fun g i hi => h g i (Nat.le_trans hab hi)
theorem Fr.mput {σ : Mem} {ρ : Rho} {a g i k : Nat} {v : Int32} (h : Fr σ ρ a) (hi : pix g i < a) : Fr (mput σ g i k v) ρ a := by
  intro g' i' hp
  have hne : (g', i') ≠ (g, i) := by rintro e; cases e; omega
  rw [mput_cell hne]
  exact h g' i' hp
theorem rput_cell {ρ : Rho} {g i k g' i' : Nat} {q : Nat × Nat} (h : (g', i') ≠ (g, i)) : rput ρ g i k q g' i' = ρ g' i' := by
  funext k'
  unfold rput
  rw [if_neg]
  rintro ⟨rfl, rfl, -⟩
  exact h rfl
theorem Fr.rput {σ : Mem} {ρ : Rho} {a g i k : Nat} {q : Nat × Nat} (h : Fr σ ρ a) (hi : pix g i < a) : Fr σ (rput ρ g i k q) a := by
  intro g' i' hp
  have hne : (g', i') ≠ (g, i) := by rintro e; cases e; omega
  rw [rput_cell hne]
  exact h g' i' hp
theorem wl_push {X : Cx} {ρ : Rho} {σ : Mem} {a g i : Nat} (h : PL[a]? = some (g, i)) : wl X ρ σ (a + 1) = wl X ρ σ a ++ [(X.1 + a, cellE X ρ σ g i)] := by
  have hlt := (List.getElem?_eq_some_iff.mp h).1
  have h0 := hlt
  rw [pl_len] at h0
  have h1 := pl_pix a h0
  rw [List.getD_eq_getElem?_getD, h] at h1
  have h1 : pix g i = a := h1
  unfold wl
  rw [List.take_add_one, h]
  simp [h1]
/-- the world while it is made: a cells of the plan are there -/
def CWo (X : Cx) (ρ : Rho) (σ : Mem) (a : Nat) (H : Heap) : Prop := va_P X.2.1 vwCl (wl X ρ σ a) H ∧ Fr σ ρ a
def AG (X : Cx) (R : Room) (M : Mi) (QQ : List Frame → Array Value → State → State → Prop) (pc : Nat) (ls : List (Option Value)) (st : List Value) (ρ : Rho) (σ : Mem) (a kc ks : Nat) : Prop :=
  ∀ (l : Launch) (p : Program) (e : Env) (s : State) (m : MethodId) (args : Array Value) (below : List Frame) (meth : Method) (c : Code) (H : Heap) (locs : List Loc) (lsA : Array Slot),
    EnvA X M p s m args meth c → (M.1.name = "<init>" → meth.name = "<init>") ∧ s.heap.size + kc = X.1 + a → CWo X ρ σ a H → va_S (Ax X) s.heap H locs → lvo lsA M.2.2.1 ls →
    W p l e R s m args below meth c H locs kc ks (QQ below args s) (F0 m pc lsA st)
theorem n_sz {X : Cx} {ρ : Rho} {σ : Mem} {a : Nat} {p : Program} {l : Launch} {e : Env} {R : Room} {s : State} {m : MethodId} {args : Array Value} {below : List Frame} {meth : Method} {c : Code} {H : Heap} {locs : List Loc} {kc ks : Nat} {Q : State → Prop} {g : JFrame} (hC : CWo X ρ σ a H) (ha : a ≤ 136) (hz : s.heap.size + kc = X.1 + a) (hS : va_S (Ax X) s.heap H locs) (h0 : X.1 ≤ s.heap.size) (h : H.size = X.1 + a → W p l e R s m args below meth c H locs kc ks Q g) : W p l e R s m args below meth c H locs kc ks Q g := by
  intro T hT Z
  refine h ?_ T hT Z
  have hup : T.heap.size ≤ s.heap.size + kc := Z.same.2.2.1
  rw [hT] at hup
  have hlo : X.1 + a ≤ H.size := by
    cases a with
    | zero => exact Nat.le_trans h0 hS.1
    | succ b =>
      cases hb : PL[b]? with
      | none =>
        have hb2 : 136 ≤ b := by
          have q := List.getElem?_eq_none_iff.mp hb
          rw [pl_len] at q
          exact q
        omega
      | some q =>
        obtain ⟨g, i⟩ := q
        have hlt := (List.getElem?_eq_some_iff.mp hb).1
        have e1 : (wl X ρ σ (b + 1))[b]? = some (X.1 + pix g i, cellE X ρ σ g i) := by
          unfold wl
          rw [List.getElem?_map, List.getElem?_take_of_lt (Nat.lt_succ_self b), hb]
          rfl
        have h3 := (hC.1 b _ e1).lt
        rw [pl_len] at hlt
        have h1 := pl_pix b hlt
        rw [List.getD_eq_getElem?_getD, hb] at h1
        have h1 : pix g i = b := h1
        have h3 : X.1 + pix g i < H.size := h3
        omega
  omega
section AGR
variable {X : Cx} {R : Room} {M : Mi} {QQ : List Frame → Array Value → State → State → Prop} {pc : Nat} {ls : List (Option Value)} {st : List Value} {ρ : Rho} {σ : Mem} {a kc ks : Nat}
theorem n_iconst {n : Int} {v : Int32} (hd : decode M.2.1 pc = .ok (.iconst n, 1)) (hv : Int32.ofInt n = v) (h : AG X R M QQ (pc + 1) ls (.int v :: st) ρ σ a kc ks) : AG X R M QQ pc ls (st) ρ σ a kc ks := by
  intro l p e s m args below meth c H locs lsA E hmn hC hS hl
  exact lv_iconst E.1 E.2.1 hd hv (h l p e s m args below meth c H locs lsA E hmn hC hS hl)
theorem n_bipush {n : Int} {v : Int32} (hd : decode M.2.1 pc = .ok (.bipush n, 2)) (hv : (Int8.ofInt n).toInt32 = v) (h : AG X R M QQ (pc + 2) ls (.int v :: st) ρ σ a kc ks) : AG X R M QQ pc ls (st) ρ σ a kc ks := by
  intro l p e s m args below meth c H locs lsA E hmn hC hS hl
  exact lv_bipush E.1 E.2.1 hd hv (h l p e s m args below meth c H locs lsA E hmn hC hS hl)
theorem n_sipush {n : Int} {v : Int32} (hd : decode M.2.1 pc = .ok (.sipush n, 3)) (hv : (Int16.ofInt n).toInt32 = v) (h : AG X R M QQ (pc + 3) ls (.int v :: st) ρ σ a kc ks) : AG X R M QQ pc ls (st) ρ σ a kc ks := by
  intro l p e s m args below meth c H locs lsA E hmn hC hS hl
  exact lv_sipush E.1 E.2.1 hd hv (h l p e s m args below meth c H locs lsA E hmn hC hS hl)
theorem n_iload_n {k : Fin 4} {x : Int32} (hd : decode M.2.1 pc = .ok (.iload_n k, 1)) (hk : ls[(k : Nat)]? = some (some (.int x))) (h : AG X R M QQ (pc + 1) ls (.int x :: st) ρ σ a kc ks) : AG X R M QQ pc ls (st) ρ σ a kc ks := by
  intro l p e s m args below meth c H locs lsA E hmn hC hS hl
  exact lv_iload_n E.1 E.2.1 hd rfl (hl.get hk) (h l p e s m args below meth c H locs lsA E hmn hC hS hl)
theorem n_aload_n {k : Fin 4} {g i : Nat} (hd : decode M.2.1 pc = .ok (.aload_n k, 1)) (hk : ls[(k : Nat)]? = some (some (rf X g i))) (h : AG X R M QQ (pc + 1) ls (rf X g i :: st) ρ σ a kc ks) : AG X R M QQ pc ls (st) ρ σ a kc ks := by
  intro l p e s m args below meth c H locs lsA E hmn hC hS hl
  exact lv_aload_n E.1 E.2.1 hd rfl (hl.get hk) (h l p e s m args below meth c H locs lsA E hmn hC hS hl)
theorem n_dup {b : Value} (hd : decode M.2.1 pc = .ok (.dup, 1)) (ha : b.category = 1) (h : AG X R M QQ (pc + 1) ls (b :: b :: st) ρ σ a kc ks) : AG X R M QQ pc ls (b :: st) ρ σ a kc ks := by
  intro l p e s m args below meth c H locs lsA E hmn hC hS hl
  exact lv_dup E.1 E.2.1 hd ha (h l p e s m args below meth c H locs lsA E hmn hC hS hl)
theorem n_goto {off : Int} {tgt : Nat} (hd : decode M.2.1 pc = .ok (.goto off, 3)) (ht : (pc : Int) + off = (tgt : Int)) (h : AG X R M QQ tgt ls st ρ σ a kc ks) : AG X R M QQ pc ls st ρ σ a kc ks := by
  intro l p e s m args below meth c H locs lsA E hmn hC hS hl
  exact lv_goto E.1 E.2.1 hd ht (h l p e s m args below meth c H locs lsA E hmn hC hS hl)
theorem n_icmp_ge {x y : Int32} {off : Int} {tgt : Nat} (hd : decode M.2.1 pc = .ok (.if_icmp .ge off, 3)) (ht : (pc : Int) + off = (tgt : Int)) (h1 : y ≤ x → AG X R M QQ tgt ls st ρ σ a kc ks) (h2 : ¬ y ≤ x → AG X R M QQ (pc + 3) ls st ρ σ a kc ks) : AG X R M QQ pc ls (.int y :: .int x :: st) ρ σ a kc ks := by
  intro l p e s m args below meth c H locs lsA E hmn hC hS hl
  exact lv_icmp_ge E.1 E.2.1 hd ht (fun q => h1 q l p e s m args below meth c H locs lsA E hmn hC hS hl) (fun q => h2 q l p e s m args below meth c H locs lsA E hmn hC hS hl)
theorem n_icmp_gt {x y : Int32} {off : Int} {tgt : Nat} (hd : decode M.2.1 pc = .ok (.if_icmp .gt off, 3)) (ht : (pc : Int) + off = (tgt : Int)) (h1 : y < x → AG X R M QQ tgt ls st ρ σ a kc ks) (h2 : ¬ y < x → AG X R M QQ (pc + 3) ls st ρ σ a kc ks) : AG X R M QQ pc ls (.int y :: .int x :: st) ρ σ a kc ks := by
  intro l p e s m args below meth c H locs lsA E hmn hC hS hl
  exact lv_icmp_gt E.1 E.2.1 hd ht (fun q => h1 q l p e s m args below meth c H locs lsA E hmn hC hS hl) (fun q => h2 q l p e s m args below meth c H locs lsA E hmn hC hS hl)
theorem n_istore_n {k : Fin 4} {x : Int32} {ls' : List (Option Value)} (hd : decode M.2.1 pc = .ok (.istore_n k, 1)) (hk : (k : Nat) < M.2.2.1) (hp : ∀ (j : Nat) (w : Value), ls[j]? = some (some w) → j + 1 = (k : Nat) → w.category = 1) (he : ls.set (k : Nat) (some (.int x)) = ls') (h : AG X R M QQ (pc + 1) ls' st ρ σ a kc ks) : AG X R M QQ pc ls (.int x :: st) ρ σ a kc ks := by
  intro l p e s m args below meth c H locs lsA E hmn hC hS hl
  obtain ⟨ls2, e2, h2⟩ := hl.store (k := (k : Nat)) (v := .int x) hk rfl hp
  subst he
  have hx := E.1
  have hb := E.2.1
  intro T hT Z
  obtain ⟨t, a, b⟩ := h l p e s m args below meth c H locs ls2 E hmn hC hS h2 T hT Z
  refine ⟨t, ?_, b⟩
  jvm_step Z.here [Z.here.top, ↓top_set Z.here.top, hx, hb, hd, e2]
  exact a
theorem n_astore_n {k : Fin 4} {x : Nat} {ls' : List (Option Value)} (hd : decode M.2.1 pc = .ok (.astore_n k, 1)) (hk : (k : Nat) < M.2.2.1) (hp : ∀ (j : Nat) (w : Value), ls[j]? = some (some w) → j + 1 = (k : Nat) → w.category = 1) (he : ls.set (k : Nat) (some (.ref x)) = ls') (h : AG X R M QQ (pc + 1) ls' st ρ σ a kc ks) : AG X R M QQ pc ls (.ref x :: st) ρ σ a kc ks := by
  intro l p e s m args below meth c H locs lsA E hmn hC hS hl
  obtain ⟨ls2, e2, h2⟩ := hl.store (k := (k : Nat)) (v := .ref x) hk rfl hp
  subst he
  have hx := E.1
  have hb := E.2.1
  intro T hT Z
  obtain ⟨t, a, b⟩ := h l p e s m args below meth c H locs ls2 E hmn hC hS h2 T hT Z
  refine ⟨t, ?_, b⟩
  jvm_step Z.here [Z.here.top, ↓top_set Z.here.top, hx, hb, hd, e2]
  exact ⟨rfl, a⟩
theorem n_iinc {k : Nat} {n : Int} {x v : Int32} {ls' : List (Option Value)} (hd : decode M.2.1 pc = .ok (.iinc k n, 3)) (hk : ls[k]? = some (some (.int x))) (hv : x + Int32.ofInt n = v) (hn : k < M.2.2.1) (hp : ∀ (j : Nat) (w : Value), ls[j]? = some (some w) → j + 1 = k → w.category = 1) (he : ls.set k (some (.int v)) = ls') (h : AG X R M QQ (pc + 3) ls' st ρ σ a kc ks) : AG X R M QQ pc ls st ρ σ a kc ks := by
  intro l p e s m args below meth c H locs lsA E hmn hC hS hl
  obtain ⟨ls2, e2, h2⟩ := hl.store (k := k) (v := .int v) hn rfl hp
  subst he
  subst hv
  have hx := E.1
  have hb := E.2.1
  have hg := hl.get hk
  intro T hT Z
  obtain ⟨t, a, b⟩ := h l p e s m args below meth c H locs ls2 E hmn hC hS h2 T hT Z
  refine ⟨t, ?_, b⟩
  jvm_step Z.here [Z.here.top, ↓top_set Z.here.top, hx, hb, hd, hg, e2]
  exact a
-- new cells
theorem CWo.push {X : Cx} {ρ : Rho} {σ : Mem} {a g i : Nat} {H H1 : Heap} (h : CWo X ρ σ a H) (hp : PL[a]? = some (g, i)) (z : H1.size = H.size + 1) (ok : ∀ q, q < H.size → H1[q]? = H[q]?) (hc : va_at X.2.1 vwCl (X.1 + a, cellE X ρ σ g i) H1) : CWo X ρ σ (a + 1) H1 := by
  obtain ⟨h1, h3⟩ := h
  refine ⟨?_, h3.mono (Nat.le_succ _)⟩
  rw [wl_push hp]
  refine (h1.kept (fun k q hq => ok q.1 ((h1 k q hq).lt))).app (fun k q hq => ?_)
  have hz : k < 1 := (List.getElem?_eq_some_iff.mp hq).1
  rw [show k = 0 by omega] at hq
  cases hq
  exact hc
theorem pl_ix {a g i : Nat} (hp : PL[a]? = some (g, i)) : pix g i = a := by
  have hlt := (List.getElem?_eq_some_iff.mp hp).1
  rw [pl_len] at hlt
  have h1 := pl_pix a hlt
  rw [List.getD_eq_getElem?_getD, hp] at h1
  exact h1
theorem pl_a {a g i : Nat} (hp : PL[a]? = some (g, i)) : a ≤ 136 := by
  have hlt := (List.getElem?_eq_some_iff.mp hp).1
  rw [pl_len] at hlt
  omega
theorem S_grow {A : Nat → Prop} {H0 H H1 : Heap} {locs : List Loc} (hS : va_S A H0 H locs) (z : H.size ≤ H1.size) (ok : ∀ q, q < H.size → H1[q]? = H[q]?) : va_S A H0 H1 locs :=
  ⟨Nat.le_trans hS.1 z, fun x h1 h2 => (ok x (Nat.lt_of_lt_of_le h1 hS.1)).trans (hS.2.1 x h1 h2), hS.2.2⟩
theorem n_new (g i : Nat) {idx : Nat} {C : String} {T : u_T} {N : Nat} (ty : Nat → FieldType) (hty : ∀ k, k < N → parseFieldDescriptor (T k).2.2.1 = some (ty k)) (hp : PL[a]? = some (g, i)) (hc : vwCl[g]? = some (C, T, N)) (hN : nF g = N) (hg : g < 9) (hin : ∀ w ∈ u_ws C T N, w ∈ GW) (hw1 : Cond.classLink M.1.cls idx C ∈ GW) (hw2 : Cond.instantiable C N ∈ GW) (hw3 : Cond.initialized C ∈ GW) (hdv : ∀ j, j < N → (if (g = 4 ∧ j = 2) ∨ isR g j = true then defaultValue (ty j) = .null else defaultValue (ty j) = .int 0)) (h1 : kc + 1 ≤ R.cells) (h2 : ks + N ≤ R.slots) (hd : decode M.2.1 pc = .ok (.new idx, 3)) (h : AG X R M QQ (pc + 3) ls (rf X g i :: st) ρ σ (a + 1) (kc + 1) (ks + N)) : AG X R M QQ pc ls st ρ σ a kc ks := by
  intro l p e s m args below meth c H locs lsA E hmn hC hS hl
  have hKn := E.2.2.2.2.2.2.2.1.1.1 g _ hc
  refine n_sz hC (pl_a hp) hmn.2 hS E.2.2.2.2.2.2.2.2.2.2.1 (fun hsz => ?_)
  refine W.newcK E.1 E.2.1 E.2.2.2.1 (E.2.2.2.2.1 _ hw1) (E.2.2.2.2.1 _ hw2) (E.2.2.2.2.1 _ hw3) rfl hd h1 h2 hKn.2.1 rfl fun H1 kC hkC e1 z1 o1 => ?_
  have hix := pl_ix hp
  have hfr := hC.2 g i (Nat.le_of_eq hix.symm)
  have hC1 : CWo X ρ σ (a + 1) H1 := by
    refine hC.push hp z1 o1 ?_
    rw [cellE_obj hg]
    refine ⟨_, hc, ?_⟩
    have hb := u_born ty E.2.2.2.2.1 hin hKn hkC e1 hty
    rw [hsz] at hb
    refine hb.to (fun j hj => ?_)
    unfold vp_V
    rw [List.getD_eq_getElem?_getD, objE_get (by omega)]
    have hq := hdv j hj
    show defaultValue (ty j) = fvE X.1 ρ σ g i j
    unfold fvE
    rw [hfr.1 j, hfr.2 j]
    by_cases q1 : g = 4 ∧ j = 2
    · rw [if_pos (Or.inl q1)] at hq
      rw [if_pos q1, hq]
      rfl
    · rw [if_neg q1]
      by_cases q2 : isR g j = true
      · rw [if_pos (Or.inr q2)] at hq
        rw [if_pos q2, hq]
        rfl
      · rw [if_neg (by rintro (z | z) <;> contradiction)] at hq
        rw [if_neg q2, hq]
  have h9 := h l p e s m args below meth c H1 locs lsA E ⟨hmn.1, by have := hmn.2; omega⟩ hC1 (S_grow hS (by omega) o1) hl
  have e9 : rf X g i = .ref H.size := by unfold rf; rw [hix, hsz]
  rw [e9] at h9
  exact h9
theorem ra_det {X : Cx} {s : State} (h : StX X s) {k : Nat} {ty : FieldType} {cA : ClassId} (ht : (tysX X)[k]? = some (xC X (k + 1), ty)) (hf : s.vm.findClass ("[" ++ ty.toString) = some cA) : cA = xC X (k + 1) := by
  have h1 := (h.1.1.2 k _ ht).2
  cases ty with
  | object C =>
    obtain ⟨kA, comp, -, -, -, h4⟩ := h1
    exact Option.some.inj (hf.symm.trans h4)
  | _ => exact Option.some.inj (hf.symm.trans h1)
theorem n_newa (g i : Nat) {atype : ArrayType} {n : Int32} {N : Nat} (kk : Nat) (hp : PL[a]? = some (g, i)) (hg : 9 ≤ g) (hk : ak g = kk + 1) (hk3 : kk < 3) (hN : alen g = N) (ht : (tysX X)[kk]? = some (xC X (kk + 1), newarray.typeOf atype)) (hw : Cond.arrayClass (newarray.typeOf atype) ∈ GW) (hdv : defaultValue (newarray.typeOf atype) = .int 0) (hn : ¬ n < 0) (hnN : n.toNatClampNeg = N) (hby : N * componentBytes (newarray.typeOf atype) ≤ 536870912) (h1 : kc + 1 ≤ R.cells) (h2 : ks + N ≤ R.slots) (hd : decode M.2.1 pc = .ok (.newarray atype, 2)) (h : AG X R M QQ (pc + 2) ls (rf X g i :: st) ρ σ (a + 1) (kc + 1) (ks + N)) : AG X R M QQ pc ls (.int n :: st) ρ σ a kc ks := by
  intro l p e s m args below meth c H locs lsA E hmn hC hS hl
  refine n_sz hC (pl_a hp) hmn.2 hS E.2.2.2.2.2.2.2.2.2.2.1 (fun hsz => ?_)
  refine va_newaK E.1 E.2.1 (E.2.2.2.2.1 _ hw) rfl hd rfl hn hnN hby h1 h2 rfl fun H1 cA e1 z1 o1 _ hf => ?_
  have hcA := ra_det E.2.2.2.2.2.2.2 ht hf
  subst hcA
  have hix := pl_ix hp
  have hfr := hC.2 g i (Nat.le_of_eq hix.symm)
  have hC1 : CWo X ρ σ (a + 1) H1 := by
    refine hC.push hp z1 o1 ?_
    rw [cellE_arr hg (by omega)]
    show H1[X.1 + a]? = some (vp_cell _ _)
    rw [vp_cell_i, ← hsz, e1, hdv, hN, hk]
    simp only [hfr.1]
  have h9 := h l p e s m args below meth c H1 locs lsA E ⟨hmn.1, by have := hmn.2; omega⟩ hC1 (S_grow hS (by omega) o1) hl
  have e9 : rf X g i = .ref H.size := by unfold rf; rw [hix, hsz]
  rw [e9] at h9
  exact h9
theorem n_newq (g i : Nat) {idx : Nat} {n : Int32} {N : Nat} {C : String} (kk : Nat) (hp : PL[a]? = some (g, i)) (hg : 9 ≤ g) (hk : ak g = kk + 1) (hk3 : 3 ≤ kk) (hN : alen g = N) (ht : (tysX X)[kk]? = some (xC X (kk + 1), .object C)) (hw1 : Cond.classLink M.1.cls idx C ∈ GW) (hw2 : Cond.arrayOver (.object C) ∈ NW) (hn : ¬ n < 0) (hnN : n.toNatClampNeg = N) (hby : N * 4 ≤ 536870912) (h1 : kc + 1 ≤ R.cells) (h2 : ks + N ≤ R.slots) (hd : decode M.2.1 pc = .ok (.anewarray idx, 3)) (h : AG X R M QQ (pc + 3) ls (rf X g i :: st) ρ σ (a + 1) (kc + 1) (ks + N)) : AG X R M QQ pc ls (.int n :: st) ρ σ a kc ks := by
  subst hnN
  intro l p e s m args below meth c H locs lsA E hmn hC hS hl
  refine n_sz hC (pl_a hp) hmn.2 hS E.2.2.2.2.2.2.2.2.2.2.1 (fun hsz => ?_)
  refine W.anew E.1 E.2.1 E.2.2.2.1 (E.2.2.2.2.1 _ hw1) (va_AO.use (E.2.2.2.2.2.2.2.1.2 _ hw2)) rfl hd rfl hn hby h1 h2 fun cA kA comp f1 f2 f3 f4 => ?_
  have hcA := ra_det E.2.2.2.2.2.2.2 ht f1
  subst hcA
  generalize hH1 : H.push ({ cls := xC X (kk + 1), slots := Array.replicate n.toNatClampNeg .null, vm := .none } : Cell) = H1
  have z1 : H1.size = H.size + 1 := by rw [← hH1, Array.size_push]
  have e1 : H1[H.size]? = some (arrV (xC X (kk + 1)) n.toNatClampNeg (fun _ => .null)) := by rw [← hH1, Array.getElem?_push_size, ← arrV_new]
  have o1 : ∀ q : Nat, q < H.size → H1[q]? = H[q]? := fun q hq => by rw [← hH1, Array.getElem?_push, if_neg (Nat.ne_of_lt hq)]
  have hix := pl_ix hp
  have hfr := hC.2 g i (Nat.le_of_eq hix.symm)
  have hC1 : CWo X ρ σ (a + 1) H1 := by
    refine hC.push hp z1 o1 ?_
    rw [cellE_ref hg (by omega)]
    show H1[X.1 + a]? = some (vp_cell _ _)
    rw [vp_cell_q, ← hsz, e1, hN, hk]
    simp only [hfr.2]
    rfl
  have h9 := h l p e s m args below meth c H1 locs lsA E ⟨hmn.1, by have := hmn.2; omega⟩ hC1 (S_grow hS (by omega) o1) hl
  have e9 : rf X g i = .ref H.size := by unfold rf; rw [hix, hsz]
  rw [e9] at h9
  exact h9
end AGR
