section AGS
variable {X : Cx} {R : Room} {M : Mi} {QQ : List Frame → Array Value → State → State → Prop} {pc : Nat} {ls : List (Option Value)} {st : List Value} {ρ : Rho} {σ : Mem} {a kc ks : Nat}
theorem n_putI (g i k : Nat) {C : String} {T : u_T} {N idx : Nat} {x : Int32} (ty0 : Nat → FieldType) (hty : ∀ k, k < N → parseFieldDescriptor (T k).2.2.1 = some (ty0 k)) (hnm : ∀ a, a < N → ∀ b, b < N → a ≠ b → (T a).2.1 ≠ (T b).2.1) (hc : vwCl[g]? = some (C, T, N)) (hN : nF g = N) (hg : g < 9) (hi : i < cnt g) (ha : pix g i < a) (hk : k < N) (hin : ∀ w ∈ u_ws C T N, w ∈ GW) (hw : Cond.fieldLink M.1.cls idx (T k).1 (T k).2.1 (T k).2.2.1 ∈ GW) (hfin : (T k).2.2.2 = false) (hR : isR g k = false) (h4 : ¬ (g = 4 ∧ k = 2)) (hi2 : ty0 k = .int) (hd : decode M.2.1 pc = .ok (.putfield idx, 3)) (h : AG X R M QQ (pc + 3) ls st ρ (mput σ g i k x) a kc ks) : AG X R M QQ pc ls (.int x :: rf X g i :: st) ρ σ a kc ks := by
  intro l p e s m args below meth c H locs lsA E hmn hC hS hl
  have he : (wl X ρ σ a)[pix g i]? = some (X.1 + pix g i, .inr (g, objE X.1 ρ σ g i)) := by
    rw [wl_at (by omega) hi ha, cellE_obj hg]
  refine va_put E.1 E.2.1 E.2.2.2.2.1 hin ty0 hty hnm E.2.2.2.1 E.2.2.2.2.2.2.2.1.1 hC.1 (wl_D X ρ σ a) hS (pix g i) he hc k hk (E.2.2.2.2.1 _ hw) (fun _ h9 => h9) hfin (ty := ty0 k) (hty k hk) (by rw [hi2]; rfl) (by rw [hi2]; rfl) (by rw [objE_len]; omega) hd (fun H1 locs1 hP1 _ hS1 => ?_)
  rw [objE_set (ρ' := ρ) (σ' := mput σ g i k x) (fun _ => fvE_on hR h4) (fun _ h9 => fvE_off h9), ← cellE_obj (X := X) hg, wl_put (by omega) hi ha] at hP1
  exact h l p e s m args below meth c H1 locs1 lsA E hmn ⟨hP1, hC.2.mput ha⟩ hS1 hl
theorem fvE_roff {B : Nat} {ρ : Rho} {σ : Mem} {g i k k' : Nat} {q : Nat × Nat} (h : k' ≠ k) : fvE B (rput ρ g i k q) σ g i k' = fvE B ρ σ g i k' := by
  have e : rput ρ g i k q g i k' = ρ g i k' := by
    unfold rput
    rw [if_neg]
    rintro ⟨-, -, e⟩
    exact h e
  simp only [fvE, e]
theorem fvE_ron {B : Nat} {ρ : Rho} {σ : Mem} {g i k : Nat} {q : Nat × Nat} (h1 : isR g k = true) (h2 : ¬ (g = 4 ∧ k = 2)) : fvE B (rput ρ g i k q) σ g i k = .ref (B + pix q.1 q.2) := by
  unfold fvE
  rw [if_neg h2, h1]
  simp [rput, refV]
theorem n_putR (g i k g' i' : Nat) {C : String} {T : u_T} {N idx : Nat} {ty : FieldType} (ty0 : Nat → FieldType) (hty : ∀ k, k < N → parseFieldDescriptor (T k).2.2.1 = some (ty0 k)) (hnm : ∀ a, a < N → ∀ b, b < N → a ≠ b → (T a).2.1 ≠ (T b).2.1) (hc : vwCl[g]? = some (C, T, N)) (hN : nF g = N) (hg : g < 9) (hi : i < cnt g) (ha : pix g i < a) (hk : k < N) (hin : ∀ w ∈ u_ws C T N, w ∈ GW) (hw : Cond.fieldLink M.1.cls idx (T k).1 (T k).2.1 (T k).2.2.1 ∈ GW) (hfin : (T k).2.2.2 = true) (hnm2 : M.1.name = "<init>") (hdc : (T k).1 = M.1.cls) (hR : isR g k = true) (h4 : ¬ (g = 4 ∧ k = 2)) (hi2 : ty0 k = ty) (hn : ∀ a, narrow ty (.ref a) = .ref a) (hf : ∀ a, fits ty (.ref a) = true) (hd : decode M.2.1 pc = .ok (.putfield idx, 3)) (h : AG X R M QQ (pc + 3) ls st (rput ρ g i k (g', i')) σ a kc ks) : AG X R M QQ pc ls (rf X g' i' :: rf X g i :: st) ρ σ a kc ks := by
  intro l p e s m args below meth c H locs lsA E hmn hC hS hl
  have he : (wl X ρ σ a)[pix g i]? = some (X.1 + pix g i, .inr (g, objE X.1 ρ σ g i)) := by
    rw [wl_at (by omega) hi ha, cellE_obj hg]
  refine va_putF E.1 E.2.1 E.2.2.2.2.1 hin ty0 hty hnm E.2.2.2.1 E.2.2.2.2.2.2.2.1.1 hC.1 (wl_D X ρ σ a) hS (pix g i) he hc k hk (E.2.2.2.2.1 _ hw) (fun _ h9 => h9) hfin (hmn.1 hnm2) hdc (ty := ty0 k) (hty k hk) (by rw [hi2]; exact hn _) (by rw [hi2]; exact hf _) (by rw [objE_len]; omega) hd (fun H1 locs1 hP1 _ hS1 => ?_)
  rw [objE_set (v := rf X g' i') (ρ' := rput ρ g i k (g', i')) (σ' := σ) (fun _ => fvE_ron hR h4) (fun _ h9 => fvE_roff h9), ← cellE_obj (X := X) hg, wl_set (by omega) hi ha (fun g2 i2 hne => cellE_congr rfl (rput_cell hne))] at hP1
  exact h l p e s m args below meth c H1 locs1 lsA E hmn ⟨hP1, hC.2.rput ha⟩ hS1 hl
theorem n_getR (g i k g' i' : Nat) {C : String} {T : u_T} {N idx : Nat} (hc : vwCl[g]? = some (C, T, N)) (hN : nF g = N) (hg : g < 9) (hi : i < cnt g) (ha : pix g i < a) (hk : k < N) (hin : ∀ w ∈ u_ws C T N, w ∈ GW) (hw : Cond.fieldLink M.1.cls idx (T k).1 (T k).2.1 (T k).2.2.1 ∈ GW) (hR : isR g k = true) (h4 : ¬ (g = 4 ∧ k = 2)) (hr : ρ g i k = some (g', i')) (hd : decode M.2.1 pc = .ok (.getfield idx, 3)) (h : AG X R M QQ (pc + 3) ls (rf X g' i' :: st) ρ σ a kc ks) : AG X R M QQ pc ls (rf X g i :: st) ρ σ a kc ks := by
  intro l p e s m args below meth c H locs lsA E hmn hC hS hl
  have he : (wl X ρ σ a)[pix g i]? = some (X.1 + pix g i, .inr (g, objE X.1 ρ σ g i)) := by
    rw [wl_at (by omega) hi ha, cellE_obj hg]
  refine va_get E.1 E.2.1 E.2.2.2.2.1 hin E.2.2.2.1 E.2.2.2.2.2.2.2.1.1 hC.1 (pix g i) he hc k hk (E.2.2.2.2.1 _ hw) (fun _ h9 => h9) (v := rf X g' i') ?_ hd (h l p e s m args below meth c H locs lsA E hmn hC hS hl)
  rw [objE_get (by omega)]
  unfold fvE
  rw [if_neg h4, hR, hr]
  rfl
theorem n_iast (g i j : Nat) {n : Nat} {v x : Int32} (hd : decode M.2.1 pc = .ok (.iastore, 1)) (hg : 9 ≤ g ∧ g < 42) (hk : ak g = 0 + 1) (hn : alen g = n) (hi : i < cnt g) (ha : pix g i < a) (hx : ix n v = some j) (h : AG X R M QQ (pc + 1) ls st ρ (mput σ g i j x) a kc ks) : AG X R M QQ pc ls (.int x :: .int v :: rf X g i :: st) ρ σ a kc ks := by
  subst hn
  obtain ⟨x1, x2, x3⟩ := ix_in hx
  subst x2
  intro l p e s m args below meth c H locs lsA E hmn hC hS hl
  have he : (wl X ρ σ a)[pix g i]? = some (X.1 + pix g i, .inl (xC X (ak g), alen g, .inl (fun j => σ g i j))) := by
    rw [wl_at hg.2 hi ha, cellE_arr hg.1 (by omega)]
  refine va_iast E.1 E.2.1 E.2.2.2.2.2.2.2.1.1 hC.1 (wl_D X ρ σ a) hS (pix g i) 0 he (tys_at 0 hk rfl) x1 hd (fun H1 locs1 hP1 _ hS1 => ?_)
  rw [← mput_fun, ← cellE_arr (X := X) (ρ := ρ) hg.1 (by omega), wl_put hg.2 hi ha] at hP1
  exact h l p e s m args below meth c H1 locs1 lsA E hmn ⟨hP1, hC.2.mput ha⟩ hS1 hl
theorem rput_fun {X : Cx} {ρ : Rho} {g i k : Nat} {q : Nat × Nat} : (fun j => (rput ρ g i k q g i j).map (fun q => X.1 + pix q.1 q.2)) = va_up (fun j => (ρ g i j).map (fun q => X.1 + pix q.1 q.2)) k (some (X.1 + pix q.1 q.2)) := by
  funext j
  unfold rput va_up
  by_cases h : j = k
  · simp [h]
  · simp [h]
theorem n_aast (g i j g' i' kk : Nat) {n : Nat} {v : Int32} {C : String} {T : u_T} {N : Nat} (hd : decode M.2.1 pc = .ok (.aastore, 1)) (hg : 9 ≤ g ∧ g < 42) (hk : ak g = kk + 1) (h3 : 3 ≤ kk) (ht : (tysX X)[kk]? = some (xC X (kk + 1), .object C)) (hc : vwCl[g']? = some (C, T, N)) (hg' : g' < 9) (hi' : i' < cnt g') (ha' : pix g' i' < a) (hn : alen g = n) (hi : i < cnt g) (ha : pix g i < a) (hx : ix n v = some j) (h : AG X R M QQ (pc + 1) ls st (rput ρ g i j (g', i')) σ a kc ks) : AG X R M QQ pc ls (rf X g' i' :: .int v :: rf X g i :: st) ρ σ a kc ks := by
  subst hn
  obtain ⟨x1, x2, x3⟩ := ix_in hx
  subst x2
  intro l p e s m args below meth c H locs lsA E hmn hC hS hl
  have he : (wl X ρ σ a)[pix g i]? = some (X.1 + pix g i, .inl (xC X (ak g), alen g, .inr (.inr (.inr (.inr (fun j => (ρ g i j).map (fun q => X.1 + pix q.1 q.2))))))) := by
    rw [wl_at hg.2 hi ha, cellE_ref hg.1 (by omega)]
  have he' : (wl X ρ σ a)[pix g' i']? = some (X.1 + pix g' i', .inr (g', objE X.1 ρ σ g' i')) := by
    rw [wl_at (by omega) hi' ha', cellE_obj hg']
  refine va_astq E.1 E.2.1 E.2.2.2.2.2.2.2.1.1 hC.1 (wl_D X ρ σ a) hS (pix g i) kk (pix g' i') g' he (tys_at kk hk ht) he' hc x1 hd (fun H1 locs1 hP1 _ hS1 => ?_)
  rw [← rput_fun (q := (g', i')), ← cellE_ref (X := X) (ρ := rput ρ g i v.toNatClampNeg (g', i')) (σ := σ) hg.1 (by omega), wl_set hg.2 hi ha (fun g2 i2 hne => cellE_congr rfl (rput_cell hne))] at hP1
  exact h l p e s m args below meth c H1 locs1 lsA E hmn ⟨hP1, hC.2.rput ha⟩ hS1 hl
theorem n_objInit {idx g i : Nat} (hd : decode M.2.1 pc = .ok (.invokespecial idx, 3)) (hw1 : Cond.methodLink M.1.cls idx Lib.objectInit ∈ GW) (hw2 : Cond.instanceMethod Lib.objectInit ∈ GW) (hw3 : Cond.code Lib.objectInit ⟨#[0xb1]⟩ 1 none ∈ GW) (h1 : 1 ≤ R.frames) (h2 : (st.map fun v => v.category).sum + 12 ≤ R.locals) (h : AG X R M QQ (pc + 3) ls st ρ σ a kc ks) : AG X R M QQ pc ls (rf X g i :: st) ρ σ a kc ks := by
  intro l p e s m args below meth c H locs lsA E hmn hC hS hl
  refine W.objInit E.1 E.2.1 E.2.2.2.1 (E.2.2.2.2.1 _ hw1) (E.2.2.2.2.1 _ hw2) (E.2.2.2.2.1 _ hw3) rfl (hl.1.trans E.2.2.1.symm) rfl hd h1 (by simpa [JFrame.monitorRoom] using h2) ?_
  exact h l p e s m args below meth c H locs lsA E hmn hC hS hl
end AGS
def rmc (d mc ms : Nat) : Room := { frames := d, cells := mc, slots := ms, locals := 40 * d }
def PcC (X : Cx) (as : List Value) (ρ : Rho) (σ : Mem) (a : Nat) : Array Value → State → Prop := va_Pc as (fun U => StX X U ∧ CWo X ρ σ a U.heap ∧ U.heap.size = X.1 + a)
def QcC (X : Cx) (ρ : Rho) (σ : Mem) (a : Nat) : Array Value → State → Outcome → State → Prop := fun _ st oc t => (oc = .returned none ∧ CWo X ρ σ a t.heap) ∧ va_F (Ax X) st t
theorem PcC.blind (X : Cx) (as : List Value) (ρ : Rho) (σ : Mem) (a : Nat) : FrameBlind (PcC X as ρ σ a) := by
  intro b U g mk h
  exact ⟨h.1, StX.same (u := U) (U := U.calling g mk b) rfl rfl h.2.1, h.2.2⟩
def TriC (X : Cx) (d mc ms : Nat) (M : Mi) (as : List Value) (ρ : Rho) (σ : Mem) (a : Nat) (ρ' : Rho) (σ' : Mem) (a' : Nat) : Prop :=
  ∀ l : Launch, Met l M.1 (wsm M) (rmc d mc ms) (PcC X as ρ σ a) (QcC X ρ' σ' a') mc ms (Ax X)
abbrev QC (X : Cx) (ρ : Rho) (σ : Mem) (a mc ms : Nat) : List Frame → Array Value → State → State → Prop := fun below args s => MQ below (QcC X ρ σ a) args s mc ms (Ax X)
theorem TriC.of {X : Cx} {d mc ms : Nat} {M : Mi} {as : List Value} {ρ ρ' : Rho} {σ σ' : Mem} {a a' : Nat} {ls : List (Option Value)} (hy : plainName M.1.cls = true) (hn : (lg_sl as).length ≤ M.2.2.1) (hls : entL M.2.2.1 as = ls) (h : AG X (rmc d mc ms) M (QC X ρ' σ' a' mc ms) 0 ls [] ρ σ a 0 0) : TriC X d mc ms M as ρ σ a ρ' σ' a' := by
  intro l
  refine Met.ofW (cc := M.2.1) (maxL := M.2.2.1) (ret := M.2.2.2) hy rfl ?_
  intro p e s m args below meth c s₁ B hml hv
  obtain ⟨rfl, hSt, hC, hsz⟩ := hv
  have hts := atoms_spec (ws := wsm M) B.pre
  have hown : s.vm.findClass M.1.cls = some m.cls := findClass_of_methodNamed B.named
  have hl := lv_entry as (n := M.2.2.1) hn
  rw [lg_entry_eq]
  refine h l p e s m _ below meth c s.heap [] _ ⟨B.exec, B.bytes, hml, hown, fun w hw => hts w (List.mem_cons_of_mem _ hw), B.returns, B.notSynchronized, hSt⟩ ⟨fun q => (name_of_methodNamed B.named B.method).1.trans q, by omega⟩ hC va_S.rf ⟨hl.1, hl.2.1, fun k v hk => ?_⟩
  subst hls
  exact hl.2.2 (k, v) (entL_in _ _ k v hk)
section AGT
variable {X : Cx} {R : Room} {M : Mi} {QQ : List Frame → Array Value → State → State → Prop} {pc : Nat} {ls : List (Option Value)} {st : List Value} {ρ : Rho} {σ : Mem} {a kc ks : Nat}
theorem n_return {mc ms : Nat} (hr : M.2.2.2 = none) (hd : decode M.2.1 pc = .ok (.return_, 1)) (h1 : kc = mc) (h2 : ks = ms) : AG X R M (QC X ρ σ a mc ms) pc ls [] ρ σ a kc ks := by
  subst h1
  subst h2
  intro l p e s m args below meth c H locs lsA E hmn hC hS hl
  exact W.vret E.1 E.2.1 (E.2.2.2.2.2.1.trans hr) (fun t ht hW => ⟨⟨rfl, by rw [ht]; exact hC⟩, hS.F ht⟩) hS.2.2 hd E.2.2.2.2.2.2.1
theorem call_goC {p : Program} {l : Launch} {e : Env} {s : State} {m : MethodId} {args : Array Value} {below : List Frame} {meth : Method} {c : Code} {H : Heap} {locs : List Loc} {lsA : Array Slot} {st0 rest : List Value} {ρ1 : Rho} {σ1 : Mem} {a1 mc ms : Nat} {b : Array Value} {Q : State → Prop} (hr : va_Run p l e R s m args below meth c H locs kc ks mc ms (F0 m pc lsA st0) rest (QcC X ρ1 σ1 a1 b) (Ax X)) (hS : va_S (Ax X) s.heap H locs)
    (kk : ∀ (H1 : Heap) (locs1 : List Loc), CWo X ρ1 σ1 a1 H1 → va_S (Ax X) s.heap H1 locs1 → W p l e R s m args below meth c H1 locs1 (kc + mc) (ks + ms) Q (F0 m (pc + 3) lsA rest)) : W p l e R s m args below meth c H locs kc ks Q (F0 m pc lsA st0) := by
  intro T hT Z
  obtain ⟨v, st₀, t, T', L, h0, Z', hL, e1, e2, ⟨⟨hv, hp⟩, hz, hk⟩, sg⟩ := hr T hT Z
  cases hv
  rw [h0] at hz hk
  obtain ⟨t2, a1, b1⟩ := kk T'.heap (locs ++ L) (by rw [e1]; exact hp)
    ⟨Nat.le_trans hS.1 (by rw [e1]; exact hz), fun q h1 h2 => by rw [e1, hk q (Nat.lt_of_lt_of_le h1 hS.1) h2]; exact hS.2.1 q h1 h2, fun q hq => by
      rcases List.mem_append.mp hq with h | h
      · exact hS.2.2 q h
      · exact hL q h⟩ T' rfl Z'
  exact ⟨t2, sg t2 a1, b1⟩
theorem n_callI {idx n : Nat} {M' : Mi} {d' mc ms g i : Nat} {As rest : List Value} {ρ1 : Rho} {σ1 : Mem} {a1 : Nat} (hd : decode M.2.1 pc = .ok (.invokespecial idx, 3)) (hw : CwB M.1.cls idx M' n) (hwi : Cond.instanceMethod M'.1 ∈ GW) (hy : M'.1.name = "<init>") (hv : M'.2.2.2 = none) (hM : TriC X d' mc ms M' (rf X g i :: As) ρ σ a ρ1 σ1 a1) (ha : a ≤ 136) (ha1 : a1 = a + mc) (hfr : d' + 1 ≤ R.frames) (hlo : 40 * (d' + 1) ≤ R.locals) (hce : kc + mc ≤ R.cells) (hsl : ks + ms ≤ R.slots) (hn : As.length = n) (hst : st = As.reverse ++ rf X g i :: rest) (hW : (rest.map fun v => v.category).sum ≤ 8) (h : AG X R M QQ (pc + 3) ls rest ρ1 σ1 a1 (kc + mc) (ks + ms)) : AG X R M QQ pc ls st ρ σ a kc ks := by
  subst hst
  intro l p e s m args below meth c H locs lsA E hmn hC hS hl
  refine n_sz hC ha hmn.2 hS E.2.2.2.2.2.2.2.2.2.2.1 (fun hsz => ?_)
  have hcb : CallB R s args M.1.cls idx M'.1 M'.2.1 M'.2.2.1 none (wsm M') (rmc d' mc ms) mc ms n := by
    refine callB_of n E.2.2.2.2.1 (gw_goodM hw.2.2.1) (by unfold wsm; rw [hv]) rfl rfl (E.2.2.2.2.1 _ hw.2.1) (E.2.2.2.2.1 _ hw.1) hw.2.2.2.1 ⟨hfr, ?_⟩
    have := hw.2.2.2.2
    show 8 + (M'.2.2.1 + 11) + 40 * d' ≤ R.locals
    omega
  refine call_goC (va_runI (l := l) (Ts := GW) (own := M.1.cls) (As := As) (rest := rest) (b := X.1 + pix g i) ⟨E.1, E.2.1, E.2.2.1, E.2.2.2.1, E.2.2.2.2.1⟩ (hM l) ⟨hcb, hy, E.2.2.2.2.1 _ hwi⟩ ⟨PcC.blind X _ _ _ _, fun U hU hW => ⟨rfl, E.2.2.2.2.2.2.2.call hU hW hS, by rw [hU]; exact hC, by rw [hU]; exact hsz⟩⟩ rfl hn hl.1 rfl (lv_room hW) hd ⟨hce, hsl⟩) hS (fun H1 locs1 hC1 hS1 => ?_)
  exact h l p e s m args below meth c H1 locs1 lsA E ⟨hmn.1, by have := hmn.2; omega⟩ hC1 hS1 hl
theorem n_callIN {host : String} {idx n : Nat} {M' : Mi} {d' mc ms g i : Nat} {As rest : List Value} {ρ1 : Rho} {σ1 : Mem} {a1 : Nat} (hd : decode M.2.1 pc = .ok (.invokespecial idx, 3)) (hw : CwN M.1.cls idx host M' n) (hwi : Cond.instanceMethod M'.1 ∈ GW) (hy : M'.1.name = "<init>") (hv : M'.2.2.2 = none) (hM : TriC X d' mc ms M' (rf X g i :: As) ρ σ a ρ1 σ1 a1) (ha : a ≤ 136) (ha1 : a1 = a + mc) (hfr : d' + 1 ≤ R.frames) (hlo : 40 * (d' + 1) ≤ R.locals) (hce : kc + mc ≤ R.cells) (hsl : ks + ms ≤ R.slots) (hn : As.length = n) (hst : st = As.reverse ++ rf X g i :: rest) (hW : (rest.map fun v => v.category).sum ≤ 8) (h : AG X R M QQ (pc + 3) ls rest ρ1 σ1 a1 (kc + mc) (ks + ms)) : AG X R M QQ pc ls st ρ σ a kc ks := by
  subst hst
  intro l p e s m args below meth c H locs lsA E hmn hC hS hl
  refine n_sz hC ha hmn.2 hS E.2.2.2.2.2.2.2.2.2.2.1 (fun hsz => ?_)
  have hcb : va_CN R s args M.1.cls idx M'.1 host M'.2.1 M'.2.2.1 none (wsm M') (rmc d' mc ms) mc ms n := by
    refine va_cnB n E.2.2.2.2.1 (gw_goodM hw.2.2.1) (by unfold wsm; rw [hv]) rfl rfl (E.2.2.2.2.2.2.2.1.2 _ hw.1) (E.2.2.2.2.1 _ hw.2.1) hw.2.2.2.1 ⟨hfr, ?_⟩
    have := hw.2.2.2.2
    show 8 + (M'.2.2.1 + 11) + 40 * d' ≤ R.locals
    omega
  refine call_goC (va_runIN (l := l) (Ts := GW) (own := M.1.cls) (As := As) (rest := rest) (b := X.1 + pix g i) ⟨E.1, E.2.1, E.2.2.1, E.2.2.2.1, E.2.2.2.2.1⟩ (hM l) ⟨hcb, hy, E.2.2.2.2.1 _ hwi⟩ ⟨PcC.blind X _ _ _ _, fun U hU hW => ⟨rfl, E.2.2.2.2.2.2.2.call hU hW hS, by rw [hU]; exact hC, by rw [hU]; exact hsz⟩⟩ rfl hn hl.1 rfl (lv_room hW) hd ⟨hce, hsl⟩) hS (fun H1 locs1 hC1 hS1 => ?_)
  exact h l p e s m args below meth c H1 locs1 lsA E ⟨hmn.1, by have := hmn.2; omega⟩ hC1 hS1 hl
end AGT
