/-- a method: name, bytes, locals, what it returns -/
abbrev Mi : Type := MethodName × ByteArray × Nat × Option FieldType
def GW : List Cond := lw_tbl.filter goodWord
def isNest : Cond → Bool
  | .fieldLinkNest _ _ _ _ _ _ => true
  | .methodLinkNest _ _ _ _ => true
  | .arrayOver (.object _) => true
  | _ => false
def NW : List Cond := lw_tbl.filter isNest
def wsm (M : Mi) : List Cond := Cond.code M.1 M.2.1 M.2.2.1 M.2.2.2 :: GW
def rmd (d : Nat) : Room := { frames := d, cells := 0, slots := 0, locals := 40 * d }
theorem gw_of {w : Cond} (h : w ∈ lw_tbl) (hg : goodWord w = true) : w ∈ GW := List.mem_filter.mpr ⟨h, hg⟩
theorem gw_at (i : Nat) {w : Cond} (h : lw_tbl[i]? = some w) (hg : goodWord w = true) : w ∈ GW := gw_of (List.mem_of_getElem? h) hg
theorem nw_at (i : Nat) {w : Cond} (h : lw_tbl[i]? = some w) (hg : isNest w = true) : w ∈ NW := List.mem_filter.mpr ⟨List.mem_of_getElem? h, hg⟩
theorem gw_good {big : List Cond} (hb : ∀ w ∈ GW, w ∈ big) : GoodIn big GW := fun w hw => ⟨hb w hw, good_of_word (List.mem_filter.mp hw).2⟩
theorem wsm_good {M M' : Mi} (h : Cond.code M'.1 M'.2.1 M'.2.2.1 M'.2.2.2 ∈ GW) : GoodIn (wsm M) (wsm M') := by
  intro w hw
  rcases List.mem_cons.mp hw with rfl | hw
  · exact ⟨List.mem_cons_of_mem _ h, good_of_word (List.mem_filter.mp h).2⟩
  · exact ⟨List.mem_cons_of_mem _ hw, good_of_word (List.mem_filter.mp hw).2⟩
theorem gw_goodM {M' : Mi} (h : Cond.code M'.1 M'.2.1 M'.2.2.1 M'.2.2.2 ∈ GW) : GoodIn GW (wsm M') := by
  intro w hw
  rcases List.mem_cons.mp hw with rfl | hw
  · exact ⟨h, good_of_word (List.mem_filter.mp h).2⟩
  · exact ⟨hw, good_of_word (List.mem_filter.mp hw).2⟩
theorem nest_warm {w : Cond} (hn : isNest w = true) {s U : State} (hW : s.WarmedH U.vm) (h : va_Nw w s) : va_Nw w U := by
  cases w <;> first | exact va_Nw.warmF hW h | exact va_Nw.warmM hW h | (cases hn; done) | (rename_i ty; cases ty <;> first | exact va_AO.moved hW.alike h | cases hn)
theorem nest_same {w : Cond} (hn : isNest w = true) {u U : State} (hv : u.vm = U.vm) (h : va_Nw w u) : va_Nw w U := by
  have ha : u.vm.Alike U.vm := by rw [hv]; exact Vm.Alike.refl U.vm
  cases w <;> first | exact va_Nw.same rfl hv h | (cases hn; done) | (rename_i ty; cases ty <;> first | exact va_AO.moved ha h | cases hn)
-- the constants that the class reads: three static rows, eleven texts
def stN (k : Nat) : String := ["KIND_ABOVE", "NOON_LATER", "PAYMENT"].getD k ""
def stR (k : Nat) : List Int32 := [[-1, 0, 0, 1, 2, 0], [0, 1, 0, 7, 0, 0], [2, 1, 0, 5, 0, 9]].getD k []
def StK (X : Cx) (U : State) : Prop := va_K X.2.1 vwCl (tysX X) U ∧ (∀ w ∈ NW, va_Nw w U)
def StZ (X : Cx) (U : State) (H : Heap) : Prop := (∀ k, k < 3 → va_Z "NoonVows" (stN k) "[I" (.ref (xT X k)) (Ax X) U H ∧ va_T .int (xT X k) 6 (fun j => .int ((stR k).getD j 0)) (Ax X) U H) ∧ va_Z "java/lang/String" "COMPACT_STRINGS" "Z" (.int 1) (Ax X) U H
def txI : List Nat := [48, 54, 56, 69, 71, 73, 75, 77, 79, 81, 83]
def txS : List String := ["keep", "fee", "fine", "fnw", "kl", "pe", "|", "&", "<=>", "+-", "*/"]
def txL : List Nat := [4, 3, 4, 3, 2, 2, 1, 1, 3, 2, 2]
def txB : List (List Int32) := [[107, 101, 101, 112], [102, 101, 101], [102, 105, 110, 101], [102, 110, 119], [107, 108], [112, 101], [124], [38], [60, 61, 62], [43, 45], [42, 47]]
def StT (X : Cx) (U : State) (H : Heap) : Prop := (∀ i, i < 11 → vk_R RX4 (txI.getD i 0) (txS.getD i "") (xK X i) U) ∧ vk_S 11 txL txB (xK X) (xV X) (Ax X) U H ∧ va_Zq "jdk/internal/util/Preconditions" "SIOOBE_FORMATTER" "Ljava/util/function/BiFunction;" (Ax X) U H
def StS (X : Cx) (U : State) (H : Heap) : Prop := va_X (xb X) (xL X) (xs X) U H ∧ xb X < X.1
def StX (X : Cx) (U : State) : Prop := StK X U ∧ StZ X U U.heap ∧ StS X U U.heap ∧ X.1 ≤ U.heap.size ∧ StT X U U.heap
theorem StX.same {X : Cx} {u U : State} (hv : u.vm = U.vm) (hh : u.heap = U.heap) (h : StX X u) : StX X U := by
  obtain ⟨⟨h1, h2⟩, ⟨h3, h4⟩, ⟨h5, h6⟩, h7, h8, h9, h10⟩ := h
  have ha : u.vm.Alike U.vm := by rw [hv]; exact Vm.Alike.refl U.vm
  refine ⟨⟨va_K.moved ha h1, fun w hw => nest_same (List.mem_filter.mp hw).2 hv (h2 w hw)⟩, ⟨fun k hk => ?_, ?_⟩, ⟨?_, h6⟩, ?_, fun i hi => vk_R.same hv.symm (h8 i hi), ?_, ?_⟩
  · rw [← hh]
    exact ⟨va_Z.moved ha (h3 k hk).1, va_T.moved ha (h3 k hk).2⟩
  · rw [← hh]; exact va_Z.moved ha h4
  · rw [← hh]; exact va_X.moved ha h5
  · rw [← hh]; exact h7
  · rw [← hh]; exact vk_S.moved ha h9
  · rw [← hh]; exact va_Zq.moved ha h10
theorem StX.call {X : Cx} {s U : State} {H : Heap} {locs : List Loc} (h : StX X s) (hU : U.heap = H) (hW : s.WarmedH U.vm) (hS : va_S (Ax X) s.heap H locs) : StX X U := by
  obtain ⟨⟨h1, h2⟩, ⟨h3, h4⟩, ⟨h5, h6⟩, h7, h8, h9, h10⟩ := h
  subst hU
  have ha := hW.alike
  have hq : ∀ a : Nat, a < s.heap.size → ¬ Ax X a → U.heap[a]? = s.heap[a]? := hS.2.1
  exact ⟨⟨va_K.moved ha h1, fun w hw => nest_warm (List.mem_filter.mp hw).2 hW (h2 w hw)⟩, ⟨fun k hk => ⟨va_Z.kept (va_Z.moved ha (h3 k hk).1) hq, va_T.kept (va_T.moved ha (h3 k hk).2) hq⟩, va_Z.kept (va_Z.moved ha h4) hq⟩, ⟨va_X.kept (va_X.moved ha h5) (hq _ (Nat.lt_of_lt_of_le h6 h7) (Nat.not_le.mpr h6)), h6⟩, Nat.le_trans h7 hS.1, fun i hi => vk_R.warm hW (h8 i hi), vk_S.kept (vk_S.moved ha h9) hq, va_Zq.kept (va_Zq.moved ha h10) hq⟩
def PcX (X : Cx) (as : List Value) (σ : Mem) : Array Value → State → Prop := va_Pc as (fun U => StX X U ∧ va_P X.2.1 vwCl (wl X RR σ ALL) U.heap)
def QcX (X : Cx) (r : Option Value) (σ : Mem) : Array Value → State → Outcome → State → Prop := fun _ st oc t => (oc = .returned r ∧ va_P X.2.1 vwCl (wl X RR σ ALL) t.heap) ∧ va_F (Ax X) st t
theorem PcX.blind (X : Cx) (as : List Value) (σ : Mem) : FrameBlind (PcX X as σ) := by
  intro a U g mk h
  exact ⟨h.1, StX.same (u := U) (U := U.calling g mk a) rfl rfl h.2.1, h.2.2⟩
def Tri (X : Cx) (d : Nat) (M : Mi) (as : List Value) (σ : Mem) (r : Option Value) (σ' : Mem) : Prop :=
  ∀ l : Launch, Met l M.1 (wsm M) (rmd d) (PcX X as σ) (QcX X r σ') 0 0 (Ax X)
/-- what is known of the locals, by place -/
def lvo (lsA : Array Slot) (n : Nat) (ls : List (Option Value)) : Prop := lsA.size = n ∧ lv_wf lsA ∧ ∀ (k : Nat) (v : Value), ls[k]? = some (some v) → lsA[k]? = some (.val v)
abbrev EnvA (X : Cx) (M : Mi) (p : Program) (s : State) (m : MethodId) (args : Array Value) (meth : Method) (c : Code) : Prop :=
  p.tables.exec = Jvm.exec ∧ c.code = M.2.1 ∧ c.maxLocals = M.2.2.1 ∧ s.vm.findClass M.1.cls = some m.cls ∧ (∀ w ∈ GW, w.before args s = true) ∧ meth.sig.returnType = M.2.2.2 ∧ meth.locks = false ∧ StX X s
/-- the machine in method M at pc, with these locals, this stack and this memory, comes to the method's end with r and memory σ' -/
def At (X : Cx) (d : Nat) (M : Mi) (pc : Nat) (ls : List (Option Value)) (st : List Value) (σ : Mem) (r : Option Value) (σ' : Mem) : Prop :=
  ∀ (l : Launch) (p : Program) (e : Env) (s : State) (m : MethodId) (args : Array Value) (below : List Frame) (meth : Method) (c : Code) (H : Heap) (locs : List Loc) (lsA : Array Slot),
    EnvA X M p s m args meth c → va_P X.2.1 vwCl (wl X RR σ ALL) H → va_S (Ax X) s.heap H locs → lvo lsA M.2.2.1 ls →
    W p l e (rmd d) s m args below meth c H locs 0 0 (MQ below (QcX X r σ') args s 0 0 (Ax X)) (F0 m pc lsA st)
def entL (n : Nat) (as : List Value) : List (Option Value) := (as.flatMap fun v => if v.category = 2 then [some v, none] else [some v]) ++ List.replicate (n - (lg_sl as).length) none
theorem entL_aux (as : List Value) : ∀ (b k : Nat) (v : Value), (as.flatMap fun v => if v.category = 2 then [some v, none] else [some v])[k]? = some (some v) → (b + k, v) ∈ lv_args b as := by
  induction as with
  | nil => intro b k v h; simp at h
  | cons x as ih =>
    intro b k v h
    rw [List.flatMap_cons] at h
    by_cases hc : x.category = 2
    · rw [if_pos hc] at h
      match k, h with
      | 0, h =>
        simp at h
        subst h
        exact List.mem_cons_self
      | 1, h => simp at h
      | k + 2, h =>
        have h1 := ih (b + 2) k v (by simpa using h)
        rw [lv_args, if_pos hc]
        have e : b + (k + 2) = b + 2 + k := by omega
        rw [e]
        exact List.mem_cons_of_mem _ h1
    · rw [if_neg hc] at h
      match k, h with
      | 0, h =>
        simp at h
        subst h
        exact List.mem_cons_self
      | k + 1, h =>
        have h1 := ih (b + 1) k v (by simpa using h)
        rw [lv_args, if_neg hc]
        have e : b + (k + 1) = b + 1 + k := by omega
        rw [e]
        exact List.mem_cons_of_mem _ h1
theorem entL_in (n : Nat) (as : List Value) (k : Nat) (v : Value) (h : (entL n as)[k]? = some (some v)) : (k, v) ∈ lv_args 0 as := by
  unfold entL at h
  by_cases hk : k < (as.flatMap fun v => if v.category = 2 then [some v, none] else [some v]).length
  · rw [List.getElem?_append_left hk] at h
    have h1 := entL_aux as 0 k v h
    rw [Nat.zero_add] at h1
    exact h1
  · rw [List.getElem?_append_right (by omega)] at h
    rw [List.getElem?_replicate] at h
    split at h
    · cases h
    · cases h
/-- a method's contract out of its walk -/
theorem Tri.of {X : Cx} {d : Nat} {M : Mi} {as : List Value} {σ σ' : Mem} {r : Option Value} {ls : List (Option Value)} (hy : plainName M.1.cls = true) (hn : (lg_sl as).length ≤ M.2.2.1) (hls : entL M.2.2.1 as = ls) (h : At X d M 0 ls [] σ r σ') : Tri X d M as σ r σ' := by
  intro l
  refine Met.ofW (cc := M.2.1) (maxL := M.2.2.1) (ret := M.2.2.2) hy rfl ?_
  intro p e s m args below meth c s₁ B hml hv
  obtain ⟨rfl, hSt, hP⟩ := hv
  have hts := atoms_spec (ws := wsm M) B.pre
  have hown : s.vm.findClass M.1.cls = some m.cls := findClass_of_methodNamed B.named
  have hl := lv_entry as (n := M.2.2.1) hn
  rw [lg_entry_eq]
  refine h l p e s m _ below meth c s.heap [] _ ⟨B.exec, B.bytes, hml, hown, fun w hw => hts w (List.mem_cons_of_mem _ hw), B.returns, B.notSynchronized, hSt⟩ hP va_S.rf ⟨hl.1, hl.2.1, fun k v hk => ?_⟩
  subst hls
  exact hl.2.2 (k, v) (entL_in _ _ k v hk)
section AT
variable {X : Cx} {d : Nat} {M : Mi} {pc : Nat} {ls : List (Option Value)} {st : List Value} {σ σ' : Mem} {r : Option Value}
theorem lvo.get {lsA : Array Slot} {n k : Nat} {ls : List (Option Value)} {v : Value} (h : lvo lsA n ls) (hk : ls[k]? = some (some v)) : lsA[k]? = some (.val v) := h.2.2 k v hk
/-- fewer locals known -/
theorem At.sub {ls' : List (Option Value)} (hs : ∀ (k : Nat) (v : Value), ls'[k]? = some (some v) → ls[k]? = some (some v)) (h : At X d M pc ls' st σ r σ') : At X d M pc ls st σ r σ' := by
  intro l p e s m args below meth c H locs lsA E hP hS hl
  exact h l p e s m args below meth c H locs lsA E hP hS ⟨hl.1, hl.2.1, fun k v hk => hl.2.2 k v (hs k v hk)⟩
theorem lvo.store {lsA : Array Slot} {n k : Nat} {ls : List (Option Value)} {v : Value} (h : lvo lsA n ls) (hn : k < n) (hc : v.category = 1) (hp : ∀ (j : Nat) (w : Value), ls[j]? = some (some w) → j + 1 = k → w.category = 1) : ∃ ls', storeLocals lsA k v = some ls' ∧ lvo ls' n (ls.set k (some v)) := by
  have hh : lv_has lsA n ((List.range ls.length).filterMap (fun j => match ls[j]? with | some (some w) => some (j, w) | _ => none)) := by
    refine ⟨h.1, h.2.1, fun q hq => ?_⟩
    obtain ⟨j, -, hj⟩ := List.mem_filterMap.mp hq
    split at hj
    · next w hw => cases hj; exact h.2.2 j w hw
    · cases hj
  obtain ⟨ls', e1, h1⟩ := lv_store1 (v := v) hh hn hc
  refine ⟨ls', e1, h1.1, h1.2.1, fun j w hj => ?_⟩
  by_cases hjk : j = k
  · subst hjk
    have hlt : j < ls.length := by
      have := (List.getElem?_eq_some_iff.mp hj).1
      simpa using this
    rw [List.getElem?_set_self hlt] at hj
    cases hj
    exact h1.2.2 (j, v) List.mem_cons_self
  · rw [List.getElem?_set_ne (Ne.symm hjk)] at hj
    refine h1.2.2 (j, w) (List.mem_cons_of_mem _ (List.mem_filter.mpr ⟨List.mem_filterMap.mpr ⟨j, List.mem_range.mpr (List.getElem?_eq_some_iff.mp hj).1, by rw [hj]⟩, ?_⟩))
    have hcw : j + 1 = k → w.category = 1 := hp j w hj
    by_cases hj1 : j + 1 = k
    · simp [hjk, hj1, hcw hj1]
    · simp [hjk, hj1]
-- ROWS: an instruction each
theorem i_iconst {n : Int} {v : Int32} (hd : decode M.2.1 pc = .ok (.iconst n, 1)) (hv : Int32.ofInt n = v) (h : At X d M (pc + 1) ls (.int v :: st) σ r σ') : At X d M pc ls (st) σ r σ' := by
  intro l p e s m args below meth c H locs lsA E hP hS hl
  exact lv_iconst E.1 E.2.1 hd hv (h l p e s m args below meth c H locs lsA E hP hS hl)
theorem i_bipush {n : Int} {v : Int32} (hd : decode M.2.1 pc = .ok (.bipush n, 2)) (hv : (Int8.ofInt n).toInt32 = v) (h : At X d M (pc + 2) ls (.int v :: st) σ r σ') : At X d M pc ls (st) σ r σ' := by
  intro l p e s m args below meth c H locs lsA E hP hS hl
  exact lv_bipush E.1 E.2.1 hd hv (h l p e s m args below meth c H locs lsA E hP hS hl)
theorem i_sipush {n : Int} {v : Int32} (hd : decode M.2.1 pc = .ok (.sipush n, 3)) (hv : (Int16.ofInt n).toInt32 = v) (h : At X d M (pc + 3) ls (.int v :: st) σ r σ') : At X d M pc ls (st) σ r σ' := by
  intro l p e s m args below meth c H locs lsA E hP hS hl
  exact lv_sipush E.1 E.2.1 hd hv (h l p e s m args below meth c H locs lsA E hP hS hl)
theorem i_lconst {n : Fin 2} {v : Int64} (hd : decode M.2.1 pc = .ok (.lconst n, 1)) (hv : Int64.ofNat (n : Nat) = v) (h : At X d M (pc + 1) ls (.long v :: st) σ r σ') : At X d M pc ls (st) σ r σ' := by
  intro l p e s m args below meth c H locs lsA E hP hS hl
  exact lv_lconst E.1 E.2.1 hd hv (h l p e s m args below meth c H locs lsA E hP hS hl)
theorem i_ldc {n : Nat} {v : Int32} (hd : decode M.2.1 pc = .ok (.ldc n, 2)) (hw : Cond.constant M.1.cls n v ∈ GW) (h : At X d M (pc + 2) ls (.int v :: st) σ r σ') : At X d M pc ls (st) σ r σ' := by
  intro l p e s m args below meth c H locs lsA E hP hS hl
  exact lv_ldc E.1 E.2.1 E.2.2.2.1 (E.2.2.2.2.1 _ hw) hd (h l p e s m args below meth c H locs lsA E hP hS hl)
theorem i_ldcw {n : Nat} {v : Int32} (hd : decode M.2.1 pc = .ok (.ldc_w n, 3)) (hw : Cond.constant M.1.cls n v ∈ GW) (h : At X d M (pc + 3) ls (.int v :: st) σ r σ') : At X d M pc ls (st) σ r σ' := by
  intro l p e s m args below meth c H locs lsA E hP hS hl
  exact lv_ldcw E.1 E.2.1 E.2.2.2.1 (E.2.2.2.2.1 _ hw) hd (h l p e s m args below meth c H locs lsA E hP hS hl)
theorem i_ldc2 {n : Nat} {v : Int64} (hd : decode M.2.1 pc = .ok (.ldc2_w n, 3)) (hw : Cond.constantLong M.1.cls n v ∈ GW) (h : At X d M (pc + 3) ls (.long v :: st) σ r σ') : At X d M pc ls (st) σ r σ' := by
  intro l p e s m args below meth c H locs lsA E hP hS hl
  exact lv_ldc2 E.1 E.2.1 E.2.2.2.1 (E.2.2.2.2.1 _ hw) hd (h l p e s m args below meth c H locs lsA E hP hS hl)
theorem i_iload_n {k : Fin 4} {x : Int32} (hd : decode M.2.1 pc = .ok (.iload_n k, 1)) (hk : ls[(k : Nat)]? = some (some (.int x))) (h : At X d M (pc + 1) ls (.int x :: st) σ r σ') : At X d M pc ls (st) σ r σ' := by
  intro l p e s m args below meth c H locs lsA E hP hS hl
  exact lv_iload_n E.1 E.2.1 hd rfl (hl.get hk) (h l p e s m args below meth c H locs lsA E hP hS hl)
theorem i_iload {k : Nat} {x : Int32} (hd : decode M.2.1 pc = .ok (.iload k, 2)) (hk : ls[k]? = some (some (.int x))) (h : At X d M (pc + 2) ls (.int x :: st) σ r σ') : At X d M pc ls (st) σ r σ' := by
  intro l p e s m args below meth c H locs lsA E hP hS hl
  exact lv_iload E.1 E.2.1 hd (hl.get hk) (h l p e s m args below meth c H locs lsA E hP hS hl)
theorem i_lload_n {k : Fin 4} {x : Int64} (hd : decode M.2.1 pc = .ok (.lload_n k, 1)) (hk : ls[(k : Nat)]? = some (some (.long x))) (h : At X d M (pc + 1) ls (.long x :: st) σ r σ') : At X d M pc ls (st) σ r σ' := by
  intro l p e s m args below meth c H locs lsA E hP hS hl
  exact lv_lload_n E.1 E.2.1 hd rfl (hl.get hk) (h l p e s m args below meth c H locs lsA E hP hS hl)
theorem i_lload {k : Nat} {x : Int64} (hd : decode M.2.1 pc = .ok (.lload k, 2)) (hk : ls[k]? = some (some (.long x))) (h : At X d M (pc + 2) ls (.long x :: st) σ r σ') : At X d M pc ls (st) σ r σ' := by
  intro l p e s m args below meth c H locs lsA E hP hS hl
  exact lv_lload E.1 E.2.1 hd (hl.get hk) (h l p e s m args below meth c H locs lsA E hP hS hl)
theorem i_aload_n {k : Fin 4} {g i : Nat} (hd : decode M.2.1 pc = .ok (.aload_n k, 1)) (hk : ls[(k : Nat)]? = some (some (rf X g i))) (h : At X d M (pc + 1) ls (rf X g i :: st) σ r σ') : At X d M pc ls (st) σ r σ' := by
  intro l p e s m args below meth c H locs lsA E hP hS hl
  exact lv_aload_n E.1 E.2.1 hd rfl (hl.get hk) (h l p e s m args below meth c H locs lsA E hP hS hl)
theorem i_aload {k : Nat} {g i : Nat} (hd : decode M.2.1 pc = .ok (.aload k, 2)) (hk : ls[k]? = some (some (rf X g i))) (h : At X d M (pc + 2) ls (rf X g i :: st) σ r σ') : At X d M pc ls (st) σ r σ' := by
  intro l p e s m args below meth c H locs lsA E hP hS hl
  exact lv_aload E.1 E.2.1 hd (hl.get hk) (h l p e s m args below meth c H locs lsA E hP hS hl)
theorem i_xload_n {k : Fin 4} {a : Nat} (hd : decode M.2.1 pc = .ok (.aload_n k, 1)) (hk : ls[(k : Nat)]? = some (some (.ref a))) (h : At X d M (pc + 1) ls (.ref a :: st) σ r σ') : At X d M pc ls (st) σ r σ' := by
  intro l p e s m args below meth c H locs lsA E hP hS hl
  exact lv_aload_n E.1 E.2.1 hd rfl (hl.get hk) (h l p e s m args below meth c H locs lsA E hP hS hl)
theorem i_xload {k : Nat} {a : Nat} (hd : decode M.2.1 pc = .ok (.aload k, 2)) (hk : ls[k]? = some (some (.ref a))) (h : At X d M (pc + 2) ls (.ref a :: st) σ r σ') : At X d M pc ls (st) σ r σ' := by
  intro l p e s m args below meth c H locs lsA E hP hS hl
  exact lv_aload E.1 E.2.1 hd (hl.get hk) (h l p e s m args below meth c H locs lsA E hP hS hl)
theorem i_istore_n {k : Fin 4} {x : Int32} {ls' : List (Option Value)} (hd : decode M.2.1 pc = .ok (.istore_n k, 1)) (hk : (k : Nat) < M.2.2.1) (hp : ∀ (j : Nat) (w : Value), ls[j]? = some (some w) → j + 1 = (k : Nat) → w.category = 1) (he : ls.set (k : Nat) (some (.int x)) = ls') (h : At X d M (pc + 1) ls' st σ r σ') : At X d M pc ls (.int x :: st) σ r σ' := by
  intro l p e s m args below meth c H locs lsA E hP hS hl
  obtain ⟨ls2, e2, h2⟩ := hl.store (k := (k : Nat)) (v := .int x) hk rfl hp
  subst he
  have hx := E.1
  have hb := E.2.1
  intro T hT Z
  obtain ⟨t, a, b⟩ := h l p e s m args below meth c H locs ls2 E hP hS h2 T hT Z
  refine ⟨t, ?_, b⟩
  jvm_step Z.here [Z.here.top, ↓top_set Z.here.top, hx, hb, hd, e2]
  exact a
theorem i_istore {k : Nat} {x : Int32} {ls' : List (Option Value)} (hd : decode M.2.1 pc = .ok (.istore k, 2)) (hk : k < M.2.2.1) (hp : ∀ (j : Nat) (w : Value), ls[j]? = some (some w) → j + 1 = k → w.category = 1) (he : ls.set k (some (.int x)) = ls') (h : At X d M (pc + 2) ls' st σ r σ') : At X d M pc ls (.int x :: st) σ r σ' := by
  intro l p e s m args below meth c H locs lsA E hP hS hl
  obtain ⟨ls2, e2, h2⟩ := hl.store (k := k) (v := .int x) hk rfl hp
  subst he
  have hx := E.1
  have hb := E.2.1
  intro T hT Z
  obtain ⟨t, a, b⟩ := h l p e s m args below meth c H locs ls2 E hP hS h2 T hT Z
  refine ⟨t, ?_, b⟩
  jvm_step Z.here [Z.here.top, ↓top_set Z.here.top, hx, hb, hd, e2]
  exact a
theorem i_astore_n {k : Fin 4} {x : Nat} {ls' : List (Option Value)} (hd : decode M.2.1 pc = .ok (.astore_n k, 1)) (hk : (k : Nat) < M.2.2.1) (hp : ∀ (j : Nat) (w : Value), ls[j]? = some (some w) → j + 1 = (k : Nat) → w.category = 1) (he : ls.set (k : Nat) (some (.ref x)) = ls') (h : At X d M (pc + 1) ls' st σ r σ') : At X d M pc ls (.ref x :: st) σ r σ' := by
  intro l p e s m args below meth c H locs lsA E hP hS hl
  obtain ⟨ls2, e2, h2⟩ := hl.store (k := (k : Nat)) (v := .ref x) hk rfl hp
  subst he
  have hx := E.1
  have hb := E.2.1
  intro T hT Z
  obtain ⟨t, a, b⟩ := h l p e s m args below meth c H locs ls2 E hP hS h2 T hT Z
  refine ⟨t, ?_, b⟩
  jvm_step Z.here [Z.here.top, ↓top_set Z.here.top, hx, hb, hd, e2]
  exact ⟨rfl, a⟩
theorem i_astore {k : Nat} {x : Nat} {ls' : List (Option Value)} (hd : decode M.2.1 pc = .ok (.astore k, 2)) (hk : k < M.2.2.1) (hp : ∀ (j : Nat) (w : Value), ls[j]? = some (some w) → j + 1 = k → w.category = 1) (he : ls.set k (some (.ref x)) = ls') (h : At X d M (pc + 2) ls' st σ r σ') : At X d M pc ls (.ref x :: st) σ r σ' := by
  intro l p e s m args below meth c H locs lsA E hP hS hl
  obtain ⟨ls2, e2, h2⟩ := hl.store (k := k) (v := .ref x) hk rfl hp
  subst he
  have hx := E.1
  have hb := E.2.1
  intro T hT Z
  obtain ⟨t, a, b⟩ := h l p e s m args below meth c H locs ls2 E hP hS h2 T hT Z
  refine ⟨t, ?_, b⟩
  jvm_step Z.here [Z.here.top, ↓top_set Z.here.top, hx, hb, hd, e2]
  exact ⟨rfl, a⟩
theorem i_iinc {k : Nat} {n : Int} {x v : Int32} {ls' : List (Option Value)} (hd : decode M.2.1 pc = .ok (.iinc k n, 3)) (hk : ls[k]? = some (some (.int x))) (hv : x + Int32.ofInt n = v) (hn : k < M.2.2.1) (hp : ∀ (j : Nat) (w : Value), ls[j]? = some (some w) → j + 1 = k → w.category = 1) (he : ls.set k (some (.int v)) = ls') (h : At X d M (pc + 3) ls' st σ r σ') : At X d M pc ls st σ r σ' := by
  intro l p e s m args below meth c H locs lsA E hP hS hl
  obtain ⟨ls2, e2, h2⟩ := hl.store (k := k) (v := .int v) hn rfl hp
  subst he
  subst hv
  have hx := E.1
  have hb := E.2.1
  have hg := hl.get hk
  intro T hT Z
  obtain ⟨t, a, b⟩ := h l p e s m args below meth c H locs ls2 E hP hS h2 T hT Z
  refine ⟨t, ?_, b⟩
  jvm_step Z.here [Z.here.top, ↓top_set Z.here.top, hx, hb, hd, hg, e2]
  exact a
end AT
