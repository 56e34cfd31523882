section AC
variable {X : Cx} {d : Nat} {M : Mi} {pc : Nat} {ls : List (Option Value)} {st : List Value} {σ σ' : Mem} {r : Option Value}
theorem call_go {p : Program} {l : Launch} {e : Env} {R : Room} {s : State} {m : MethodId} {args : Array Value} {below : List Frame} {meth : Method} {c : Code} {H : Heap} {locs : List Loc} {lsA : Array Slot} {st0 rest : List Value} {r1 : Option Value} {σ1 : Mem} {a : Array Value} {Q : State → Prop} (hr : va_Run p l e R s m args below meth c H locs 0 0 0 0 (F0 m pc lsA st0) rest (QcX X r1 σ1 a) (Ax X)) (hS : va_S (Ax X) s.heap H locs)
    (kk : ∀ (H1 : Heap) (locs1 : List Loc), va_P X.2.1 vwCl (wl X RR σ1 ALL) H1 → va_S (Ax X) s.heap H1 locs1 → W p l e R s m args below meth c H1 locs1 0 0 Q (F0 m (pc + 3) lsA (r1.toList ++ rest))) : W p l e R s m args below meth c H locs 0 0 Q (F0 m pc lsA st0) := by
  intro T hT Z
  obtain ⟨v, st₀, t, T', L, h0, Z', hL, e1, e2, ⟨⟨hv, hp⟩, hz, hk⟩, sg⟩ := hr T hT Z
  cases hv
  rw [h0] at hz hk
  obtain ⟨t2, a1, b1⟩ := kk T'.heap (locs ++ L) (by rw [e1]; exact hp)
    ⟨Nat.le_trans hS.1 (by rw [e1]; exact hz), fun q h1 h2 => by rw [e1, hk q (Nat.lt_of_lt_of_le h1 hS.1) h2]; exact hS.2.1 q h1 h2, fun q hq => by
      rcases List.mem_append.mp hq with h | h
      · exact hS.2.2 q h
      · exact hL q h⟩ T' rfl Z'
  exact ⟨t2, sg t2 a1, b1⟩
/-- a call's words: the link, the class, the code, how many arguments -/
def CwB (own : String) (idx : Nat) (M' : Mi) (n : Nat) : Prop := Cond.methodLink own idx M'.1 ∈ GW ∧ Cond.initialized M'.1.cls ∈ GW ∧ Cond.code M'.1 M'.2.1 M'.2.2.1 M'.2.2.2 ∈ GW ∧ (M'.1.cls ≠ "java/lang/invoke/MethodHandle" ∧ M'.1.cls ≠ "java/lang/invoke/VarHandle" ∧ (parseMethodDescriptor M'.1.desc).map (fun d => d.parameters.length) = some n) ∧ M'.2.2.1 ≤ 21
def CwN (own : String) (idx : Nat) (host : String) (M' : Mi) (n : Nat) : Prop := Cond.methodLinkNest own idx M'.1 host ∈ NW ∧ Cond.initialized M'.1.cls ∈ GW ∧ Cond.code M'.1 M'.2.1 M'.2.2.1 M'.2.2.2 ∈ GW ∧ (M'.1.cls ≠ "java/lang/invoke/MethodHandle" ∧ M'.1.cls ≠ "java/lang/invoke/VarHandle" ∧ (parseMethodDescriptor M'.1.desc).map (fun d => d.parameters.length) = some n) ∧ M'.2.2.1 ≤ 21
def CwI (M' : Mi) : Prop := Cond.instanceMethod M'.1 ∈ GW ∧ Cond.selects M'.1.cls M'.1 M'.1 ∈ GW
theorem room_of {d d' n : Nat} (h : d' + 1 ≤ d) (hn : n ≤ 21) : (rmd d').frames + 1 ≤ (rmd d).frames ∧ 8 + (n + 11) + (rmd d').locals ≤ (rmd d).locals := by
  refine ⟨h, ?_⟩
  show 8 + (n + 11) + 40 * d' ≤ 40 * d
  omega
theorem cb_of {own : String} {idx n d' : Nat} {M' : Mi} {s : State} {args : Array Value} (hts : ∀ w ∈ GW, w.before args s = true) (hw : CwB own idx M' n) (hd : d' + 1 ≤ d) : CallB (rmd d) s args own idx M'.1 M'.2.1 M'.2.2.1 M'.2.2.2 (wsm M') (rmd d') 0 0 n :=
  callB_of n hts (gw_goodM hw.2.2.1) rfl rfl rfl (hts _ hw.2.1) (hts _ hw.1) hw.2.2.2.1 (room_of hd hw.2.2.2.2)
theorem cn_of {own host : String} {idx n d' : Nat} {M' : Mi} {s : State} {args : Array Value} (hts : ∀ w ∈ GW, w.before args s = true) (hN : ∀ w ∈ NW, va_Nw w s) (hw : CwN own idx host M' n) (hd : d' + 1 ≤ d) : va_CN (rmd d) s args own idx M'.1 host M'.2.1 M'.2.2.1 M'.2.2.2 (wsm M') (rmd d') 0 0 n :=
  va_cnB n hts (gw_goodM hw.2.2.1) rfl rfl rfl (hN _ hw.1) (hts _ hw.2.1) hw.2.2.2.1 (room_of hd hw.2.2.2.2)
theorem i_callV {idx n : Nat} {M' : Mi} {d' g i : Nat} {As rest : List Value} {v1 : Value}  {σ1 : Mem} {C : String} {T : u_T} {N : Nat} (hd : decode M.2.1 pc = .ok (.invokevirtual idx, 3)) (hw : CwB M.1.cls idx M' n) (hwi : CwI M') (hc : vwCl[g]? = some (C, T, N)) (hq : C = M'.1.cls) (hg : g < 9) (hi : i < cnt g) (hM : Tri X d' M' (rf X g i :: As) σ (some v1) σ1) (hdd : d' + 1 ≤ d) (hn : As.length = n) (hst : st = As.reverse ++ rf X g i :: rest) (hW : (rest.map fun v => v.category).sum ≤ 8) (h : At X d M (pc + 3) ls (v1 :: rest) σ1 r σ') : At X d M pc ls st σ r σ' := by
  subst hst
  subst hq
  intro l p e s m args below meth c H locs lsA E hP hS hl
  have he : (wl X RR σ ALL)[pix g i]? = some (X.1 + pix g i, .inr (g, objE X.1 RR σ g i)) := by
    rw [wl_at (by omega) hi (pl_lt (by omega) hi), cellE_obj hg]
  have hrv := va_recv E.2.2.2.2.2.2.2.1.1 hP hc he
  refine call_go (va_runV (l := l) (Ts := GW) (own := M.1.cls) (C := M'.1.cls) (As := As) (rest := rest) (b := X.1 + pix g i) ⟨E.1, E.2.1, E.2.2.1, E.2.2.2.1, E.2.2.2.2.1⟩ (hM l) ⟨cb_of E.2.2.2.2.1 hw hdd, E.2.2.2.2.1 _ hwi.1, E.2.2.2.2.1 _ hwi.2⟩ ⟨PcX.blind X _ _, hrv, fun U hU hW => ⟨rfl, E.2.2.2.2.2.2.2.call hU hW hS, by rw [hU]; exact hP⟩⟩ rfl hn hl.1 rfl (lv_room hW) hd ⟨Nat.le_refl _, Nat.le_refl _⟩) hS (fun H1 locs1 hP1 hS1 => ?_)
  exact h l p e s m args below meth c H1 locs1 lsA E hP1 hS1 hl
theorem i_callVz {idx n : Nat} {M' : Mi} {d' g i : Nat} {As rest : List Value}  {σ1 : Mem} {C : String} {T : u_T} {N : Nat} (hd : decode M.2.1 pc = .ok (.invokevirtual idx, 3)) (hw : CwB M.1.cls idx M' n) (hwi : CwI M') (hc : vwCl[g]? = some (C, T, N)) (hq : C = M'.1.cls) (hg : g < 9) (hi : i < cnt g) (hM : Tri X d' M' (rf X g i :: As) σ none σ1) (hdd : d' + 1 ≤ d) (hn : As.length = n) (hst : st = As.reverse ++ rf X g i :: rest) (hW : (rest.map fun v => v.category).sum ≤ 8) (h : At X d M (pc + 3) ls rest σ1 r σ') : At X d M pc ls st σ r σ' := by
  subst hst
  subst hq
  intro l p e s m args below meth c H locs lsA E hP hS hl
  have he : (wl X RR σ ALL)[pix g i]? = some (X.1 + pix g i, .inr (g, objE X.1 RR σ g i)) := by
    rw [wl_at (by omega) hi (pl_lt (by omega) hi), cellE_obj hg]
  have hrv := va_recv E.2.2.2.2.2.2.2.1.1 hP hc he
  refine call_go (va_runV (l := l) (Ts := GW) (own := M.1.cls) (C := M'.1.cls) (As := As) (rest := rest) (b := X.1 + pix g i) ⟨E.1, E.2.1, E.2.2.1, E.2.2.2.1, E.2.2.2.2.1⟩ (hM l) ⟨cb_of E.2.2.2.2.1 hw hdd, E.2.2.2.2.1 _ hwi.1, E.2.2.2.2.1 _ hwi.2⟩ ⟨PcX.blind X _ _, hrv, fun U hU hW => ⟨rfl, E.2.2.2.2.2.2.2.call hU hW hS, by rw [hU]; exact hP⟩⟩ rfl hn hl.1 rfl (lv_room hW) hd ⟨Nat.le_refl _, Nat.le_refl _⟩) hS (fun H1 locs1 hP1 hS1 => ?_)
  exact h l p e s m args below meth c H1 locs1 lsA E hP1 hS1 hl
theorem i_callVN {host : String} {idx n : Nat} {M' : Mi} {d' g i : Nat} {As rest : List Value} {v1 : Value}  {σ1 : Mem} {C : String} {T : u_T} {N : Nat} (hd : decode M.2.1 pc = .ok (.invokevirtual idx, 3)) (hw : CwN M.1.cls idx host M' n) (hwi : CwI M') (hc : vwCl[g]? = some (C, T, N)) (hq : C = M'.1.cls) (hg : g < 9) (hi : i < cnt g) (hM : Tri X d' M' (rf X g i :: As) σ (some v1) σ1) (hdd : d' + 1 ≤ d) (hn : As.length = n) (hst : st = As.reverse ++ rf X g i :: rest) (hW : (rest.map fun v => v.category).sum ≤ 8) (h : At X d M (pc + 3) ls (v1 :: rest) σ1 r σ') : At X d M pc ls st σ r σ' := by
  subst hst
  subst hq
  intro l p e s m args below meth c H locs lsA E hP hS hl
  have he : (wl X RR σ ALL)[pix g i]? = some (X.1 + pix g i, .inr (g, objE X.1 RR σ g i)) := by
    rw [wl_at (by omega) hi (pl_lt (by omega) hi), cellE_obj hg]
  have hrv := va_recv E.2.2.2.2.2.2.2.1.1 hP hc he
  refine call_go (va_runVN (l := l) (Ts := GW) (own := M.1.cls) (C := M'.1.cls) (As := As) (rest := rest) (b := X.1 + pix g i) ⟨E.1, E.2.1, E.2.2.1, E.2.2.2.1, E.2.2.2.2.1⟩ (hM l) ⟨cn_of E.2.2.2.2.1 E.2.2.2.2.2.2.2.1.2 hw hdd, E.2.2.2.2.1 _ hwi.1, E.2.2.2.2.1 _ hwi.2⟩ ⟨PcX.blind X _ _, hrv, fun U hU hW => ⟨rfl, E.2.2.2.2.2.2.2.call hU hW hS, by rw [hU]; exact hP⟩⟩ rfl hn hl.1 rfl (lv_room hW) hd ⟨Nat.le_refl _, Nat.le_refl _⟩) hS (fun H1 locs1 hP1 hS1 => ?_)
  exact h l p e s m args below meth c H1 locs1 lsA E hP1 hS1 hl
theorem i_callVNz {host : String} {idx n : Nat} {M' : Mi} {d' g i : Nat} {As rest : List Value}  {σ1 : Mem} {C : String} {T : u_T} {N : Nat} (hd : decode M.2.1 pc = .ok (.invokevirtual idx, 3)) (hw : CwN M.1.cls idx host M' n) (hwi : CwI M') (hc : vwCl[g]? = some (C, T, N)) (hq : C = M'.1.cls) (hg : g < 9) (hi : i < cnt g) (hM : Tri X d' M' (rf X g i :: As) σ none σ1) (hdd : d' + 1 ≤ d) (hn : As.length = n) (hst : st = As.reverse ++ rf X g i :: rest) (hW : (rest.map fun v => v.category).sum ≤ 8) (h : At X d M (pc + 3) ls rest σ1 r σ') : At X d M pc ls st σ r σ' := by
  subst hst
  subst hq
  intro l p e s m args below meth c H locs lsA E hP hS hl
  have he : (wl X RR σ ALL)[pix g i]? = some (X.1 + pix g i, .inr (g, objE X.1 RR σ g i)) := by
    rw [wl_at (by omega) hi (pl_lt (by omega) hi), cellE_obj hg]
  have hrv := va_recv E.2.2.2.2.2.2.2.1.1 hP hc he
  refine call_go (va_runVN (l := l) (Ts := GW) (own := M.1.cls) (C := M'.1.cls) (As := As) (rest := rest) (b := X.1 + pix g i) ⟨E.1, E.2.1, E.2.2.1, E.2.2.2.1, E.2.2.2.2.1⟩ (hM l) ⟨cn_of E.2.2.2.2.1 E.2.2.2.2.2.2.2.1.2 hw hdd, E.2.2.2.2.1 _ hwi.1, E.2.2.2.2.1 _ hwi.2⟩ ⟨PcX.blind X _ _, hrv, fun U hU hW => ⟨rfl, E.2.2.2.2.2.2.2.call hU hW hS, by rw [hU]; exact hP⟩⟩ rfl hn hl.1 rfl (lv_room hW) hd ⟨Nat.le_refl _, Nat.le_refl _⟩) hS (fun H1 locs1 hP1 hS1 => ?_)
  exact h l p e s m args below meth c H1 locs1 lsA E hP1 hS1 hl
theorem i_callS {idx n : Nat} {M' : Mi} {d' : Nat} {As rest : List Value} {v1 : Value}  {σ1 : Mem} (hd : decode M.2.1 pc = .ok (.invokestatic idx, 3)) (hw : CwB M.1.cls idx M' n) (hws : Cond.static M'.1 ∈ GW) (hM : Tri X d' M' As σ (some v1) σ1) (hdd : d' + 1 ≤ d) (hn : As.length = n) (hst : st = As.reverse ++ rest) (hW : (rest.map fun v => v.category).sum ≤ 8) (h : At X d M (pc + 3) ls (v1 :: rest) σ1 r σ') : At X d M pc ls st σ r σ' := by
  subst hst
  intro l p e s m args below meth c H locs lsA E hP hS hl
  refine call_go (va_runS (l := l) (Ts := GW) (own := M.1.cls) (As := As) (rest := rest) ⟨E.1, E.2.1, E.2.2.1, E.2.2.2.1, E.2.2.2.2.1⟩ (hM l) ⟨cb_of E.2.2.2.2.1 hw hdd, E.2.2.2.2.1 _ hws⟩ ⟨PcX.blind X _ _, fun U hU hW => ⟨rfl, E.2.2.2.2.2.2.2.call hU hW hS, by rw [hU]; exact hP⟩⟩ rfl hn hl.1 rfl (lv_room hW) hd ⟨Nat.le_refl _, Nat.le_refl _⟩) hS (fun H1 locs1 hP1 hS1 => ?_)
  exact h l p e s m args below meth c H1 locs1 lsA E hP1 hS1 hl
theorem i_callSz {idx n : Nat} {M' : Mi} {d' : Nat} {As rest : List Value}  {σ1 : Mem} (hd : decode M.2.1 pc = .ok (.invokestatic idx, 3)) (hw : CwB M.1.cls idx M' n) (hws : Cond.static M'.1 ∈ GW) (hM : Tri X d' M' As σ none σ1) (hdd : d' + 1 ≤ d) (hn : As.length = n) (hst : st = As.reverse ++ rest) (hW : (rest.map fun v => v.category).sum ≤ 8) (h : At X d M (pc + 3) ls rest σ1 r σ') : At X d M pc ls st σ r σ' := by
  subst hst
  intro l p e s m args below meth c H locs lsA E hP hS hl
  refine call_go (va_runS (l := l) (Ts := GW) (own := M.1.cls) (As := As) (rest := rest) ⟨E.1, E.2.1, E.2.2.1, E.2.2.2.1, E.2.2.2.2.1⟩ (hM l) ⟨cb_of E.2.2.2.2.1 hw hdd, E.2.2.2.2.1 _ hws⟩ ⟨PcX.blind X _ _, fun U hU hW => ⟨rfl, E.2.2.2.2.2.2.2.call hU hW hS, by rw [hU]; exact hP⟩⟩ rfl hn hl.1 rfl (lv_room hW) hd ⟨Nat.le_refl _, Nat.le_refl _⟩) hS (fun H1 locs1 hP1 hS1 => ?_)
  exact h l p e s m args below meth c H1 locs1 lsA E hP1 hS1 hl
theorem i_callSN {host : String} {idx n : Nat} {M' : Mi} {d' : Nat} {As rest : List Value} {v1 : Value}  {σ1 : Mem} (hd : decode M.2.1 pc = .ok (.invokestatic idx, 3)) (hw : CwN M.1.cls idx host M' n) (hws : Cond.static M'.1 ∈ GW) (hM : Tri X d' M' As σ (some v1) σ1) (hdd : d' + 1 ≤ d) (hn : As.length = n) (hst : st = As.reverse ++ rest) (hW : (rest.map fun v => v.category).sum ≤ 8) (h : At X d M (pc + 3) ls (v1 :: rest) σ1 r σ') : At X d M pc ls st σ r σ' := by
  subst hst
  intro l p e s m args below meth c H locs lsA E hP hS hl
  refine call_go (va_runSN (l := l) (Ts := GW) (own := M.1.cls) (As := As) (rest := rest) ⟨E.1, E.2.1, E.2.2.1, E.2.2.2.1, E.2.2.2.2.1⟩ (hM l) ⟨cn_of E.2.2.2.2.1 E.2.2.2.2.2.2.2.1.2 hw hdd, E.2.2.2.2.1 _ hws, trivial⟩ ⟨PcX.blind X _ _, fun U hU hW => ⟨rfl, E.2.2.2.2.2.2.2.call hU hW hS, by rw [hU]; exact hP⟩⟩ rfl hn hl.1 rfl (lv_room hW) hd ⟨Nat.le_refl _, Nat.le_refl _⟩) hS (fun H1 locs1 hP1 hS1 => ?_)
  exact h l p e s m args below meth c H1 locs1 lsA E hP1 hS1 hl
theorem i_callSNz {host : String} {idx n : Nat} {M' : Mi} {d' : Nat} {As rest : List Value}  {σ1 : Mem} (hd : decode M.2.1 pc = .ok (.invokestatic idx, 3)) (hw : CwN M.1.cls idx host M' n) (hws : Cond.static M'.1 ∈ GW) (hM : Tri X d' M' As σ none σ1) (hdd : d' + 1 ≤ d) (hn : As.length = n) (hst : st = As.reverse ++ rest) (hW : (rest.map fun v => v.category).sum ≤ 8) (h : At X d M (pc + 3) ls rest σ1 r σ') : At X d M pc ls st σ r σ' := by
  subst hst
  intro l p e s m args below meth c H locs lsA E hP hS hl
  refine call_go (va_runSN (l := l) (Ts := GW) (own := M.1.cls) (As := As) (rest := rest) ⟨E.1, E.2.1, E.2.2.1, E.2.2.2.1, E.2.2.2.2.1⟩ (hM l) ⟨cn_of E.2.2.2.2.1 E.2.2.2.2.2.2.2.1.2 hw hdd, E.2.2.2.2.1 _ hws, trivial⟩ ⟨PcX.blind X _ _, fun U hU hW => ⟨rfl, E.2.2.2.2.2.2.2.call hU hW hS, by rw [hU]; exact hP⟩⟩ rfl hn hl.1 rfl (lv_room hW) hd ⟨Nat.le_refl _, Nat.le_refl _⟩) hS (fun H1 locs1 hP1 hS1 => ?_)
  exact h l p e s m args below meth c H1 locs1 lsA E hP1 hS1 hl
end AC
section AM
variable {X : Cx} {d : Nat} {M : Mi} {pc : Nat} {ls : List (Option Value)} {st : List Value} {σ σ' : Mem} {r : Option Value}
theorem w_Math : Cond.initialized "java/lang/Math" ∈ GW := gw_at 115 (by decide +kernel) (by decide +kernel)
theorem w_mmax : Cond.static Lib.Math.max.name ∈ GW ∧ Cond.code Lib.Math.max.name Lib.Math.max.code 2 (some .int) ∈ GW := ⟨gw_at 488 (by decide +kernel) (by decide +kernel), gw_at 489 (by decide +kernel) (by decide +kernel)⟩
theorem i_mmax {idx : Nat} {x y : Int32} (hd : decode M.2.1 pc = .ok (.invokestatic idx, 3)) (hw : Cond.methodLink M.1.cls idx Lib.Math.max.name ∈ GW) (h1 : 1 ≤ d) (hW : (st.map fun v => v.category).sum ≤ 27) (h : At X d M (pc + 3) ls (.int (if x < y then y else x) :: st) σ r σ') : At X d M pc ls (.int y :: .int x :: st) σ r σ' := by
  intro l p e s m args below meth c H locs lsA E hP hS hl
  have hloc : (st.map fun v => v.category).sum + 13 ≤ (rmd d).locals := by
    show _ ≤ 40 * d
    omega
  exact va_mmax E.1 E.2.1 (E.2.2.1.trans hl.1.symm) E.2.2.2.1 (E.2.2.2.2.1 _ hw) (E.2.2.2.2.1 _ w_mmax.1) (E.2.2.2.2.1 _ w_Math) (E.2.2.2.2.1 _ w_mmax.2) h1 hloc (Nat.le_refl _) (Nat.le_refl _) hd (h l p e s m args below meth c H locs lsA E hP hS hl)
theorem w_mmin : Cond.static Lib.Math.min.name ∈ GW ∧ Cond.code Lib.Math.min.name Lib.Math.min.code 2 (some .int) ∈ GW := ⟨gw_at 501 (by decide +kernel) (by decide +kernel), gw_at 502 (by decide +kernel) (by decide +kernel)⟩
theorem i_mmin {idx : Nat} {x y : Int32} (hd : decode M.2.1 pc = .ok (.invokestatic idx, 3)) (hw : Cond.methodLink M.1.cls idx Lib.Math.min.name ∈ GW) (h1 : 1 ≤ d) (hW : (st.map fun v => v.category).sum ≤ 27) (h : At X d M (pc + 3) ls (.int (if y < x then y else x) :: st) σ r σ') : At X d M pc ls (.int y :: .int x :: st) σ r σ' := by
  intro l p e s m args below meth c H locs lsA E hP hS hl
  have hloc : (st.map fun v => v.category).sum + 13 ≤ (rmd d).locals := by
    show _ ≤ 40 * d
    omega
  exact va_mmin E.1 E.2.1 (E.2.2.1.trans hl.1.symm) E.2.2.2.1 (E.2.2.2.2.1 _ hw) (E.2.2.2.2.1 _ w_mmin.1) (E.2.2.2.2.1 _ w_Math) (E.2.2.2.2.1 _ w_mmin.2) h1 hloc (Nat.le_refl _) (Nat.le_refl _) hd (h l p e s m args below meth c H locs lsA E hP hS hl)
theorem w_mabs : Cond.static Lib.Math.abs.name ∈ GW ∧ Cond.code Lib.Math.abs.name Lib.Math.abs.code 1 (some .int) ∈ GW := ⟨gw_at 645 (by decide +kernel) (by decide +kernel), gw_at 646 (by decide +kernel) (by decide +kernel)⟩
theorem i_mabs {idx : Nat} {x : Int32} (hd : decode M.2.1 pc = .ok (.invokestatic idx, 3)) (hw : Cond.methodLink M.1.cls idx Lib.Math.abs.name ∈ GW) (h1 : 1 ≤ d) (hW : (st.map fun v => v.category).sum ≤ 27) (h : At X d M (pc + 3) ls (.int (if 0 ≤ x then x else 0 - x) :: st) σ r σ') : At X d M pc ls (.int x :: st) σ r σ' := by
  intro l p e s m args below meth c H locs lsA E hP hS hl
  have hloc : (st.map fun v => v.category).sum + 13 ≤ (rmd d).locals := by
    show _ ≤ 40 * d
    omega
  exact va_mabs E.1 E.2.1 (E.2.2.1.trans hl.1.symm) E.2.2.2.1 (E.2.2.2.2.1 _ hw) (E.2.2.2.2.1 _ w_mabs.1) (E.2.2.2.2.1 _ w_Math) (E.2.2.2.2.1 _ w_mabs.2) h1 hloc (Nat.le_refl _) (Nat.le_refl _) hd (h l p e s m args below meth c H locs lsA E hP hS hl)
theorem w_acp : Cond.native arraycopyName ∈ GW ∧ Cond.static arraycopyName ∈ GW ∧ Cond.initialized "java/lang/System" ∈ GW := ⟨gw_at 468 (by decide +kernel) (by decide +kernel), gw_at 467 (by decide +kernel) (by decide +kernel), gw_at 114 (by decide +kernel) (by decide +kernel)⟩
def cpOK (sp dp n : Int32) (n0 n1 : Nat) : Bool := decide (¬ sp < 0 ∧ ¬ dp < 0 ∧ ¬ n < 0 ∧ sp.toNatClampNeg + n.toNatClampNeg ≤ n0 ∧ dp.toNatClampNeg + n.toNatClampNeg ≤ n1)
def mcopy (σ : Mem) (g0 i0 sp g1 i1 dp n : Nat) : Mem := fun g i k => if g = g1 ∧ i = i1 then (if dp ≤ k ∧ k < dp + n then σ g0 i0 (sp + (k - dp)) else σ g i k) else σ g i k
theorem mcopy_fun {σ : Mem} {g0 i0 sp g1 i1 dp n : Nat} : (fun j => mcopy σ g0 i0 sp g1 i1 dp n g1 i1 j) = va_cpy (fun j => σ g0 i0 j) (fun j => σ g1 i1 j) sp dp n := by
  funext j
  unfold mcopy va_cpy
  rw [if_pos ⟨rfl, rfl⟩]
theorem mcopy_off {σ : Mem} {g0 i0 sp g1 i1 dp n g i : Nat} (h : (g, i) ≠ (g1, i1)) : mcopy σ g0 i0 sp g1 i1 dp n g i = σ g i := by
  funext k
  unfold mcopy
  rw [if_neg]
  rintro ⟨rfl, rfl⟩
  exact h rfl
theorem i_acopy {idx g0 i0 g1 i1 n0 n1 : Nat} {sp dp n : Int32} (hd : decode M.2.1 pc = .ok (.invokestatic idx, 3)) (hw : Cond.methodLink M.1.cls idx arraycopyName ∈ GW) (hg0 : 9 ≤ g0 ∧ g0 < 42) (hg1 : 9 ≤ g1 ∧ g1 < 42) (hk0 : ak g0 = 1) (hk1 : ak g1 = 1) (hn0 : alen g0 = n0) (hn1 : alen g1 = n1) (hi0 : i0 < cnt g0) (hi1 : i1 < cnt g1) (hok : cpOK sp dp n n0 n1 = true) (h1 : 1 ≤ d) (hW : (st.map fun v => v.category).sum + (nativeFrameWords "java/lang/System" "arraycopy" 5 + 11) ≤ 40 * d) (h : At X d M (pc + 3) ls st (mcopy σ g0 i0 sp.toNatClampNeg g1 i1 dp.toNatClampNeg n.toNatClampNeg) r σ') : At X d M pc ls (.int n :: .int dp :: rf X g1 i1 :: .int sp :: rf X g0 i0 :: st) σ r σ' := by
  subst hn0
  subst hn1
  obtain ⟨q1, q2, q3, q4, q5⟩ := of_decide_eq_true hok
  intro l p e s m args below meth c H locs lsA E hP hS hl
  have he0 : (wl X RR σ ALL)[pix g0 i0]? = some (X.1 + pix g0 i0, .inl (xC X (ak g0), alen g0, .inl (fun j => σ g0 i0 j))) := by
    rw [wl_at hg0.2 hi0 (pl_lt hg0.2 hi0), cellE_arr hg0.1 (by omega)]
  have he1 : (wl X RR σ ALL)[pix g1 i1]? = some (X.1 + pix g1 i1, .inl (xC X (ak g1), alen g1, .inl (fun j => σ g1 i1 j))) := by
    rw [wl_at hg1.2 hi1 (pl_lt hg1.2 hi1), cellE_arr hg1.1 (by omega)]
  refine va_copyi E.1 E.2.1 (E.2.2.1.trans hl.1.symm) E.2.2.2.1 (E.2.2.2.2.1 _ hw) (E.2.2.2.2.1 _ w_acp.1) (E.2.2.2.2.1 _ w_acp.2.1) (E.2.2.2.2.1 _ w_acp.2.2) E.2.2.2.2.2.2.2.1.1 hP (wl_D X RR σ ALL) hS (pix g0 i0) (pix g1 i1) 0 0 he0 he1 (tys_at 0 hk0 rfl) (tys_at 0 hk1 rfl) rfl q1 q2 q3 q4 q5 (fun _ _ => rfl) h1 hW hd (fun H1 locs1 hP1 _ hS1 => ?_)
  rw [← mcopy_fun, ← cellE_arr (X := X) (ρ := RR) hg1.1 (by omega), wl_set hg1.2 hi1 (pl_lt hg1.2 hi1) (fun g' i' hne => cellE_congr (mcopy_off hne) rfl)] at hP1
  exact h l p e s m args below meth c H1 locs1 lsA E hP1 hS1 hl
theorem i_ldcS {idx : Nat} (k : Nat) (hk : k < 11) (hM : M.1.cls = RX4) (hx : txI.getD k 0 = idx) (hd : decode M.2.1 pc = .ok (.ldc idx, 2)) (h : At X d M (pc + 2) ls (.ref (xK X k) :: st) σ r σ') : At X d M pc ls st σ r σ' := by
  subst hx
  intro l p e s m args below meth c H locs lsA E hP hS hl
  exact va_ldcS E.1 E.2.1 (by rw [← hM]; exact E.2.2.2.1) (E.2.2.2.2.2.2.2.2.2.2.2.1 k hk) hd (h l p e s m args below meth c H locs lsA E hP hS hl)
theorem i_areturn {a : Nat} (hr : M.2.2.2 = some (.object "java/lang/String")) (hd : decode M.2.1 pc = .ok (.areturn, 1)) (hq : r = some (.ref a) ∧ σ = σ') : At X d M pc ls [.ref a] σ r σ' := by
  obtain ⟨rfl, rfl⟩ := hq
  intro l p e s m args below meth c H locs lsA E hP hS hl
  exact W.aret E.1 E.2.1 (E.2.2.2.2.2.1.trans hr) (Or.inl ⟨_, rfl⟩) (Or.inr ⟨_, rfl⟩) (fun t ht hW => ⟨⟨rfl, by rw [ht]; exact hP⟩, hS.F ht⟩) hS.2.2 hd E.2.2.2.2.2.2.1
end AM
