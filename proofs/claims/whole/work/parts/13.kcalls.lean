def lsub : List (Option Value) → List (Option Value) → Prop
  | [], _ => True
  | none :: t, _ :: u => lsub t u
  | some v :: t, w :: u => w = some v ∧ lsub t u
  | none :: _, [] => False
  | some _ :: _, [] => False
theorem lsub_at : ∀ (l m : List (Option Value)), lsub l m → ∀ (k : Nat) (v : Value), l[k]? = some (some v) → m[k]? = some (some v)
  | [], _, _, k, v, h => by simp at h
  | none :: t, w :: u, hs, k, v, h => by
    cases k with
    | zero => simp at h
    | succ k => exact lsub_at t u hs k v (by simpa using h)
  | some x :: t, w :: u, hs, k, v, h => by
    cases k with
    | zero =>
      have h1 : x = v := by simpa using h
      subst h1
      simpa using hs.1
    | succ k => exact lsub_at t u hs.2 k v (by simpa using h)
  | none :: _, [], hs, _, _, _ => hs.elim
  | some _ :: _, [], hs, _, _, _ => hs.elim
section AK
variable {X : Cx} {d : Nat} {M : Mi} {pc : Nat} {ls : List (Option Value)} {st : List Value} {σ σ' : Mem} {r : Option Value} {ρ : Type} {res : ρ}
theorem At.fewer {ls' : List (Option Value)} (hs : lsub ls' ls) (h : At X d M pc ls' st σ r σ') : At X d M pc ls st σ r σ' := At.sub (lsub_at ls' ls hs) h
/-- a store, one place: what stood there, and a long ahead of it, is forgotten -/
def okp (ls : List (Option Value)) (k : Nat) : Bool := match k with
  | 0 => true
  | k + 1 => match ls[k]? with
    | some (some v) => v.category == 1
    | _ => true
theorem okp_at {ls : List (Option Value)} {k : Nat} (h : okp ls k = true) : ∀ (j : Nat) (w : Value), ls[j]? = some (some w) → j + 1 = k → w.category = 1 := by
  intro j w hj e
  subst e
  simp only [okp, hj] at h
  simpa using h
theorem e_bw {x y : Int32} {σ2 : Mem} {inst : Decidable (isB x = true)} (hr : M.2.2.2 = some .boolean) (hd : decode M.2.1 pc = .ok (.ireturn, 1)) (hh : @ite _ (isB x = true) inst (some (x, σ)) none = some (y, σ2)) : At X d M pc ls [.int x] σ (some (.int y)) σ2 :=
  r_case hh (fun c q => e_zw hr (isB_nar c) hd q) (fun _ q => by cases q)
theorem e_br {x y : Int32} {inst : Decidable (isB x = true)} (hr : M.2.2.2 = some .boolean) (hd : decode M.2.1 pc = .ok (.ireturn, 1)) (hh : @ite _ (isB x = true) inst (some x) none = some y) : At X d M pc ls [.int x] σ (some (.int y)) σ :=
  r_case hh (fun c q => e_zr hr (isB_nar c) hd q) (fun _ q => by cases q)
theorem cV_ir {idx n : Nat} {M' : Mi} {d' g i : Nat} {As rest : List Value} {C : String} {T : u_T} {N : Nat} {f : Option Int32} {k : Int32 → Option ρ} (hd : decode M.2.1 pc = .ok (.invokevirtual idx, 3)) (hw : CwB M.1.cls idx M' n) (hwi : CwI M') (hc : vwCl[g]? = some (C, T, N)) (hq : C = M'.1.cls) (hg : g < 9) (hi : i < cnt g) (hh : bnd f k = some res) (hM : ∀ a, f = some a → Tri X d' M' (rf X g i :: As) σ (some (.int a)) σ) (hdd : d' + 1 ≤ d) (hn : As.length = n) (hst : st = As.reverse ++ rf X g i :: rest) (hW : (rest.map fun v => v.category).sum ≤ 8) (h : ∀ a, f = some a → k a = some res → At X d M (pc + 3) ls (.int a :: rest) σ r σ') : At X d M pc ls st σ r σ' := by
  obtain ⟨a, e, h2⟩ := bnd_some hh
  exact i_callV hd hw hwi hc hq hg hi (hM a e) hdd hn hst hW (h a e h2)
theorem cV_iw {idx n : Nat} {M' : Mi} {d' g i : Nat} {As rest : List Value} {C : String} {T : u_T} {N : Nat} {f : Option (Int32 × Mem)} {k : (Int32 × Mem) → Option ρ} (hd : decode M.2.1 pc = .ok (.invokevirtual idx, 3)) (hw : CwB M.1.cls idx M' n) (hwi : CwI M') (hc : vwCl[g]? = some (C, T, N)) (hq : C = M'.1.cls) (hg : g < 9) (hi : i < cnt g) (hh : bnd f k = some res) (hM : ∀ a, f = some a → Tri X d' M' (rf X g i :: As) σ (some (.int a.1)) a.2) (hdd : d' + 1 ≤ d) (hn : As.length = n) (hst : st = As.reverse ++ rf X g i :: rest) (hW : (rest.map fun v => v.category).sum ≤ 8) (h : ∀ a, f = some a → k a = some res → At X d M (pc + 3) ls (.int a.1 :: rest) a.2 r σ') : At X d M pc ls st σ r σ' := by
  obtain ⟨a, e, h2⟩ := bnd_some hh
  exact i_callV hd hw hwi hc hq hg hi (hM a e) hdd hn hst hW (h a e h2)
theorem cV_vw {idx n : Nat} {M' : Mi} {d' g i : Nat} {As rest : List Value} {C : String} {T : u_T} {N : Nat} {f : Option Mem} {k : Mem → Option ρ} (hd : decode M.2.1 pc = .ok (.invokevirtual idx, 3)) (hw : CwB M.1.cls idx M' n) (hwi : CwI M') (hc : vwCl[g]? = some (C, T, N)) (hq : C = M'.1.cls) (hg : g < 9) (hi : i < cnt g) (hh : bnd f k = some res) (hM : ∀ a, f = some a → Tri X d' M' (rf X g i :: As) σ none a) (hdd : d' + 1 ≤ d) (hn : As.length = n) (hst : st = As.reverse ++ rf X g i :: rest) (hW : (rest.map fun v => v.category).sum ≤ 8) (h : ∀ a, f = some a → k a = some res → At X d M (pc + 3) ls rest a r σ') : At X d M pc ls st σ r σ' := by
  obtain ⟨a, e, h2⟩ := bnd_some hh
  exact i_callVz hd hw hwi hc hq hg hi (hM a e) hdd hn hst hW (h a e h2)
theorem cV_sr {idx n : Nat} {M' : Mi} {d' g i : Nat} {As rest : List Value} {C : String} {T : u_T} {N : Nat} {f : Option Nat} {k : Nat → Option ρ} (hd : decode M.2.1 pc = .ok (.invokevirtual idx, 3)) (hw : CwB M.1.cls idx M' n) (hwi : CwI M') (hc : vwCl[g]? = some (C, T, N)) (hq : C = M'.1.cls) (hg : g < 9) (hi : i < cnt g) (hh : bnd f k = some res) (hM : ∀ a, f = some a → Tri X d' M' (rf X g i :: As) σ (some (.ref (xK X a))) σ) (hdd : d' + 1 ≤ d) (hn : As.length = n) (hst : st = As.reverse ++ rf X g i :: rest) (hW : (rest.map fun v => v.category).sum ≤ 8) (h : ∀ a, f = some a → k a = some res → At X d M (pc + 3) ls (.ref (xK X a) :: rest) σ r σ') : At X d M pc ls st σ r σ' := by
  obtain ⟨a, e, h2⟩ := bnd_some hh
  exact i_callV hd hw hwi hc hq hg hi (hM a e) hdd hn hst hW (h a e h2)
theorem cVN_ir {host : String} {idx n : Nat} {M' : Mi} {d' g i : Nat} {As rest : List Value} {C : String} {T : u_T} {N : Nat} {f : Option Int32} {k : Int32 → Option ρ} (hd : decode M.2.1 pc = .ok (.invokevirtual idx, 3)) (hw : CwN M.1.cls idx host M' n) (hwi : CwI M') (hc : vwCl[g]? = some (C, T, N)) (hq : C = M'.1.cls) (hg : g < 9) (hi : i < cnt g) (hh : bnd f k = some res) (hM : ∀ a, f = some a → Tri X d' M' (rf X g i :: As) σ (some (.int a)) σ) (hdd : d' + 1 ≤ d) (hn : As.length = n) (hst : st = As.reverse ++ rf X g i :: rest) (hW : (rest.map fun v => v.category).sum ≤ 8) (h : ∀ a, f = some a → k a = some res → At X d M (pc + 3) ls (.int a :: rest) σ r σ') : At X d M pc ls st σ r σ' := by
  obtain ⟨a, e, h2⟩ := bnd_some hh
  exact i_callVN hd hw hwi hc hq hg hi (hM a e) hdd hn hst hW (h a e h2)
theorem cVN_iw {host : String} {idx n : Nat} {M' : Mi} {d' g i : Nat} {As rest : List Value} {C : String} {T : u_T} {N : Nat} {f : Option (Int32 × Mem)} {k : (Int32 × Mem) → Option ρ} (hd : decode M.2.1 pc = .ok (.invokevirtual idx, 3)) (hw : CwN M.1.cls idx host M' n) (hwi : CwI M') (hc : vwCl[g]? = some (C, T, N)) (hq : C = M'.1.cls) (hg : g < 9) (hi : i < cnt g) (hh : bnd f k = some res) (hM : ∀ a, f = some a → Tri X d' M' (rf X g i :: As) σ (some (.int a.1)) a.2) (hdd : d' + 1 ≤ d) (hn : As.length = n) (hst : st = As.reverse ++ rf X g i :: rest) (hW : (rest.map fun v => v.category).sum ≤ 8) (h : ∀ a, f = some a → k a = some res → At X d M (pc + 3) ls (.int a.1 :: rest) a.2 r σ') : At X d M pc ls st σ r σ' := by
  obtain ⟨a, e, h2⟩ := bnd_some hh
  exact i_callVN hd hw hwi hc hq hg hi (hM a e) hdd hn hst hW (h a e h2)
theorem cVN_vw {host : String} {idx n : Nat} {M' : Mi} {d' g i : Nat} {As rest : List Value} {C : String} {T : u_T} {N : Nat} {f : Option Mem} {k : Mem → Option ρ} (hd : decode M.2.1 pc = .ok (.invokevirtual idx, 3)) (hw : CwN M.1.cls idx host M' n) (hwi : CwI M') (hc : vwCl[g]? = some (C, T, N)) (hq : C = M'.1.cls) (hg : g < 9) (hi : i < cnt g) (hh : bnd f k = some res) (hM : ∀ a, f = some a → Tri X d' M' (rf X g i :: As) σ none a) (hdd : d' + 1 ≤ d) (hn : As.length = n) (hst : st = As.reverse ++ rf X g i :: rest) (hW : (rest.map fun v => v.category).sum ≤ 8) (h : ∀ a, f = some a → k a = some res → At X d M (pc + 3) ls rest a r σ') : At X d M pc ls st σ r σ' := by
  obtain ⟨a, e, h2⟩ := bnd_some hh
  exact i_callVNz hd hw hwi hc hq hg hi (hM a e) hdd hn hst hW (h a e h2)
theorem cVN_sr {host : String} {idx n : Nat} {M' : Mi} {d' g i : Nat} {As rest : List Value} {C : String} {T : u_T} {N : Nat} {f : Option Nat} {k : Nat → Option ρ} (hd : decode M.2.1 pc = .ok (.invokevirtual idx, 3)) (hw : CwN M.1.cls idx host M' n) (hwi : CwI M') (hc : vwCl[g]? = some (C, T, N)) (hq : C = M'.1.cls) (hg : g < 9) (hi : i < cnt g) (hh : bnd f k = some res) (hM : ∀ a, f = some a → Tri X d' M' (rf X g i :: As) σ (some (.ref (xK X a))) σ) (hdd : d' + 1 ≤ d) (hn : As.length = n) (hst : st = As.reverse ++ rf X g i :: rest) (hW : (rest.map fun v => v.category).sum ≤ 8) (h : ∀ a, f = some a → k a = some res → At X d M (pc + 3) ls (.ref (xK X a) :: rest) σ r σ') : At X d M pc ls st σ r σ' := by
  obtain ⟨a, e, h2⟩ := bnd_some hh
  exact i_callVN hd hw hwi hc hq hg hi (hM a e) hdd hn hst hW (h a e h2)
theorem cS_ir {idx n : Nat} {M' : Mi} {d' : Nat} {As rest : List Value} {f : Option Int32} {k : Int32 → Option ρ} (hd : decode M.2.1 pc = .ok (.invokestatic idx, 3)) (hw : CwB M.1.cls idx M' n) (hws : Cond.static M'.1 ∈ GW) (hh : bnd f k = some res) (hM : ∀ a, f = some a → Tri X d' M' As σ (some (.int a)) σ) (hdd : d' + 1 ≤ d) (hn : As.length = n) (hst : st = As.reverse ++ rest) (hW : (rest.map fun v => v.category).sum ≤ 8) (h : ∀ a, f = some a → k a = some res → At X d M (pc + 3) ls (.int a :: rest) σ r σ') : At X d M pc ls st σ r σ' := by
  obtain ⟨a, e, h2⟩ := bnd_some hh
  exact i_callS hd hw hws (hM a e) hdd hn hst hW (h a e h2)
theorem cS_iw {idx n : Nat} {M' : Mi} {d' : Nat} {As rest : List Value} {f : Option (Int32 × Mem)} {k : (Int32 × Mem) → Option ρ} (hd : decode M.2.1 pc = .ok (.invokestatic idx, 3)) (hw : CwB M.1.cls idx M' n) (hws : Cond.static M'.1 ∈ GW) (hh : bnd f k = some res) (hM : ∀ a, f = some a → Tri X d' M' As σ (some (.int a.1)) a.2) (hdd : d' + 1 ≤ d) (hn : As.length = n) (hst : st = As.reverse ++ rest) (hW : (rest.map fun v => v.category).sum ≤ 8) (h : ∀ a, f = some a → k a = some res → At X d M (pc + 3) ls (.int a.1 :: rest) a.2 r σ') : At X d M pc ls st σ r σ' := by
  obtain ⟨a, e, h2⟩ := bnd_some hh
  exact i_callS hd hw hws (hM a e) hdd hn hst hW (h a e h2)
theorem cS_vw {idx n : Nat} {M' : Mi} {d' : Nat} {As rest : List Value} {f : Option Mem} {k : Mem → Option ρ} (hd : decode M.2.1 pc = .ok (.invokestatic idx, 3)) (hw : CwB M.1.cls idx M' n) (hws : Cond.static M'.1 ∈ GW) (hh : bnd f k = some res) (hM : ∀ a, f = some a → Tri X d' M' As σ none a) (hdd : d' + 1 ≤ d) (hn : As.length = n) (hst : st = As.reverse ++ rest) (hW : (rest.map fun v => v.category).sum ≤ 8) (h : ∀ a, f = some a → k a = some res → At X d M (pc + 3) ls rest a r σ') : At X d M pc ls st σ r σ' := by
  obtain ⟨a, e, h2⟩ := bnd_some hh
  exact i_callSz hd hw hws (hM a e) hdd hn hst hW (h a e h2)
theorem cS_sr {idx n : Nat} {M' : Mi} {d' : Nat} {As rest : List Value} {f : Option Nat} {k : Nat → Option ρ} (hd : decode M.2.1 pc = .ok (.invokestatic idx, 3)) (hw : CwB M.1.cls idx M' n) (hws : Cond.static M'.1 ∈ GW) (hh : bnd f k = some res) (hM : ∀ a, f = some a → Tri X d' M' As σ (some (.ref (xK X a))) σ) (hdd : d' + 1 ≤ d) (hn : As.length = n) (hst : st = As.reverse ++ rest) (hW : (rest.map fun v => v.category).sum ≤ 8) (h : ∀ a, f = some a → k a = some res → At X d M (pc + 3) ls (.ref (xK X a) :: rest) σ r σ') : At X d M pc ls st σ r σ' := by
  obtain ⟨a, e, h2⟩ := bnd_some hh
  exact i_callS hd hw hws (hM a e) hdd hn hst hW (h a e h2)
theorem cSN_ir {host : String} {idx n : Nat} {M' : Mi} {d' : Nat} {As rest : List Value} {f : Option Int32} {k : Int32 → Option ρ} (hd : decode M.2.1 pc = .ok (.invokestatic idx, 3)) (hw : CwN M.1.cls idx host M' n) (hws : Cond.static M'.1 ∈ GW) (hh : bnd f k = some res) (hM : ∀ a, f = some a → Tri X d' M' As σ (some (.int a)) σ) (hdd : d' + 1 ≤ d) (hn : As.length = n) (hst : st = As.reverse ++ rest) (hW : (rest.map fun v => v.category).sum ≤ 8) (h : ∀ a, f = some a → k a = some res → At X d M (pc + 3) ls (.int a :: rest) σ r σ') : At X d M pc ls st σ r σ' := by
  obtain ⟨a, e, h2⟩ := bnd_some hh
  exact i_callSN hd hw hws (hM a e) hdd hn hst hW (h a e h2)
theorem cSN_iw {host : String} {idx n : Nat} {M' : Mi} {d' : Nat} {As rest : List Value} {f : Option (Int32 × Mem)} {k : (Int32 × Mem) → Option ρ} (hd : decode M.2.1 pc = .ok (.invokestatic idx, 3)) (hw : CwN M.1.cls idx host M' n) (hws : Cond.static M'.1 ∈ GW) (hh : bnd f k = some res) (hM : ∀ a, f = some a → Tri X d' M' As σ (some (.int a.1)) a.2) (hdd : d' + 1 ≤ d) (hn : As.length = n) (hst : st = As.reverse ++ rest) (hW : (rest.map fun v => v.category).sum ≤ 8) (h : ∀ a, f = some a → k a = some res → At X d M (pc + 3) ls (.int a.1 :: rest) a.2 r σ') : At X d M pc ls st σ r σ' := by
  obtain ⟨a, e, h2⟩ := bnd_some hh
  exact i_callSN hd hw hws (hM a e) hdd hn hst hW (h a e h2)
theorem cSN_vw {host : String} {idx n : Nat} {M' : Mi} {d' : Nat} {As rest : List Value} {f : Option Mem} {k : Mem → Option ρ} (hd : decode M.2.1 pc = .ok (.invokestatic idx, 3)) (hw : CwN M.1.cls idx host M' n) (hws : Cond.static M'.1 ∈ GW) (hh : bnd f k = some res) (hM : ∀ a, f = some a → Tri X d' M' As σ none a) (hdd : d' + 1 ≤ d) (hn : As.length = n) (hst : st = As.reverse ++ rest) (hW : (rest.map fun v => v.category).sum ≤ 8) (h : ∀ a, f = some a → k a = some res → At X d M (pc + 3) ls rest a r σ') : At X d M pc ls st σ r σ' := by
  obtain ⟨a, e, h2⟩ := bnd_some hh
  exact i_callSNz hd hw hws (hM a e) hdd hn hst hW (h a e h2)
theorem cSN_sr {host : String} {idx n : Nat} {M' : Mi} {d' : Nat} {As rest : List Value} {f : Option Nat} {k : Nat → Option ρ} (hd : decode M.2.1 pc = .ok (.invokestatic idx, 3)) (hw : CwN M.1.cls idx host M' n) (hws : Cond.static M'.1 ∈ GW) (hh : bnd f k = some res) (hM : ∀ a, f = some a → Tri X d' M' As σ (some (.ref (xK X a))) σ) (hdd : d' + 1 ≤ d) (hn : As.length = n) (hst : st = As.reverse ++ rest) (hW : (rest.map fun v => v.category).sum ≤ 8) (h : ∀ a, f = some a → k a = some res → At X d M (pc + 3) ls (.ref (xK X a) :: rest) σ r σ') : At X d M pc ls st σ r σ' := by
  obtain ⟨a, e, h2⟩ := bnd_some hh
  exact i_callSN hd hw hws (hM a e) hdd hn hst hW (h a e h2)
end AK
