section AR
variable {X : Cx} {d : Nat} {M : Mi} {pc : Nat} {ls : List (Option Value)} {st : List Value} {σ σ' : Mem} {r : Option Value}
theorem i_iadd {x y : Int32} (hd : decode M.2.1 pc = .ok (.iadd, 1)) (h : At X d M (pc + 1) ls (.int (x + y) :: st) σ r σ') : At X d M pc ls (.int y :: .int x :: st) σ r σ' := by
  intro l p e s m args below meth c H locs lsA E hP hS hl
  exact lv_iadd E.1 E.2.1 hd (h l p e s m args below meth c H locs lsA E hP hS hl)
theorem i_isub {x y : Int32} (hd : decode M.2.1 pc = .ok (.isub, 1)) (h : At X d M (pc + 1) ls (.int (x - y) :: st) σ r σ') : At X d M pc ls (.int y :: .int x :: st) σ r σ' := by
  intro l p e s m args below meth c H locs lsA E hP hS hl
  exact lv_isub E.1 E.2.1 hd (h l p e s m args below meth c H locs lsA E hP hS hl)
theorem i_imul {x y : Int32} (hd : decode M.2.1 pc = .ok (.imul, 1)) (h : At X d M (pc + 1) ls (.int (x * y) :: st) σ r σ') : At X d M pc ls (.int y :: .int x :: st) σ r σ' := by
  intro l p e s m args below meth c H locs lsA E hP hS hl
  exact lv_imul E.1 E.2.1 hd (h l p e s m args below meth c H locs lsA E hP hS hl)
theorem i_iand {x y : Int32} (hd : decode M.2.1 pc = .ok (.iand, 1)) (h : At X d M (pc + 1) ls (.int (x &&& y) :: st) σ r σ') : At X d M pc ls (.int y :: .int x :: st) σ r σ' := by
  intro l p e s m args below meth c H locs lsA E hP hS hl
  exact lv_iand E.1 E.2.1 hd (h l p e s m args below meth c H locs lsA E hP hS hl)
theorem i_ior {x y : Int32} (hd : decode M.2.1 pc = .ok (.ior, 1)) (h : At X d M (pc + 1) ls (.int (x ||| y) :: st) σ r σ') : At X d M pc ls (.int y :: .int x :: st) σ r σ' := by
  intro l p e s m args below meth c H locs lsA E hP hS hl
  exact lv_ior E.1 E.2.1 hd (h l p e s m args below meth c H locs lsA E hP hS hl)
theorem i_ixor {x y : Int32} (hd : decode M.2.1 pc = .ok (.ixor, 1)) (h : At X d M (pc + 1) ls (.int (x ^^^ y) :: st) σ r σ') : At X d M pc ls (.int y :: .int x :: st) σ r σ' := by
  intro l p e s m args below meth c H locs lsA E hP hS hl
  exact lv_ixor E.1 E.2.1 hd (h l p e s m args below meth c H locs lsA E hP hS hl)
theorem i_ishl {x y : Int32} (hd : decode M.2.1 pc = .ok (.ishl, 1)) (h : At X d M (pc + 1) ls (.int (x <<< (y &&& 31)) :: st) σ r σ') : At X d M pc ls (.int y :: .int x :: st) σ r σ' := by
  intro l p e s m args below meth c H locs lsA E hP hS hl
  exact lv_ishl E.1 E.2.1 hd (h l p e s m args below meth c H locs lsA E hP hS hl)
theorem i_ishr {x y : Int32} (hd : decode M.2.1 pc = .ok (.ishr, 1)) (h : At X d M (pc + 1) ls (.int (x >>> (y &&& 31)) :: st) σ r σ') : At X d M pc ls (.int y :: .int x :: st) σ r σ' := by
  intro l p e s m args below meth c H locs lsA E hP hS hl
  exact lv_ishr E.1 E.2.1 hd (h l p e s m args below meth c H locs lsA E hP hS hl)
theorem i_idiv {x y : Int32} (hd : decode M.2.1 pc = .ok (.idiv, 1)) (hne : ¬ y = 0) (h : At X d M (pc + 1) ls (.int (x / y) :: st) σ r σ') : At X d M pc ls (.int y :: .int x :: st) σ r σ' := by
  intro l p e s m args below meth c H locs lsA E hP hS hl
  exact lv_idiv E.1 E.2.1 hd hne (h l p e s m args below meth c H locs lsA E hP hS hl)
theorem i_irem {x y : Int32} (hd : decode M.2.1 pc = .ok (.irem, 1)) (hne : ¬ y = 0) (h : At X d M (pc + 1) ls (.int (x - x / y * y) :: st) σ r σ') : At X d M pc ls (.int y :: .int x :: st) σ r σ' := by
  intro l p e s m args below meth c H locs lsA E hP hS hl
  exact lv_irem E.1 E.2.1 hd hne (h l p e s m args below meth c H locs lsA E hP hS hl)
theorem i_iushr {x y : Int32} (hd : decode M.2.1 pc = .ok (.iushr, 1)) (h : At X d M (pc + 1) ls (.int ((x.toUInt32 >>> (y.toUInt32 &&& Int32.toUInt32 31)).toInt32) :: st) σ r σ') : At X d M pc ls (.int y :: .int x :: st) σ r σ' := by
  intro l p e s m args below meth c H locs lsA E hP hS hl
  exact lv_iushr E.1 E.2.1 hd rfl (h l p e s m args below meth c H locs lsA E hP hS hl)
theorem i_ineg {x : Int32} (hd : decode M.2.1 pc = .ok (.ineg, 1)) (h : At X d M (pc + 1) ls (.int (-x) :: st) σ r σ') : At X d M pc ls (.int x :: st) σ r σ' := by
  intro l p e s m args below meth c H locs lsA E hP hS hl
  exact lv_ineg E.1 E.2.1 hd (h l p e s m args below meth c H locs lsA E hP hS hl)
theorem i_i2l {x : Int32} (hd : decode M.2.1 pc = .ok (.i2l, 1)) (h : At X d M (pc + 1) ls (.long x.toInt64 :: st) σ r σ') : At X d M pc ls (.int x :: st) σ r σ' := by
  intro l p e s m args below meth c H locs lsA E hP hS hl
  exact lv_i2l E.1 E.2.1 hd rfl (h l p e s m args below meth c H locs lsA E hP hS hl)
theorem i_i2b {x : Int32} (hd : decode M.2.1 pc = .ok (.i2b, 1)) (h : At X d M (pc + 1) ls (.int x.toInt8.toInt32 :: st) σ r σ') : At X d M pc ls (.int x :: st) σ r σ' := by
  intro l p e s m args below meth c H locs lsA E hP hS hl
  exact lv_i2b E.1 E.2.1 hd rfl (h l p e s m args below meth c H locs lsA E hP hS hl)
theorem i_i2s {x : Int32} (hd : decode M.2.1 pc = .ok (.i2s, 1)) (h : At X d M (pc + 1) ls (.int x.toInt16.toInt32 :: st) σ r σ') : At X d M pc ls (.int x :: st) σ r σ' := by
  intro l p e s m args below meth c H locs lsA E hP hS hl
  exact lv_i2s E.1 E.2.1 hd rfl (h l p e s m args below meth c H locs lsA E hP hS hl)
theorem i_i2c {x : Int32} (hd : decode M.2.1 pc = .ok (.i2c, 1)) (h : At X d M (pc + 1) ls (.int (x.toUInt32 % 65536).toInt32 :: st) σ r σ') : At X d M pc ls (.int x :: st) σ r σ' := by
  intro l p e s m args below meth c H locs lsA E hP hS hl
  exact lv_i2c E.1 E.2.1 hd rfl (h l p e s m args below meth c H locs lsA E hP hS hl)
theorem i_ladd {x y : Int64} (hd : decode M.2.1 pc = .ok (.ladd, 1)) (h : At X d M (pc + 1) ls (.long (x + y) :: st) σ r σ') : At X d M pc ls (.long y :: .long x :: st) σ r σ' := by
  intro l p e s m args below meth c H locs lsA E hP hS hl
  exact lv_ladd E.1 E.2.1 hd (h l p e s m args below meth c H locs lsA E hP hS hl)
theorem i_lcmp {x y : Int64} (hd : decode M.2.1 pc = .ok (.lcmp, 1)) (h : At X d M (pc + 1) ls (.int (lg_cmp x y) :: st) σ r σ') : At X d M pc ls (.long y :: .long x :: st) σ r σ' := by
  intro l p e s m args below meth c H locs lsA E hP hS hl
  exact W.lcmp E.1 E.2.1 hd (h l p e s m args below meth c H locs lsA E hP hS hl)
theorem i_dup {a : Value} (hd : decode M.2.1 pc = .ok (.dup, 1)) (ha : a.category = 1) (h : At X d M (pc + 1) ls (a :: a :: st) σ r σ') : At X d M pc ls (a :: st) σ r σ' := by
  intro l p e s m args below meth c H locs lsA E hP hS hl
  exact lv_dup E.1 E.2.1 hd ha (h l p e s m args below meth c H locs lsA E hP hS hl)
theorem i_pop {a : Value} (hd : decode M.2.1 pc = .ok (.pop, 1)) (ha : a.category = 1) (h : At X d M (pc + 1) ls (st) σ r σ') : At X d M pc ls (a :: st) σ r σ' := by
  intro l p e s m args below meth c H locs lsA E hP hS hl
  exact lv_pop E.1 E.2.1 hd ha (h l p e s m args below meth c H locs lsA E hP hS hl)
theorem i_dup2 {a b : Value} (hd : decode M.2.1 pc = .ok (.dup2, 1)) (ha : a.category = 1) (hb : b.category = 1) (h : At X d M (pc + 1) ls (a :: b :: a :: b :: st) σ r σ') : At X d M pc ls (a :: b :: st) σ r σ' := by
  intro l p e s m args below meth c H locs lsA E hP hS hl
  exact lv_dup2_11 E.1 E.2.1 hd ha hb (h l p e s m args below meth c H locs lsA E hP hS hl)
theorem i_dup_x1 {a b : Value} (hd : decode M.2.1 pc = .ok (.dup_x1, 1)) (ha : a.category = 1) (hb : b.category = 1) (h : At X d M (pc + 1) ls (a :: b :: a :: st) σ r σ') : At X d M pc ls (a :: b :: st) σ r σ' := by
  intro l p e s m args below meth c H locs lsA E hP hS hl
  exact lv_dup_x1 E.1 E.2.1 hd ha hb (h l p e s m args below meth c H locs lsA E hP hS hl)
theorem i_icmp_eq {x y : Int32} {off : Int} {tgt : Nat} (hd : decode M.2.1 pc = .ok (.if_icmp .eq off, 3)) (ht : (pc : Int) + off = (tgt : Int)) (h1 : x = y → At X d M tgt ls st σ r σ') (h2 : ¬ x = y → At X d M (pc + 3) ls st σ r σ') : At X d M pc ls (.int y :: .int x :: st) σ r σ' := by
  intro l p e s m args below meth c H locs lsA E hP hS hl
  exact lv_icmp_eq E.1 E.2.1 hd ht (fun q => h1 q l p e s m args below meth c H locs lsA E hP hS hl) (fun q => h2 q l p e s m args below meth c H locs lsA E hP hS hl)
theorem i_if_eq {x : Int32} {off : Int} {tgt : Nat} (hd : decode M.2.1 pc = .ok (.ifCond .eq off, 3)) (ht : (pc : Int) + off = (tgt : Int)) (h1 : x = 0 → At X d M tgt ls st σ r σ') (h2 : ¬ x = 0 → At X d M (pc + 3) ls st σ r σ') : At X d M pc ls (.int x :: st) σ r σ' := by
  intro l p e s m args below meth c H locs lsA E hP hS hl
  exact lv_if_eq E.1 E.2.1 hd ht (fun q => h1 q l p e s m args below meth c H locs lsA E hP hS hl) (fun q => h2 q l p e s m args below meth c H locs lsA E hP hS hl)
theorem i_icmp_ne {x y : Int32} {off : Int} {tgt : Nat} (hd : decode M.2.1 pc = .ok (.if_icmp .ne off, 3)) (ht : (pc : Int) + off = (tgt : Int)) (h1 : ¬ x = y → At X d M tgt ls st σ r σ') (h2 : x = y → At X d M (pc + 3) ls st σ r σ') : At X d M pc ls (.int y :: .int x :: st) σ r σ' := by
  intro l p e s m args below meth c H locs lsA E hP hS hl
  exact lv_icmp_ne E.1 E.2.1 hd ht (fun q => h1 q l p e s m args below meth c H locs lsA E hP hS hl) (fun q => h2 q l p e s m args below meth c H locs lsA E hP hS hl)
theorem i_if_ne {x : Int32} {off : Int} {tgt : Nat} (hd : decode M.2.1 pc = .ok (.ifCond .ne off, 3)) (ht : (pc : Int) + off = (tgt : Int)) (h1 : ¬ x = 0 → At X d M tgt ls st σ r σ') (h2 : x = 0 → At X d M (pc + 3) ls st σ r σ') : At X d M pc ls (.int x :: st) σ r σ' := by
  intro l p e s m args below meth c H locs lsA E hP hS hl
  exact lv_if_ne E.1 E.2.1 hd ht (fun q => h1 q l p e s m args below meth c H locs lsA E hP hS hl) (fun q => h2 q l p e s m args below meth c H locs lsA E hP hS hl)
theorem i_icmp_lt {x y : Int32} {off : Int} {tgt : Nat} (hd : decode M.2.1 pc = .ok (.if_icmp .lt off, 3)) (ht : (pc : Int) + off = (tgt : Int)) (h1 : x < y → At X d M tgt ls st σ r σ') (h2 : ¬ x < y → At X d M (pc + 3) ls st σ r σ') : At X d M pc ls (.int y :: .int x :: st) σ r σ' := by
  intro l p e s m args below meth c H locs lsA E hP hS hl
  exact lv_icmp_lt E.1 E.2.1 hd ht (fun q => h1 q l p e s m args below meth c H locs lsA E hP hS hl) (fun q => h2 q l p e s m args below meth c H locs lsA E hP hS hl)
theorem i_if_lt {x : Int32} {off : Int} {tgt : Nat} (hd : decode M.2.1 pc = .ok (.ifCond .lt off, 3)) (ht : (pc : Int) + off = (tgt : Int)) (h1 : x < 0 → At X d M tgt ls st σ r σ') (h2 : ¬ x < 0 → At X d M (pc + 3) ls st σ r σ') : At X d M pc ls (.int x :: st) σ r σ' := by
  intro l p e s m args below meth c H locs lsA E hP hS hl
  exact lv_if_lt E.1 E.2.1 hd ht (fun q => h1 q l p e s m args below meth c H locs lsA E hP hS hl) (fun q => h2 q l p e s m args below meth c H locs lsA E hP hS hl)
theorem i_icmp_ge {x y : Int32} {off : Int} {tgt : Nat} (hd : decode M.2.1 pc = .ok (.if_icmp .ge off, 3)) (ht : (pc : Int) + off = (tgt : Int)) (h1 : y ≤ x → At X d M tgt ls st σ r σ') (h2 : ¬ y ≤ x → At X d M (pc + 3) ls st σ r σ') : At X d M pc ls (.int y :: .int x :: st) σ r σ' := by
  intro l p e s m args below meth c H locs lsA E hP hS hl
  exact lv_icmp_ge E.1 E.2.1 hd ht (fun q => h1 q l p e s m args below meth c H locs lsA E hP hS hl) (fun q => h2 q l p e s m args below meth c H locs lsA E hP hS hl)
theorem i_if_ge {x : Int32} {off : Int} {tgt : Nat} (hd : decode M.2.1 pc = .ok (.ifCond .ge off, 3)) (ht : (pc : Int) + off = (tgt : Int)) (h1 : 0 ≤ x → At X d M tgt ls st σ r σ') (h2 : ¬ 0 ≤ x → At X d M (pc + 3) ls st σ r σ') : At X d M pc ls (.int x :: st) σ r σ' := by
  intro l p e s m args below meth c H locs lsA E hP hS hl
  exact lv_if_ge E.1 E.2.1 hd ht (fun q => h1 q l p e s m args below meth c H locs lsA E hP hS hl) (fun q => h2 q l p e s m args below meth c H locs lsA E hP hS hl)
theorem i_icmp_gt {x y : Int32} {off : Int} {tgt : Nat} (hd : decode M.2.1 pc = .ok (.if_icmp .gt off, 3)) (ht : (pc : Int) + off = (tgt : Int)) (h1 : y < x → At X d M tgt ls st σ r σ') (h2 : ¬ y < x → At X d M (pc + 3) ls st σ r σ') : At X d M pc ls (.int y :: .int x :: st) σ r σ' := by
  intro l p e s m args below meth c H locs lsA E hP hS hl
  exact lv_icmp_gt E.1 E.2.1 hd ht (fun q => h1 q l p e s m args below meth c H locs lsA E hP hS hl) (fun q => h2 q l p e s m args below meth c H locs lsA E hP hS hl)
theorem i_if_gt {x : Int32} {off : Int} {tgt : Nat} (hd : decode M.2.1 pc = .ok (.ifCond .gt off, 3)) (ht : (pc : Int) + off = (tgt : Int)) (h1 : 0 < x → At X d M tgt ls st σ r σ') (h2 : ¬ 0 < x → At X d M (pc + 3) ls st σ r σ') : At X d M pc ls (.int x :: st) σ r σ' := by
  intro l p e s m args below meth c H locs lsA E hP hS hl
  exact lv_if_gt E.1 E.2.1 hd ht (fun q => h1 q l p e s m args below meth c H locs lsA E hP hS hl) (fun q => h2 q l p e s m args below meth c H locs lsA E hP hS hl)
theorem i_icmp_le {x y : Int32} {off : Int} {tgt : Nat} (hd : decode M.2.1 pc = .ok (.if_icmp .le off, 3)) (ht : (pc : Int) + off = (tgt : Int)) (h1 : x ≤ y → At X d M tgt ls st σ r σ') (h2 : ¬ x ≤ y → At X d M (pc + 3) ls st σ r σ') : At X d M pc ls (.int y :: .int x :: st) σ r σ' := by
  intro l p e s m args below meth c H locs lsA E hP hS hl
  exact lv_icmp_le E.1 E.2.1 hd ht (fun q => h1 q l p e s m args below meth c H locs lsA E hP hS hl) (fun q => h2 q l p e s m args below meth c H locs lsA E hP hS hl)
theorem i_if_le {x : Int32} {off : Int} {tgt : Nat} (hd : decode M.2.1 pc = .ok (.ifCond .le off, 3)) (ht : (pc : Int) + off = (tgt : Int)) (h1 : x ≤ 0 → At X d M tgt ls st σ r σ') (h2 : ¬ x ≤ 0 → At X d M (pc + 3) ls st σ r σ') : At X d M pc ls (.int x :: st) σ r σ' := by
  intro l p e s m args below meth c H locs lsA E hP hS hl
  exact lv_if_le E.1 E.2.1 hd ht (fun q => h1 q l p e s m args below meth c H locs lsA E hP hS hl) (fun q => h2 q l p e s m args below meth c H locs lsA E hP hS hl)
theorem i_goto {off : Int} {tgt : Nat} (hd : decode M.2.1 pc = .ok (.goto off, 3)) (ht : (pc : Int) + off = (tgt : Int)) (h : At X d M tgt ls st σ r σ') : At X d M pc ls st σ r σ' := by
  intro l p e s m args below meth c H locs lsA E hP hS hl
  exact lv_goto E.1 E.2.1 hd ht (h l p e s m args below meth c H locs lsA E hP hS hl)
theorem i_tin {dflt lo hi : Int} {offs : Array Int} {len : Nat} {x : Int32} {off : Int} {tgt : Nat} (hd : decode M.2.1 pc = .ok (.tableswitch dflt lo hi offs, len)) (v : Int32) (hx : x = v) (h1 : ¬ v.toInt < lo) (h2 : ¬ hi < v.toInt) (ho : offs[(v.toInt - lo).toNat]? = some off) (ht : (pc : Int) + off = (tgt : Int)) (h : At X d M tgt ls st σ r σ') : At X d M pc ls (.int x :: st) σ r σ' := by
  subst hx
  intro l p e s m args below meth c H locs lsA E hP hS hl
  exact lv_tableIn E.1 E.2.1 hd h1 h2 ho ht (h l p e s m args below meth c H locs lsA E hP hS hl)
theorem i_tout {dflt lo hi : Int} {offs : Array Int} {len : Nat} {x : Int32} {tgt : Nat} (hd : decode M.2.1 pc = .ok (.tableswitch dflt lo hi offs, len)) (h1 : x.toInt < lo ∨ hi < x.toInt) (ht : (pc : Int) + dflt = (tgt : Int)) (h : At X d M tgt ls st σ r σ') : At X d M pc ls (.int x :: st) σ r σ' := by
  intro l p e s m args below meth c H locs lsA E hP hS hl
  exact lv_tableOut E.1 E.2.1 hd h1 ht (h l p e s m args below meth c H locs lsA E hP hS hl)
theorem i_look {dflt : Int} {ps : Array (Int × Int)} {len : Nat} {x : Int32} {off : Int} {tgt : Nat} (hd : decode M.2.1 pc = .ok (.lookupswitch dflt ps, len)) (hp : (ps.toList.zip (ps.toList.drop 1)).all (fun (a, next) => a.1 < next.1) = true) (ho : Op.lookupswitch.offset ps.toList dflt x.toInt = off) (ht : (pc : Int) + off = (tgt : Int)) (h : At X d M tgt ls st σ r σ') : At X d M pc ls (.int x :: st) σ r σ' := by
  intro l p e s m args below meth c H locs lsA E hP hS hl
  exact lv_lookup E.1 E.2.1 hd hp ho ht (h l p e s m args below meth c H locs lsA E hP hS hl)
theorem ne_toInt {x v : Int32} (h : ¬ x = v) {n : Int} (hn : v.toInt = n) : x.toInt ≠ n := fun e => h (Int32.toInt_inj.mp (e.trans hn.symm))
-- fields
theorem objE_get {B : Nat} {ρ : Rho} {σ : Mem} {g i k : Nat} (hk : k < nF g) : (objE B ρ σ g i)[k]? = some (fvE B ρ σ g i k) := by
  unfold objE
  rw [List.getElem?_map, List.getElem?_range hk]
  rfl
theorem objE_len {B : Nat} {ρ : Rho} {σ : Mem} {g i : Nat} : (objE B ρ σ g i).length = nF g := by simp [objE]
theorem objE_set {B : Nat} {ρ ρ' : Rho} {σ σ' : Mem} {g i k : Nat} {v : Value} (hv : k < nF g → fvE B ρ' σ' g i k = v) (ho : ∀ k', k' ≠ k → fvE B ρ' σ' g i k' = fvE B ρ σ g i k') : (objE B ρ σ g i).set k v = objE B ρ' σ' g i := by
  apply List.ext_getElem?
  intro n
  by_cases hn : n < nF g
  · rw [objE_get hn]
    by_cases hk : n = k
    · subst hk
      rw [List.getElem?_set_self (by rw [objE_len]; exact hn), hv hn]
    · rw [List.getElem?_set_ne (Ne.symm hk), objE_get hn, ho n hk]
  · rw [List.getElem?_eq_none_iff.mpr (by rw [List.length_set, objE_len]; omega), List.getElem?_eq_none_iff.mpr (by rw [objE_len]; omega)]
theorem cellE_obj {X : Cx} {ρ : Rho} {σ : Mem} {g i : Nat} (hg : g < 9) : cellE X ρ σ g i = .inr (g, objE X.1 ρ σ g i) := if_pos hg
theorem cellE_arr {X : Cx} {ρ : Rho} {σ : Mem} {g i : Nat} (hg : 9 ≤ g) (ha : ak g < 4) : cellE X ρ σ g i = .inl (xC X (ak g), alen g, .inl (fun j => σ g i j)) := by
  unfold cellE
  rw [if_neg (by omega), if_pos ha]
theorem cellE_ref {X : Cx} {ρ : Rho} {σ : Mem} {g i : Nat} (hg : 9 ≤ g) (ha : ¬ ak g < 4) : cellE X ρ σ g i = .inl (xC X (ak g), alen g, .inr (.inr (.inr (.inr (fun j => (ρ g i j).map (fun q => X.1 + pix q.1 q.2)))))) := by
  unfold cellE
  rw [if_neg (by omega), if_neg ha]
theorem i_get (g i k : Nat) {C : String} {T : u_T} {N idx : Nat} (hc : vwCl[g]? = some (C, T, N)) (hN : nF g = N) (hg : g < 9) (hi : i < cnt g) (hk : k < N) (hin : ∀ w ∈ u_ws C T N, w ∈ GW) (hw : Cond.fieldLink M.1.cls idx (T k).1 (T k).2.1 (T k).2.2.1 ∈ GW) {v : Value} (hv : fvE X.1 RR σ g i k = v) (hd : decode M.2.1 pc = .ok (.getfield idx, 3)) (h : At X d M (pc + 3) ls (v :: st) σ r σ') : At X d M pc ls (rf X g i :: st) σ r σ' := by
  intro l p e s m args below meth c H locs lsA E hP hS hl
  have he : (wl X RR σ ALL)[pix g i]? = some (X.1 + pix g i, .inr (g, objE X.1 RR σ g i)) := by
    rw [wl_at (by omega) hi (pl_lt (by omega) hi), cellE_obj hg]
  exact va_get E.1 E.2.1 E.2.2.2.2.1 hin E.2.2.2.1 E.2.2.2.2.2.2.2.1.1 hP (pix g i) he hc k hk (E.2.2.2.2.1 _ hw) (fun _ h9 => h9) (by rw [objE_get (by omega), hv]) hd (h l p e s m args below meth c H locs lsA E hP hS hl)
theorem i_getN (g i k : Nat) {C host : String} {T : u_T} {N idx : Nat} (hc : vwCl[g]? = some (C, T, N)) (hN : nF g = N) (hg : g < 9) (hi : i < cnt g) (hk : k < N) (hin : ∀ w ∈ u_ws C T N, w ∈ GW) (hw : Cond.fieldLinkNest M.1.cls idx (T k).1 (T k).2.1 (T k).2.2.1 host ∈ NW) {v : Value} (hv : fvE X.1 RR σ g i k = v) (hd : decode M.2.1 pc = .ok (.getfield idx, 3)) (h : At X d M (pc + 3) ls (v :: st) σ r σ') : At X d M pc ls (rf X g i :: st) σ r σ' := by
  intro l p e s m args below meth c H locs lsA E hP hS hl
  have he : (wl X RR σ ALL)[pix g i]? = some (X.1 + pix g i, .inr (g, objE X.1 RR σ g i)) := by
    rw [wl_at (by omega) hi (pl_lt (by omega) hi), cellE_obj hg]
  exact va_getN E.1 E.2.1 E.2.2.2.2.1 hin E.2.2.2.1 E.2.2.2.2.2.2.2.1.1 hP (pix g i) he hc k hk (va_Nw.use rfl (E.2.2.2.2.2.2.2.1.2 _ hw)) (fun _ h9 => h9) (by rw [objE_get (by omega), hv]) hd (h l p e s m args below meth c H locs lsA E hP hS hl)
theorem i_put (g i k : Nat) {C : String} {T : u_T} {N idx : Nat} (ty0 : Nat → FieldType) (hty : ∀ k, k < N → parseFieldDescriptor (T k).2.2.1 = some (ty0 k)) (hnm : ∀ a, a < N → ∀ b, b < N → a ≠ b → (T a).2.1 ≠ (T b).2.1) (hc : vwCl[g]? = some (C, T, N)) (hN : nF g = N) (hg : g < 9) (hi : i < cnt g) (hk : k < N) (hin : ∀ w ∈ u_ws C T N, w ∈ GW) (hw : Cond.fieldLink M.1.cls idx (T k).1 (T k).2.1 (T k).2.2.1 ∈ GW) (hfin : (T k).2.2.2 = false) {v : Value} {x : Int32} (hx : fvE X.1 RR (mput σ g i k x) g i k = v) (ho : ∀ k', k' ≠ k → fvE X.1 RR (mput σ g i k x) g i k' = fvE X.1 RR σ g i k') (hnar : narrow (ty0 k) v = v) (hfit : fits (ty0 k) v = true) (hd : decode M.2.1 pc = .ok (.putfield idx, 3)) (h : At X d M (pc + 3) ls st (mput σ g i k x) r σ') : At X d M pc ls (v :: rf X g i :: st) σ r σ' := by
  intro l p e s m args below meth c H locs lsA E hP hS hl
  have he : (wl X RR σ ALL)[pix g i]? = some (X.1 + pix g i, .inr (g, objE X.1 RR σ g i)) := by
    rw [wl_at (by omega) hi (pl_lt (by omega) hi), cellE_obj hg]
  refine va_put E.1 E.2.1 E.2.2.2.2.1 hin ty0 hty hnm E.2.2.2.1 E.2.2.2.2.2.2.2.1.1 hP (wl_D X RR σ ALL) hS (pix g i) he hc k hk (E.2.2.2.2.1 _ hw) (fun _ h9 => h9) hfin (ty := ty0 k) (hty k hk) hnar hfit (by rw [objE_len]; omega) hd (fun H1 locs1 hP1 _ hS1 => ?_)
  rw [objE_set (ρ' := RR) (σ' := mput σ g i k x) (fun _ => hx) ho, ← cellE_obj (X := X) hg, wl_put (by omega) hi (pl_lt (by omega) hi)] at hP1
  exact h l p e s m args below meth c H1 locs1 lsA E hP1 hS1 hl
theorem i_putN (g i k : Nat) {C host : String} {T : u_T} {N idx : Nat} (ty0 : Nat → FieldType) (hty : ∀ k, k < N → parseFieldDescriptor (T k).2.2.1 = some (ty0 k)) (hnm : ∀ a, a < N → ∀ b, b < N → a ≠ b → (T a).2.1 ≠ (T b).2.1) (hc : vwCl[g]? = some (C, T, N)) (hN : nF g = N) (hg : g < 9) (hi : i < cnt g) (hk : k < N) (hin : ∀ w ∈ u_ws C T N, w ∈ GW) (hw : Cond.fieldLinkNest M.1.cls idx (T k).1 (T k).2.1 (T k).2.2.1 host ∈ NW) (hfin : (T k).2.2.2 = false) {v : Value} {x : Int32} (hx : fvE X.1 RR (mput σ g i k x) g i k = v) (ho : ∀ k', k' ≠ k → fvE X.1 RR (mput σ g i k x) g i k' = fvE X.1 RR σ g i k') (hnar : narrow (ty0 k) v = v) (hfit : fits (ty0 k) v = true) (hd : decode M.2.1 pc = .ok (.putfield idx, 3)) (h : At X d M (pc + 3) ls st (mput σ g i k x) r σ') : At X d M pc ls (v :: rf X g i :: st) σ r σ' := by
  intro l p e s m args below meth c H locs lsA E hP hS hl
  have he : (wl X RR σ ALL)[pix g i]? = some (X.1 + pix g i, .inr (g, objE X.1 RR σ g i)) := by
    rw [wl_at (by omega) hi (pl_lt (by omega) hi), cellE_obj hg]
  refine va_putN E.1 E.2.1 E.2.2.2.2.1 hin ty0 hty hnm E.2.2.2.1 E.2.2.2.2.2.2.2.1.1 hP (wl_D X RR σ ALL) hS (pix g i) he hc k hk (va_Nw.use rfl (E.2.2.2.2.2.2.2.1.2 _ hw)) (fun _ h9 => h9) hfin (ty := ty0 k) (hty k hk) hnar hfit (by rw [objE_len]; omega) hd (fun H1 locs1 hP1 _ hS1 => ?_)
  rw [objE_set (ρ' := RR) (σ' := mput σ g i k x) (fun _ => hx) ho, ← cellE_obj (X := X) hg, wl_put (by omega) hi (pl_lt (by omega) hi)] at hP1
  exact h l p e s m args below meth c H1 locs1 lsA E hP1 hS1 hl
theorem fvE_off {B : Nat} {ρ : Rho} {σ : Mem} {g i k k' : Nat} {x : Int32} (h : k' ≠ k) : fvE B ρ (mput σ g i k x) g i k' = fvE B ρ σ g i k' := by
  have e : mput σ g i k x g i k' = σ g i k' := by
    unfold mput
    rw [if_neg]
    rintro ⟨-, -, e⟩
    exact h e
  simp only [fvE, e]
theorem fvE_on {B : Nat} {ρ : Rho} {σ : Mem} {g i k : Nat} {x : Int32} (h1 : isR g k = false) (h2 : ¬ (g = 4 ∧ k = 2)) : fvE B ρ (mput σ g i k x) g i k = .int x := by
  unfold fvE
  rw [if_neg h2, h1, mput_same]
  rfl
-- arrays
def ix (n : Nat) (v : Int32) : Option Nat := if v < 0 ∨ n ≤ v.toNatClampNeg then none else some v.toNatClampNeg
theorem ix_in {n j : Nat} {v : Int32} (h : ix n v = some j) : vp_in v n ∧ v.toNatClampNeg = j ∧ j < n := by
  unfold ix at h
  split at h
  · cases h
  · next hn =>
    cases h
    exact ⟨hn, rfl, Nat.not_le.mp (fun q => hn (Or.inr q))⟩
theorem ix_lt {n j : Nat} {v : Int32} (h : ix n v = some j) : j < n := (ix_in h).2.2
theorem tys_at {X : Cx} {g : Nat} {ty : FieldType} (k : Nat) (hk : ak g = k + 1) (h : (tysX X)[k]? = some (xC X (k + 1), ty)) : (tysX X)[k]? = some (xC X (ak g), ty) := by rw [hk]; exact h
theorem mput_fun {σ : Mem} {g i k : Nat} {v : Int32} : (fun j => mput σ g i k v g i j) = upd (fun j => σ g i j) k v := by
  funext j
  unfold mput upd
  by_cases h : j = k
  · simp [h]
  · simp [h]
theorem i_iald {g i n j : Nat} {v : Int32} (hd : decode M.2.1 pc = .ok (.iaload, 1)) (hg : 9 ≤ g ∧ g < 42) (hk : ak g = 0 + 1) (hn : alen g = n) (hi : i < cnt g) (hx : ix n v = some j) (h : At X d M (pc + 1) ls (.int (σ g i j) :: st) σ r σ') : At X d M pc ls (.int v :: rf X g i :: st) σ r σ' := by
  subst hn
  obtain ⟨x1, x2, x3⟩ := ix_in hx
  subst x2
  intro l p e s m args below meth c H locs lsA E hP hS hl
  have he : (wl X RR σ ALL)[pix g i]? = some (X.1 + pix g i, .inl (xC X (ak g), alen g, .inl (fun j => σ g i j))) := by
    rw [wl_at hg.2 hi (pl_lt hg.2 hi), cellE_arr hg.1 (by omega)]
  exact va_iald E.1 E.2.1 E.2.2.2.2.2.2.2.1.1 hP (pix g i) 0 he (tys_at 0 hk rfl) x1 hd (h l p e s m args below meth c H locs lsA E hP hS hl)
theorem i_bald {g i n j : Nat} {v : Int32} (hd : decode M.2.1 pc = .ok (.baload, 1)) (hg : 9 ≤ g ∧ g < 42) (hk : ak g = 1 + 1) (hn : alen g = n) (hi : i < cnt g) (hx : ix n v = some j) (h : At X d M (pc + 1) ls (.int (σ g i j) :: st) σ r σ') : At X d M pc ls (.int v :: rf X g i :: st) σ r σ' := by
  subst hn
  obtain ⟨x1, x2, x3⟩ := ix_in hx
  subst x2
  intro l p e s m args below meth c H locs lsA E hP hS hl
  have he : (wl X RR σ ALL)[pix g i]? = some (X.1 + pix g i, .inl (xC X (ak g), alen g, .inl (fun j => σ g i j))) := by
    rw [wl_at hg.2 hi (pl_lt hg.2 hi), cellE_arr hg.1 (by omega)]
  exact va_bald E.1 E.2.1 E.2.2.2.2.2.2.2.1.1 hP (pix g i) 1 he (tys_at 1 hk rfl) x1 hd (h l p e s m args below meth c H locs lsA E hP hS hl)
theorem i_sald {g i n j : Nat} {v : Int32} (hd : decode M.2.1 pc = .ok (.saload, 1)) (hg : 9 ≤ g ∧ g < 42) (hk : ak g = 2 + 1) (hn : alen g = n) (hi : i < cnt g) (hx : ix n v = some j) (h : At X d M (pc + 1) ls (.int (σ g i j) :: st) σ r σ') : At X d M pc ls (.int v :: rf X g i :: st) σ r σ' := by
  subst hn
  obtain ⟨x1, x2, x3⟩ := ix_in hx
  subst x2
  intro l p e s m args below meth c H locs lsA E hP hS hl
  have he : (wl X RR σ ALL)[pix g i]? = some (X.1 + pix g i, .inl (xC X (ak g), alen g, .inl (fun j => σ g i j))) := by
    rw [wl_at hg.2 hi (pl_lt hg.2 hi), cellE_arr hg.1 (by omega)]
  exact va_sald E.1 E.2.1 E.2.2.2.2.2.2.2.1.1 hP (pix g i) 2 he (tys_at 2 hk rfl) x1 hd (h l p e s m args below meth c H locs lsA E hP hS hl)
theorem i_iast {g i n j : Nat} {v x : Int32} (hd : decode M.2.1 pc = .ok (.iastore, 1)) (hg : 9 ≤ g ∧ g < 42) (hk : ak g = 0 + 1) (hn : alen g = n) (hi : i < cnt g) (hx : ix n v = some j) (h : At X d M (pc + 1) ls st (mput σ g i j (x)) r σ') : At X d M pc ls (.int x :: .int v :: rf X g i :: st) σ r σ' := by
  subst hn
  obtain ⟨x1, x2, x3⟩ := ix_in hx
  subst x2
  intro l p e s m args below meth c H locs lsA E hP hS hl
  have he : (wl X RR σ ALL)[pix g i]? = some (X.1 + pix g i, .inl (xC X (ak g), alen g, .inl (fun j => σ g i j))) := by
    rw [wl_at hg.2 hi (pl_lt hg.2 hi), cellE_arr hg.1 (by omega)]
  refine va_iast E.1 E.2.1 E.2.2.2.2.2.2.2.1.1 hP (wl_D X RR σ ALL) hS (pix g i) 0 he (tys_at 0 hk rfl) x1 hd (fun H1 locs1 hP1 _ hS1 => ?_)
  rw [← mput_fun, ← cellE_arr (X := X) (ρ := RR) hg.1 (by omega), wl_put hg.2 hi (pl_lt hg.2 hi)] at hP1
  exact h l p e s m args below meth c H1 locs1 lsA E hP1 hS1 hl
theorem i_bast {g i n j : Nat} {v x : Int32} (hd : decode M.2.1 pc = .ok (.bastore, 1)) (hg : 9 ≤ g ∧ g < 42) (hk : ak g = 1 + 1) (hn : alen g = n) (hi : i < cnt g) (hx : ix n v = some j) (h : At X d M (pc + 1) ls st (mput σ g i j (x.toInt8.toInt32)) r σ') : At X d M pc ls (.int x :: .int v :: rf X g i :: st) σ r σ' := by
  subst hn
  obtain ⟨x1, x2, x3⟩ := ix_in hx
  subst x2
  intro l p e s m args below meth c H locs lsA E hP hS hl
  have he : (wl X RR σ ALL)[pix g i]? = some (X.1 + pix g i, .inl (xC X (ak g), alen g, .inl (fun j => σ g i j))) := by
    rw [wl_at hg.2 hi (pl_lt hg.2 hi), cellE_arr hg.1 (by omega)]
  refine va_bast E.1 E.2.1 E.2.2.2.2.2.2.2.1.1 hP (wl_D X RR σ ALL) hS (pix g i) 1 he (tys_at 1 hk rfl) x1 hd (fun H1 locs1 hP1 _ hS1 => ?_)
  rw [vp_nar_byte, ← mput_fun, ← cellE_arr (X := X) (ρ := RR) hg.1 (by omega), wl_put hg.2 hi (pl_lt hg.2 hi)] at hP1
  exact h l p e s m args below meth c H1 locs1 lsA E hP1 hS1 hl
theorem i_sast {g i n j : Nat} {v x : Int32} (hd : decode M.2.1 pc = .ok (.sastore, 1)) (hg : 9 ≤ g ∧ g < 42) (hk : ak g = 2 + 1) (hn : alen g = n) (hi : i < cnt g) (hx : ix n v = some j) (h : At X d M (pc + 1) ls st (mput σ g i j (x.toInt16.toInt32)) r σ') : At X d M pc ls (.int x :: .int v :: rf X g i :: st) σ r σ' := by
  subst hn
  obtain ⟨x1, x2, x3⟩ := ix_in hx
  subst x2
  intro l p e s m args below meth c H locs lsA E hP hS hl
  have he : (wl X RR σ ALL)[pix g i]? = some (X.1 + pix g i, .inl (xC X (ak g), alen g, .inl (fun j => σ g i j))) := by
    rw [wl_at hg.2 hi (pl_lt hg.2 hi), cellE_arr hg.1 (by omega)]
  refine va_sast E.1 E.2.1 E.2.2.2.2.2.2.2.1.1 hP (wl_D X RR σ ALL) hS (pix g i) 2 he (tys_at 2 hk rfl) x1 hd (fun H1 locs1 hP1 _ hS1 => ?_)
  rw [vp_nar_short, ← mput_fun, ← cellE_arr (X := X) (ρ := RR) hg.1 (by omega), wl_put hg.2 hi (pl_lt hg.2 hi)] at hP1
  exact h l p e s m args below meth c H1 locs1 lsA E hP1 hS1 hl
theorem i_aald {g i n j g' i' : Nat} {v : Int32} {C : String} (kk : Nat) (hd : decode M.2.1 pc = .ok (.aaload, 1)) (hg : 9 ≤ g ∧ g < 42) (hk : ak g = kk + 1) (h4 : 3 ≤ kk) (ht : (tysX X)[kk]? = some (xC X (kk + 1), .object C)) (hn : alen g = n) (hi : i < cnt g) (hx : ix n v = some j) (hr : RR g i j = some (g', i')) (h : At X d M (pc + 1) ls (rf X g' i' :: st) σ r σ') : At X d M pc ls (.int v :: rf X g i :: st) σ r σ' := by
  subst hn
  obtain ⟨x1, x2, x3⟩ := ix_in hx
  subst x2
  intro l p e s m args below meth c H locs lsA E hP hS hl
  have he : (wl X RR σ ALL)[pix g i]? = some (X.1 + pix g i, .inl (xC X (ak g), alen g, .inr (.inr (.inr (.inr (fun j => (RR g i j).map (fun q => X.1 + pix q.1 q.2))))))) := by
    rw [wl_at hg.2 hi (pl_lt hg.2 hi), cellE_ref hg.1 (by omega)]
  refine va_aldq E.1 E.2.1 E.2.2.2.2.2.2.2.1.1 hP (pix g i) kk he (tys_at kk hk ht) x1 hd ?_
  rw [hr]
  exact h l p e s m args below meth c H locs lsA E hP hS hl
-- static rows
theorem i_gets {idx : Nat} (k : Nat) (hk : k < 3) (hd : decode M.2.1 pc = .ok (.getstatic idx, 3)) (hw : Cond.fieldLink M.1.cls idx "NoonVows" (stN k) "[I" ∈ GW) (h : At X d M (pc + 3) ls (.ref (xT X k) :: st) σ r σ') : At X d M pc ls st σ r σ' := by
  intro l p e s m args below meth c H locs lsA E hP hS hl
  exact va_gets E.1 E.2.1 (E.2.2.2.2.2.2.2.2.1.1 k hk).1 hS E.2.2.2.1 (E.2.2.2.2.1 _ hw) (fun _ h9 => h9) hd (h l p e s m args below meth c H locs lsA E hP hS hl)
theorem i_getsN {idx : Nat} {host : String} (k : Nat) (hk : k < 3) (hd : decode M.2.1 pc = .ok (.getstatic idx, 3)) (hw : Cond.fieldLinkNest M.1.cls idx "NoonVows" (stN k) "[I" host ∈ NW) (h : At X d M (pc + 3) ls (.ref (xT X k) :: st) σ r σ') : At X d M pc ls st σ r σ' := by
  intro l p e s m args below meth c H locs lsA E hP hS hl
  exact va_getsN E.1 E.2.1 (E.2.2.2.2.2.2.2.2.1.1 k hk).1 hS E.2.2.2.1 (va_Nw.use rfl (E.2.2.2.2.2.2.2.1.2 _ hw)) (fun _ h9 => h9) hd (h l p e s m args below meth c H locs lsA E hP hS hl)
theorem i_tld {j : Nat} {v : Int32} (k : Nat) (hk : k < 3) (hd : decode M.2.1 pc = .ok (.iaload, 1)) (hx : ix 6 v = some j) (h : At X d M (pc + 1) ls (.int ((stR k).getD j 0) :: st) σ r σ') : At X d M pc ls (.int v :: .ref (xT X k) :: st) σ r σ' := by
  obtain ⟨x1, x2, x3⟩ := ix_in hx
  subst x2
  intro l p e s m args below meth c H locs lsA E hP hS hl
  exact va_ti E.1 E.2.1 (E.2.2.2.2.2.2.2.2.1.1 k hk).2 hS x1 rfl hd (h l p e s m args below meth c H locs lsA E hP hS hl)
-- the script
theorem i_sld {j : Nat} {v : Int32} (hd : decode M.2.1 pc = .ok (.iaload, 1)) (hx : ix (xL X) v = some j) (h : At X d M (pc + 1) ls (.int (xs X j) :: st) σ r σ') : At X d M pc ls (.int v :: .ref (xb X) :: st) σ r σ' := by
  obtain ⟨x1, x2, x3⟩ := ix_in hx
  subst x2
  intro l p e s m args below meth c H locs lsA E hP hS hl
  obtain ⟨hX, hb⟩ := E.2.2.2.2.2.2.2.2.2.1
  exact va_sld E.1 E.2.1 hX (Nat.lt_of_lt_of_le hb E.2.2.2.2.2.2.2.2.2.2.1) (Nat.not_le.mpr hb) hS x1 hd (h l p e s m args below meth c H locs lsA E hP hS hl)
theorem i_slen (hd : decode M.2.1 pc = .ok (.arraylength, 1)) (h : At X d M (pc + 1) ls (.int (Int32.ofNat (xL X)) :: st) σ r σ') : At X d M pc ls (.ref (xb X) :: st) σ r σ' := by
  intro l p e s m args below meth c H locs lsA E hP hS hl
  obtain ⟨hX, hb⟩ := E.2.2.2.2.2.2.2.2.2.1
  exact va_slen E.1 E.2.1 hX (Nat.lt_of_lt_of_le hb E.2.2.2.2.2.2.2.2.2.2.1) (Nat.not_le.mpr hb) hS hd (h l p e s m args below meth c H locs lsA E hP hS hl)
-- ends
theorem i_ireturn {x : Int32} (hr : M.2.2.2 = some .int) (hd : decode M.2.1 pc = .ok (.ireturn, 1)) (hq : r = some (.int x) ∧ σ = σ') : At X d M pc ls [.int x] σ r σ' := by
  obtain ⟨rfl, rfl⟩ := hq
  intro l p e s m args below meth c H locs lsA E hP hS hl
  exact W.iret E.1 E.2.1 (E.2.2.2.2.2.1.trans hr) (fun t ht hW => ⟨⟨rfl, by rw [ht]; exact hP⟩, hS.F ht⟩) hS.2.2 hd E.2.2.2.2.2.2.1
theorem i_zreturn {x : Int32} {ty : FieldType} (hr : M.2.2.2 = some ty) (hx : narrow ty (.int x) = .int x) (hd : decode M.2.1 pc = .ok (.ireturn, 1)) (hq : r = some (.int x) ∧ σ = σ') : At X d M pc ls [.int x] σ r σ' := by
  obtain ⟨rfl, rfl⟩ := hq
  intro l p e s m args below meth c H locs lsA E hP hS hl
  exact W.zret E.1 E.2.1 (E.2.2.2.2.2.1.trans hr) hx (fun t ht hW => ⟨⟨rfl, by rw [ht]; exact hP⟩, hS.F ht⟩) hS.2.2 hd E.2.2.2.2.2.2.1
theorem i_return (hr : M.2.2.2 = none) (hd : decode M.2.1 pc = .ok (.return_, 1)) (hq : r = none ∧ σ = σ') : At X d M pc ls [] σ r σ' := by
  obtain ⟨rfl, rfl⟩ := hq
  intro l p e s m args below meth c H locs lsA E hP hS hl
  exact W.vret E.1 E.2.1 (E.2.2.2.2.2.1.trans hr) (fun t ht hW => ⟨⟨rfl, by rw [ht]; exact hP⟩, hS.F ht⟩) hS.2.2 hd E.2.2.2.2.2.2.1
end AR
