abbrev mJ0_length_8abf5 : Mi := (yJ0_length_8abf5, cJ0_length_8abf5, 1, (some .int))
abbrev mJ0_charAt_5068e : Mi := (yJ0_charAt_5068e, cJ0_charAt_5068e, 2, (some .char))
abbrev mJ0_indexOf_0f7a4 : Mi := (yJ0_indexOf_0f7a4, cJ0_indexOf_0f7a4, 2, (some .int))
abbrev mJ0_indexOf_7cf53 : Mi := (yJ0_indexOf_7cf53, cJ0_indexOf_7cf53, 3, (some .int))
abbrev mJ0_coder_7d493 : Mi := (yJ0_coder_7d493, cJ0_coder_7d493, 1, (some .byte))
abbrev mJ0_isLatin1_aae02 : Mi := (yJ0_isLatin1_aae02, cJ0_isLatin1_aae02, 1, (some .boolean))
abbrev mJ0_checkIndex_df160 : Mi := (yJ0_checkIndex_df160, cJ0_checkIndex_df160, 2, none)
abbrev mJ1_charAt_3b067 : Mi := (yJ1_charAt_3b067, cJ1_charAt_3b067, 2, (some .char))
abbrev mJ1_canEncode_9a6ad : Mi := (yJ1_canEncode_9a6ad, cJ1_canEncode_9a6ad, 1, (some .boolean))
abbrev mJ1_indexOf_4cfef : Mi := (yJ1_indexOf_4cfef, cJ1_indexOf_4cfef, 4, (some .int))
abbrev mJ1_indexOfChar_4cfef : Mi := (yJ1_indexOfChar_4cfef, cJ1_indexOfChar_4cfef, 6, (some .int))
abbrev mJ3_checkIndex_8e157 : Mi := (yJ3_checkIndex_8e157, cJ3_checkIndex_8e157, 3, (some .int))
theorem cw_J0_335 : CwB RJ0 335 mJ0_coder_7d493 0 := ⟨gw_at 705 (by decide +kernel) (by decide +kernel), gw_at 116 (by decide +kernel) (by decide +kernel), gw_at 708 (by decide +kernel) (by decide +kernel), ⟨by decide +kernel, by decide +kernel, by decide +kernel⟩, by decide⟩
theorem cw_J0_492 : CwB RJ0 492 mJ0_isLatin1_aae02 0 := ⟨gw_at 715 (by decide +kernel) (by decide +kernel), gw_at 116 (by decide +kernel) (by decide +kernel), gw_at 718 (by decide +kernel) (by decide +kernel), ⟨by decide +kernel, by decide +kernel, by decide +kernel⟩, by decide⟩
theorem cw_J0_495 : CwB RJ0 495 mJ1_charAt_3b067 2 := ⟨gw_at 719 (by decide +kernel) (by decide +kernel), gw_at 117 (by decide +kernel) (by decide +kernel), gw_at 721 (by decide +kernel) (by decide +kernel), ⟨by decide +kernel, by decide +kernel, by decide +kernel⟩, by decide⟩
theorem cw_J0_633 : CwB RJ0 633 mJ0_indexOf_7cf53 2 := ⟨gw_at 789 (by decide +kernel) (by decide +kernel), gw_at 116 (by decide +kernel) (by decide +kernel), gw_at 792 (by decide +kernel) (by decide +kernel), ⟨by decide +kernel, by decide +kernel, by decide +kernel⟩, by decide⟩
theorem cw_J0_505 : CwB RJ0 505 mJ0_length_8abf5 0 := ⟨gw_at 793 (by decide +kernel) (by decide +kernel), gw_at 116 (by decide +kernel) (by decide +kernel), gw_at 704 (by decide +kernel) (by decide +kernel), ⟨by decide +kernel, by decide +kernel, by decide +kernel⟩, by decide⟩
theorem cw_J0_637 : CwB RJ0 637 mJ1_indexOf_4cfef 4 := ⟨gw_at 794 (by decide +kernel) (by decide +kernel), gw_at 117 (by decide +kernel) (by decide +kernel), gw_at 796 (by decide +kernel) (by decide +kernel), ⟨by decide +kernel, by decide +kernel, by decide +kernel⟩, by decide⟩
theorem cw_J0_1059 : CwB RJ0 1059 mJ3_checkIndex_8e157 3 := ⟨gw_at 727 (by decide +kernel) (by decide +kernel), gw_at 118 (by decide +kernel) (by decide +kernel), gw_at 729 (by decide +kernel) (by decide +kernel), ⟨by decide +kernel, by decide +kernel, by decide +kernel⟩, by decide⟩
theorem cw_J1_9 : CwB RJ1 9 mJ0_checkIndex_df160 2 := ⟨gw_at 722 (by decide +kernel) (by decide +kernel), gw_at 116 (by decide +kernel) (by decide +kernel), gw_at 724 (by decide +kernel) (by decide +kernel), ⟨by decide +kernel, by decide +kernel, by decide +kernel⟩, by decide⟩
theorem cw_J1_88 : CwB RJ1 88 mJ1_canEncode_9a6ad 1 := ⟨gw_at 797 (by decide +kernel) (by decide +kernel), gw_at 117 (by decide +kernel) (by decide +kernel), gw_at 799 (by decide +kernel) (by decide +kernel), ⟨by decide +kernel, by decide +kernel, by decide +kernel⟩, by decide⟩
theorem cw_J1_95 : CwB RJ1 95 mJ1_indexOfChar_4cfef 4 := ⟨gw_at 802 (by decide +kernel) (by decide +kernel), gw_at 117 (by decide +kernel) (by decide +kernel), gw_at 804 (by decide +kernel) (by decide +kernel), ⟨by decide +kernel, by decide +kernel, by decide +kernel⟩, by decide⟩
theorem cw_X4_len : CwB RX4 61 mJ0_length_8abf5 0 := ⟨gw_at 701 (by decide +kernel) (by decide +kernel), gw_at 116 (by decide +kernel) (by decide +kernel), gw_at 704 (by decide +kernel) (by decide +kernel), ⟨by decide +kernel, by decide +kernel, by decide +kernel⟩, by decide⟩
theorem cw_X4_at : CwB RX4 65 mJ0_charAt_5068e 1 := ⟨gw_at 711 (by decide +kernel) (by decide +kernel), gw_at 116 (by decide +kernel) (by decide +kernel), gw_at 714 (by decide +kernel) (by decide +kernel), ⟨by decide +kernel, by decide +kernel, by decide +kernel⟩, by decide⟩
theorem cw_X4_ix : CwB RX4 97 mJ0_indexOf_0f7a4 1 := ⟨gw_at 785 (by decide +kernel) (by decide +kernel), gw_at 116 (by decide +kernel) (by decide +kernel), gw_at 788 (by decide +kernel) (by decide +kernel), ⟨by decide +kernel, by decide +kernel, by decide +kernel⟩, by decide⟩
theorem ci_J0_length_8abf5 : CwI mJ0_length_8abf5 := ⟨gw_at 702 (by decide +kernel) (by decide +kernel), gw_at 703 (by decide +kernel) (by decide +kernel)⟩
theorem ci_J0_charAt_5068e : CwI mJ0_charAt_5068e := ⟨gw_at 712 (by decide +kernel) (by decide +kernel), gw_at 713 (by decide +kernel) (by decide +kernel)⟩
theorem ci_J0_indexOf_0f7a4 : CwI mJ0_indexOf_0f7a4 := ⟨gw_at 786 (by decide +kernel) (by decide +kernel), gw_at 787 (by decide +kernel) (by decide +kernel)⟩
theorem ci_J0_indexOf_7cf53 : CwI mJ0_indexOf_7cf53 := ⟨gw_at 790 (by decide +kernel) (by decide +kernel), gw_at 791 (by decide +kernel) (by decide +kernel)⟩
theorem ci_J0_coder_7d493 : CwI mJ0_coder_7d493 := ⟨gw_at 706 (by decide +kernel) (by decide +kernel), gw_at 707 (by decide +kernel) (by decide +kernel)⟩
theorem ci_J0_isLatin1_aae02 : CwI mJ0_isLatin1_aae02 := ⟨gw_at 716 (by decide +kernel) (by decide +kernel), gw_at 717 (by decide +kernel) (by decide +kernel)⟩
theorem ci_J0_checkIndex_df160 : Cond.static mJ0_checkIndex_df160.1 ∈ GW := gw_at 723 (by decide +kernel) (by decide +kernel)
theorem ci_J1_charAt_3b067 : Cond.static mJ1_charAt_3b067.1 ∈ GW := gw_at 720 (by decide +kernel) (by decide +kernel)
theorem ci_J1_canEncode_9a6ad : Cond.static mJ1_canEncode_9a6ad.1 ∈ GW := gw_at 798 (by decide +kernel) (by decide +kernel)
theorem ci_J1_indexOf_4cfef : Cond.static mJ1_indexOf_4cfef.1 ∈ GW := gw_at 795 (by decide +kernel) (by decide +kernel)
theorem ci_J1_indexOfChar_4cfef : Cond.static mJ1_indexOfChar_4cfef.1 ∈ GW := gw_at 803 (by decide +kernel) (by decide +kernel)
theorem ci_J3_checkIndex_8e157 : Cond.static mJ3_checkIndex_8e157.1 ∈ GW := gw_at 728 (by decide +kernel) (by decide +kernel)
theorem k_J1_92 : Cond.methodLink RJ1 92 Lib.Math.max.name ∈ GW := gw_at 800 (by decide +kernel) (by decide +kernel)
theorem k_J1_38 : Cond.methodLink RJ1 38 Lib.Math.min.name ∈ GW := gw_at 801 (by decide +kernel) (by decide +kernel)
section AS
variable {X : Cx} {d : Nat} {M : Mi} {pc : Nat} {ls : List (Option Value)} {st : List Value} {σ σ' : Mem} {r : Option Value}
theorem j_gets38 (hM : M.1.cls = RJ0) (hd : decode M.2.1 pc = .ok (.getstatic 38, 3)) (h : At X d M (pc + 3) ls (.int 1 :: st) σ r σ') : At X d M pc ls st σ r σ' := by
  intro l p e s m args below meth c H locs lsA E hP hS hl
  exact va_gets E.1 E.2.1 E.2.2.2.2.2.2.2.2.1.2 hS E.2.2.2.1 (E.2.2.2.2.1 _ (by rw [hM]; exact gw_at 709 (by decide +kernel) (by decide +kernel))) (fun _ h9 => h9) hd (h l p e s m args below meth c H locs lsA E hP hS hl)
theorem j_gets1053 (hM : M.1.cls = RJ0) (hd : decode M.2.1 pc = .ok (.getstatic 1053, 3)) (h1 : At X d M (pc + 3) ls (.null :: st) σ r σ') (h2 : ∀ t, At X d M (pc + 3) ls (.ref t :: st) σ r σ') : At X d M pc ls st σ r σ' := by
  intro l p e s m args below meth c H locs lsA E hP hS hl
  have hw : (Cond.fieldLink M.1.cls 1053 "jdk/internal/util/Preconditions" "SIOOBE_FORMATTER" "Ljava/util/function/BiFunction;").before args s = true := E.2.2.2.2.1 _ (by rw [hM]; exact gw_at 725 (by decide +kernel) (by decide +kernel))
  rcases E.2.2.2.2.2.2.2.2.2.2.2.2.2 with hz | ⟨t, hz⟩
  · exact va_gets E.1 E.2.1 hz hS E.2.2.2.1 hw (fun _ h9 => h9) hd (h1 l p e s m args below meth c H locs lsA E hP hS hl)
  · exact va_gets E.1 E.2.1 hz hS E.2.2.2.1 hw (fun _ h9 => h9) hd (h2 t l p e s m args below meth c H locs lsA E hP hS hl)
theorem j_get9 {i : Nat} (hi : i < 11) (hM : M.1.cls = RJ0) (hd : decode M.2.1 pc = .ok (.getfield 9, 3)) (h : At X d M (pc + 3) ls (.ref (xV X i) :: st) σ r σ') : At X d M pc ls (.ref (xK X i) :: st) σ r σ' := by
  intro l p e s m args below meth c H locs lsA E hP hS hl
  exact vk_getf E.1 E.2.1 (E.2.2.2.2.2.2.2.2.2.2.2.2.1.1 i hi).2.2.1 hS E.2.2.2.1 (E.2.2.2.2.1 _ (by rw [hM]; exact gw_at 1458 (by decide +kernel) (by decide +kernel))) (fun _ h9 => h9) hd (h l p e s m args below meth c H locs lsA E hP hS hl)
theorem j_get15 {i : Nat} (hi : i < 11) (hM : M.1.cls = RJ0) (hd : decode M.2.1 pc = .ok (.getfield 15, 3)) (h : At X d M (pc + 3) ls (.int 0 :: st) σ r σ') : At X d M pc ls (.ref (xK X i) :: st) σ r σ' := by
  intro l p e s m args below meth c H locs lsA E hP hS hl
  exact vk_getf E.1 E.2.1 (E.2.2.2.2.2.2.2.2.2.2.2.2.1.1 i hi).2.1 hS E.2.2.2.1 (E.2.2.2.2.1 _ (by rw [hM]; exact gw_at 1459 (by decide +kernel) (by decide +kernel))) (fun _ h9 => h9) hd (h l p e s m args below meth c H locs lsA E hP hS hl)
theorem j_len {i : Nat} (hi : i < 11) (hd : decode M.2.1 pc = .ok (.arraylength, 1)) (h : At X d M (pc + 1) ls (.int (Int32.ofNat (txL.getD i 0)) :: st) σ r σ') : At X d M pc ls (.ref (xV X i) :: st) σ r σ' := by
  intro l p e s m args below meth c H locs lsA E hP hS hl
  exact va_tlen E.1 E.2.1 (E.2.2.2.2.2.2.2.2.2.2.2.2.1.1 i hi).2.2.2 hS rfl hd (h l p e s m args below meth c H locs lsA E hP hS hl)
theorem j_bald {i j : Nat} {v : Int32} (hi : i < 11) (hx : ix (txL.getD i 0) v = some j) (hd : decode M.2.1 pc = .ok (.baload, 1)) (h : At X d M (pc + 1) ls (.int ((txB.getD i []).getD j 0) :: st) σ r σ') : At X d M pc ls (.int v :: .ref (xV X i) :: st) σ r σ' := by
  obtain ⟨x1, x2, x3⟩ := ix_in hx
  subst x2
  intro l p e s m args below meth c H locs lsA E hP hS hl
  exact va_tb E.1 E.2.1 (E.2.2.2.2.2.2.2.2.2.2.2.2.1.1 i hi).2.2.2 hS x1 rfl hd (h l p e s m args below meth c H locs lsA E hP hS hl)
theorem i_callT {idx n : Nat} {M' : Mi} {d' i : Nat} {As rest : List Value} {v1 : Value} (hd : decode M.2.1 pc = .ok (.invokevirtual idx, 3)) (hw : CwB M.1.cls idx M' n) (hwi : CwI M') (hq : M'.1.cls = "java/lang/String") (hi : i < 11) (hM : Tri X d' M' (.ref (xK X i) :: As) σ (some v1) σ) (hdd : d' + 1 ≤ d) (hn : As.length = n) (hst : st = As.reverse ++ .ref (xK X i) :: rest) (hW : (rest.map fun v => v.category).sum ≤ 8) (h : At X d M (pc + 3) ls (v1 :: rest) σ r σ') : At X d M pc ls st σ r σ' := by
  subst hst
  intro l p e s m args below meth c H locs lsA E hP hS hl
  have hrv := vk_recv (i := i) E.2.2.2.2.2.2.2.2.2.2.2.2.1 hi hS
  rw [← hq] at hrv
  refine call_go (va_runV (l := l) (Ts := GW) (own := M.1.cls) (C := M'.1.cls) (As := As) (rest := rest) (b := xK X i) ⟨E.1, E.2.1, E.2.2.1, E.2.2.2.1, E.2.2.2.2.1⟩ (hM l) ⟨cb_of E.2.2.2.2.1 hw hdd, E.2.2.2.2.1 _ hwi.1, E.2.2.2.2.1 _ hwi.2⟩ ⟨PcX.blind X _ _, hrv, fun U hU hW => ⟨rfl, E.2.2.2.2.2.2.2.call hU hW hS, by rw [hU]; exact hP⟩⟩ rfl hn hl.1 rfl (lv_room hW) hd ⟨Nat.le_refl _, Nat.le_refl _⟩) hS (fun H1 locs1 hP1 hS1 => ?_)
  exact h l p e s m args below meth c H1 locs1 lsA E hP1 hS1 hl
end AS
theorem tx_len : ∀ k, k < 11 → txL.getD k 0 = (txB.getD k []).length ∧ (txB.getD k []).length < 100 := by decide +kernel
theorem tx_shr : ∀ k, k < 11 → (Int32.ofNat (txL.getD k 0)) >>> ((0 : Int32) &&& 31) = Int32.ofNat (txL.getD k 0) := by decide +kernel
def strLen (k : Nat) : Int32 := Int32.ofNat (txL.getD k 0)
def strAt (k j : Nat) : Int32 := (((txB.getD k []).getD j 0 &&& 255).toUInt32 % 65536).toInt32
def sFind (c : Int32) : List Int32 → Nat → Int32
  | [], _ => -1
  | b :: t, j => if b = c then nI j else sFind c t (j + 1)
def strIx (k : Nat) (c : Int32) : Int32 := if c < 0 then -1 else if 255 < c then -1 else sFind c.toInt8.toInt32 (txB.getD k []) 0
section AS2
variable {X : Cx} {σ : Mem}
theorem FJ_coder {i : Nat} (hi : i < 11) : Tri X 1 mJ0_coder_7d493 [.ref (xK X i)] σ (some (.int 0)) σ := by
  refine Tri.of (ls := [some (.ref (xK X i))]) (by decide) (Nat.le_of_ble_eq_true rfl) rfl ?_
  refine j_gets38 rfl dJ0_coder_7d493_0 ?_
  refine i_if_eq (tgt := 13) dJ0_coder_7d493_3 (by decide) (fun c => absurd c (by decide)) (fun _ => ?_)
  refine i_xload_n dJ0_coder_7d493_6 rfl ?_
  refine j_get15 hi rfl dJ0_coder_7d493_7 ?_
  refine i_goto (tgt := 14) dJ0_coder_7d493_10 (by decide) ?_
  exact i_zreturn rfl (by decide) dJ0_coder_7d493_14 ⟨rfl, rfl⟩
theorem FJ_isLatin1 {i : Nat} (hi : i < 11) : Tri X 1 mJ0_isLatin1_aae02 [.ref (xK X i)] σ (some (.int 1)) σ := by
  refine Tri.of (ls := [some (.ref (xK X i))]) (by decide) (Nat.le_of_ble_eq_true rfl) rfl ?_
  refine j_gets38 rfl dJ0_isLatin1_aae02_0 ?_
  refine i_if_eq (tgt := 17) dJ0_isLatin1_aae02_3 (by decide) (fun c => absurd c (by decide)) (fun _ => ?_)
  refine i_xload_n dJ0_isLatin1_aae02_6 rfl ?_
  refine j_get15 hi rfl dJ0_isLatin1_aae02_7 ?_
  refine i_if_ne (tgt := 17) dJ0_isLatin1_aae02_10 (by decide) (fun c => absurd rfl c) (fun _ => ?_)
  refine i_iconst (v := 1) dJ0_isLatin1_aae02_13 (by decide) ?_
  refine i_goto (tgt := 18) dJ0_isLatin1_aae02_14 (by decide) ?_
  exact i_zreturn rfl (by decide) dJ0_isLatin1_aae02_18 ⟨rfl, rfl⟩
theorem FJ_length {i : Nat} (hi : i < 11) : Tri X 2 mJ0_length_8abf5 [.ref (xK X i)] σ (some (.int (strLen i))) σ := by
  refine Tri.of (ls := [some (.ref (xK X i))]) (by decide) (Nat.le_of_ble_eq_true rfl) rfl ?_
  refine i_xload_n dJ0_length_8abf5_0 rfl ?_
  refine j_get9 hi rfl dJ0_length_8abf5_1 ?_
  refine j_len hi dJ0_length_8abf5_4 ?_
  refine i_xload_n dJ0_length_8abf5_5 rfl ?_
  refine i_callT dJ0_length_8abf5_6 cw_J0_335 ci_J0_coder_7d493 rfl hi (FJ_coder hi) (Nat.le_refl _) rfl rfl (Nat.le_of_ble_eq_true rfl) ?_
  refine i_ishr dJ0_length_8abf5_9 ?_
  exact i_ireturn rfl dJ0_length_8abf5_10 ⟨by rw [tx_shr i hi]; rfl, rfl⟩
theorem FJ_check {x y : Int32} {v : Value} (hv : v = .null ∨ ∃ t, v = .ref t) (h1 : ¬ x < 0) (h2 : x < y) : Tri X 1 mJ3_checkIndex_8e157 [.int x, .int y, v] σ (some (.int x)) σ := by
  have key : At X 1 mJ3_checkIndex_8e157 0 [some (.int x), some (.int y), some v] [] σ (some (.int x)) σ := by
    refine i_iload_n dJ3_checkIndex_8e157_0 rfl ?_
    refine i_if_lt (tgt := 9) dJ3_checkIndex_8e157_1 (by decide) (fun c => absurd c h1) (fun _ => ?_)
    refine i_iload_n dJ3_checkIndex_8e157_4 rfl ?_
    refine i_iload_n dJ3_checkIndex_8e157_5 rfl ?_
    refine i_icmp_lt (tgt := 16) dJ3_checkIndex_8e157_6 (by decide) (fun _ => ?_) (fun c => absurd h2 c)
    refine i_iload_n dJ3_checkIndex_8e157_16 rfl ?_
    exact i_ireturn rfl dJ3_checkIndex_8e157_17 ⟨rfl, rfl⟩
  rcases hv with rfl | ⟨t, rfl⟩
  · exact Tri.of (by decide) (Nat.le_of_ble_eq_true rfl) rfl key
  · exact Tri.of (by decide) (Nat.le_of_ble_eq_true rfl) rfl key
theorem FJ_check2 {x y : Int32} (h1 : ¬ x < 0) (h2 : x < y) : Tri X 2 mJ0_checkIndex_df160 [.int x, .int y] σ none σ := by
  refine Tri.of (ls := [some (.int x), some (.int y)]) (by decide) (Nat.le_of_ble_eq_true rfl) rfl ?_
  refine i_iload_n dJ0_checkIndex_df160_0 rfl ?_
  refine i_iload_n dJ0_checkIndex_df160_1 rfl ?_
  refine j_gets1053 rfl dJ0_checkIndex_df160_2 ?_ (fun t => ?_)
  · refine i_callS dJ0_checkIndex_df160_5 cw_J0_1059 ci_J3_checkIndex_8e157 (FJ_check (Or.inl rfl) h1 h2) (Nat.le_refl _) rfl rfl (Nat.le_of_ble_eq_true rfl) ?_
    refine i_pop dJ0_checkIndex_df160_8 rfl ?_
    exact i_return rfl dJ0_checkIndex_df160_9 ⟨rfl, rfl⟩
  · refine i_callS dJ0_checkIndex_df160_5 cw_J0_1059 ci_J3_checkIndex_8e157 (FJ_check (Or.inr ⟨_, rfl⟩) h1 h2) (Nat.le_refl _) rfl rfl (Nat.le_of_ble_eq_true rfl) ?_
    refine i_pop dJ0_checkIndex_df160_8 rfl ?_
    exact i_return rfl dJ0_checkIndex_df160_9 ⟨rfl, rfl⟩
theorem FJ_lat {i j : Nat} {v : Int32} (hi : i < 11) (hx : ix (txL.getD i 0) v = some j) : Tri X 3 mJ1_charAt_3b067 [.ref (xV X i), .int v] σ (some (.int (strAt i j))) σ := by
  obtain ⟨x1, x2, x3⟩ := ix_in hx
  have ht := tx_len i hi
  have hv : ¬ v < 0 := fun q => x1 (Or.inl q)
  have hlt : v < Int32.ofNat (txL.getD i 0) := by
    obtain ⟨w, hw, rfl⟩ := nI_of hv
    rw [nI_clamp hw] at x2
    subst x2
    exact nI_lt x3 (by omega)
  refine Tri.of (ls := [some (.ref (xV X i)), some (.int v)]) (by decide) (Nat.le_of_ble_eq_true rfl) rfl ?_
  refine i_iload_n dJ1_charAt_3b067_0 rfl ?_
  refine i_xload_n dJ1_charAt_3b067_1 rfl ?_
  refine j_len hi dJ1_charAt_3b067_2 ?_
  refine i_callSz dJ1_charAt_3b067_3 cw_J1_9 ci_J0_checkIndex_df160 (FJ_check2 hv hlt) (Nat.le_refl _) rfl rfl (Nat.le_of_ble_eq_true rfl) ?_
  refine i_xload_n dJ1_charAt_3b067_6 rfl ?_
  refine i_iload_n dJ1_charAt_3b067_7 rfl ?_
  refine j_bald hi hx dJ1_charAt_3b067_8 ?_
  refine i_sipush (v := 255) dJ1_charAt_3b067_9 (by decide) ?_
  refine i_iand dJ1_charAt_3b067_12 ?_
  refine i_i2c dJ1_charAt_3b067_13 ?_
  exact i_zreturn rfl (pk_nc _) dJ1_charAt_3b067_14 ⟨rfl, rfl⟩
theorem FJ_charAt {i j : Nat} {v : Int32} (hi : i < 11) (hx : ix (txL.getD i 0) v = some j) : Tri X 4 mJ0_charAt_5068e [.ref (xK X i), .int v] σ (some (.int (strAt i j))) σ := by
  refine Tri.of (ls := [some (.ref (xK X i)), some (.int v)]) (by decide) (Nat.le_of_ble_eq_true rfl) rfl ?_
  refine i_xload_n dJ0_charAt_5068e_0 rfl ?_
  refine i_callT dJ0_charAt_5068e_1 cw_J0_492 ci_J0_isLatin1_aae02 rfl hi (FJ_isLatin1 hi) (by decide) rfl rfl (Nat.le_of_ble_eq_true rfl) ?_
  refine i_if_eq (tgt := 16) dJ0_charAt_5068e_4 (by decide) (fun c => absurd c (by decide)) (fun _ => ?_)
  refine i_xload_n dJ0_charAt_5068e_7 rfl ?_
  refine j_get9 hi rfl dJ0_charAt_5068e_8 ?_
  refine i_iload_n dJ0_charAt_5068e_11 rfl ?_
  refine i_callS dJ0_charAt_5068e_12 cw_J0_495 ci_J1_charAt_3b067 (FJ_lat hi hx) (Nat.le_refl _) rfl rfl (Nat.le_of_ble_eq_true rfl) ?_
  exact i_zreturn rfl (pk_nc _) dJ0_charAt_5068e_15 ⟨rfl, rfl⟩
theorem FJ_can {x : Int32} : Tri X 1 mJ1_canEncode_9a6ad [.int x] σ (some (.int (if x < 0 then 0 else if 255 < x then 0 else 1))) σ := by
  refine Tri.of (ls := [some (.int x)]) (by decide) (Nat.le_of_ble_eq_true rfl) rfl ?_
  refine i_iload_n dJ1_canEncode_9a6ad_0 rfl ?_
  refine i_if_lt (tgt := 15) dJ1_canEncode_9a6ad_1 (by decide) (fun c => ?_) (fun c => ?_)
  · refine i_iconst (v := 0) dJ1_canEncode_9a6ad_15 (by decide) ?_
    exact i_zreturn rfl (by decide) dJ1_canEncode_9a6ad_16 ⟨by rw [if_pos c], rfl⟩
  · refine i_iload_n dJ1_canEncode_9a6ad_4 rfl ?_
    refine i_sipush (v := 255) dJ1_canEncode_9a6ad_5 (by decide) ?_
    refine i_icmp_gt (tgt := 15) dJ1_canEncode_9a6ad_8 (by decide) (fun c2 => ?_) (fun c2 => ?_)
    · refine i_iconst (v := 0) dJ1_canEncode_9a6ad_15 (by decide) ?_
      exact i_zreturn rfl (by decide) dJ1_canEncode_9a6ad_16 ⟨by rw [if_neg c, if_pos c2], rfl⟩
    · refine i_iconst (v := 1) dJ1_canEncode_9a6ad_11 (by decide) ?_
      refine i_goto (tgt := 16) dJ1_canEncode_9a6ad_12 (by decide) ?_
      exact i_zreturn rfl (by decide) dJ1_canEncode_9a6ad_16 ⟨by rw [if_neg c, if_neg c2], rfl⟩
theorem FJ_loop {i : Nat} (hi : i < 11) (c8 : Int32) : ∀ (l : List Int32) (j : Nat), (txB.getD i []).drop j = l → j ≤ txL.getD i 0 → At X 1 mJ1_indexOfChar_4cfef 7 [some (.ref (xV X i)), none, none, some (.int (Int32.ofNat (txL.getD i 0))), some (.int c8), some (.int (nI j))] [] σ (some (.int (sFind c8 l j))) σ := by
  intro l
  have ht := tx_len i hi
  induction l with
  | nil =>
    intro j hl hj
    have hj2 : txL.getD i 0 ≤ j := by
      rw [List.drop_eq_nil_iff] at hl
      omega
    refine i_iload dJ1_indexOfChar_4cfef_7 rfl ?_
    refine i_iload_n dJ1_indexOfChar_4cfef_9 rfl ?_
    refine i_icmp_ge (tgt := 31) dJ1_indexOfChar_4cfef_10 (by decide) (fun _ => ?_) (fun c => absurd (nI_le hj2 (by omega)) c)
    refine i_iconst (v := -1) dJ1_indexOfChar_4cfef_31 (by decide) ?_
    exact i_ireturn rfl dJ1_indexOfChar_4cfef_32 ⟨rfl, rfl⟩
  | cons b t ih =>
    intro j hl hj
    have hlt : j < (txB.getD i []).length := by
      rcases Nat.lt_or_ge j (txB.getD i []).length with q | q
      · exact q
      · rw [List.drop_eq_nil_iff.mpr q] at hl
        cases hl
    have hb : (txB.getD i []).getD j 0 = b := by
      have h0 : ((txB.getD i []).drop j)[0]? = some b := by rw [hl]; rfl
      rw [List.getElem?_drop, Nat.add_zero] at h0
      rw [List.getD_eq_getElem?_getD, h0]
      rfl
    have hx : ix (txL.getD i 0) (nI j) = some j := by
      unfold ix
      rw [nI_clamp (by omega), if_neg]
      rintro (q | q)
      · exact nI_pos (by omega) q
      · omega
    refine i_iload dJ1_indexOfChar_4cfef_7 rfl ?_
    refine i_iload_n dJ1_indexOfChar_4cfef_9 rfl ?_
    refine i_icmp_ge (tgt := 31) dJ1_indexOfChar_4cfef_10 (by decide) (fun c => absurd c (nI_ge (by omega) (by omega))) (fun _ => ?_)
    refine i_xload_n dJ1_indexOfChar_4cfef_13 rfl ?_
    refine i_iload dJ1_indexOfChar_4cfef_14 rfl ?_
    refine j_bald hi hx dJ1_indexOfChar_4cfef_16 ?_
    rw [hb]
    refine i_iload dJ1_indexOfChar_4cfef_17 rfl ?_
    refine i_icmp_ne (tgt := 25) dJ1_indexOfChar_4cfef_19 (by decide) (fun c => ?_) (fun c => ?_)
    · refine i_iinc (v := nI (j + 1)) (ls' := [some (.ref (xV X i)), none, none, some (.int (Int32.ofNat (txL.getD i 0))), some (.int c8), some (.int (nI (j + 1)))]) dJ1_indexOfChar_4cfef_25 rfl (nI_1 j) (by decide) (okp_at rfl) rfl ?_
      refine i_goto (tgt := 7) dJ1_indexOfChar_4cfef_28 (by decide) ?_
      rw [sFind, if_neg c]
      refine ih (j + 1) ?_ (by omega)
      rw [← List.drop_drop, hl]
      rfl
    · refine i_iload dJ1_indexOfChar_4cfef_22 rfl ?_
      exact i_ireturn rfl dJ1_indexOfChar_4cfef_24 ⟨by rw [sFind, if_pos c], rfl⟩
theorem FJ_ixc {i : Nat} (hi : i < 11) (c : Int32) : Tri X 1 mJ1_indexOfChar_4cfef [.ref (xV X i), .int c, .int 0, .int (Int32.ofNat (txL.getD i 0))] σ (some (.int (sFind c.toInt8.toInt32 (txB.getD i []) 0))) σ := by
  refine Tri.of (ls := [some (.ref (xV X i)), some (.int c), some (.int 0), some (.int (Int32.ofNat (txL.getD i 0))), none, none]) (by decide) (Nat.le_of_ble_eq_true rfl) rfl ?_
  refine i_iload_n dJ1_indexOfChar_4cfef_0 rfl ?_
  refine i_i2b dJ1_indexOfChar_4cfef_1 ?_
  refine i_istore (ls' := [some (.ref (xV X i)), some (.int c), some (.int 0), some (.int (Int32.ofNat (txL.getD i 0))), some (.int c.toInt8.toInt32), none]) dJ1_indexOfChar_4cfef_2 (by decide) (okp_at rfl) rfl ?_
  refine i_iload_n dJ1_indexOfChar_4cfef_4 rfl ?_
  refine i_istore (ls' := [some (.ref (xV X i)), some (.int c), some (.int 0), some (.int (Int32.ofNat (txL.getD i 0))), some (.int c.toInt8.toInt32), some (.int 0)]) dJ1_indexOfChar_4cfef_5 (by decide) (okp_at rfl) rfl ?_
  refine At.fewer (ls' := [some (.ref (xV X i)), none, none, some (.int (Int32.ofNat (txL.getD i 0))), some (.int c.toInt8.toInt32), some (.int (nI 0))]) (And.intro rfl (And.intro rfl (And.intro rfl (And.intro rfl trivial)))) ?_
  exact FJ_loop hi _ _ 0 rfl (Nat.zero_le _)
theorem FJ_ix4 {i : Nat} (hi : i < 11) (c : Int32) : Tri X 2 mJ1_indexOf_4cfef [.ref (xV X i), .int c, .int 0, .int (strLen i)] σ (some (.int (strIx i c))) σ := by
  have ht := tx_len i hi
  have hp : ∀ k, k < 11 → (if strLen k < 0 then (0 : Int32) else 1) = 1 ∧ (0 : Int32) < strLen k := by decide +kernel
  refine Tri.of (ls := [some (.ref (xV X i)), some (.int c), some (.int 0), some (.int (strLen i))]) (by decide) (Nat.le_of_ble_eq_true rfl) rfl ?_
  refine i_iload_n dJ1_indexOf_4cfef_0 rfl ?_
  refine i_callS dJ1_indexOf_4cfef_1 cw_J1_88 ci_J1_canEncode_9a6ad FJ_can (Nat.le_refl _) rfl rfl (Nat.le_of_ble_eq_true rfl) ?_
  refine i_if_ne (tgt := 9) dJ1_indexOf_4cfef_4 (by decide) (fun q => ?_) (fun q => ?_)
  · have hc1 : ¬ c < 0 := fun z => q (by rw [if_pos z])
    have hc2 : ¬ 255 < c := fun z => q (by rw [if_neg hc1, if_pos z])
    refine i_iload_n dJ1_indexOf_4cfef_9 rfl ?_
    refine i_iconst (v := 0) dJ1_indexOf_4cfef_10 (by decide) ?_
    refine i_mmax dJ1_indexOf_4cfef_11 k_J1_92 (by decide) (Nat.le_of_ble_eq_true rfl) ?_
    rw [if_neg (by decide : ¬ (0 : Int32) < 0)]
    refine i_istore_n (ls' := [some (.ref (xV X i)), some (.int c), some (.int 0), some (.int (strLen i))]) dJ1_indexOf_4cfef_14 (by decide) (okp_at rfl) rfl ?_
    refine i_iload_n dJ1_indexOf_4cfef_15 rfl ?_
    refine i_xload_n dJ1_indexOf_4cfef_16 rfl ?_
    refine j_len hi dJ1_indexOf_4cfef_17 ?_
    refine i_mmin dJ1_indexOf_4cfef_18 k_J1_38 (by decide) (Nat.le_of_ble_eq_true rfl) ?_
    rw [show (if Int32.ofNat (txL.getD i 0) < strLen i then Int32.ofNat (txL.getD i 0) else strLen i) = Int32.ofNat (txL.getD i 0) from by split <;> rfl]
    refine i_istore_n (ls' := [some (.ref (xV X i)), some (.int c), some (.int 0), some (.int (Int32.ofNat (txL.getD i 0)))]) dJ1_indexOf_4cfef_21 (by decide) (okp_at rfl) rfl ?_
    refine i_iload_n dJ1_indexOf_4cfef_22 rfl ?_
    refine i_iload_n dJ1_indexOf_4cfef_23 rfl ?_
    refine i_icmp_lt (tgt := 29) dJ1_indexOf_4cfef_24 (by decide) (fun _ => ?_) (fun z => absurd (hp i hi).2 z)
    refine i_xload_n dJ1_indexOf_4cfef_29 rfl ?_
    refine i_iload_n dJ1_indexOf_4cfef_30 rfl ?_
    refine i_iload_n dJ1_indexOf_4cfef_31 rfl ?_
    refine i_iload_n dJ1_indexOf_4cfef_32 rfl ?_
    refine i_callS dJ1_indexOf_4cfef_33 cw_J1_95 ci_J1_indexOfChar_4cfef (FJ_ixc hi c) (Nat.le_refl _) rfl rfl (Nat.le_of_ble_eq_true rfl) ?_
    exact i_ireturn rfl dJ1_indexOf_4cfef_36 ⟨by unfold strIx; rw [if_neg hc1, if_neg hc2], rfl⟩
  · refine i_iconst (v := -1) dJ1_indexOf_4cfef_7 (by decide) ?_
    refine i_ireturn rfl dJ1_indexOf_4cfef_8 ⟨?_, rfl⟩
    unfold strIx
    by_cases h1 : c < 0
    · rw [if_pos h1]
    · rw [if_neg h1] at q ⊢
      by_cases h2 : 255 < c
      · rw [if_pos h2]
      · rw [if_neg h2] at q
        exact absurd q (by decide)
theorem FJ_ix2 {i : Nat} (hi : i < 11) (c : Int32) : Tri X 3 mJ0_indexOf_7cf53 [.ref (xK X i), .int c, .int 0] σ (some (.int (strIx i c))) σ := by
  refine Tri.of (ls := [some (.ref (xK X i)), some (.int c), some (.int 0)]) (by decide) (Nat.le_of_ble_eq_true rfl) rfl ?_
  refine i_xload_n dJ0_indexOf_7cf53_0 rfl ?_
  refine i_callT dJ0_indexOf_7cf53_1 cw_J0_492 ci_J0_isLatin1_aae02 rfl hi (FJ_isLatin1 hi) (by decide) rfl rfl (Nat.le_of_ble_eq_true rfl) ?_
  refine i_if_eq (tgt := 23) dJ0_indexOf_7cf53_4 (by decide) (fun c => absurd c (by decide)) (fun _ => ?_)
  refine i_xload_n dJ0_indexOf_7cf53_7 rfl ?_
  refine j_get9 hi rfl dJ0_indexOf_7cf53_8 ?_
  refine i_iload_n dJ0_indexOf_7cf53_11 rfl ?_
  refine i_iload_n dJ0_indexOf_7cf53_12 rfl ?_
  refine i_xload_n dJ0_indexOf_7cf53_13 rfl ?_
  refine i_callT dJ0_indexOf_7cf53_14 cw_J0_505 ci_J0_length_8abf5 rfl hi (FJ_length hi) (by decide) rfl rfl (Nat.le_of_ble_eq_true rfl) ?_
  refine i_callS dJ0_indexOf_7cf53_17 cw_J0_637 ci_J1_indexOf_4cfef (FJ_ix4 hi c) (Nat.le_refl _) rfl rfl (Nat.le_of_ble_eq_true rfl) ?_
  refine i_goto (tgt := 36) dJ0_indexOf_7cf53_20 (by decide) ?_
  exact i_ireturn rfl dJ0_indexOf_7cf53_36 ⟨rfl, rfl⟩
theorem FJ_ix1 {i : Nat} (hi : i < 11) (c : Int32) : Tri X 4 mJ0_indexOf_0f7a4 [.ref (xK X i), .int c] σ (some (.int (strIx i c))) σ := by
  refine Tri.of (ls := [some (.ref (xK X i)), some (.int c)]) (by decide) (Nat.le_of_ble_eq_true rfl) rfl ?_
  refine i_xload_n dJ0_indexOf_0f7a4_0 rfl ?_
  refine i_iload_n dJ0_indexOf_0f7a4_1 rfl ?_
  refine i_iconst (v := 0) dJ0_indexOf_0f7a4_2 (by decide) ?_
  refine i_callT dJ0_indexOf_0f7a4_3 cw_J0_633 ci_J0_indexOf_7cf53 rfl hi (FJ_ix2 hi c) (Nat.le_refl _) rfl rfl (Nat.le_of_ble_eq_true rfl) ?_
  exact i_ireturn rfl dJ0_indexOf_0f7a4_6 ⟨rfl, rfl⟩
end AS2
section AS3
variable {X : Cx} {d : Nat} {M : Mi} {pc : Nat} {ls : List (Option Value)} {st : List Value} {σ σ' : Mem} {r : Option Value} {ρ : Type} {res : ρ}
theorem b_length {i : Nat} (hM : M.1.cls = RX4) (hd : decode M.2.1 pc = .ok (.invokevirtual 61, 3)) (hi : i < 11) (h5 : 5 ≤ d) (hW : (st.map fun v => v.category).sum ≤ 8) (h : At X d M (pc + 3) ls (.int (strLen i) :: st) σ r σ') : At X d M pc ls (.ref (xK X i) :: st) σ r σ' :=
  i_callT (As := []) (rest := st) hd (by rw [hM]; exact cw_X4_len) ci_J0_length_8abf5 rfl hi (FJ_length hi) (by omega) rfl rfl hW h
theorem b_charAt {i : Nat} {v : Int32} {k : Nat → Option ρ} (hM : M.1.cls = RX4) (hd : decode M.2.1 pc = .ok (.invokevirtual 65, 3)) (hi : i < 11) (h5 : 5 ≤ d) (hW : (st.map fun v => v.category).sum ≤ 8) (hh : bnd (ix (txL.getD i 0) v) k = some res) (h : ∀ j, j < txL.getD i 0 → k j = some res → At X d M (pc + 3) ls (.int (strAt i j) :: st) σ r σ') : At X d M pc ls (.int v :: .ref (xK X i) :: st) σ r σ' := by
  obtain ⟨j, e, h2⟩ := bnd_some hh
  exact i_callT (As := [.int v]) (rest := st) hd (by rw [hM]; exact cw_X4_at) ci_J0_charAt_5068e rfl hi (FJ_charAt hi e) (by omega) rfl rfl hW (h j (ix_lt e) h2)
theorem b_indexOf {i : Nat} {v : Int32} (hM : M.1.cls = RX4) (hd : decode M.2.1 pc = .ok (.invokevirtual 97, 3)) (hi : i < 11) (h5 : 5 ≤ d) (hW : (st.map fun v => v.category).sum ≤ 8) (h : At X d M (pc + 3) ls (.int (strIx i v) :: st) σ r σ') : At X d M pc ls (.int v :: .ref (xK X i) :: st) σ r σ' :=
  i_callT (As := [.int v]) (rest := st) hd (by rw [hM]; exact cw_X4_ix) ci_J0_indexOf_0f7a4 rfl hi (FJ_ix1 hi v) (by omega) rfl rfl hW h
end AS3
