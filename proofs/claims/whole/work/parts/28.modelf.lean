noncomputable section
def f_X8_lay_150 (p1 : Int32) (p3 : Int32) (p5 : Int32) : Nat → Int32 → Mem → (Mem → Option (Int32 × Mem)) → Option (Int32 × Mem)
  | 0, _, _, _ => none
  | n + 1, v6, σ, k =>
    (if (24 : Int32) ≤ v6 then (k σ) else (bnd (ix 96 (((24 : Int32) * p3) + v6)) (fun j1 => (bnd (ix 120 (((24 : Int32) * p1) + v6)) (fun j2 => (f_X8_lay_150 p1 p3 p5 n (v6 + (1 : Int32)) (mput σ 32 0 j2 (σ 27 0 j1)) k))))))
set_option maxRecDepth 100000 in
set_option maxHeartbeats 4000000 in
theorem L_X8_lay_150 {X : Cx} {p1 : Int32} {p3 : Int32} {p5 : Int32} {r0 : Int32} {σ2 : Mem} {k : Mem → Option (Int32 × Mem)}  : ∀ (n : Nat) (v6 : Int32) (σ : Mem), f_X8_lay_150 p1 p3 p5 n v6 σ k = some (r0, σ2) → (∀ (σ1 : Mem), k σ1 = some (r0, σ2) → At X 3 mX8_lay 187 [none, none, none, none, none, some (.int p5), none] [] σ1 (some (.int r0)) σ2) → At X 3 mX8_lay 150 [some (rf X 8 0), some (.int p1), none, some (.int p3), none, some (.int p5), some (.int v6)] [] σ (some (.int r0)) σ2 := by
  intro n
  induction n with
  | zero =>
    intro v6 σ h
    cases h
  | succ n ih =>
    intro v6 σ h hk
    rw [f_X8_lay_150.eq_2] at h
    refine i_iload dX8_lay_150 rfl ?_
    refine i_bipush (v := 24) dX8_lay_152 (by decide) ?_
    refine r_icmp_ge (tgt := 187) dX8_lay_154 (by decide) h (fun c1 h => ?_) (fun c1 h => ?_)
    · refine At.fewer (ls' := [none, none, none, none, none, some (.int p5), none]) (And.intro rfl trivial) ?_
      exact hk _ h
    · refine i_aload_n dX8_lay_157 rfl ?_
      refine gf_X8_40 rfl (by omega) dX8_lay_158 ?_
      refine i_bipush (v := 24) dX8_lay_161 (by decide) ?_
      refine i_iload_n dX8_lay_163 rfl ?_
      refine i_imul dX8_lay_164 ?_
      refine i_iload dX8_lay_165 rfl ?_
      refine i_iadd dX8_lay_167 ?_
      refine i_aload_n dX8_lay_168 rfl ?_
      refine gf_X8_25 rfl (by omega) dX8_lay_169 ?_
      refine i_bipush (v := 24) dX8_lay_172 (by decide) ?_
      refine i_iload_n dX8_lay_174 rfl ?_
      refine i_imul dX8_lay_175 ?_
      refine i_iload dX8_lay_176 rfl ?_
      refine i_iadd dX8_lay_178 ?_
      refine al_27 dX8_lay_179 (by omega) h (fun j1 lj1 h => ?_)
      refine as_32 dX8_lay_180 (by omega) h (fun j2 lj2 h => ?_)
      refine i_iinc (v := (v6 + (1 : Int32))) (ls' := [some (rf X 8 0), some (.int p1), none, some (.int p3), none, some (.int p5), some (.int (v6 + (1 : Int32)))]) dX8_lay_181 rfl (by rfl) (by decide) (okp_at rfl) rfl ?_
      refine i_goto (tgt := 150) dX8_lay_184 (by decide) ?_
      exact ih _ _ h hk
def f_X8_lay  (p1 : Int32) (p2 : Int32) (p3 : Int32) (σ : Mem) : Option (Int32 × Mem) :=
  (if p2 = 0 then (bnd (f_X8_isSlot p1 σ) (fun a1 => (if a1 = 0 then (some ((-1000000001 : Int32), σ)) else (if p2 = (2 : Int32) then (bnd (ix 4 p3) (fun j17 => (if 0 ≤ (σ 25 0 j17) then (bnd (ix 5 p1) (fun j18 => (bnd (ix 5 p1) (fun j19 => (if p2 = (1 : Int32) then (bnd (f_X8_of p3 (0 : Int32) (mput σ 28 0 j19 p2)) (fun a6 => (bnd (ix 5 p1) (fun j27 => (if p2 = (1 : Int32) then (bnd (f_X8_worth p3 (mput (mput σ 28 0 j19 p2) 29 0 j27 a6)) (fun a7 => (bnd (ix 5 p1) (fun j31 => (if p2 = (2 : Int32) then (bnd (ix 4 p3) (fun j32 => (bnd (ix 5 p1) (fun j33 => (bnd (some (mput (mput (mput (mput σ 28 0 j19 p2) 29 0 j27 a6) 30 0 j31 a7) 31 0 j33 ((mput (mput (mput σ 28 0 j19 p2) 29 0 j27 a6) 30 0 j31 a7) 26 0 j32))) (fun s8 => (f_X8_lay_150 p1 p3 (σ 28 0 j18) FU (0 : Int32) s8 (fun σ_8 => (some ((σ 28 0 j18), σ_8)))))))))) else (some ((σ 28 0 j18), (mput (mput (mput σ 28 0 j19 p2) 29 0 j27 a6) 30 0 j31 a7)))))))) else (bnd (ix 5 p1) (fun j28 => (if p2 = (2 : Int32) then (bnd (ix 4 p3) (fun j29 => (bnd (ix 5 p1) (fun j30 => (bnd (some (mput (mput (mput (mput σ 28 0 j19 p2) 29 0 j27 a6) 30 0 j28 (0 : Int32)) 31 0 j30 ((mput (mput (mput σ 28 0 j19 p2) 29 0 j27 a6) 30 0 j28 (0 : Int32)) 26 0 j29))) (fun s7 => (f_X8_lay_150 p1 p3 (σ 28 0 j18) FU (0 : Int32) s7 (fun σ_7 => (some ((σ 28 0 j18), σ_7)))))))))) else (some ((σ 28 0 j18), (mput (mput (mput σ 28 0 j19 p2) 29 0 j27 a6) 30 0 j28 (0 : Int32)))))))))))) else (bnd (ix 5 p1) (fun j20 => (if p2 = (1 : Int32) then (bnd (f_X8_worth p3 (mput (mput σ 28 0 j19 p2) 29 0 j20 p3)) (fun a5 => (bnd (ix 5 p1) (fun j24 => (if p2 = (2 : Int32) then (bnd (ix 4 p3) (fun j25 => (bnd (ix 5 p1) (fun j26 => (bnd (some (mput (mput (mput (mput σ 28 0 j19 p2) 29 0 j20 p3) 30 0 j24 a5) 31 0 j26 ((mput (mput (mput σ 28 0 j19 p2) 29 0 j20 p3) 30 0 j24 a5) 26 0 j25))) (fun s6 => (f_X8_lay_150 p1 p3 (σ 28 0 j18) FU (0 : Int32) s6 (fun σ_6 => (some ((σ 28 0 j18), σ_6)))))))))) else (some ((σ 28 0 j18), (mput (mput (mput σ 28 0 j19 p2) 29 0 j20 p3) 30 0 j24 a5)))))))) else (bnd (ix 5 p1) (fun j21 => (if p2 = (2 : Int32) then (bnd (ix 4 p3) (fun j22 => (bnd (ix 5 p1) (fun j23 => (bnd (some (mput (mput (mput (mput σ 28 0 j19 p2) 29 0 j20 p3) 30 0 j21 (0 : Int32)) 31 0 j23 ((mput (mput (mput σ 28 0 j19 p2) 29 0 j20 p3) 30 0 j21 (0 : Int32)) 26 0 j22))) (fun s5 => (f_X8_lay_150 p1 p3 (σ 28 0 j18) FU (0 : Int32) s5 (fun σ_5 => (some ((σ 28 0 j18), σ_5)))))))))) else (some ((σ 28 0 j18), (mput (mput (mput σ 28 0 j19 p2) 29 0 j20 p3) 30 0 j21 (0 : Int32))))))))))))))) else (some ((-1000000011 : Int32), σ))))) else (bnd (ix 5 p1) (fun j1 => (bnd (ix 5 p1) (fun j2 => (if p2 = (1 : Int32) then (bnd (f_X8_of p3 (0 : Int32) (mput σ 28 0 j2 p2)) (fun a3 => (bnd (ix 5 p1) (fun j10 => (if p2 = (1 : Int32) then (bnd (f_X8_worth p3 (mput (mput σ 28 0 j2 p2) 29 0 j10 a3)) (fun a4 => (bnd (ix 5 p1) (fun j14 => (if p2 = (2 : Int32) then (bnd (ix 4 p3) (fun j15 => (bnd (ix 5 p1) (fun j16 => (bnd (some (mput (mput (mput (mput σ 28 0 j2 p2) 29 0 j10 a3) 30 0 j14 a4) 31 0 j16 ((mput (mput (mput σ 28 0 j2 p2) 29 0 j10 a3) 30 0 j14 a4) 26 0 j15))) (fun s4 => (f_X8_lay_150 p1 p3 (σ 28 0 j1) FU (0 : Int32) s4 (fun σ_4 => (some ((σ 28 0 j1), σ_4)))))))))) else (some ((σ 28 0 j1), (mput (mput (mput σ 28 0 j2 p2) 29 0 j10 a3) 30 0 j14 a4)))))))) else (bnd (ix 5 p1) (fun j11 => (if p2 = (2 : Int32) then (bnd (ix 4 p3) (fun j12 => (bnd (ix 5 p1) (fun j13 => (bnd (some (mput (mput (mput (mput σ 28 0 j2 p2) 29 0 j10 a3) 30 0 j11 (0 : Int32)) 31 0 j13 ((mput (mput (mput σ 28 0 j2 p2) 29 0 j10 a3) 30 0 j11 (0 : Int32)) 26 0 j12))) (fun s3 => (f_X8_lay_150 p1 p3 (σ 28 0 j1) FU (0 : Int32) s3 (fun σ_3 => (some ((σ 28 0 j1), σ_3)))))))))) else (some ((σ 28 0 j1), (mput (mput (mput σ 28 0 j2 p2) 29 0 j10 a3) 30 0 j11 (0 : Int32)))))))))))) else (bnd (ix 5 p1) (fun j3 => (if p2 = (1 : Int32) then (bnd (f_X8_worth p3 (mput (mput σ 28 0 j2 p2) 29 0 j3 p3)) (fun a2 => (bnd (ix 5 p1) (fun j7 => (if p2 = (2 : Int32) then (bnd (ix 4 p3) (fun j8 => (bnd (ix 5 p1) (fun j9 => (bnd (some (mput (mput (mput (mput σ 28 0 j2 p2) 29 0 j3 p3) 30 0 j7 a2) 31 0 j9 ((mput (mput (mput σ 28 0 j2 p2) 29 0 j3 p3) 30 0 j7 a2) 26 0 j8))) (fun s2 => (f_X8_lay_150 p1 p3 (σ 28 0 j1) FU (0 : Int32) s2 (fun σ_2 => (some ((σ 28 0 j1), σ_2)))))))))) else (some ((σ 28 0 j1), (mput (mput (mput σ 28 0 j2 p2) 29 0 j3 p3) 30 0 j7 a2)))))))) else (bnd (ix 5 p1) (fun j4 => (if p2 = (2 : Int32) then (bnd (ix 4 p3) (fun j5 => (bnd (ix 5 p1) (fun j6 => (bnd (some (mput (mput (mput (mput σ 28 0 j2 p2) 29 0 j3 p3) 30 0 j4 (0 : Int32)) 31 0 j6 ((mput (mput (mput σ 28 0 j2 p2) 29 0 j3 p3) 30 0 j4 (0 : Int32)) 26 0 j5))) (fun s1 => (f_X8_lay_150 p1 p3 (σ 28 0 j1) FU (0 : Int32) s1 (fun σ_1 => (some ((σ 28 0 j1), σ_1)))))))))) else (some ((σ 28 0 j1), (mput (mput (mput σ 28 0 j2 p2) 29 0 j3 p3) 30 0 j4 (0 : Int32))))))))))))))))))) else (if p2 = (3 : Int32) then (bnd (f_X8_isSlot p1 σ) (fun a8 => (if a8 = 0 then (some ((-1000000001 : Int32), σ)) else (if p2 = (2 : Int32) then (bnd (ix 4 p3) (fun j50 => (if 0 ≤ (σ 25 0 j50) then (bnd (ix 5 p1) (fun j51 => (bnd (ix 5 p1) (fun j52 => (if p2 = (1 : Int32) then (bnd (f_X8_of p3 (0 : Int32) (mput σ 28 0 j52 p2)) (fun a13 => (bnd (ix 5 p1) (fun j60 => (if p2 = (1 : Int32) then (bnd (f_X8_worth p3 (mput (mput σ 28 0 j52 p2) 29 0 j60 a13)) (fun a14 => (bnd (ix 5 p1) (fun j64 => (if p2 = (2 : Int32) then (bnd (ix 4 p3) (fun j65 => (bnd (ix 5 p1) (fun j66 => (bnd (some (mput (mput (mput (mput σ 28 0 j52 p2) 29 0 j60 a13) 30 0 j64 a14) 31 0 j66 ((mput (mput (mput σ 28 0 j52 p2) 29 0 j60 a13) 30 0 j64 a14) 26 0 j65))) (fun s16 => (f_X8_lay_150 p1 p3 (σ 28 0 j51) FU (0 : Int32) s16 (fun σ_16 => (some ((σ 28 0 j51), σ_16)))))))))) else (some ((σ 28 0 j51), (mput (mput (mput σ 28 0 j52 p2) 29 0 j60 a13) 30 0 j64 a14)))))))) else (bnd (ix 5 p1) (fun j61 => (if p2 = (2 : Int32) then (bnd (ix 4 p3) (fun j62 => (bnd (ix 5 p1) (fun j63 => (bnd (some (mput (mput (mput (mput σ 28 0 j52 p2) 29 0 j60 a13) 30 0 j61 (0 : Int32)) 31 0 j63 ((mput (mput (mput σ 28 0 j52 p2) 29 0 j60 a13) 30 0 j61 (0 : Int32)) 26 0 j62))) (fun s15 => (f_X8_lay_150 p1 p3 (σ 28 0 j51) FU (0 : Int32) s15 (fun σ_15 => (some ((σ 28 0 j51), σ_15)))))))))) else (some ((σ 28 0 j51), (mput (mput (mput σ 28 0 j52 p2) 29 0 j60 a13) 30 0 j61 (0 : Int32)))))))))))) else (bnd (ix 5 p1) (fun j53 => (if p2 = (1 : Int32) then (bnd (f_X8_worth p3 (mput (mput σ 28 0 j52 p2) 29 0 j53 p3)) (fun a12 => (bnd (ix 5 p1) (fun j57 => (if p2 = (2 : Int32) then (bnd (ix 4 p3) (fun j58 => (bnd (ix 5 p1) (fun j59 => (bnd (some (mput (mput (mput (mput σ 28 0 j52 p2) 29 0 j53 p3) 30 0 j57 a12) 31 0 j59 ((mput (mput (mput σ 28 0 j52 p2) 29 0 j53 p3) 30 0 j57 a12) 26 0 j58))) (fun s14 => (f_X8_lay_150 p1 p3 (σ 28 0 j51) FU (0 : Int32) s14 (fun σ_14 => (some ((σ 28 0 j51), σ_14)))))))))) else (some ((σ 28 0 j51), (mput (mput (mput σ 28 0 j52 p2) 29 0 j53 p3) 30 0 j57 a12)))))))) else (bnd (ix 5 p1) (fun j54 => (if p2 = (2 : Int32) then (bnd (ix 4 p3) (fun j55 => (bnd (ix 5 p1) (fun j56 => (bnd (some (mput (mput (mput (mput σ 28 0 j52 p2) 29 0 j53 p3) 30 0 j54 (0 : Int32)) 31 0 j56 ((mput (mput (mput σ 28 0 j52 p2) 29 0 j53 p3) 30 0 j54 (0 : Int32)) 26 0 j55))) (fun s13 => (f_X8_lay_150 p1 p3 (σ 28 0 j51) FU (0 : Int32) s13 (fun σ_13 => (some ((σ 28 0 j51), σ_13)))))))))) else (some ((σ 28 0 j51), (mput (mput (mput σ 28 0 j52 p2) 29 0 j53 p3) 30 0 j54 (0 : Int32))))))))))))))) else (some ((-1000000011 : Int32), σ))))) else (bnd (ix 5 p1) (fun j34 => (bnd (ix 5 p1) (fun j35 => (if p2 = (1 : Int32) then (bnd (f_X8_of p3 (0 : Int32) (mput σ 28 0 j35 p2)) (fun a10 => (bnd (ix 5 p1) (fun j43 => (if p2 = (1 : Int32) then (bnd (f_X8_worth p3 (mput (mput σ 28 0 j35 p2) 29 0 j43 a10)) (fun a11 => (bnd (ix 5 p1) (fun j47 => (if p2 = (2 : Int32) then (bnd (ix 4 p3) (fun j48 => (bnd (ix 5 p1) (fun j49 => (bnd (some (mput (mput (mput (mput σ 28 0 j35 p2) 29 0 j43 a10) 30 0 j47 a11) 31 0 j49 ((mput (mput (mput σ 28 0 j35 p2) 29 0 j43 a10) 30 0 j47 a11) 26 0 j48))) (fun s12 => (f_X8_lay_150 p1 p3 (σ 28 0 j34) FU (0 : Int32) s12 (fun σ_12 => (some ((σ 28 0 j34), σ_12)))))))))) else (some ((σ 28 0 j34), (mput (mput (mput σ 28 0 j35 p2) 29 0 j43 a10) 30 0 j47 a11)))))))) else (bnd (ix 5 p1) (fun j44 => (if p2 = (2 : Int32) then (bnd (ix 4 p3) (fun j45 => (bnd (ix 5 p1) (fun j46 => (bnd (some (mput (mput (mput (mput σ 28 0 j35 p2) 29 0 j43 a10) 30 0 j44 (0 : Int32)) 31 0 j46 ((mput (mput (mput σ 28 0 j35 p2) 29 0 j43 a10) 30 0 j44 (0 : Int32)) 26 0 j45))) (fun s11 => (f_X8_lay_150 p1 p3 (σ 28 0 j34) FU (0 : Int32) s11 (fun σ_11 => (some ((σ 28 0 j34), σ_11)))))))))) else (some ((σ 28 0 j34), (mput (mput (mput σ 28 0 j35 p2) 29 0 j43 a10) 30 0 j44 (0 : Int32)))))))))))) else (bnd (ix 5 p1) (fun j36 => (if p2 = (1 : Int32) then (bnd (f_X8_worth p3 (mput (mput σ 28 0 j35 p2) 29 0 j36 p3)) (fun a9 => (bnd (ix 5 p1) (fun j40 => (if p2 = (2 : Int32) then (bnd (ix 4 p3) (fun j41 => (bnd (ix 5 p1) (fun j42 => (bnd (some (mput (mput (mput (mput σ 28 0 j35 p2) 29 0 j36 p3) 30 0 j40 a9) 31 0 j42 ((mput (mput (mput σ 28 0 j35 p2) 29 0 j36 p3) 30 0 j40 a9) 26 0 j41))) (fun s10 => (f_X8_lay_150 p1 p3 (σ 28 0 j34) FU (0 : Int32) s10 (fun σ_10 => (some ((σ 28 0 j34), σ_10)))))))))) else (some ((σ 28 0 j34), (mput (mput (mput σ 28 0 j35 p2) 29 0 j36 p3) 30 0 j40 a9)))))))) else (bnd (ix 5 p1) (fun j37 => (if p2 = (2 : Int32) then (bnd (ix 4 p3) (fun j38 => (bnd (ix 5 p1) (fun j39 => (bnd (some (mput (mput (mput (mput σ 28 0 j35 p2) 29 0 j36 p3) 30 0 j37 (0 : Int32)) 31 0 j39 ((mput (mput (mput σ 28 0 j35 p2) 29 0 j36 p3) 30 0 j37 (0 : Int32)) 26 0 j38))) (fun s9 => (f_X8_lay_150 p1 p3 (σ 28 0 j34) FU (0 : Int32) s9 (fun σ_9 => (some ((σ 28 0 j34), σ_9)))))))))) else (some ((σ 28 0 j34), (mput (mput (mput σ 28 0 j35 p2) 29 0 j36 p3) 30 0 j37 (0 : Int32))))))))))))))))))) else (if p2 = (1 : Int32) then (bnd (f_X8_isOne p3 σ) (fun a25 => (if a25 = 0 then (if p2 = (2 : Int32) then (bnd (f_X8_isSheet p3 σ) (fun a34 => (if a34 = 0 then (bnd (f_X8_isSlot p1 σ) (fun a35 => (if a35 = 0 then (some ((-1000000001 : Int32), σ)) else (some ((-1000000001 : Int32), σ))))) else (bnd (f_X8_isSlot p1 σ) (fun a36 => (if a36 = 0 then (some ((-1000000001 : Int32), σ)) else (if p2 = (2 : Int32) then (bnd (ix 4 p3) (fun j149 => (if 0 ≤ (σ 25 0 j149) then (bnd (ix 5 p1) (fun j150 => (bnd (ix 5 p1) (fun j151 => (if p2 = (1 : Int32) then (bnd (f_X8_of p3 (0 : Int32) (mput σ 28 0 j151 p2)) (fun a41 => (bnd (ix 5 p1) (fun j159 => (if p2 = (1 : Int32) then (bnd (f_X8_worth p3 (mput (mput σ 28 0 j151 p2) 29 0 j159 a41)) (fun a42 => (bnd (ix 5 p1) (fun j163 => (if p2 = (2 : Int32) then (bnd (ix 4 p3) (fun j164 => (bnd (ix 5 p1) (fun j165 => (bnd (some (mput (mput (mput (mput σ 28 0 j151 p2) 29 0 j159 a41) 30 0 j163 a42) 31 0 j165 ((mput (mput (mput σ 28 0 j151 p2) 29 0 j159 a41) 30 0 j163 a42) 26 0 j164))) (fun s40 => (f_X8_lay_150 p1 p3 (σ 28 0 j150) FU (0 : Int32) s40 (fun σ_40 => (some ((σ 28 0 j150), σ_40)))))))))) else (some ((σ 28 0 j150), (mput (mput (mput σ 28 0 j151 p2) 29 0 j159 a41) 30 0 j163 a42)))))))) else (bnd (ix 5 p1) (fun j160 => (if p2 = (2 : Int32) then (bnd (ix 4 p3) (fun j161 => (bnd (ix 5 p1) (fun j162 => (bnd (some (mput (mput (mput (mput σ 28 0 j151 p2) 29 0 j159 a41) 30 0 j160 (0 : Int32)) 31 0 j162 ((mput (mput (mput σ 28 0 j151 p2) 29 0 j159 a41) 30 0 j160 (0 : Int32)) 26 0 j161))) (fun s39 => (f_X8_lay_150 p1 p3 (σ 28 0 j150) FU (0 : Int32) s39 (fun σ_39 => (some ((σ 28 0 j150), σ_39)))))))))) else (some ((σ 28 0 j150), (mput (mput (mput σ 28 0 j151 p2) 29 0 j159 a41) 30 0 j160 (0 : Int32)))))))))))) else (bnd (ix 5 p1) (fun j152 => (if p2 = (1 : Int32) then (bnd (f_X8_worth p3 (mput (mput σ 28 0 j151 p2) 29 0 j152 p3)) (fun a40 => (bnd (ix 5 p1) (fun j156 => (if p2 = (2 : Int32) then (bnd (ix 4 p3) (fun j157 => (bnd (ix 5 p1) (fun j158 => (bnd (some (mput (mput (mput (mput σ 28 0 j151 p2) 29 0 j152 p3) 30 0 j156 a40) 31 0 j158 ((mput (mput (mput σ 28 0 j151 p2) 29 0 j152 p3) 30 0 j156 a40) 26 0 j157))) (fun s38 => (f_X8_lay_150 p1 p3 (σ 28 0 j150) FU (0 : Int32) s38 (fun σ_38 => (some ((σ 28 0 j150), σ_38)))))))))) else (some ((σ 28 0 j150), (mput (mput (mput σ 28 0 j151 p2) 29 0 j152 p3) 30 0 j156 a40)))))))) else (bnd (ix 5 p1) (fun j153 => (if p2 = (2 : Int32) then (bnd (ix 4 p3) (fun j154 => (bnd (ix 5 p1) (fun j155 => (bnd (some (mput (mput (mput (mput σ 28 0 j151 p2) 29 0 j152 p3) 30 0 j153 (0 : Int32)) 31 0 j155 ((mput (mput (mput σ 28 0 j151 p2) 29 0 j152 p3) 30 0 j153 (0 : Int32)) 26 0 j154))) (fun s37 => (f_X8_lay_150 p1 p3 (σ 28 0 j150) FU (0 : Int32) s37 (fun σ_37 => (some ((σ 28 0 j150), σ_37)))))))))) else (some ((σ 28 0 j150), (mput (mput (mput σ 28 0 j151 p2) 29 0 j152 p3) 30 0 j153 (0 : Int32))))))))))))))) else (some ((-1000000011 : Int32), σ))))) else (bnd (ix 5 p1) (fun j133 => (bnd (ix 5 p1) (fun j134 => (if p2 = (1 : Int32) then (bnd (f_X8_of p3 (0 : Int32) (mput σ 28 0 j134 p2)) (fun a38 => (bnd (ix 5 p1) (fun j142 => (if p2 = (1 : Int32) then (bnd (f_X8_worth p3 (mput (mput σ 28 0 j134 p2) 29 0 j142 a38)) (fun a39 => (bnd (ix 5 p1) (fun j146 => (if p2 = (2 : Int32) then (bnd (ix 4 p3) (fun j147 => (bnd (ix 5 p1) (fun j148 => (bnd (some (mput (mput (mput (mput σ 28 0 j134 p2) 29 0 j142 a38) 30 0 j146 a39) 31 0 j148 ((mput (mput (mput σ 28 0 j134 p2) 29 0 j142 a38) 30 0 j146 a39) 26 0 j147))) (fun s36 => (f_X8_lay_150 p1 p3 (σ 28 0 j133) FU (0 : Int32) s36 (fun σ_36 => (some ((σ 28 0 j133), σ_36)))))))))) else (some ((σ 28 0 j133), (mput (mput (mput σ 28 0 j134 p2) 29 0 j142 a38) 30 0 j146 a39)))))))) else (bnd (ix 5 p1) (fun j143 => (if p2 = (2 : Int32) then (bnd (ix 4 p3) (fun j144 => (bnd (ix 5 p1) (fun j145 => (bnd (some (mput (mput (mput (mput σ 28 0 j134 p2) 29 0 j142 a38) 30 0 j143 (0 : Int32)) 31 0 j145 ((mput (mput (mput σ 28 0 j134 p2) 29 0 j142 a38) 30 0 j143 (0 : Int32)) 26 0 j144))) (fun s35 => (f_X8_lay_150 p1 p3 (σ 28 0 j133) FU (0 : Int32) s35 (fun σ_35 => (some ((σ 28 0 j133), σ_35)))))))))) else (some ((σ 28 0 j133), (mput (mput (mput σ 28 0 j134 p2) 29 0 j142 a38) 30 0 j143 (0 : Int32)))))))))))) else (bnd (ix 5 p1) (fun j135 => (if p2 = (1 : Int32) then (bnd (f_X8_worth p3 (mput (mput σ 28 0 j134 p2) 29 0 j135 p3)) (fun a37 => (bnd (ix 5 p1) (fun j139 => (if p2 = (2 : Int32) then (bnd (ix 4 p3) (fun j140 => (bnd (ix 5 p1) (fun j141 => (bnd (some (mput (mput (mput (mput σ 28 0 j134 p2) 29 0 j135 p3) 30 0 j139 a37) 31 0 j141 ((mput (mput (mput σ 28 0 j134 p2) 29 0 j135 p3) 30 0 j139 a37) 26 0 j140))) (fun s34 => (f_X8_lay_150 p1 p3 (σ 28 0 j133) FU (0 : Int32) s34 (fun σ_34 => (some ((σ 28 0 j133), σ_34)))))))))) else (some ((σ 28 0 j133), (mput (mput (mput σ 28 0 j134 p2) 29 0 j135 p3) 30 0 j139 a37)))))))) else (bnd (ix 5 p1) (fun j136 => (if p2 = (2 : Int32) then (bnd (ix 4 p3) (fun j137 => (bnd (ix 5 p1) (fun j138 => (bnd (some (mput (mput (mput (mput σ 28 0 j134 p2) 29 0 j135 p3) 30 0 j136 (0 : Int32)) 31 0 j138 ((mput (mput (mput σ 28 0 j134 p2) 29 0 j135 p3) 30 0 j136 (0 : Int32)) 26 0 j137))) (fun s33 => (f_X8_lay_150 p1 p3 (σ 28 0 j133) FU (0 : Int32) s33 (fun σ_33 => (some ((σ 28 0 j133), σ_33)))))))))) else (some ((σ 28 0 j133), (mput (mput (mput σ 28 0 j134 p2) 29 0 j135 p3) 30 0 j136 (0 : Int32)))))))))))))))))))))) else (bnd (f_X8_isSlot p1 σ) (fun a33 => (if a33 = 0 then (some ((-1000000001 : Int32), σ)) else (some ((-1000000001 : Int32), σ)))))) else (bnd (f_X8_isSlot p1 σ) (fun a26 => (if a26 = 0 then (some ((-1000000001 : Int32), σ)) else (if p2 = (2 : Int32) then (bnd (ix 4 p3) (fun j116 => (if 0 ≤ (σ 25 0 j116) then (bnd (ix 5 p1) (fun j117 => (bnd (ix 5 p1) (fun j118 => (if p2 = (1 : Int32) then (bnd (f_X8_of p3 (0 : Int32) (mput σ 28 0 j118 p2)) (fun a31 => (bnd (ix 5 p1) (fun j126 => (if p2 = (1 : Int32) then (bnd (f_X8_worth p3 (mput (mput σ 28 0 j118 p2) 29 0 j126 a31)) (fun a32 => (bnd (ix 5 p1) (fun j130 => (if p2 = (2 : Int32) then (bnd (ix 4 p3) (fun j131 => (bnd (ix 5 p1) (fun j132 => (bnd (some (mput (mput (mput (mput σ 28 0 j118 p2) 29 0 j126 a31) 30 0 j130 a32) 31 0 j132 ((mput (mput (mput σ 28 0 j118 p2) 29 0 j126 a31) 30 0 j130 a32) 26 0 j131))) (fun s32 => (f_X8_lay_150 p1 p3 (σ 28 0 j117) FU (0 : Int32) s32 (fun σ_32 => (some ((σ 28 0 j117), σ_32)))))))))) else (some ((σ 28 0 j117), (mput (mput (mput σ 28 0 j118 p2) 29 0 j126 a31) 30 0 j130 a32)))))))) else (bnd (ix 5 p1) (fun j127 => (if p2 = (2 : Int32) then (bnd (ix 4 p3) (fun j128 => (bnd (ix 5 p1) (fun j129 => (bnd (some (mput (mput (mput (mput σ 28 0 j118 p2) 29 0 j126 a31) 30 0 j127 (0 : Int32)) 31 0 j129 ((mput (mput (mput σ 28 0 j118 p2) 29 0 j126 a31) 30 0 j127 (0 : Int32)) 26 0 j128))) (fun s31 => (f_X8_lay_150 p1 p3 (σ 28 0 j117) FU (0 : Int32) s31 (fun σ_31 => (some ((σ 28 0 j117), σ_31)))))))))) else (some ((σ 28 0 j117), (mput (mput (mput σ 28 0 j118 p2) 29 0 j126 a31) 30 0 j127 (0 : Int32)))))))))))) else (bnd (ix 5 p1) (fun j119 => (if p2 = (1 : Int32) then (bnd (f_X8_worth p3 (mput (mput σ 28 0 j118 p2) 29 0 j119 p3)) (fun a30 => (bnd (ix 5 p1) (fun j123 => (if p2 = (2 : Int32) then (bnd (ix 4 p3) (fun j124 => (bnd (ix 5 p1) (fun j125 => (bnd (some (mput (mput (mput (mput σ 28 0 j118 p2) 29 0 j119 p3) 30 0 j123 a30) 31 0 j125 ((mput (mput (mput σ 28 0 j118 p2) 29 0 j119 p3) 30 0 j123 a30) 26 0 j124))) (fun s30 => (f_X8_lay_150 p1 p3 (σ 28 0 j117) FU (0 : Int32) s30 (fun σ_30 => (some ((σ 28 0 j117), σ_30)))))))))) else (some ((σ 28 0 j117), (mput (mput (mput σ 28 0 j118 p2) 29 0 j119 p3) 30 0 j123 a30)))))))) else (bnd (ix 5 p1) (fun j120 => (if p2 = (2 : Int32) then (bnd (ix 4 p3) (fun j121 => (bnd (ix 5 p1) (fun j122 => (bnd (some (mput (mput (mput (mput σ 28 0 j118 p2) 29 0 j119 p3) 30 0 j120 (0 : Int32)) 31 0 j122 ((mput (mput (mput σ 28 0 j118 p2) 29 0 j119 p3) 30 0 j120 (0 : Int32)) 26 0 j121))) (fun s29 => (f_X8_lay_150 p1 p3 (σ 28 0 j117) FU (0 : Int32) s29 (fun σ_29 => (some ((σ 28 0 j117), σ_29)))))))))) else (some ((σ 28 0 j117), (mput (mput (mput σ 28 0 j118 p2) 29 0 j119 p3) 30 0 j120 (0 : Int32))))))))))))))) else (some ((-1000000011 : Int32), σ))))) else (bnd (ix 5 p1) (fun j100 => (bnd (ix 5 p1) (fun j101 => (if p2 = (1 : Int32) then (bnd (f_X8_of p3 (0 : Int32) (mput σ 28 0 j101 p2)) (fun a28 => (bnd (ix 5 p1) (fun j109 => (if p2 = (1 : Int32) then (bnd (f_X8_worth p3 (mput (mput σ 28 0 j101 p2) 29 0 j109 a28)) (fun a29 => (bnd (ix 5 p1) (fun j113 => (if p2 = (2 : Int32) then (bnd (ix 4 p3) (fun j114 => (bnd (ix 5 p1) (fun j115 => (bnd (some (mput (mput (mput (mput σ 28 0 j101 p2) 29 0 j109 a28) 30 0 j113 a29) 31 0 j115 ((mput (mput (mput σ 28 0 j101 p2) 29 0 j109 a28) 30 0 j113 a29) 26 0 j114))) (fun s28 => (f_X8_lay_150 p1 p3 (σ 28 0 j100) FU (0 : Int32) s28 (fun σ_28 => (some ((σ 28 0 j100), σ_28)))))))))) else (some ((σ 28 0 j100), (mput (mput (mput σ 28 0 j101 p2) 29 0 j109 a28) 30 0 j113 a29)))))))) else (bnd (ix 5 p1) (fun j110 => (if p2 = (2 : Int32) then (bnd (ix 4 p3) (fun j111 => (bnd (ix 5 p1) (fun j112 => (bnd (some (mput (mput (mput (mput σ 28 0 j101 p2) 29 0 j109 a28) 30 0 j110 (0 : Int32)) 31 0 j112 ((mput (mput (mput σ 28 0 j101 p2) 29 0 j109 a28) 30 0 j110 (0 : Int32)) 26 0 j111))) (fun s27 => (f_X8_lay_150 p1 p3 (σ 28 0 j100) FU (0 : Int32) s27 (fun σ_27 => (some ((σ 28 0 j100), σ_27)))))))))) else (some ((σ 28 0 j100), (mput (mput (mput σ 28 0 j101 p2) 29 0 j109 a28) 30 0 j110 (0 : Int32)))))))))))) else (bnd (ix 5 p1) (fun j102 => (if p2 = (1 : Int32) then (bnd (f_X8_worth p3 (mput (mput σ 28 0 j101 p2) 29 0 j102 p3)) (fun a27 => (bnd (ix 5 p1) (fun j106 => (if p2 = (2 : Int32) then (bnd (ix 4 p3) (fun j107 => (bnd (ix 5 p1) (fun j108 => (bnd (some (mput (mput (mput (mput σ 28 0 j101 p2) 29 0 j102 p3) 30 0 j106 a27) 31 0 j108 ((mput (mput (mput σ 28 0 j101 p2) 29 0 j102 p3) 30 0 j106 a27) 26 0 j107))) (fun s26 => (f_X8_lay_150 p1 p3 (σ 28 0 j100) FU (0 : Int32) s26 (fun σ_26 => (some ((σ 28 0 j100), σ_26)))))))))) else (some ((σ 28 0 j100), (mput (mput (mput σ 28 0 j101 p2) 29 0 j102 p3) 30 0 j106 a27)))))))) else (bnd (ix 5 p1) (fun j103 => (if p2 = (2 : Int32) then (bnd (ix 4 p3) (fun j104 => (bnd (ix 5 p1) (fun j105 => (bnd (some (mput (mput (mput (mput σ 28 0 j101 p2) 29 0 j102 p3) 30 0 j103 (0 : Int32)) 31 0 j105 ((mput (mput (mput σ 28 0 j101 p2) 29 0 j102 p3) 30 0 j103 (0 : Int32)) 26 0 j104))) (fun s25 => (f_X8_lay_150 p1 p3 (σ 28 0 j100) FU (0 : Int32) s25 (fun σ_25 => (some ((σ 28 0 j100), σ_25)))))))))) else (some ((σ 28 0 j100), (mput (mput (mput σ 28 0 j101 p2) 29 0 j102 p3) 30 0 j103 (0 : Int32)))))))))))))))))))))) else (if p2 = (2 : Int32) then (bnd (f_X8_isSheet p3 σ) (fun a16 => (if a16 = 0 then (bnd (f_X8_isSlot p1 σ) (fun a17 => (if a17 = 0 then (some ((-1000000001 : Int32), σ)) else (some ((-1000000001 : Int32), σ))))) else (bnd (f_X8_isSlot p1 σ) (fun a18 => (if a18 = 0 then (some ((-1000000001 : Int32), σ)) else (if p2 = (2 : Int32) then (bnd (ix 4 p3) (fun j83 => (if 0 ≤ (σ 25 0 j83) then (bnd (ix 5 p1) (fun j84 => (bnd (ix 5 p1) (fun j85 => (if p2 = (1 : Int32) then (bnd (f_X8_of p3 (0 : Int32) (mput σ 28 0 j85 p2)) (fun a23 => (bnd (ix 5 p1) (fun j93 => (if p2 = (1 : Int32) then (bnd (f_X8_worth p3 (mput (mput σ 28 0 j85 p2) 29 0 j93 a23)) (fun a24 => (bnd (ix 5 p1) (fun j97 => (if p2 = (2 : Int32) then (bnd (ix 4 p3) (fun j98 => (bnd (ix 5 p1) (fun j99 => (bnd (some (mput (mput (mput (mput σ 28 0 j85 p2) 29 0 j93 a23) 30 0 j97 a24) 31 0 j99 ((mput (mput (mput σ 28 0 j85 p2) 29 0 j93 a23) 30 0 j97 a24) 26 0 j98))) (fun s24 => (f_X8_lay_150 p1 p3 (σ 28 0 j84) FU (0 : Int32) s24 (fun σ_24 => (some ((σ 28 0 j84), σ_24)))))))))) else (some ((σ 28 0 j84), (mput (mput (mput σ 28 0 j85 p2) 29 0 j93 a23) 30 0 j97 a24)))))))) else (bnd (ix 5 p1) (fun j94 => (if p2 = (2 : Int32) then (bnd (ix 4 p3) (fun j95 => (bnd (ix 5 p1) (fun j96 => (bnd (some (mput (mput (mput (mput σ 28 0 j85 p2) 29 0 j93 a23) 30 0 j94 (0 : Int32)) 31 0 j96 ((mput (mput (mput σ 28 0 j85 p2) 29 0 j93 a23) 30 0 j94 (0 : Int32)) 26 0 j95))) (fun s23 => (f_X8_lay_150 p1 p3 (σ 28 0 j84) FU (0 : Int32) s23 (fun σ_23 => (some ((σ 28 0 j84), σ_23)))))))))) else (some ((σ 28 0 j84), (mput (mput (mput σ 28 0 j85 p2) 29 0 j93 a23) 30 0 j94 (0 : Int32)))))))))))) else (bnd (ix 5 p1) (fun j86 => (if p2 = (1 : Int32) then (bnd (f_X8_worth p3 (mput (mput σ 28 0 j85 p2) 29 0 j86 p3)) (fun a22 => (bnd (ix 5 p1) (fun j90 => (if p2 = (2 : Int32) then (bnd (ix 4 p3) (fun j91 => (bnd (ix 5 p1) (fun j92 => (bnd (some (mput (mput (mput (mput σ 28 0 j85 p2) 29 0 j86 p3) 30 0 j90 a22) 31 0 j92 ((mput (mput (mput σ 28 0 j85 p2) 29 0 j86 p3) 30 0 j90 a22) 26 0 j91))) (fun s22 => (f_X8_lay_150 p1 p3 (σ 28 0 j84) FU (0 : Int32) s22 (fun σ_22 => (some ((σ 28 0 j84), σ_22)))))))))) else (some ((σ 28 0 j84), (mput (mput (mput σ 28 0 j85 p2) 29 0 j86 p3) 30 0 j90 a22)))))))) else (bnd (ix 5 p1) (fun j87 => (if p2 = (2 : Int32) then (bnd (ix 4 p3) (fun j88 => (bnd (ix 5 p1) (fun j89 => (bnd (some (mput (mput (mput (mput σ 28 0 j85 p2) 29 0 j86 p3) 30 0 j87 (0 : Int32)) 31 0 j89 ((mput (mput (mput σ 28 0 j85 p2) 29 0 j86 p3) 30 0 j87 (0 : Int32)) 26 0 j88))) (fun s21 => (f_X8_lay_150 p1 p3 (σ 28 0 j84) FU (0 : Int32) s21 (fun σ_21 => (some ((σ 28 0 j84), σ_21)))))))))) else (some ((σ 28 0 j84), (mput (mput (mput σ 28 0 j85 p2) 29 0 j86 p3) 30 0 j87 (0 : Int32))))))))))))))) else (some ((-1000000011 : Int32), σ))))) else (bnd (ix 5 p1) (fun j67 => (bnd (ix 5 p1) (fun j68 => (if p2 = (1 : Int32) then (bnd (f_X8_of p3 (0 : Int32) (mput σ 28 0 j68 p2)) (fun a20 => (bnd (ix 5 p1) (fun j76 => (if p2 = (1 : Int32) then (bnd (f_X8_worth p3 (mput (mput σ 28 0 j68 p2) 29 0 j76 a20)) (fun a21 => (bnd (ix 5 p1) (fun j80 => (if p2 = (2 : Int32) then (bnd (ix 4 p3) (fun j81 => (bnd (ix 5 p1) (fun j82 => (bnd (some (mput (mput (mput (mput σ 28 0 j68 p2) 29 0 j76 a20) 30 0 j80 a21) 31 0 j82 ((mput (mput (mput σ 28 0 j68 p2) 29 0 j76 a20) 30 0 j80 a21) 26 0 j81))) (fun s20 => (f_X8_lay_150 p1 p3 (σ 28 0 j67) FU (0 : Int32) s20 (fun σ_20 => (some ((σ 28 0 j67), σ_20)))))))))) else (some ((σ 28 0 j67), (mput (mput (mput σ 28 0 j68 p2) 29 0 j76 a20) 30 0 j80 a21)))))))) else (bnd (ix 5 p1) (fun j77 => (if p2 = (2 : Int32) then (bnd (ix 4 p3) (fun j78 => (bnd (ix 5 p1) (fun j79 => (bnd (some (mput (mput (mput (mput σ 28 0 j68 p2) 29 0 j76 a20) 30 0 j77 (0 : Int32)) 31 0 j79 ((mput (mput (mput σ 28 0 j68 p2) 29 0 j76 a20) 30 0 j77 (0 : Int32)) 26 0 j78))) (fun s19 => (f_X8_lay_150 p1 p3 (σ 28 0 j67) FU (0 : Int32) s19 (fun σ_19 => (some ((σ 28 0 j67), σ_19)))))))))) else (some ((σ 28 0 j67), (mput (mput (mput σ 28 0 j68 p2) 29 0 j76 a20) 30 0 j77 (0 : Int32)))))))))))) else (bnd (ix 5 p1) (fun j69 => (if p2 = (1 : Int32) then (bnd (f_X8_worth p3 (mput (mput σ 28 0 j68 p2) 29 0 j69 p3)) (fun a19 => (bnd (ix 5 p1) (fun j73 => (if p2 = (2 : Int32) then (bnd (ix 4 p3) (fun j74 => (bnd (ix 5 p1) (fun j75 => (bnd (some (mput (mput (mput (mput σ 28 0 j68 p2) 29 0 j69 p3) 30 0 j73 a19) 31 0 j75 ((mput (mput (mput σ 28 0 j68 p2) 29 0 j69 p3) 30 0 j73 a19) 26 0 j74))) (fun s18 => (f_X8_lay_150 p1 p3 (σ 28 0 j67) FU (0 : Int32) s18 (fun σ_18 => (some ((σ 28 0 j67), σ_18)))))))))) else (some ((σ 28 0 j67), (mput (mput (mput σ 28 0 j68 p2) 29 0 j69 p3) 30 0 j73 a19)))))))) else (bnd (ix 5 p1) (fun j70 => (if p2 = (2 : Int32) then (bnd (ix 4 p3) (fun j71 => (bnd (ix 5 p1) (fun j72 => (bnd (some (mput (mput (mput (mput σ 28 0 j68 p2) 29 0 j69 p3) 30 0 j70 (0 : Int32)) 31 0 j72 ((mput (mput (mput σ 28 0 j68 p2) 29 0 j69 p3) 30 0 j70 (0 : Int32)) 26 0 j71))) (fun s17 => (f_X8_lay_150 p1 p3 (σ 28 0 j67) FU (0 : Int32) s17 (fun σ_17 => (some ((σ 28 0 j67), σ_17)))))))))) else (some ((σ 28 0 j67), (mput (mput (mput σ 28 0 j68 p2) 29 0 j69 p3) 30 0 j70 (0 : Int32)))))))))))))))))))))) else (bnd (f_X8_isSlot p1 σ) (fun a15 => (if a15 = 0 then (some ((-1000000001 : Int32), σ)) else (some ((-1000000001 : Int32), σ)))))))))
set_option maxRecDepth 100000 in
set_option maxHeartbeats 4000000 in
theorem F_X8_lay {X : Cx} {p1 : Int32} {p2 : Int32} {p3 : Int32} {σ : Mem} {res : (Int32 × Mem)}  (h : f_X8_lay p1 p2 p3 σ = some res) : Tri X 3 mX8_lay [rf X 8 0, .int p1, .int p2, .int p3] σ (some (.int res.1)) res.2 := by
  obtain ⟨r0, σ2⟩ := res
  unfold f_X8_lay at h
  refine Tri.of (ls := [some (rf X 8 0), some (.int p1), some (.int p2), some (.int p3), none, none, none]) (by decide) (Nat.le_of_ble_eq_true rfl) rfl ?_
  refine i_iload_n dX8_lay_0 rfl ?_
  refine r_if_eq (tgt := 34) dX8_lay_1 (by decide) h (fun c1 h => ?_) (fun c1 h => ?_)
  · refine i_iconst (v := 1) dX8_lay_34 (by decide) ?_
    refine i_goto (tgt := 39) dX8_lay_35 (by decide) ?_
    refine i_istore (ls' := [some (rf X 8 0), some (.int p1), some (.int p2), some (.int p3), some (.int (1 : Int32)), none, none]) dX8_lay_39 (by decide) (okp_at rfl) rfl ?_
    refine i_iload_n dX8_lay_41 rfl ?_
    refine cS_ir dX8_lay_42 cw_X8_315 ci_X8_isSlot h (fun a1 e => F_X8_isSlot  e) (Nat.le_of_ble_eq_true rfl) rfl rfl (Nat.le_of_ble_eq_true rfl) (fun a1 ea1 h => ?_)
    refine r_if_eq (tgt := 53) dX8_lay_45 (by decide) h (fun c2 h => ?_) (fun c2 h => ?_)
    · refine i_ldc (v := (-1000000001)) dX8_lay_53 k_X8_86 ?_
      exact e_iw rfl dX8_lay_55 h
    · refine i_iload dX8_lay_48 rfl ?_
      refine i_if_ne (tgt := 56) dX8_lay_50 (by decide) (fun _ => ?_) (fun c => absurd c (by decide))
      refine i_iload_n dX8_lay_56 rfl ?_
      refine i_iconst (v := 2) dX8_lay_57 (by decide) ?_
      refine r_icmp_ne (tgt := 74) dX8_lay_58 (by decide) h (fun c3 h => ?_) (fun c3 h => ?_)
      · refine i_aload_n dX8_lay_74 rfl ?_
        refine gf_X8_28 rfl (by omega) dX8_lay_75 ?_
        refine i_iload_n dX8_lay_78 rfl ?_
        refine al_28 dX8_lay_79 (by omega) h (fun j1 lj1 h => ?_)
        refine i_istore (ls' := [some (rf X 8 0), some (.int p1), some (.int p2), some (.int p3), some (.int (1 : Int32)), some (.int (σ 28 0 j1)), none]) dX8_lay_80 (by decide) (okp_at rfl) rfl ?_
        refine i_aload_n dX8_lay_82 rfl ?_
        refine gf_X8_28 rfl (by omega) dX8_lay_83 ?_
        refine i_iload_n dX8_lay_86 rfl ?_
        refine i_iload_n dX8_lay_87 rfl ?_
        refine as_28 dX8_lay_88 (by omega) h (fun j2 lj2 h => ?_)
        refine i_aload_n dX8_lay_89 rfl ?_
        refine gf_X8_31 rfl (by omega) dX8_lay_90 ?_
        refine i_iload_n dX8_lay_93 rfl ?_
        refine i_iload_n dX8_lay_94 rfl ?_
        refine i_iconst (v := 1) dX8_lay_95 (by decide) ?_
        refine r_icmp_ne (tgt := 108) dX8_lay_96 (by decide) h (fun c4 h => ?_) (fun c4 h => ?_)
        · refine i_iload_n dX8_lay_108 rfl ?_
          refine as_29 dX8_lay_109 (by omega) h (fun j3 lj3 h => ?_)
          refine i_aload_n dX8_lay_110 rfl ?_
          refine gf_X8_34 rfl (by omega) dX8_lay_111 ?_
          refine i_iload_n dX8_lay_114 rfl ?_
          refine i_iload_n dX8_lay_115 rfl ?_
          refine i_iconst (v := 1) dX8_lay_116 (by decide) ?_
          refine r_icmp_ne (tgt := 128) dX8_lay_117 (by decide) h (fun c5 h => ?_) (fun c5 h => ?_)
          · refine i_iconst (v := 0) dX8_lay_128 (by decide) ?_
            refine as_30 dX8_lay_129 (by omega) h (fun j4 lj4 h => ?_)
            refine i_iload_n dX8_lay_130 rfl ?_
            refine i_iconst (v := 2) dX8_lay_131 (by decide) ?_
            refine r_icmp_ne (tgt := 187) dX8_lay_132 (by decide) h (fun c6 h => ?_) (fun c6 h => ?_)
            · refine i_iload dX8_lay_187 rfl ?_
              exact e_iw rfl dX8_lay_189 h
            · refine i_aload_n dX8_lay_135 rfl ?_
              refine gf_X8_37 rfl (by omega) dX8_lay_136 ?_
              refine i_iload_n dX8_lay_139 rfl ?_
              refine i_aload_n dX8_lay_140 rfl ?_
              refine gf_X8_22 rfl (by omega) dX8_lay_141 ?_
              refine i_iload_n dX8_lay_144 rfl ?_
              refine al_26 dX8_lay_145 (by omega) h (fun j5 lj5 h => ?_)
              refine as_31 dX8_lay_146 (by omega) h (fun j6 lj6 h => ?_)
              refine r_mem h (fun s1 _ h => ?_)
              refine i_iconst (v := 0) dX8_lay_147 (by decide) ?_
              refine i_istore (ls' := [some (rf X 8 0), some (.int p1), some (.int p2), some (.int p3), some (.int (1 : Int32)), some (.int (σ 28 0 j1)), some (.int (0 : Int32))]) dX8_lay_148 (by decide) (okp_at rfl) rfl ?_
              refine At.fewer (ls' := [some (rf X 8 0), some (.int p1), none, some (.int p3), none, some (.int (σ 28 0 j1)), some (.int (0 : Int32))]) (And.intro rfl (And.intro rfl (And.intro rfl (And.intro rfl (And.intro rfl trivial))))) ?_
              refine L_X8_lay_150  FU _ _ h (fun σ_1 h => ?_)
              refine i_iload dX8_lay_187 rfl ?_
              exact e_iw rfl dX8_lay_189 h
          · refine i_aload_n dX8_lay_120 rfl ?_
            refine i_iload_n dX8_lay_121 rfl ?_
            refine cV_ir dX8_lay_122 cw_X8_122 ci_X8_worth rfl rfl (by decide) (show 0 < 1 by omega) h (fun a2 e => F_X8_worth  e) (Nat.le_of_ble_eq_true rfl) rfl rfl (Nat.le_of_ble_eq_true rfl) (fun a2 ea2 h => ?_)
            refine i_goto (tgt := 129) dX8_lay_125 (by decide) ?_
            refine as_30 dX8_lay_129 (by omega) h (fun j7 lj7 h => ?_)
            refine i_iload_n dX8_lay_130 rfl ?_
            refine i_iconst (v := 2) dX8_lay_131 (by decide) ?_
            refine r_icmp_ne (tgt := 187) dX8_lay_132 (by decide) h (fun c7 h => ?_) (fun c7 h => ?_)
            · refine i_iload dX8_lay_187 rfl ?_
              exact e_iw rfl dX8_lay_189 h
            · refine i_aload_n dX8_lay_135 rfl ?_
              refine gf_X8_37 rfl (by omega) dX8_lay_136 ?_
              refine i_iload_n dX8_lay_139 rfl ?_
              refine i_aload_n dX8_lay_140 rfl ?_
              refine gf_X8_22 rfl (by omega) dX8_lay_141 ?_
              refine i_iload_n dX8_lay_144 rfl ?_
              refine al_26 dX8_lay_145 (by omega) h (fun j8 lj8 h => ?_)
              refine as_31 dX8_lay_146 (by omega) h (fun j9 lj9 h => ?_)
              refine r_mem h (fun s2 _ h => ?_)
              refine i_iconst (v := 0) dX8_lay_147 (by decide) ?_
              refine i_istore (ls' := [some (rf X 8 0), some (.int p1), some (.int p2), some (.int p3), some (.int (1 : Int32)), some (.int (σ 28 0 j1)), some (.int (0 : Int32))]) dX8_lay_148 (by decide) (okp_at rfl) rfl ?_
              refine At.fewer (ls' := [some (rf X 8 0), some (.int p1), none, some (.int p3), none, some (.int (σ 28 0 j1)), some (.int (0 : Int32))]) (And.intro rfl (And.intro rfl (And.intro rfl (And.intro rfl (And.intro rfl trivial))))) ?_
              refine L_X8_lay_150  FU _ _ h (fun σ_2 h => ?_)
              refine i_iload dX8_lay_187 rfl ?_
              exact e_iw rfl dX8_lay_189 h
        · refine i_aload_n dX8_lay_99 rfl ?_
          refine i_iload_n dX8_lay_100 rfl ?_
          refine i_iconst (v := 0) dX8_lay_101 (by decide) ?_
          refine cV_ir dX8_lay_102 cw_X8_98 ci_X8_of rfl rfl (by decide) (show 0 < 1 by omega) h (fun a3 e => F_X8_of  e) (Nat.le_of_ble_eq_true rfl) rfl rfl (Nat.le_of_ble_eq_true rfl) (fun a3 ea3 h => ?_)
          refine i_goto (tgt := 109) dX8_lay_105 (by decide) ?_
          refine as_29 dX8_lay_109 (by omega) h (fun j10 lj10 h => ?_)
          refine i_aload_n dX8_lay_110 rfl ?_
          refine gf_X8_34 rfl (by omega) dX8_lay_111 ?_
          refine i_iload_n dX8_lay_114 rfl ?_
          refine i_iload_n dX8_lay_115 rfl ?_
          refine i_iconst (v := 1) dX8_lay_116 (by decide) ?_
          refine r_icmp_ne (tgt := 128) dX8_lay_117 (by decide) h (fun c8 h => ?_) (fun c8 h => ?_)
          · refine i_iconst (v := 0) dX8_lay_128 (by decide) ?_
            refine as_30 dX8_lay_129 (by omega) h (fun j11 lj11 h => ?_)
            refine i_iload_n dX8_lay_130 rfl ?_
            refine i_iconst (v := 2) dX8_lay_131 (by decide) ?_
            refine r_icmp_ne (tgt := 187) dX8_lay_132 (by decide) h (fun c9 h => ?_) (fun c9 h => ?_)
            · refine i_iload dX8_lay_187 rfl ?_
              exact e_iw rfl dX8_lay_189 h
            · refine i_aload_n dX8_lay_135 rfl ?_
              refine gf_X8_37 rfl (by omega) dX8_lay_136 ?_
              refine i_iload_n dX8_lay_139 rfl ?_
              refine i_aload_n dX8_lay_140 rfl ?_
              refine gf_X8_22 rfl (by omega) dX8_lay_141 ?_
              refine i_iload_n dX8_lay_144 rfl ?_
              refine al_26 dX8_lay_145 (by omega) h (fun j12 lj12 h => ?_)
              refine as_31 dX8_lay_146 (by omega) h (fun j13 lj13 h => ?_)
              refine r_mem h (fun s3 _ h => ?_)
              refine i_iconst (v := 0) dX8_lay_147 (by decide) ?_
              refine i_istore (ls' := [some (rf X 8 0), some (.int p1), some (.int p2), some (.int p3), some (.int (1 : Int32)), some (.int (σ 28 0 j1)), some (.int (0 : Int32))]) dX8_lay_148 (by decide) (okp_at rfl) rfl ?_
              refine At.fewer (ls' := [some (rf X 8 0), some (.int p1), none, some (.int p3), none, some (.int (σ 28 0 j1)), some (.int (0 : Int32))]) (And.intro rfl (And.intro rfl (And.intro rfl (And.intro rfl (And.intro rfl trivial))))) ?_
              refine L_X8_lay_150  FU _ _ h (fun σ_3 h => ?_)
              refine i_iload dX8_lay_187 rfl ?_
              exact e_iw rfl dX8_lay_189 h
          · refine i_aload_n dX8_lay_120 rfl ?_
            refine i_iload_n dX8_lay_121 rfl ?_
            refine cV_ir dX8_lay_122 cw_X8_122 ci_X8_worth rfl rfl (by decide) (show 0 < 1 by omega) h (fun a4 e => F_X8_worth  e) (Nat.le_of_ble_eq_true rfl) rfl rfl (Nat.le_of_ble_eq_true rfl) (fun a4 ea4 h => ?_)
            refine i_goto (tgt := 129) dX8_lay_125 (by decide) ?_
            refine as_30 dX8_lay_129 (by omega) h (fun j14 lj14 h => ?_)
            refine i_iload_n dX8_lay_130 rfl ?_
            refine i_iconst (v := 2) dX8_lay_131 (by decide) ?_
            refine r_icmp_ne (tgt := 187) dX8_lay_132 (by decide) h (fun c10 h => ?_) (fun c10 h => ?_)
            · refine i_iload dX8_lay_187 rfl ?_
              exact e_iw rfl dX8_lay_189 h
            · refine i_aload_n dX8_lay_135 rfl ?_
              refine gf_X8_37 rfl (by omega) dX8_lay_136 ?_
              refine i_iload_n dX8_lay_139 rfl ?_
              refine i_aload_n dX8_lay_140 rfl ?_
              refine gf_X8_22 rfl (by omega) dX8_lay_141 ?_
              refine i_iload_n dX8_lay_144 rfl ?_
              refine al_26 dX8_lay_145 (by omega) h (fun j15 lj15 h => ?_)
              refine as_31 dX8_lay_146 (by omega) h (fun j16 lj16 h => ?_)
              refine r_mem h (fun s4 _ h => ?_)
              refine i_iconst (v := 0) dX8_lay_147 (by decide) ?_
              refine i_istore (ls' := [some (rf X 8 0), some (.int p1), some (.int p2), some (.int p3), some (.int (1 : Int32)), some (.int (σ 28 0 j1)), some (.int (0 : Int32))]) dX8_lay_148 (by decide) (okp_at rfl) rfl ?_
              refine At.fewer (ls' := [some (rf X 8 0), some (.int p1), none, some (.int p3), none, some (.int (σ 28 0 j1)), some (.int (0 : Int32))]) (And.intro rfl (And.intro rfl (And.intro rfl (And.intro rfl (And.intro rfl trivial))))) ?_
              refine L_X8_lay_150  FU _ _ h (fun σ_4 h => ?_)
              refine i_iload dX8_lay_187 rfl ?_
              exact e_iw rfl dX8_lay_189 h
      · refine i_aload_n dX8_lay_61 rfl ?_
        refine gf_X8_19 rfl (by omega) dX8_lay_62 ?_
        refine i_iload_n dX8_lay_65 rfl ?_
        refine al_25 dX8_lay_66 (by omega) h (fun j17 lj17 h => ?_)
        refine r_if_ge (tgt := 74) dX8_lay_67 (by decide) h (fun c11 h => ?_) (fun c11 h => ?_)
        · refine i_aload_n dX8_lay_74 rfl ?_
          refine gf_X8_28 rfl (by omega) dX8_lay_75 ?_
          refine i_iload_n dX8_lay_78 rfl ?_
          refine al_28 dX8_lay_79 (by omega) h (fun j18 lj18 h => ?_)
          refine i_istore (ls' := [some (rf X 8 0), some (.int p1), some (.int p2), some (.int p3), some (.int (1 : Int32)), some (.int (σ 28 0 j18)), none]) dX8_lay_80 (by decide) (okp_at rfl) rfl ?_
          refine i_aload_n dX8_lay_82 rfl ?_
          refine gf_X8_28 rfl (by omega) dX8_lay_83 ?_
          refine i_iload_n dX8_lay_86 rfl ?_
          refine i_iload_n dX8_lay_87 rfl ?_
          refine as_28 dX8_lay_88 (by omega) h (fun j19 lj19 h => ?_)
          refine i_aload_n dX8_lay_89 rfl ?_
          refine gf_X8_31 rfl (by omega) dX8_lay_90 ?_
          refine i_iload_n dX8_lay_93 rfl ?_
          refine i_iload_n dX8_lay_94 rfl ?_
          refine i_iconst (v := 1) dX8_lay_95 (by decide) ?_
          refine r_icmp_ne (tgt := 108) dX8_lay_96 (by decide) h (fun c12 h => ?_) (fun c12 h => ?_)
          · refine i_iload_n dX8_lay_108 rfl ?_
            refine as_29 dX8_lay_109 (by omega) h (fun j20 lj20 h => ?_)
            refine i_aload_n dX8_lay_110 rfl ?_
            refine gf_X8_34 rfl (by omega) dX8_lay_111 ?_
            refine i_iload_n dX8_lay_114 rfl ?_
            refine i_iload_n dX8_lay_115 rfl ?_
            refine i_iconst (v := 1) dX8_lay_116 (by decide) ?_
            refine r_icmp_ne (tgt := 128) dX8_lay_117 (by decide) h (fun c13 h => ?_) (fun c13 h => ?_)
            · refine i_iconst (v := 0) dX8_lay_128 (by decide) ?_
              refine as_30 dX8_lay_129 (by omega) h (fun j21 lj21 h => ?_)
              refine i_iload_n dX8_lay_130 rfl ?_
              refine i_iconst (v := 2) dX8_lay_131 (by decide) ?_
              refine r_icmp_ne (tgt := 187) dX8_lay_132 (by decide) h (fun c14 h => ?_) (fun c14 h => ?_)
              · refine i_iload dX8_lay_187 rfl ?_
                exact e_iw rfl dX8_lay_189 h
              · refine i_aload_n dX8_lay_135 rfl ?_
                refine gf_X8_37 rfl (by omega) dX8_lay_136 ?_
                refine i_iload_n dX8_lay_139 rfl ?_
                refine i_aload_n dX8_lay_140 rfl ?_
                refine gf_X8_22 rfl (by omega) dX8_lay_141 ?_
                refine i_iload_n dX8_lay_144 rfl ?_
                refine al_26 dX8_lay_145 (by omega) h (fun j22 lj22 h => ?_)
                refine as_31 dX8_lay_146 (by omega) h (fun j23 lj23 h => ?_)
                refine r_mem h (fun s5 _ h => ?_)
                refine i_iconst (v := 0) dX8_lay_147 (by decide) ?_
                refine i_istore (ls' := [some (rf X 8 0), some (.int p1), some (.int p2), some (.int p3), some (.int (1 : Int32)), some (.int (σ 28 0 j18)), some (.int (0 : Int32))]) dX8_lay_148 (by decide) (okp_at rfl) rfl ?_
                refine At.fewer (ls' := [some (rf X 8 0), some (.int p1), none, some (.int p3), none, some (.int (σ 28 0 j18)), some (.int (0 : Int32))]) (And.intro rfl (And.intro rfl (And.intro rfl (And.intro rfl (And.intro rfl trivial))))) ?_
                refine L_X8_lay_150  FU _ _ h (fun σ_5 h => ?_)
                refine i_iload dX8_lay_187 rfl ?_
                exact e_iw rfl dX8_lay_189 h
            · refine i_aload_n dX8_lay_120 rfl ?_
              refine i_iload_n dX8_lay_121 rfl ?_
              refine cV_ir dX8_lay_122 cw_X8_122 ci_X8_worth rfl rfl (by decide) (show 0 < 1 by omega) h (fun a5 e => F_X8_worth  e) (Nat.le_of_ble_eq_true rfl) rfl rfl (Nat.le_of_ble_eq_true rfl) (fun a5 ea5 h => ?_)
              refine i_goto (tgt := 129) dX8_lay_125 (by decide) ?_
              refine as_30 dX8_lay_129 (by omega) h (fun j24 lj24 h => ?_)
              refine i_iload_n dX8_lay_130 rfl ?_
              refine i_iconst (v := 2) dX8_lay_131 (by decide) ?_
              refine r_icmp_ne (tgt := 187) dX8_lay_132 (by decide) h (fun c15 h => ?_) (fun c15 h => ?_)
              · refine i_iload dX8_lay_187 rfl ?_
                exact e_iw rfl dX8_lay_189 h
              · refine i_aload_n dX8_lay_135 rfl ?_
                refine gf_X8_37 rfl (by omega) dX8_lay_136 ?_
                refine i_iload_n dX8_lay_139 rfl ?_
                refine i_aload_n dX8_lay_140 rfl ?_
                refine gf_X8_22 rfl (by omega) dX8_lay_141 ?_
                refine i_iload_n dX8_lay_144 rfl ?_
                refine al_26 dX8_lay_145 (by omega) h (fun j25 lj25 h => ?_)
                refine as_31 dX8_lay_146 (by omega) h (fun j26 lj26 h => ?_)
                refine r_mem h (fun s6 _ h => ?_)
                refine i_iconst (v := 0) dX8_lay_147 (by decide) ?_
                refine i_istore (ls' := [some (rf X 8 0), some (.int p1), some (.int p2), some (.int p3), some (.int (1 : Int32)), some (.int (σ 28 0 j18)), some (.int (0 : Int32))]) dX8_lay_148 (by decide) (okp_at rfl) rfl ?_
                refine At.fewer (ls' := [some (rf X 8 0), some (.int p1), none, some (.int p3), none, some (.int (σ 28 0 j18)), some (.int (0 : Int32))]) (And.intro rfl (And.intro rfl (And.intro rfl (And.intro rfl (And.intro rfl trivial))))) ?_
                refine L_X8_lay_150  FU _ _ h (fun σ_6 h => ?_)
                refine i_iload dX8_lay_187 rfl ?_
                exact e_iw rfl dX8_lay_189 h
          · refine i_aload_n dX8_lay_99 rfl ?_
            refine i_iload_n dX8_lay_100 rfl ?_
            refine i_iconst (v := 0) dX8_lay_101 (by decide) ?_
            refine cV_ir dX8_lay_102 cw_X8_98 ci_X8_of rfl rfl (by decide) (show 0 < 1 by omega) h (fun a6 e => F_X8_of  e) (Nat.le_of_ble_eq_true rfl) rfl rfl (Nat.le_of_ble_eq_true rfl) (fun a6 ea6 h => ?_)
            refine i_goto (tgt := 109) dX8_lay_105 (by decide) ?_
            refine as_29 dX8_lay_109 (by omega) h (fun j27 lj27 h => ?_)
            refine i_aload_n dX8_lay_110 rfl ?_
            refine gf_X8_34 rfl (by omega) dX8_lay_111 ?_
            refine i_iload_n dX8_lay_114 rfl ?_
            refine i_iload_n dX8_lay_115 rfl ?_
            refine i_iconst (v := 1) dX8_lay_116 (by decide) ?_
            refine r_icmp_ne (tgt := 128) dX8_lay_117 (by decide) h (fun c16 h => ?_) (fun c16 h => ?_)
            · refine i_iconst (v := 0) dX8_lay_128 (by decide) ?_
              refine as_30 dX8_lay_129 (by omega) h (fun j28 lj28 h => ?_)
              refine i_iload_n dX8_lay_130 rfl ?_
              refine i_iconst (v := 2) dX8_lay_131 (by decide) ?_
              refine r_icmp_ne (tgt := 187) dX8_lay_132 (by decide) h (fun c17 h => ?_) (fun c17 h => ?_)
              · refine i_iload dX8_lay_187 rfl ?_
                exact e_iw rfl dX8_lay_189 h
              · refine i_aload_n dX8_lay_135 rfl ?_
                refine gf_X8_37 rfl (by omega) dX8_lay_136 ?_
                refine i_iload_n dX8_lay_139 rfl ?_
                refine i_aload_n dX8_lay_140 rfl ?_
                refine gf_X8_22 rfl (by omega) dX8_lay_141 ?_
                refine i_iload_n dX8_lay_144 rfl ?_
                refine al_26 dX8_lay_145 (by omega) h (fun j29 lj29 h => ?_)
                refine as_31 dX8_lay_146 (by omega) h (fun j30 lj30 h => ?_)
                refine r_mem h (fun s7 _ h => ?_)
                refine i_iconst (v := 0) dX8_lay_147 (by decide) ?_
                refine i_istore (ls' := [some (rf X 8 0), some (.int p1), some (.int p2), some (.int p3), some (.int (1 : Int32)), some (.int (σ 28 0 j18)), some (.int (0 : Int32))]) dX8_lay_148 (by decide) (okp_at rfl) rfl ?_
                refine At.fewer (ls' := [some (rf X 8 0), some (.int p1), none, some (.int p3), none, some (.int (σ 28 0 j18)), some (.int (0 : Int32))]) (And.intro rfl (And.intro rfl (And.intro rfl (And.intro rfl (And.intro rfl trivial))))) ?_
                refine L_X8_lay_150  FU _ _ h (fun σ_7 h => ?_)
                refine i_iload dX8_lay_187 rfl ?_
                exact e_iw rfl dX8_lay_189 h
            · refine i_aload_n dX8_lay_120 rfl ?_
              refine i_iload_n dX8_lay_121 rfl ?_
              refine cV_ir dX8_lay_122 cw_X8_122 ci_X8_worth rfl rfl (by decide) (show 0 < 1 by omega) h (fun a7 e => F_X8_worth  e) (Nat.le_of_ble_eq_true rfl) rfl rfl (Nat.le_of_ble_eq_true rfl) (fun a7 ea7 h => ?_)
              refine i_goto (tgt := 129) dX8_lay_125 (by decide) ?_
              refine as_30 dX8_lay_129 (by omega) h (fun j31 lj31 h => ?_)
              refine i_iload_n dX8_lay_130 rfl ?_
              refine i_iconst (v := 2) dX8_lay_131 (by decide) ?_
              refine r_icmp_ne (tgt := 187) dX8_lay_132 (by decide) h (fun c18 h => ?_) (fun c18 h => ?_)
              · refine i_iload dX8_lay_187 rfl ?_
                exact e_iw rfl dX8_lay_189 h
              · refine i_aload_n dX8_lay_135 rfl ?_
                refine gf_X8_37 rfl (by omega) dX8_lay_136 ?_
                refine i_iload_n dX8_lay_139 rfl ?_
                refine i_aload_n dX8_lay_140 rfl ?_
                refine gf_X8_22 rfl (by omega) dX8_lay_141 ?_
                refine i_iload_n dX8_lay_144 rfl ?_
                refine al_26 dX8_lay_145 (by omega) h (fun j32 lj32 h => ?_)
                refine as_31 dX8_lay_146 (by omega) h (fun j33 lj33 h => ?_)
                refine r_mem h (fun s8 _ h => ?_)
                refine i_iconst (v := 0) dX8_lay_147 (by decide) ?_
                refine i_istore (ls' := [some (rf X 8 0), some (.int p1), some (.int p2), some (.int p3), some (.int (1 : Int32)), some (.int (σ 28 0 j18)), some (.int (0 : Int32))]) dX8_lay_148 (by decide) (okp_at rfl) rfl ?_
                refine At.fewer (ls' := [some (rf X 8 0), some (.int p1), none, some (.int p3), none, some (.int (σ 28 0 j18)), some (.int (0 : Int32))]) (And.intro rfl (And.intro rfl (And.intro rfl (And.intro rfl (And.intro rfl trivial))))) ?_
                refine L_X8_lay_150  FU _ _ h (fun σ_8 h => ?_)
                refine i_iload dX8_lay_187 rfl ?_
                exact e_iw rfl dX8_lay_189 h
        · refine i_ldcw (v := (-1000000011)) dX8_lay_70 k_X8_304 ?_
          exact e_iw rfl dX8_lay_73 h
  · refine i_iload_n dX8_lay_4 rfl ?_
    refine i_iconst (v := 3) dX8_lay_5 (by decide) ?_
    refine r_icmp_eq (tgt := 34) dX8_lay_6 (by decide) h (fun c19 h => ?_) (fun c19 h => ?_)
    · refine i_iconst (v := 1) dX8_lay_34 (by decide) ?_
      refine i_goto (tgt := 39) dX8_lay_35 (by decide) ?_
      refine i_istore (ls' := [some (rf X 8 0), some (.int p1), some (.int p2), some (.int p3), some (.int (1 : Int32)), none, none]) dX8_lay_39 (by decide) (okp_at rfl) rfl ?_
      refine i_iload_n dX8_lay_41 rfl ?_
      refine cS_ir dX8_lay_42 cw_X8_315 ci_X8_isSlot h (fun a8 e => F_X8_isSlot  e) (Nat.le_of_ble_eq_true rfl) rfl rfl (Nat.le_of_ble_eq_true rfl) (fun a8 ea8 h => ?_)
      refine r_if_eq (tgt := 53) dX8_lay_45 (by decide) h (fun c20 h => ?_) (fun c20 h => ?_)
      · refine i_ldc (v := (-1000000001)) dX8_lay_53 k_X8_86 ?_
        exact e_iw rfl dX8_lay_55 h
      · refine i_iload dX8_lay_48 rfl ?_
        refine i_if_ne (tgt := 56) dX8_lay_50 (by decide) (fun _ => ?_) (fun c => absurd c (by decide))
        refine i_iload_n dX8_lay_56 rfl ?_
        refine i_iconst (v := 2) dX8_lay_57 (by decide) ?_
        refine r_icmp_ne (tgt := 74) dX8_lay_58 (by decide) h (fun c21 h => ?_) (fun c21 h => ?_)
        · refine i_aload_n dX8_lay_74 rfl ?_
          refine gf_X8_28 rfl (by omega) dX8_lay_75 ?_
          refine i_iload_n dX8_lay_78 rfl ?_
          refine al_28 dX8_lay_79 (by omega) h (fun j34 lj34 h => ?_)
          refine i_istore (ls' := [some (rf X 8 0), some (.int p1), some (.int p2), some (.int p3), some (.int (1 : Int32)), some (.int (σ 28 0 j34)), none]) dX8_lay_80 (by decide) (okp_at rfl) rfl ?_
          refine i_aload_n dX8_lay_82 rfl ?_
          refine gf_X8_28 rfl (by omega) dX8_lay_83 ?_
          refine i_iload_n dX8_lay_86 rfl ?_
          refine i_iload_n dX8_lay_87 rfl ?_
          refine as_28 dX8_lay_88 (by omega) h (fun j35 lj35 h => ?_)
          refine i_aload_n dX8_lay_89 rfl ?_
          refine gf_X8_31 rfl (by omega) dX8_lay_90 ?_
          refine i_iload_n dX8_lay_93 rfl ?_
          refine i_iload_n dX8_lay_94 rfl ?_
          refine i_iconst (v := 1) dX8_lay_95 (by decide) ?_
          refine r_icmp_ne (tgt := 108) dX8_lay_96 (by decide) h (fun c22 h => ?_) (fun c22 h => ?_)
          · refine i_iload_n dX8_lay_108 rfl ?_
            refine as_29 dX8_lay_109 (by omega) h (fun j36 lj36 h => ?_)
            refine i_aload_n dX8_lay_110 rfl ?_
            refine gf_X8_34 rfl (by omega) dX8_lay_111 ?_
            refine i_iload_n dX8_lay_114 rfl ?_
            refine i_iload_n dX8_lay_115 rfl ?_
            refine i_iconst (v := 1) dX8_lay_116 (by decide) ?_
            refine r_icmp_ne (tgt := 128) dX8_lay_117 (by decide) h (fun c23 h => ?_) (fun c23 h => ?_)
            · refine i_iconst (v := 0) dX8_lay_128 (by decide) ?_
              refine as_30 dX8_lay_129 (by omega) h (fun j37 lj37 h => ?_)
              refine i_iload_n dX8_lay_130 rfl ?_
              refine i_iconst (v := 2) dX8_lay_131 (by decide) ?_
              refine r_icmp_ne (tgt := 187) dX8_lay_132 (by decide) h (fun c24 h => ?_) (fun c24 h => ?_)
              · refine i_iload dX8_lay_187 rfl ?_
                exact e_iw rfl dX8_lay_189 h
              · refine i_aload_n dX8_lay_135 rfl ?_
                refine gf_X8_37 rfl (by omega) dX8_lay_136 ?_
                refine i_iload_n dX8_lay_139 rfl ?_
                refine i_aload_n dX8_lay_140 rfl ?_
                refine gf_X8_22 rfl (by omega) dX8_lay_141 ?_
                refine i_iload_n dX8_lay_144 rfl ?_
                refine al_26 dX8_lay_145 (by omega) h (fun j38 lj38 h => ?_)
                refine as_31 dX8_lay_146 (by omega) h (fun j39 lj39 h => ?_)
                refine r_mem h (fun s9 _ h => ?_)
                refine i_iconst (v := 0) dX8_lay_147 (by decide) ?_
                refine i_istore (ls' := [some (rf X 8 0), some (.int p1), some (.int p2), some (.int p3), some (.int (1 : Int32)), some (.int (σ 28 0 j34)), some (.int (0 : Int32))]) dX8_lay_148 (by decide) (okp_at rfl) rfl ?_
                refine At.fewer (ls' := [some (rf X 8 0), some (.int p1), none, some (.int p3), none, some (.int (σ 28 0 j34)), some (.int (0 : Int32))]) (And.intro rfl (And.intro rfl (And.intro rfl (And.intro rfl (And.intro rfl trivial))))) ?_
                refine L_X8_lay_150  FU _ _ h (fun σ_9 h => ?_)
                refine i_iload dX8_lay_187 rfl ?_
                exact e_iw rfl dX8_lay_189 h
            · refine i_aload_n dX8_lay_120 rfl ?_
              refine i_iload_n dX8_lay_121 rfl ?_
              refine cV_ir dX8_lay_122 cw_X8_122 ci_X8_worth rfl rfl (by decide) (show 0 < 1 by omega) h (fun a9 e => F_X8_worth  e) (Nat.le_of_ble_eq_true rfl) rfl rfl (Nat.le_of_ble_eq_true rfl) (fun a9 ea9 h => ?_)
              refine i_goto (tgt := 129) dX8_lay_125 (by decide) ?_
              refine as_30 dX8_lay_129 (by omega) h (fun j40 lj40 h => ?_)
              refine i_iload_n dX8_lay_130 rfl ?_
              refine i_iconst (v := 2) dX8_lay_131 (by decide) ?_
              refine r_icmp_ne (tgt := 187) dX8_lay_132 (by decide) h (fun c25 h => ?_) (fun c25 h => ?_)
              · refine i_iload dX8_lay_187 rfl ?_
                exact e_iw rfl dX8_lay_189 h
              · refine i_aload_n dX8_lay_135 rfl ?_
                refine gf_X8_37 rfl (by omega) dX8_lay_136 ?_
                refine i_iload_n dX8_lay_139 rfl ?_
                refine i_aload_n dX8_lay_140 rfl ?_
                refine gf_X8_22 rfl (by omega) dX8_lay_141 ?_
                refine i_iload_n dX8_lay_144 rfl ?_
                refine al_26 dX8_lay_145 (by omega) h (fun j41 lj41 h => ?_)
                refine as_31 dX8_lay_146 (by omega) h (fun j42 lj42 h => ?_)
                refine r_mem h (fun s10 _ h => ?_)
                refine i_iconst (v := 0) dX8_lay_147 (by decide) ?_
                refine i_istore (ls' := [some (rf X 8 0), some (.int p1), some (.int p2), some (.int p3), some (.int (1 : Int32)), some (.int (σ 28 0 j34)), some (.int (0 : Int32))]) dX8_lay_148 (by decide) (okp_at rfl) rfl ?_
                refine At.fewer (ls' := [some (rf X 8 0), some (.int p1), none, some (.int p3), none, some (.int (σ 28 0 j34)), some (.int (0 : Int32))]) (And.intro rfl (And.intro rfl (And.intro rfl (And.intro rfl (And.intro rfl trivial))))) ?_
                refine L_X8_lay_150  FU _ _ h (fun σ_10 h => ?_)
                refine i_iload dX8_lay_187 rfl ?_
                exact e_iw rfl dX8_lay_189 h
          · refine i_aload_n dX8_lay_99 rfl ?_
            refine i_iload_n dX8_lay_100 rfl ?_
            refine i_iconst (v := 0) dX8_lay_101 (by decide) ?_
            refine cV_ir dX8_lay_102 cw_X8_98 ci_X8_of rfl rfl (by decide) (show 0 < 1 by omega) h (fun a10 e => F_X8_of  e) (Nat.le_of_ble_eq_true rfl) rfl rfl (Nat.le_of_ble_eq_true rfl) (fun a10 ea10 h => ?_)
            refine i_goto (tgt := 109) dX8_lay_105 (by decide) ?_
            refine as_29 dX8_lay_109 (by omega) h (fun j43 lj43 h => ?_)
            refine i_aload_n dX8_lay_110 rfl ?_
            refine gf_X8_34 rfl (by omega) dX8_lay_111 ?_
            refine i_iload_n dX8_lay_114 rfl ?_
            refine i_iload_n dX8_lay_115 rfl ?_
            refine i_iconst (v := 1) dX8_lay_116 (by decide) ?_
            refine r_icmp_ne (tgt := 128) dX8_lay_117 (by decide) h (fun c26 h => ?_) (fun c26 h => ?_)
            · refine i_iconst (v := 0) dX8_lay_128 (by decide) ?_
              refine as_30 dX8_lay_129 (by omega) h (fun j44 lj44 h => ?_)
              refine i_iload_n dX8_lay_130 rfl ?_
              refine i_iconst (v := 2) dX8_lay_131 (by decide) ?_
              refine r_icmp_ne (tgt := 187) dX8_lay_132 (by decide) h (fun c27 h => ?_) (fun c27 h => ?_)
              · refine i_iload dX8_lay_187 rfl ?_
                exact e_iw rfl dX8_lay_189 h
              · refine i_aload_n dX8_lay_135 rfl ?_
                refine gf_X8_37 rfl (by omega) dX8_lay_136 ?_
                refine i_iload_n dX8_lay_139 rfl ?_
                refine i_aload_n dX8_lay_140 rfl ?_
                refine gf_X8_22 rfl (by omega) dX8_lay_141 ?_
                refine i_iload_n dX8_lay_144 rfl ?_
                refine al_26 dX8_lay_145 (by omega) h (fun j45 lj45 h => ?_)
                refine as_31 dX8_lay_146 (by omega) h (fun j46 lj46 h => ?_)
                refine r_mem h (fun s11 _ h => ?_)
                refine i_iconst (v := 0) dX8_lay_147 (by decide) ?_
                refine i_istore (ls' := [some (rf X 8 0), some (.int p1), some (.int p2), some (.int p3), some (.int (1 : Int32)), some (.int (σ 28 0 j34)), some (.int (0 : Int32))]) dX8_lay_148 (by decide) (okp_at rfl) rfl ?_
                refine At.fewer (ls' := [some (rf X 8 0), some (.int p1), none, some (.int p3), none, some (.int (σ 28 0 j34)), some (.int (0 : Int32))]) (And.intro rfl (And.intro rfl (And.intro rfl (And.intro rfl (And.intro rfl trivial))))) ?_
                refine L_X8_lay_150  FU _ _ h (fun σ_11 h => ?_)
                refine i_iload dX8_lay_187 rfl ?_
                exact e_iw rfl dX8_lay_189 h
            · refine i_aload_n dX8_lay_120 rfl ?_
              refine i_iload_n dX8_lay_121 rfl ?_
              refine cV_ir dX8_lay_122 cw_X8_122 ci_X8_worth rfl rfl (by decide) (show 0 < 1 by omega) h (fun a11 e => F_X8_worth  e) (Nat.le_of_ble_eq_true rfl) rfl rfl (Nat.le_of_ble_eq_true rfl) (fun a11 ea11 h => ?_)
              refine i_goto (tgt := 129) dX8_lay_125 (by decide) ?_
              refine as_30 dX8_lay_129 (by omega) h (fun j47 lj47 h => ?_)
              refine i_iload_n dX8_lay_130 rfl ?_
              refine i_iconst (v := 2) dX8_lay_131 (by decide) ?_
              refine r_icmp_ne (tgt := 187) dX8_lay_132 (by decide) h (fun c28 h => ?_) (fun c28 h => ?_)
              · refine i_iload dX8_lay_187 rfl ?_
                exact e_iw rfl dX8_lay_189 h
              · refine i_aload_n dX8_lay_135 rfl ?_
                refine gf_X8_37 rfl (by omega) dX8_lay_136 ?_
                refine i_iload_n dX8_lay_139 rfl ?_
                refine i_aload_n dX8_lay_140 rfl ?_
                refine gf_X8_22 rfl (by omega) dX8_lay_141 ?_
                refine i_iload_n dX8_lay_144 rfl ?_
                refine al_26 dX8_lay_145 (by omega) h (fun j48 lj48 h => ?_)
                refine as_31 dX8_lay_146 (by omega) h (fun j49 lj49 h => ?_)
                refine r_mem h (fun s12 _ h => ?_)
                refine i_iconst (v := 0) dX8_lay_147 (by decide) ?_
                refine i_istore (ls' := [some (rf X 8 0), some (.int p1), some (.int p2), some (.int p3), some (.int (1 : Int32)), some (.int (σ 28 0 j34)), some (.int (0 : Int32))]) dX8_lay_148 (by decide) (okp_at rfl) rfl ?_
                refine At.fewer (ls' := [some (rf X 8 0), some (.int p1), none, some (.int p3), none, some (.int (σ 28 0 j34)), some (.int (0 : Int32))]) (And.intro rfl (And.intro rfl (And.intro rfl (And.intro rfl (And.intro rfl trivial))))) ?_
                refine L_X8_lay_150  FU _ _ h (fun σ_12 h => ?_)
                refine i_iload dX8_lay_187 rfl ?_
                exact e_iw rfl dX8_lay_189 h
        · refine i_aload_n dX8_lay_61 rfl ?_
          refine gf_X8_19 rfl (by omega) dX8_lay_62 ?_
          refine i_iload_n dX8_lay_65 rfl ?_
          refine al_25 dX8_lay_66 (by omega) h (fun j50 lj50 h => ?_)
          refine r_if_ge (tgt := 74) dX8_lay_67 (by decide) h (fun c29 h => ?_) (fun c29 h => ?_)
          · refine i_aload_n dX8_lay_74 rfl ?_
            refine gf_X8_28 rfl (by omega) dX8_lay_75 ?_
            refine i_iload_n dX8_lay_78 rfl ?_
            refine al_28 dX8_lay_79 (by omega) h (fun j51 lj51 h => ?_)
            refine i_istore (ls' := [some (rf X 8 0), some (.int p1), some (.int p2), some (.int p3), some (.int (1 : Int32)), some (.int (σ 28 0 j51)), none]) dX8_lay_80 (by decide) (okp_at rfl) rfl ?_
            refine i_aload_n dX8_lay_82 rfl ?_
            refine gf_X8_28 rfl (by omega) dX8_lay_83 ?_
            refine i_iload_n dX8_lay_86 rfl ?_
            refine i_iload_n dX8_lay_87 rfl ?_
            refine as_28 dX8_lay_88 (by omega) h (fun j52 lj52 h => ?_)
            refine i_aload_n dX8_lay_89 rfl ?_
            refine gf_X8_31 rfl (by omega) dX8_lay_90 ?_
            refine i_iload_n dX8_lay_93 rfl ?_
            refine i_iload_n dX8_lay_94 rfl ?_
            refine i_iconst (v := 1) dX8_lay_95 (by decide) ?_
            refine r_icmp_ne (tgt := 108) dX8_lay_96 (by decide) h (fun c30 h => ?_) (fun c30 h => ?_)
            · refine i_iload_n dX8_lay_108 rfl ?_
              refine as_29 dX8_lay_109 (by omega) h (fun j53 lj53 h => ?_)
              refine i_aload_n dX8_lay_110 rfl ?_
              refine gf_X8_34 rfl (by omega) dX8_lay_111 ?_
              refine i_iload_n dX8_lay_114 rfl ?_
              refine i_iload_n dX8_lay_115 rfl ?_
              refine i_iconst (v := 1) dX8_lay_116 (by decide) ?_
              refine r_icmp_ne (tgt := 128) dX8_lay_117 (by decide) h (fun c31 h => ?_) (fun c31 h => ?_)
              · refine i_iconst (v := 0) dX8_lay_128 (by decide) ?_
                refine as_30 dX8_lay_129 (by omega) h (fun j54 lj54 h => ?_)
                refine i_iload_n dX8_lay_130 rfl ?_
                refine i_iconst (v := 2) dX8_lay_131 (by decide) ?_
                refine r_icmp_ne (tgt := 187) dX8_lay_132 (by decide) h (fun c32 h => ?_) (fun c32 h => ?_)
                · refine i_iload dX8_lay_187 rfl ?_
                  exact e_iw rfl dX8_lay_189 h
                · refine i_aload_n dX8_lay_135 rfl ?_
                  refine gf_X8_37 rfl (by omega) dX8_lay_136 ?_
                  refine i_iload_n dX8_lay_139 rfl ?_
                  refine i_aload_n dX8_lay_140 rfl ?_
                  refine gf_X8_22 rfl (by omega) dX8_lay_141 ?_
                  refine i_iload_n dX8_lay_144 rfl ?_
                  refine al_26 dX8_lay_145 (by omega) h (fun j55 lj55 h => ?_)
                  refine as_31 dX8_lay_146 (by omega) h (fun j56 lj56 h => ?_)
                  refine r_mem h (fun s13 _ h => ?_)
                  refine i_iconst (v := 0) dX8_lay_147 (by decide) ?_
                  refine i_istore (ls' := [some (rf X 8 0), some (.int p1), some (.int p2), some (.int p3), some (.int (1 : Int32)), some (.int (σ 28 0 j51)), some (.int (0 : Int32))]) dX8_lay_148 (by decide) (okp_at rfl) rfl ?_
                  refine At.fewer (ls' := [some (rf X 8 0), some (.int p1), none, some (.int p3), none, some (.int (σ 28 0 j51)), some (.int (0 : Int32))]) (And.intro rfl (And.intro rfl (And.intro rfl (And.intro rfl (And.intro rfl trivial))))) ?_
                  refine L_X8_lay_150  FU _ _ h (fun σ_13 h => ?_)
                  refine i_iload dX8_lay_187 rfl ?_
                  exact e_iw rfl dX8_lay_189 h
              · refine i_aload_n dX8_lay_120 rfl ?_
                refine i_iload_n dX8_lay_121 rfl ?_
                refine cV_ir dX8_lay_122 cw_X8_122 ci_X8_worth rfl rfl (by decide) (show 0 < 1 by omega) h (fun a12 e => F_X8_worth  e) (Nat.le_of_ble_eq_true rfl) rfl rfl (Nat.le_of_ble_eq_true rfl) (fun a12 ea12 h => ?_)
                refine i_goto (tgt := 129) dX8_lay_125 (by decide) ?_
                refine as_30 dX8_lay_129 (by omega) h (fun j57 lj57 h => ?_)
                refine i_iload_n dX8_lay_130 rfl ?_
                refine i_iconst (v := 2) dX8_lay_131 (by decide) ?_
                refine r_icmp_ne (tgt := 187) dX8_lay_132 (by decide) h (fun c33 h => ?_) (fun c33 h => ?_)
                · refine i_iload dX8_lay_187 rfl ?_
                  exact e_iw rfl dX8_lay_189 h
                · refine i_aload_n dX8_lay_135 rfl ?_
                  refine gf_X8_37 rfl (by omega) dX8_lay_136 ?_
                  refine i_iload_n dX8_lay_139 rfl ?_
                  refine i_aload_n dX8_lay_140 rfl ?_
                  refine gf_X8_22 rfl (by omega) dX8_lay_141 ?_
                  refine i_iload_n dX8_lay_144 rfl ?_
                  refine al_26 dX8_lay_145 (by omega) h (fun j58 lj58 h => ?_)
                  refine as_31 dX8_lay_146 (by omega) h (fun j59 lj59 h => ?_)
                  refine r_mem h (fun s14 _ h => ?_)
                  refine i_iconst (v := 0) dX8_lay_147 (by decide) ?_
                  refine i_istore (ls' := [some (rf X 8 0), some (.int p1), some (.int p2), some (.int p3), some (.int (1 : Int32)), some (.int (σ 28 0 j51)), some (.int (0 : Int32))]) dX8_lay_148 (by decide) (okp_at rfl) rfl ?_
                  refine At.fewer (ls' := [some (rf X 8 0), some (.int p1), none, some (.int p3), none, some (.int (σ 28 0 j51)), some (.int (0 : Int32))]) (And.intro rfl (And.intro rfl (And.intro rfl (And.intro rfl (And.intro rfl trivial))))) ?_
                  refine L_X8_lay_150  FU _ _ h (fun σ_14 h => ?_)
                  refine i_iload dX8_lay_187 rfl ?_
                  exact e_iw rfl dX8_lay_189 h
            · refine i_aload_n dX8_lay_99 rfl ?_
              refine i_iload_n dX8_lay_100 rfl ?_
              refine i_iconst (v := 0) dX8_lay_101 (by decide) ?_
              refine cV_ir dX8_lay_102 cw_X8_98 ci_X8_of rfl rfl (by decide) (show 0 < 1 by omega) h (fun a13 e => F_X8_of  e) (Nat.le_of_ble_eq_true rfl) rfl rfl (Nat.le_of_ble_eq_true rfl) (fun a13 ea13 h => ?_)
              refine i_goto (tgt := 109) dX8_lay_105 (by decide) ?_
              refine as_29 dX8_lay_109 (by omega) h (fun j60 lj60 h => ?_)
              refine i_aload_n dX8_lay_110 rfl ?_
              refine gf_X8_34 rfl (by omega) dX8_lay_111 ?_
              refine i_iload_n dX8_lay_114 rfl ?_
              refine i_iload_n dX8_lay_115 rfl ?_
              refine i_iconst (v := 1) dX8_lay_116 (by decide) ?_
              refine r_icmp_ne (tgt := 128) dX8_lay_117 (by decide) h (fun c34 h => ?_) (fun c34 h => ?_)
              · refine i_iconst (v := 0) dX8_lay_128 (by decide) ?_
                refine as_30 dX8_lay_129 (by omega) h (fun j61 lj61 h => ?_)
                refine i_iload_n dX8_lay_130 rfl ?_
                refine i_iconst (v := 2) dX8_lay_131 (by decide) ?_
                refine r_icmp_ne (tgt := 187) dX8_lay_132 (by decide) h (fun c35 h => ?_) (fun c35 h => ?_)
                · refine i_iload dX8_lay_187 rfl ?_
                  exact e_iw rfl dX8_lay_189 h
                · refine i_aload_n dX8_lay_135 rfl ?_
                  refine gf_X8_37 rfl (by omega) dX8_lay_136 ?_
                  refine i_iload_n dX8_lay_139 rfl ?_
                  refine i_aload_n dX8_lay_140 rfl ?_
                  refine gf_X8_22 rfl (by omega) dX8_lay_141 ?_
                  refine i_iload_n dX8_lay_144 rfl ?_
                  refine al_26 dX8_lay_145 (by omega) h (fun j62 lj62 h => ?_)
                  refine as_31 dX8_lay_146 (by omega) h (fun j63 lj63 h => ?_)
                  refine r_mem h (fun s15 _ h => ?_)
                  refine i_iconst (v := 0) dX8_lay_147 (by decide) ?_
                  refine i_istore (ls' := [some (rf X 8 0), some (.int p1), some (.int p2), some (.int p3), some (.int (1 : Int32)), some (.int (σ 28 0 j51)), some (.int (0 : Int32))]) dX8_lay_148 (by decide) (okp_at rfl) rfl ?_
                  refine At.fewer (ls' := [some (rf X 8 0), some (.int p1), none, some (.int p3), none, some (.int (σ 28 0 j51)), some (.int (0 : Int32))]) (And.intro rfl (And.intro rfl (And.intro rfl (And.intro rfl (And.intro rfl trivial))))) ?_
                  refine L_X8_lay_150  FU _ _ h (fun σ_15 h => ?_)
                  refine i_iload dX8_lay_187 rfl ?_
                  exact e_iw rfl dX8_lay_189 h
              · refine i_aload_n dX8_lay_120 rfl ?_
                refine i_iload_n dX8_lay_121 rfl ?_
                refine cV_ir dX8_lay_122 cw_X8_122 ci_X8_worth rfl rfl (by decide) (show 0 < 1 by omega) h (fun a14 e => F_X8_worth  e) (Nat.le_of_ble_eq_true rfl) rfl rfl (Nat.le_of_ble_eq_true rfl) (fun a14 ea14 h => ?_)
                refine i_goto (tgt := 129) dX8_lay_125 (by decide) ?_
                refine as_30 dX8_lay_129 (by omega) h (fun j64 lj64 h => ?_)
                refine i_iload_n dX8_lay_130 rfl ?_
                refine i_iconst (v := 2) dX8_lay_131 (by decide) ?_
                refine r_icmp_ne (tgt := 187) dX8_lay_132 (by decide) h (fun c36 h => ?_) (fun c36 h => ?_)
                · refine i_iload dX8_lay_187 rfl ?_
                  exact e_iw rfl dX8_lay_189 h
                · refine i_aload_n dX8_lay_135 rfl ?_
                  refine gf_X8_37 rfl (by omega) dX8_lay_136 ?_
                  refine i_iload_n dX8_lay_139 rfl ?_
                  refine i_aload_n dX8_lay_140 rfl ?_
                  refine gf_X8_22 rfl (by omega) dX8_lay_141 ?_
                  refine i_iload_n dX8_lay_144 rfl ?_
                  refine al_26 dX8_lay_145 (by omega) h (fun j65 lj65 h => ?_)
                  refine as_31 dX8_lay_146 (by omega) h (fun j66 lj66 h => ?_)
                  refine r_mem h (fun s16 _ h => ?_)
                  refine i_iconst (v := 0) dX8_lay_147 (by decide) ?_
                  refine i_istore (ls' := [some (rf X 8 0), some (.int p1), some (.int p2), some (.int p3), some (.int (1 : Int32)), some (.int (σ 28 0 j51)), some (.int (0 : Int32))]) dX8_lay_148 (by decide) (okp_at rfl) rfl ?_
                  refine At.fewer (ls' := [some (rf X 8 0), some (.int p1), none, some (.int p3), none, some (.int (σ 28 0 j51)), some (.int (0 : Int32))]) (And.intro rfl (And.intro rfl (And.intro rfl (And.intro rfl (And.intro rfl trivial))))) ?_
                  refine L_X8_lay_150  FU _ _ h (fun σ_16 h => ?_)
                  refine i_iload dX8_lay_187 rfl ?_
                  exact e_iw rfl dX8_lay_189 h
          · refine i_ldcw (v := (-1000000011)) dX8_lay_70 k_X8_304 ?_
            exact e_iw rfl dX8_lay_73 h
    · refine i_iload_n dX8_lay_9 rfl ?_
      refine i_iconst (v := 1) dX8_lay_10 (by decide) ?_
      refine r_icmp_ne (tgt := 22) dX8_lay_11 (by decide) h (fun c37 h => ?_) (fun c37 h => ?_)
      · refine i_iload_n dX8_lay_22 rfl ?_
        refine i_iconst (v := 2) dX8_lay_23 (by decide) ?_
        refine r_icmp_ne (tgt := 38) dX8_lay_24 (by decide) h (fun c38 h => ?_) (fun c38 h => ?_)
        · refine i_iconst (v := 0) dX8_lay_38 (by decide) ?_
          refine i_istore (ls' := [some (rf X 8 0), some (.int p1), some (.int p2), some (.int p3), some (.int (0 : Int32)), none, none]) dX8_lay_39 (by decide) (okp_at rfl) rfl ?_
          refine i_iload_n dX8_lay_41 rfl ?_
          refine cS_ir dX8_lay_42 cw_X8_315 ci_X8_isSlot h (fun a15 e => F_X8_isSlot  e) (Nat.le_of_ble_eq_true rfl) rfl rfl (Nat.le_of_ble_eq_true rfl) (fun a15 ea15 h => ?_)
          refine r_if_eq (tgt := 53) dX8_lay_45 (by decide) h (fun c39 h => ?_) (fun c39 h => ?_)
          · refine i_ldc (v := (-1000000001)) dX8_lay_53 k_X8_86 ?_
            exact e_iw rfl dX8_lay_55 h
          · refine i_iload dX8_lay_48 rfl ?_
            refine i_if_ne (tgt := 56) dX8_lay_50 (by decide) (fun c => absurd c (by decide)) (fun _ => ?_)
            refine i_ldc (v := (-1000000001)) dX8_lay_53 k_X8_86 ?_
            exact e_iw rfl dX8_lay_55 h
        · refine i_iload_n dX8_lay_27 rfl ?_
          refine cS_ir dX8_lay_28 cw_X8_298 ci_X8_isSheet h (fun a16 e => F_X8_isSheet  e) (Nat.le_of_ble_eq_true rfl) rfl rfl (Nat.le_of_ble_eq_true rfl) (fun a16 ea16 h => ?_)
          refine r_if_eq (tgt := 38) dX8_lay_31 (by decide) h (fun c40 h => ?_) (fun c40 h => ?_)
          · refine i_iconst (v := 0) dX8_lay_38 (by decide) ?_
            refine i_istore (ls' := [some (rf X 8 0), some (.int p1), some (.int p2), some (.int p3), some (.int (0 : Int32)), none, none]) dX8_lay_39 (by decide) (okp_at rfl) rfl ?_
            refine i_iload_n dX8_lay_41 rfl ?_
            refine cS_ir dX8_lay_42 cw_X8_315 ci_X8_isSlot h (fun a17 e => F_X8_isSlot  e) (Nat.le_of_ble_eq_true rfl) rfl rfl (Nat.le_of_ble_eq_true rfl) (fun a17 ea17 h => ?_)
            refine r_if_eq (tgt := 53) dX8_lay_45 (by decide) h (fun c41 h => ?_) (fun c41 h => ?_)
            · refine i_ldc (v := (-1000000001)) dX8_lay_53 k_X8_86 ?_
              exact e_iw rfl dX8_lay_55 h
            · refine i_iload dX8_lay_48 rfl ?_
              refine i_if_ne (tgt := 56) dX8_lay_50 (by decide) (fun c => absurd c (by decide)) (fun _ => ?_)
              refine i_ldc (v := (-1000000001)) dX8_lay_53 k_X8_86 ?_
              exact e_iw rfl dX8_lay_55 h
          · refine i_iconst (v := 1) dX8_lay_34 (by decide) ?_
            refine i_goto (tgt := 39) dX8_lay_35 (by decide) ?_
            refine i_istore (ls' := [some (rf X 8 0), some (.int p1), some (.int p2), some (.int p3), some (.int (1 : Int32)), none, none]) dX8_lay_39 (by decide) (okp_at rfl) rfl ?_
            refine i_iload_n dX8_lay_41 rfl ?_
            refine cS_ir dX8_lay_42 cw_X8_315 ci_X8_isSlot h (fun a18 e => F_X8_isSlot  e) (Nat.le_of_ble_eq_true rfl) rfl rfl (Nat.le_of_ble_eq_true rfl) (fun a18 ea18 h => ?_)
            refine r_if_eq (tgt := 53) dX8_lay_45 (by decide) h (fun c42 h => ?_) (fun c42 h => ?_)
            · refine i_ldc (v := (-1000000001)) dX8_lay_53 k_X8_86 ?_
              exact e_iw rfl dX8_lay_55 h
            · refine i_iload dX8_lay_48 rfl ?_
              refine i_if_ne (tgt := 56) dX8_lay_50 (by decide) (fun _ => ?_) (fun c => absurd c (by decide))
              refine i_iload_n dX8_lay_56 rfl ?_
              refine i_iconst (v := 2) dX8_lay_57 (by decide) ?_
              refine r_icmp_ne (tgt := 74) dX8_lay_58 (by decide) h (fun c43 h => ?_) (fun c43 h => ?_)
              · refine i_aload_n dX8_lay_74 rfl ?_
                refine gf_X8_28 rfl (by omega) dX8_lay_75 ?_
                refine i_iload_n dX8_lay_78 rfl ?_
                refine al_28 dX8_lay_79 (by omega) h (fun j67 lj67 h => ?_)
                refine i_istore (ls' := [some (rf X 8 0), some (.int p1), some (.int p2), some (.int p3), some (.int (1 : Int32)), some (.int (σ 28 0 j67)), none]) dX8_lay_80 (by decide) (okp_at rfl) rfl ?_
                refine i_aload_n dX8_lay_82 rfl ?_
                refine gf_X8_28 rfl (by omega) dX8_lay_83 ?_
                refine i_iload_n dX8_lay_86 rfl ?_
                refine i_iload_n dX8_lay_87 rfl ?_
                refine as_28 dX8_lay_88 (by omega) h (fun j68 lj68 h => ?_)
                refine i_aload_n dX8_lay_89 rfl ?_
                refine gf_X8_31 rfl (by omega) dX8_lay_90 ?_
                refine i_iload_n dX8_lay_93 rfl ?_
                refine i_iload_n dX8_lay_94 rfl ?_
                refine i_iconst (v := 1) dX8_lay_95 (by decide) ?_
                refine r_icmp_ne (tgt := 108) dX8_lay_96 (by decide) h (fun c44 h => ?_) (fun c44 h => ?_)
                · refine i_iload_n dX8_lay_108 rfl ?_
                  refine as_29 dX8_lay_109 (by omega) h (fun j69 lj69 h => ?_)
                  refine i_aload_n dX8_lay_110 rfl ?_
                  refine gf_X8_34 rfl (by omega) dX8_lay_111 ?_
                  refine i_iload_n dX8_lay_114 rfl ?_
                  refine i_iload_n dX8_lay_115 rfl ?_
                  refine i_iconst (v := 1) dX8_lay_116 (by decide) ?_
                  refine r_icmp_ne (tgt := 128) dX8_lay_117 (by decide) h (fun c45 h => ?_) (fun c45 h => ?_)
                  · refine i_iconst (v := 0) dX8_lay_128 (by decide) ?_
                    refine as_30 dX8_lay_129 (by omega) h (fun j70 lj70 h => ?_)
                    refine i_iload_n dX8_lay_130 rfl ?_
                    refine i_iconst (v := 2) dX8_lay_131 (by decide) ?_
                    refine r_icmp_ne (tgt := 187) dX8_lay_132 (by decide) h (fun c46 h => ?_) (fun c46 h => ?_)
                    · refine i_iload dX8_lay_187 rfl ?_
                      exact e_iw rfl dX8_lay_189 h
                    · refine i_aload_n dX8_lay_135 rfl ?_
                      refine gf_X8_37 rfl (by omega) dX8_lay_136 ?_
                      refine i_iload_n dX8_lay_139 rfl ?_
                      refine i_aload_n dX8_lay_140 rfl ?_
                      refine gf_X8_22 rfl (by omega) dX8_lay_141 ?_
                      refine i_iload_n dX8_lay_144 rfl ?_
                      refine al_26 dX8_lay_145 (by omega) h (fun j71 lj71 h => ?_)
                      refine as_31 dX8_lay_146 (by omega) h (fun j72 lj72 h => ?_)
                      refine r_mem h (fun s17 _ h => ?_)
                      refine i_iconst (v := 0) dX8_lay_147 (by decide) ?_
                      refine i_istore (ls' := [some (rf X 8 0), some (.int p1), some (.int p2), some (.int p3), some (.int (1 : Int32)), some (.int (σ 28 0 j67)), some (.int (0 : Int32))]) dX8_lay_148 (by decide) (okp_at rfl) rfl ?_
                      refine At.fewer (ls' := [some (rf X 8 0), some (.int p1), none, some (.int p3), none, some (.int (σ 28 0 j67)), some (.int (0 : Int32))]) (And.intro rfl (And.intro rfl (And.intro rfl (And.intro rfl (And.intro rfl trivial))))) ?_
                      refine L_X8_lay_150  FU _ _ h (fun σ_17 h => ?_)
                      refine i_iload dX8_lay_187 rfl ?_
                      exact e_iw rfl dX8_lay_189 h
                  · refine i_aload_n dX8_lay_120 rfl ?_
                    refine i_iload_n dX8_lay_121 rfl ?_
                    refine cV_ir dX8_lay_122 cw_X8_122 ci_X8_worth rfl rfl (by decide) (show 0 < 1 by omega) h (fun a19 e => F_X8_worth  e) (Nat.le_of_ble_eq_true rfl) rfl rfl (Nat.le_of_ble_eq_true rfl) (fun a19 ea19 h => ?_)
                    refine i_goto (tgt := 129) dX8_lay_125 (by decide) ?_
                    refine as_30 dX8_lay_129 (by omega) h (fun j73 lj73 h => ?_)
                    refine i_iload_n dX8_lay_130 rfl ?_
                    refine i_iconst (v := 2) dX8_lay_131 (by decide) ?_
                    refine r_icmp_ne (tgt := 187) dX8_lay_132 (by decide) h (fun c47 h => ?_) (fun c47 h => ?_)
                    · refine i_iload dX8_lay_187 rfl ?_
                      exact e_iw rfl dX8_lay_189 h
                    · refine i_aload_n dX8_lay_135 rfl ?_
                      refine gf_X8_37 rfl (by omega) dX8_lay_136 ?_
                      refine i_iload_n dX8_lay_139 rfl ?_
                      refine i_aload_n dX8_lay_140 rfl ?_
                      refine gf_X8_22 rfl (by omega) dX8_lay_141 ?_
                      refine i_iload_n dX8_lay_144 rfl ?_
                      refine al_26 dX8_lay_145 (by omega) h (fun j74 lj74 h => ?_)
                      refine as_31 dX8_lay_146 (by omega) h (fun j75 lj75 h => ?_)
                      refine r_mem h (fun s18 _ h => ?_)
                      refine i_iconst (v := 0) dX8_lay_147 (by decide) ?_
                      refine i_istore (ls' := [some (rf X 8 0), some (.int p1), some (.int p2), some (.int p3), some (.int (1 : Int32)), some (.int (σ 28 0 j67)), some (.int (0 : Int32))]) dX8_lay_148 (by decide) (okp_at rfl) rfl ?_
                      refine At.fewer (ls' := [some (rf X 8 0), some (.int p1), none, some (.int p3), none, some (.int (σ 28 0 j67)), some (.int (0 : Int32))]) (And.intro rfl (And.intro rfl (And.intro rfl (And.intro rfl (And.intro rfl trivial))))) ?_
                      refine L_X8_lay_150  FU _ _ h (fun σ_18 h => ?_)
                      refine i_iload dX8_lay_187 rfl ?_
                      exact e_iw rfl dX8_lay_189 h
                · refine i_aload_n dX8_lay_99 rfl ?_
                  refine i_iload_n dX8_lay_100 rfl ?_
                  refine i_iconst (v := 0) dX8_lay_101 (by decide) ?_
                  refine cV_ir dX8_lay_102 cw_X8_98 ci_X8_of rfl rfl (by decide) (show 0 < 1 by omega) h (fun a20 e => F_X8_of  e) (Nat.le_of_ble_eq_true rfl) rfl rfl (Nat.le_of_ble_eq_true rfl) (fun a20 ea20 h => ?_)
                  refine i_goto (tgt := 109) dX8_lay_105 (by decide) ?_
                  refine as_29 dX8_lay_109 (by omega) h (fun j76 lj76 h => ?_)
                  refine i_aload_n dX8_lay_110 rfl ?_
                  refine gf_X8_34 rfl (by omega) dX8_lay_111 ?_
                  refine i_iload_n dX8_lay_114 rfl ?_
                  refine i_iload_n dX8_lay_115 rfl ?_
                  refine i_iconst (v := 1) dX8_lay_116 (by decide) ?_
                  refine r_icmp_ne (tgt := 128) dX8_lay_117 (by decide) h (fun c48 h => ?_) (fun c48 h => ?_)
                  · refine i_iconst (v := 0) dX8_lay_128 (by decide) ?_
                    refine as_30 dX8_lay_129 (by omega) h (fun j77 lj77 h => ?_)
                    refine i_iload_n dX8_lay_130 rfl ?_
                    refine i_iconst (v := 2) dX8_lay_131 (by decide) ?_
                    refine r_icmp_ne (tgt := 187) dX8_lay_132 (by decide) h (fun c49 h => ?_) (fun c49 h => ?_)
                    · refine i_iload dX8_lay_187 rfl ?_
                      exact e_iw rfl dX8_lay_189 h
                    · refine i_aload_n dX8_lay_135 rfl ?_
                      refine gf_X8_37 rfl (by omega) dX8_lay_136 ?_
                      refine i_iload_n dX8_lay_139 rfl ?_
                      refine i_aload_n dX8_lay_140 rfl ?_
                      refine gf_X8_22 rfl (by omega) dX8_lay_141 ?_
                      refine i_iload_n dX8_lay_144 rfl ?_
                      refine al_26 dX8_lay_145 (by omega) h (fun j78 lj78 h => ?_)
                      refine as_31 dX8_lay_146 (by omega) h (fun j79 lj79 h => ?_)
                      refine r_mem h (fun s19 _ h => ?_)
                      refine i_iconst (v := 0) dX8_lay_147 (by decide) ?_
                      refine i_istore (ls' := [some (rf X 8 0), some (.int p1), some (.int p2), some (.int p3), some (.int (1 : Int32)), some (.int (σ 28 0 j67)), some (.int (0 : Int32))]) dX8_lay_148 (by decide) (okp_at rfl) rfl ?_
                      refine At.fewer (ls' := [some (rf X 8 0), some (.int p1), none, some (.int p3), none, some (.int (σ 28 0 j67)), some (.int (0 : Int32))]) (And.intro rfl (And.intro rfl (And.intro rfl (And.intro rfl (And.intro rfl trivial))))) ?_
                      refine L_X8_lay_150  FU _ _ h (fun σ_19 h => ?_)
                      refine i_iload dX8_lay_187 rfl ?_
                      exact e_iw rfl dX8_lay_189 h
                  · refine i_aload_n dX8_lay_120 rfl ?_
                    refine i_iload_n dX8_lay_121 rfl ?_
                    refine cV_ir dX8_lay_122 cw_X8_122 ci_X8_worth rfl rfl (by decide) (show 0 < 1 by omega) h (fun a21 e => F_X8_worth  e) (Nat.le_of_ble_eq_true rfl) rfl rfl (Nat.le_of_ble_eq_true rfl) (fun a21 ea21 h => ?_)
                    refine i_goto (tgt := 129) dX8_lay_125 (by decide) ?_
                    refine as_30 dX8_lay_129 (by omega) h (fun j80 lj80 h => ?_)
                    refine i_iload_n dX8_lay_130 rfl ?_
                    refine i_iconst (v := 2) dX8_lay_131 (by decide) ?_
                    refine r_icmp_ne (tgt := 187) dX8_lay_132 (by decide) h (fun c50 h => ?_) (fun c50 h => ?_)
                    · refine i_iload dX8_lay_187 rfl ?_
                      exact e_iw rfl dX8_lay_189 h
                    · refine i_aload_n dX8_lay_135 rfl ?_
                      refine gf_X8_37 rfl (by omega) dX8_lay_136 ?_
                      refine i_iload_n dX8_lay_139 rfl ?_
                      refine i_aload_n dX8_lay_140 rfl ?_
                      refine gf_X8_22 rfl (by omega) dX8_lay_141 ?_
                      refine i_iload_n dX8_lay_144 rfl ?_
                      refine al_26 dX8_lay_145 (by omega) h (fun j81 lj81 h => ?_)
                      refine as_31 dX8_lay_146 (by omega) h (fun j82 lj82 h => ?_)
                      refine r_mem h (fun s20 _ h => ?_)
                      refine i_iconst (v := 0) dX8_lay_147 (by decide) ?_
                      refine i_istore (ls' := [some (rf X 8 0), some (.int p1), some (.int p2), some (.int p3), some (.int (1 : Int32)), some (.int (σ 28 0 j67)), some (.int (0 : Int32))]) dX8_lay_148 (by decide) (okp_at rfl) rfl ?_
                      refine At.fewer (ls' := [some (rf X 8 0), some (.int p1), none, some (.int p3), none, some (.int (σ 28 0 j67)), some (.int (0 : Int32))]) (And.intro rfl (And.intro rfl (And.intro rfl (And.intro rfl (And.intro rfl trivial))))) ?_
                      refine L_X8_lay_150  FU _ _ h (fun σ_20 h => ?_)
                      refine i_iload dX8_lay_187 rfl ?_
                      exact e_iw rfl dX8_lay_189 h
              · refine i_aload_n dX8_lay_61 rfl ?_
                refine gf_X8_19 rfl (by omega) dX8_lay_62 ?_
                refine i_iload_n dX8_lay_65 rfl ?_
                refine al_25 dX8_lay_66 (by omega) h (fun j83 lj83 h => ?_)
                refine r_if_ge (tgt := 74) dX8_lay_67 (by decide) h (fun c51 h => ?_) (fun c51 h => ?_)
                · refine i_aload_n dX8_lay_74 rfl ?_
                  refine gf_X8_28 rfl (by omega) dX8_lay_75 ?_
                  refine i_iload_n dX8_lay_78 rfl ?_
                  refine al_28 dX8_lay_79 (by omega) h (fun j84 lj84 h => ?_)
                  refine i_istore (ls' := [some (rf X 8 0), some (.int p1), some (.int p2), some (.int p3), some (.int (1 : Int32)), some (.int (σ 28 0 j84)), none]) dX8_lay_80 (by decide) (okp_at rfl) rfl ?_
                  refine i_aload_n dX8_lay_82 rfl ?_
                  refine gf_X8_28 rfl (by omega) dX8_lay_83 ?_
                  refine i_iload_n dX8_lay_86 rfl ?_
                  refine i_iload_n dX8_lay_87 rfl ?_
                  refine as_28 dX8_lay_88 (by omega) h (fun j85 lj85 h => ?_)
                  refine i_aload_n dX8_lay_89 rfl ?_
                  refine gf_X8_31 rfl (by omega) dX8_lay_90 ?_
                  refine i_iload_n dX8_lay_93 rfl ?_
                  refine i_iload_n dX8_lay_94 rfl ?_
                  refine i_iconst (v := 1) dX8_lay_95 (by decide) ?_
                  refine r_icmp_ne (tgt := 108) dX8_lay_96 (by decide) h (fun c52 h => ?_) (fun c52 h => ?_)
                  · refine i_iload_n dX8_lay_108 rfl ?_
                    refine as_29 dX8_lay_109 (by omega) h (fun j86 lj86 h => ?_)
                    refine i_aload_n dX8_lay_110 rfl ?_
                    refine gf_X8_34 rfl (by omega) dX8_lay_111 ?_
                    refine i_iload_n dX8_lay_114 rfl ?_
                    refine i_iload_n dX8_lay_115 rfl ?_
                    refine i_iconst (v := 1) dX8_lay_116 (by decide) ?_
                    refine r_icmp_ne (tgt := 128) dX8_lay_117 (by decide) h (fun c53 h => ?_) (fun c53 h => ?_)
                    · refine i_iconst (v := 0) dX8_lay_128 (by decide) ?_
                      refine as_30 dX8_lay_129 (by omega) h (fun j87 lj87 h => ?_)
                      refine i_iload_n dX8_lay_130 rfl ?_
                      refine i_iconst (v := 2) dX8_lay_131 (by decide) ?_
                      refine r_icmp_ne (tgt := 187) dX8_lay_132 (by decide) h (fun c54 h => ?_) (fun c54 h => ?_)
                      · refine i_iload dX8_lay_187 rfl ?_
                        exact e_iw rfl dX8_lay_189 h
                      · refine i_aload_n dX8_lay_135 rfl ?_
                        refine gf_X8_37 rfl (by omega) dX8_lay_136 ?_
                        refine i_iload_n dX8_lay_139 rfl ?_
                        refine i_aload_n dX8_lay_140 rfl ?_
                        refine gf_X8_22 rfl (by omega) dX8_lay_141 ?_
                        refine i_iload_n dX8_lay_144 rfl ?_
                        refine al_26 dX8_lay_145 (by omega) h (fun j88 lj88 h => ?_)
                        refine as_31 dX8_lay_146 (by omega) h (fun j89 lj89 h => ?_)
                        refine r_mem h (fun s21 _ h => ?_)
                        refine i_iconst (v := 0) dX8_lay_147 (by decide) ?_
                        refine i_istore (ls' := [some (rf X 8 0), some (.int p1), some (.int p2), some (.int p3), some (.int (1 : Int32)), some (.int (σ 28 0 j84)), some (.int (0 : Int32))]) dX8_lay_148 (by decide) (okp_at rfl) rfl ?_
                        refine At.fewer (ls' := [some (rf X 8 0), some (.int p1), none, some (.int p3), none, some (.int (σ 28 0 j84)), some (.int (0 : Int32))]) (And.intro rfl (And.intro rfl (And.intro rfl (And.intro rfl (And.intro rfl trivial))))) ?_
                        refine L_X8_lay_150  FU _ _ h (fun σ_21 h => ?_)
                        refine i_iload dX8_lay_187 rfl ?_
                        exact e_iw rfl dX8_lay_189 h
                    · refine i_aload_n dX8_lay_120 rfl ?_
                      refine i_iload_n dX8_lay_121 rfl ?_
                      refine cV_ir dX8_lay_122 cw_X8_122 ci_X8_worth rfl rfl (by decide) (show 0 < 1 by omega) h (fun a22 e => F_X8_worth  e) (Nat.le_of_ble_eq_true rfl) rfl rfl (Nat.le_of_ble_eq_true rfl) (fun a22 ea22 h => ?_)
                      refine i_goto (tgt := 129) dX8_lay_125 (by decide) ?_
                      refine as_30 dX8_lay_129 (by omega) h (fun j90 lj90 h => ?_)
                      refine i_iload_n dX8_lay_130 rfl ?_
                      refine i_iconst (v := 2) dX8_lay_131 (by decide) ?_
                      refine r_icmp_ne (tgt := 187) dX8_lay_132 (by decide) h (fun c55 h => ?_) (fun c55 h => ?_)
                      · refine i_iload dX8_lay_187 rfl ?_
                        exact e_iw rfl dX8_lay_189 h
                      · refine i_aload_n dX8_lay_135 rfl ?_
                        refine gf_X8_37 rfl (by omega) dX8_lay_136 ?_
                        refine i_iload_n dX8_lay_139 rfl ?_
                        refine i_aload_n dX8_lay_140 rfl ?_
                        refine gf_X8_22 rfl (by omega) dX8_lay_141 ?_
                        refine i_iload_n dX8_lay_144 rfl ?_
                        refine al_26 dX8_lay_145 (by omega) h (fun j91 lj91 h => ?_)
                        refine as_31 dX8_lay_146 (by omega) h (fun j92 lj92 h => ?_)
                        refine r_mem h (fun s22 _ h => ?_)
                        refine i_iconst (v := 0) dX8_lay_147 (by decide) ?_
                        refine i_istore (ls' := [some (rf X 8 0), some (.int p1), some (.int p2), some (.int p3), some (.int (1 : Int32)), some (.int (σ 28 0 j84)), some (.int (0 : Int32))]) dX8_lay_148 (by decide) (okp_at rfl) rfl ?_
                        refine At.fewer (ls' := [some (rf X 8 0), some (.int p1), none, some (.int p3), none, some (.int (σ 28 0 j84)), some (.int (0 : Int32))]) (And.intro rfl (And.intro rfl (And.intro rfl (And.intro rfl (And.intro rfl trivial))))) ?_
                        refine L_X8_lay_150  FU _ _ h (fun σ_22 h => ?_)
                        refine i_iload dX8_lay_187 rfl ?_
                        exact e_iw rfl dX8_lay_189 h
                  · refine i_aload_n dX8_lay_99 rfl ?_
                    refine i_iload_n dX8_lay_100 rfl ?_
                    refine i_iconst (v := 0) dX8_lay_101 (by decide) ?_
                    refine cV_ir dX8_lay_102 cw_X8_98 ci_X8_of rfl rfl (by decide) (show 0 < 1 by omega) h (fun a23 e => F_X8_of  e) (Nat.le_of_ble_eq_true rfl) rfl rfl (Nat.le_of_ble_eq_true rfl) (fun a23 ea23 h => ?_)
                    refine i_goto (tgt := 109) dX8_lay_105 (by decide) ?_
                    refine as_29 dX8_lay_109 (by omega) h (fun j93 lj93 h => ?_)
                    refine i_aload_n dX8_lay_110 rfl ?_
                    refine gf_X8_34 rfl (by omega) dX8_lay_111 ?_
                    refine i_iload_n dX8_lay_114 rfl ?_
                    refine i_iload_n dX8_lay_115 rfl ?_
                    refine i_iconst (v := 1) dX8_lay_116 (by decide) ?_
                    refine r_icmp_ne (tgt := 128) dX8_lay_117 (by decide) h (fun c56 h => ?_) (fun c56 h => ?_)
                    · refine i_iconst (v := 0) dX8_lay_128 (by decide) ?_
                      refine as_30 dX8_lay_129 (by omega) h (fun j94 lj94 h => ?_)
                      refine i_iload_n dX8_lay_130 rfl ?_
                      refine i_iconst (v := 2) dX8_lay_131 (by decide) ?_
                      refine r_icmp_ne (tgt := 187) dX8_lay_132 (by decide) h (fun c57 h => ?_) (fun c57 h => ?_)
                      · refine i_iload dX8_lay_187 rfl ?_
                        exact e_iw rfl dX8_lay_189 h
                      · refine i_aload_n dX8_lay_135 rfl ?_
                        refine gf_X8_37 rfl (by omega) dX8_lay_136 ?_
                        refine i_iload_n dX8_lay_139 rfl ?_
                        refine i_aload_n dX8_lay_140 rfl ?_
                        refine gf_X8_22 rfl (by omega) dX8_lay_141 ?_
                        refine i_iload_n dX8_lay_144 rfl ?_
                        refine al_26 dX8_lay_145 (by omega) h (fun j95 lj95 h => ?_)
                        refine as_31 dX8_lay_146 (by omega) h (fun j96 lj96 h => ?_)
                        refine r_mem h (fun s23 _ h => ?_)
                        refine i_iconst (v := 0) dX8_lay_147 (by decide) ?_
                        refine i_istore (ls' := [some (rf X 8 0), some (.int p1), some (.int p2), some (.int p3), some (.int (1 : Int32)), some (.int (σ 28 0 j84)), some (.int (0 : Int32))]) dX8_lay_148 (by decide) (okp_at rfl) rfl ?_
                        refine At.fewer (ls' := [some (rf X 8 0), some (.int p1), none, some (.int p3), none, some (.int (σ 28 0 j84)), some (.int (0 : Int32))]) (And.intro rfl (And.intro rfl (And.intro rfl (And.intro rfl (And.intro rfl trivial))))) ?_
                        refine L_X8_lay_150  FU _ _ h (fun σ_23 h => ?_)
                        refine i_iload dX8_lay_187 rfl ?_
                        exact e_iw rfl dX8_lay_189 h
                    · refine i_aload_n dX8_lay_120 rfl ?_
                      refine i_iload_n dX8_lay_121 rfl ?_
                      refine cV_ir dX8_lay_122 cw_X8_122 ci_X8_worth rfl rfl (by decide) (show 0 < 1 by omega) h (fun a24 e => F_X8_worth  e) (Nat.le_of_ble_eq_true rfl) rfl rfl (Nat.le_of_ble_eq_true rfl) (fun a24 ea24 h => ?_)
                      refine i_goto (tgt := 129) dX8_lay_125 (by decide) ?_
                      refine as_30 dX8_lay_129 (by omega) h (fun j97 lj97 h => ?_)
                      refine i_iload_n dX8_lay_130 rfl ?_
                      refine i_iconst (v := 2) dX8_lay_131 (by decide) ?_
                      refine r_icmp_ne (tgt := 187) dX8_lay_132 (by decide) h (fun c58 h => ?_) (fun c58 h => ?_)
                      · refine i_iload dX8_lay_187 rfl ?_
                        exact e_iw rfl dX8_lay_189 h
                      · refine i_aload_n dX8_lay_135 rfl ?_
                        refine gf_X8_37 rfl (by omega) dX8_lay_136 ?_
                        refine i_iload_n dX8_lay_139 rfl ?_
                        refine i_aload_n dX8_lay_140 rfl ?_
                        refine gf_X8_22 rfl (by omega) dX8_lay_141 ?_
                        refine i_iload_n dX8_lay_144 rfl ?_
                        refine al_26 dX8_lay_145 (by omega) h (fun j98 lj98 h => ?_)
                        refine as_31 dX8_lay_146 (by omega) h (fun j99 lj99 h => ?_)
                        refine r_mem h (fun s24 _ h => ?_)
                        refine i_iconst (v := 0) dX8_lay_147 (by decide) ?_
                        refine i_istore (ls' := [some (rf X 8 0), some (.int p1), some (.int p2), some (.int p3), some (.int (1 : Int32)), some (.int (σ 28 0 j84)), some (.int (0 : Int32))]) dX8_lay_148 (by decide) (okp_at rfl) rfl ?_
                        refine At.fewer (ls' := [some (rf X 8 0), some (.int p1), none, some (.int p3), none, some (.int (σ 28 0 j84)), some (.int (0 : Int32))]) (And.intro rfl (And.intro rfl (And.intro rfl (And.intro rfl (And.intro rfl trivial))))) ?_
                        refine L_X8_lay_150  FU _ _ h (fun σ_24 h => ?_)
                        refine i_iload dX8_lay_187 rfl ?_
                        exact e_iw rfl dX8_lay_189 h
                · refine i_ldcw (v := (-1000000011)) dX8_lay_70 k_X8_304 ?_
                  exact e_iw rfl dX8_lay_73 h
      · refine i_aload_n dX8_lay_14 rfl ?_
        refine i_iload_n dX8_lay_15 rfl ?_
        refine cV_ir dX8_lay_16 cw_X8_112 ci_X8_isOne rfl rfl (by decide) (show 0 < 1 by omega) h (fun a25 e => F_X8_isOne  e) (Nat.le_of_ble_eq_true rfl) rfl rfl (Nat.le_of_ble_eq_true rfl) (fun a25 ea25 h => ?_)
        refine r_if_ne (tgt := 34) dX8_lay_19 (by decide) h (fun c59 h => ?_) (fun c59 h => ?_)
        · refine i_iconst (v := 1) dX8_lay_34 (by decide) ?_
          refine i_goto (tgt := 39) dX8_lay_35 (by decide) ?_
          refine i_istore (ls' := [some (rf X 8 0), some (.int p1), some (.int p2), some (.int p3), some (.int (1 : Int32)), none, none]) dX8_lay_39 (by decide) (okp_at rfl) rfl ?_
          refine i_iload_n dX8_lay_41 rfl ?_
          refine cS_ir dX8_lay_42 cw_X8_315 ci_X8_isSlot h (fun a26 e => F_X8_isSlot  e) (Nat.le_of_ble_eq_true rfl) rfl rfl (Nat.le_of_ble_eq_true rfl) (fun a26 ea26 h => ?_)
          refine r_if_eq (tgt := 53) dX8_lay_45 (by decide) h (fun c60 h => ?_) (fun c60 h => ?_)
          · refine i_ldc (v := (-1000000001)) dX8_lay_53 k_X8_86 ?_
            exact e_iw rfl dX8_lay_55 h
          · refine i_iload dX8_lay_48 rfl ?_
            refine i_if_ne (tgt := 56) dX8_lay_50 (by decide) (fun _ => ?_) (fun c => absurd c (by decide))
            refine i_iload_n dX8_lay_56 rfl ?_
            refine i_iconst (v := 2) dX8_lay_57 (by decide) ?_
            refine r_icmp_ne (tgt := 74) dX8_lay_58 (by decide) h (fun c61 h => ?_) (fun c61 h => ?_)
            · refine i_aload_n dX8_lay_74 rfl ?_
              refine gf_X8_28 rfl (by omega) dX8_lay_75 ?_
              refine i_iload_n dX8_lay_78 rfl ?_
              refine al_28 dX8_lay_79 (by omega) h (fun j100 lj100 h => ?_)
              refine i_istore (ls' := [some (rf X 8 0), some (.int p1), some (.int p2), some (.int p3), some (.int (1 : Int32)), some (.int (σ 28 0 j100)), none]) dX8_lay_80 (by decide) (okp_at rfl) rfl ?_
              refine i_aload_n dX8_lay_82 rfl ?_
              refine gf_X8_28 rfl (by omega) dX8_lay_83 ?_
              refine i_iload_n dX8_lay_86 rfl ?_
              refine i_iload_n dX8_lay_87 rfl ?_
              refine as_28 dX8_lay_88 (by omega) h (fun j101 lj101 h => ?_)
              refine i_aload_n dX8_lay_89 rfl ?_
              refine gf_X8_31 rfl (by omega) dX8_lay_90 ?_
              refine i_iload_n dX8_lay_93 rfl ?_
              refine i_iload_n dX8_lay_94 rfl ?_
              refine i_iconst (v := 1) dX8_lay_95 (by decide) ?_
              refine r_icmp_ne (tgt := 108) dX8_lay_96 (by decide) h (fun c62 h => ?_) (fun c62 h => ?_)
              · refine i_iload_n dX8_lay_108 rfl ?_
                refine as_29 dX8_lay_109 (by omega) h (fun j102 lj102 h => ?_)
                refine i_aload_n dX8_lay_110 rfl ?_
                refine gf_X8_34 rfl (by omega) dX8_lay_111 ?_
                refine i_iload_n dX8_lay_114 rfl ?_
                refine i_iload_n dX8_lay_115 rfl ?_
                refine i_iconst (v := 1) dX8_lay_116 (by decide) ?_
                refine r_icmp_ne (tgt := 128) dX8_lay_117 (by decide) h (fun c63 h => ?_) (fun c63 h => ?_)
                · refine i_iconst (v := 0) dX8_lay_128 (by decide) ?_
                  refine as_30 dX8_lay_129 (by omega) h (fun j103 lj103 h => ?_)
                  refine i_iload_n dX8_lay_130 rfl ?_
                  refine i_iconst (v := 2) dX8_lay_131 (by decide) ?_
                  refine r_icmp_ne (tgt := 187) dX8_lay_132 (by decide) h (fun c64 h => ?_) (fun c64 h => ?_)
                  · refine i_iload dX8_lay_187 rfl ?_
                    exact e_iw rfl dX8_lay_189 h
                  · refine i_aload_n dX8_lay_135 rfl ?_
                    refine gf_X8_37 rfl (by omega) dX8_lay_136 ?_
                    refine i_iload_n dX8_lay_139 rfl ?_
                    refine i_aload_n dX8_lay_140 rfl ?_
                    refine gf_X8_22 rfl (by omega) dX8_lay_141 ?_
                    refine i_iload_n dX8_lay_144 rfl ?_
                    refine al_26 dX8_lay_145 (by omega) h (fun j104 lj104 h => ?_)
                    refine as_31 dX8_lay_146 (by omega) h (fun j105 lj105 h => ?_)
                    refine r_mem h (fun s25 _ h => ?_)
                    refine i_iconst (v := 0) dX8_lay_147 (by decide) ?_
                    refine i_istore (ls' := [some (rf X 8 0), some (.int p1), some (.int p2), some (.int p3), some (.int (1 : Int32)), some (.int (σ 28 0 j100)), some (.int (0 : Int32))]) dX8_lay_148 (by decide) (okp_at rfl) rfl ?_
                    refine At.fewer (ls' := [some (rf X 8 0), some (.int p1), none, some (.int p3), none, some (.int (σ 28 0 j100)), some (.int (0 : Int32))]) (And.intro rfl (And.intro rfl (And.intro rfl (And.intro rfl (And.intro rfl trivial))))) ?_
                    refine L_X8_lay_150  FU _ _ h (fun σ_25 h => ?_)
                    refine i_iload dX8_lay_187 rfl ?_
                    exact e_iw rfl dX8_lay_189 h
                · refine i_aload_n dX8_lay_120 rfl ?_
                  refine i_iload_n dX8_lay_121 rfl ?_
                  refine cV_ir dX8_lay_122 cw_X8_122 ci_X8_worth rfl rfl (by decide) (show 0 < 1 by omega) h (fun a27 e => F_X8_worth  e) (Nat.le_of_ble_eq_true rfl) rfl rfl (Nat.le_of_ble_eq_true rfl) (fun a27 ea27 h => ?_)
                  refine i_goto (tgt := 129) dX8_lay_125 (by decide) ?_
                  refine as_30 dX8_lay_129 (by omega) h (fun j106 lj106 h => ?_)
                  refine i_iload_n dX8_lay_130 rfl ?_
                  refine i_iconst (v := 2) dX8_lay_131 (by decide) ?_
                  refine r_icmp_ne (tgt := 187) dX8_lay_132 (by decide) h (fun c65 h => ?_) (fun c65 h => ?_)
                  · refine i_iload dX8_lay_187 rfl ?_
                    exact e_iw rfl dX8_lay_189 h
                  · refine i_aload_n dX8_lay_135 rfl ?_
                    refine gf_X8_37 rfl (by omega) dX8_lay_136 ?_
                    refine i_iload_n dX8_lay_139 rfl ?_
                    refine i_aload_n dX8_lay_140 rfl ?_
                    refine gf_X8_22 rfl (by omega) dX8_lay_141 ?_
                    refine i_iload_n dX8_lay_144 rfl ?_
                    refine al_26 dX8_lay_145 (by omega) h (fun j107 lj107 h => ?_)
                    refine as_31 dX8_lay_146 (by omega) h (fun j108 lj108 h => ?_)
                    refine r_mem h (fun s26 _ h => ?_)
                    refine i_iconst (v := 0) dX8_lay_147 (by decide) ?_
                    refine i_istore (ls' := [some (rf X 8 0), some (.int p1), some (.int p2), some (.int p3), some (.int (1 : Int32)), some (.int (σ 28 0 j100)), some (.int (0 : Int32))]) dX8_lay_148 (by decide) (okp_at rfl) rfl ?_
                    refine At.fewer (ls' := [some (rf X 8 0), some (.int p1), none, some (.int p3), none, some (.int (σ 28 0 j100)), some (.int (0 : Int32))]) (And.intro rfl (And.intro rfl (And.intro rfl (And.intro rfl (And.intro rfl trivial))))) ?_
                    refine L_X8_lay_150  FU _ _ h (fun σ_26 h => ?_)
                    refine i_iload dX8_lay_187 rfl ?_
                    exact e_iw rfl dX8_lay_189 h
              · refine i_aload_n dX8_lay_99 rfl ?_
                refine i_iload_n dX8_lay_100 rfl ?_
                refine i_iconst (v := 0) dX8_lay_101 (by decide) ?_
                refine cV_ir dX8_lay_102 cw_X8_98 ci_X8_of rfl rfl (by decide) (show 0 < 1 by omega) h (fun a28 e => F_X8_of  e) (Nat.le_of_ble_eq_true rfl) rfl rfl (Nat.le_of_ble_eq_true rfl) (fun a28 ea28 h => ?_)
                refine i_goto (tgt := 109) dX8_lay_105 (by decide) ?_
                refine as_29 dX8_lay_109 (by omega) h (fun j109 lj109 h => ?_)
                refine i_aload_n dX8_lay_110 rfl ?_
                refine gf_X8_34 rfl (by omega) dX8_lay_111 ?_
                refine i_iload_n dX8_lay_114 rfl ?_
                refine i_iload_n dX8_lay_115 rfl ?_
                refine i_iconst (v := 1) dX8_lay_116 (by decide) ?_
                refine r_icmp_ne (tgt := 128) dX8_lay_117 (by decide) h (fun c66 h => ?_) (fun c66 h => ?_)
                · refine i_iconst (v := 0) dX8_lay_128 (by decide) ?_
                  refine as_30 dX8_lay_129 (by omega) h (fun j110 lj110 h => ?_)
                  refine i_iload_n dX8_lay_130 rfl ?_
                  refine i_iconst (v := 2) dX8_lay_131 (by decide) ?_
                  refine r_icmp_ne (tgt := 187) dX8_lay_132 (by decide) h (fun c67 h => ?_) (fun c67 h => ?_)
                  · refine i_iload dX8_lay_187 rfl ?_
                    exact e_iw rfl dX8_lay_189 h
                  · refine i_aload_n dX8_lay_135 rfl ?_
                    refine gf_X8_37 rfl (by omega) dX8_lay_136 ?_
                    refine i_iload_n dX8_lay_139 rfl ?_
                    refine i_aload_n dX8_lay_140 rfl ?_
                    refine gf_X8_22 rfl (by omega) dX8_lay_141 ?_
                    refine i_iload_n dX8_lay_144 rfl ?_
                    refine al_26 dX8_lay_145 (by omega) h (fun j111 lj111 h => ?_)
                    refine as_31 dX8_lay_146 (by omega) h (fun j112 lj112 h => ?_)
                    refine r_mem h (fun s27 _ h => ?_)
                    refine i_iconst (v := 0) dX8_lay_147 (by decide) ?_
                    refine i_istore (ls' := [some (rf X 8 0), some (.int p1), some (.int p2), some (.int p3), some (.int (1 : Int32)), some (.int (σ 28 0 j100)), some (.int (0 : Int32))]) dX8_lay_148 (by decide) (okp_at rfl) rfl ?_
                    refine At.fewer (ls' := [some (rf X 8 0), some (.int p1), none, some (.int p3), none, some (.int (σ 28 0 j100)), some (.int (0 : Int32))]) (And.intro rfl (And.intro rfl (And.intro rfl (And.intro rfl (And.intro rfl trivial))))) ?_
                    refine L_X8_lay_150  FU _ _ h (fun σ_27 h => ?_)
                    refine i_iload dX8_lay_187 rfl ?_
                    exact e_iw rfl dX8_lay_189 h
                · refine i_aload_n dX8_lay_120 rfl ?_
                  refine i_iload_n dX8_lay_121 rfl ?_
                  refine cV_ir dX8_lay_122 cw_X8_122 ci_X8_worth rfl rfl (by decide) (show 0 < 1 by omega) h (fun a29 e => F_X8_worth  e) (Nat.le_of_ble_eq_true rfl) rfl rfl (Nat.le_of_ble_eq_true rfl) (fun a29 ea29 h => ?_)
                  refine i_goto (tgt := 129) dX8_lay_125 (by decide) ?_
                  refine as_30 dX8_lay_129 (by omega) h (fun j113 lj113 h => ?_)
                  refine i_iload_n dX8_lay_130 rfl ?_
                  refine i_iconst (v := 2) dX8_lay_131 (by decide) ?_
                  refine r_icmp_ne (tgt := 187) dX8_lay_132 (by decide) h (fun c68 h => ?_) (fun c68 h => ?_)
                  · refine i_iload dX8_lay_187 rfl ?_
                    exact e_iw rfl dX8_lay_189 h
                  · refine i_aload_n dX8_lay_135 rfl ?_
                    refine gf_X8_37 rfl (by omega) dX8_lay_136 ?_
                    refine i_iload_n dX8_lay_139 rfl ?_
                    refine i_aload_n dX8_lay_140 rfl ?_
                    refine gf_X8_22 rfl (by omega) dX8_lay_141 ?_
                    refine i_iload_n dX8_lay_144 rfl ?_
                    refine al_26 dX8_lay_145 (by omega) h (fun j114 lj114 h => ?_)
                    refine as_31 dX8_lay_146 (by omega) h (fun j115 lj115 h => ?_)
                    refine r_mem h (fun s28 _ h => ?_)
                    refine i_iconst (v := 0) dX8_lay_147 (by decide) ?_
                    refine i_istore (ls' := [some (rf X 8 0), some (.int p1), some (.int p2), some (.int p3), some (.int (1 : Int32)), some (.int (σ 28 0 j100)), some (.int (0 : Int32))]) dX8_lay_148 (by decide) (okp_at rfl) rfl ?_
                    refine At.fewer (ls' := [some (rf X 8 0), some (.int p1), none, some (.int p3), none, some (.int (σ 28 0 j100)), some (.int (0 : Int32))]) (And.intro rfl (And.intro rfl (And.intro rfl (And.intro rfl (And.intro rfl trivial))))) ?_
                    refine L_X8_lay_150  FU _ _ h (fun σ_28 h => ?_)
                    refine i_iload dX8_lay_187 rfl ?_
                    exact e_iw rfl dX8_lay_189 h
            · refine i_aload_n dX8_lay_61 rfl ?_
              refine gf_X8_19 rfl (by omega) dX8_lay_62 ?_
              refine i_iload_n dX8_lay_65 rfl ?_
              refine al_25 dX8_lay_66 (by omega) h (fun j116 lj116 h => ?_)
              refine r_if_ge (tgt := 74) dX8_lay_67 (by decide) h (fun c69 h => ?_) (fun c69 h => ?_)
              · refine i_aload_n dX8_lay_74 rfl ?_
                refine gf_X8_28 rfl (by omega) dX8_lay_75 ?_
                refine i_iload_n dX8_lay_78 rfl ?_
                refine al_28 dX8_lay_79 (by omega) h (fun j117 lj117 h => ?_)
                refine i_istore (ls' := [some (rf X 8 0), some (.int p1), some (.int p2), some (.int p3), some (.int (1 : Int32)), some (.int (σ 28 0 j117)), none]) dX8_lay_80 (by decide) (okp_at rfl) rfl ?_
                refine i_aload_n dX8_lay_82 rfl ?_
                refine gf_X8_28 rfl (by omega) dX8_lay_83 ?_
                refine i_iload_n dX8_lay_86 rfl ?_
                refine i_iload_n dX8_lay_87 rfl ?_
                refine as_28 dX8_lay_88 (by omega) h (fun j118 lj118 h => ?_)
                refine i_aload_n dX8_lay_89 rfl ?_
                refine gf_X8_31 rfl (by omega) dX8_lay_90 ?_
                refine i_iload_n dX8_lay_93 rfl ?_
                refine i_iload_n dX8_lay_94 rfl ?_
                refine i_iconst (v := 1) dX8_lay_95 (by decide) ?_
                refine r_icmp_ne (tgt := 108) dX8_lay_96 (by decide) h (fun c70 h => ?_) (fun c70 h => ?_)
                · refine i_iload_n dX8_lay_108 rfl ?_
                  refine as_29 dX8_lay_109 (by omega) h (fun j119 lj119 h => ?_)
                  refine i_aload_n dX8_lay_110 rfl ?_
                  refine gf_X8_34 rfl (by omega) dX8_lay_111 ?_
                  refine i_iload_n dX8_lay_114 rfl ?_
                  refine i_iload_n dX8_lay_115 rfl ?_
                  refine i_iconst (v := 1) dX8_lay_116 (by decide) ?_
                  refine r_icmp_ne (tgt := 128) dX8_lay_117 (by decide) h (fun c71 h => ?_) (fun c71 h => ?_)
                  · refine i_iconst (v := 0) dX8_lay_128 (by decide) ?_
                    refine as_30 dX8_lay_129 (by omega) h (fun j120 lj120 h => ?_)
                    refine i_iload_n dX8_lay_130 rfl ?_
                    refine i_iconst (v := 2) dX8_lay_131 (by decide) ?_
                    refine r_icmp_ne (tgt := 187) dX8_lay_132 (by decide) h (fun c72 h => ?_) (fun c72 h => ?_)
                    · refine i_iload dX8_lay_187 rfl ?_
                      exact e_iw rfl dX8_lay_189 h
                    · refine i_aload_n dX8_lay_135 rfl ?_
                      refine gf_X8_37 rfl (by omega) dX8_lay_136 ?_
                      refine i_iload_n dX8_lay_139 rfl ?_
                      refine i_aload_n dX8_lay_140 rfl ?_
                      refine gf_X8_22 rfl (by omega) dX8_lay_141 ?_
                      refine i_iload_n dX8_lay_144 rfl ?_
                      refine al_26 dX8_lay_145 (by omega) h (fun j121 lj121 h => ?_)
                      refine as_31 dX8_lay_146 (by omega) h (fun j122 lj122 h => ?_)
                      refine r_mem h (fun s29 _ h => ?_)
                      refine i_iconst (v := 0) dX8_lay_147 (by decide) ?_
                      refine i_istore (ls' := [some (rf X 8 0), some (.int p1), some (.int p2), some (.int p3), some (.int (1 : Int32)), some (.int (σ 28 0 j117)), some (.int (0 : Int32))]) dX8_lay_148 (by decide) (okp_at rfl) rfl ?_
                      refine At.fewer (ls' := [some (rf X 8 0), some (.int p1), none, some (.int p3), none, some (.int (σ 28 0 j117)), some (.int (0 : Int32))]) (And.intro rfl (And.intro rfl (And.intro rfl (And.intro rfl (And.intro rfl trivial))))) ?_
                      refine L_X8_lay_150  FU _ _ h (fun σ_29 h => ?_)
                      refine i_iload dX8_lay_187 rfl ?_
                      exact e_iw rfl dX8_lay_189 h
                  · refine i_aload_n dX8_lay_120 rfl ?_
                    refine i_iload_n dX8_lay_121 rfl ?_
                    refine cV_ir dX8_lay_122 cw_X8_122 ci_X8_worth rfl rfl (by decide) (show 0 < 1 by omega) h (fun a30 e => F_X8_worth  e) (Nat.le_of_ble_eq_true rfl) rfl rfl (Nat.le_of_ble_eq_true rfl) (fun a30 ea30 h => ?_)
                    refine i_goto (tgt := 129) dX8_lay_125 (by decide) ?_
                    refine as_30 dX8_lay_129 (by omega) h (fun j123 lj123 h => ?_)
                    refine i_iload_n dX8_lay_130 rfl ?_
                    refine i_iconst (v := 2) dX8_lay_131 (by decide) ?_
                    refine r_icmp_ne (tgt := 187) dX8_lay_132 (by decide) h (fun c73 h => ?_) (fun c73 h => ?_)
                    · refine i_iload dX8_lay_187 rfl ?_
                      exact e_iw rfl dX8_lay_189 h
                    · refine i_aload_n dX8_lay_135 rfl ?_
                      refine gf_X8_37 rfl (by omega) dX8_lay_136 ?_
                      refine i_iload_n dX8_lay_139 rfl ?_
                      refine i_aload_n dX8_lay_140 rfl ?_
                      refine gf_X8_22 rfl (by omega) dX8_lay_141 ?_
                      refine i_iload_n dX8_lay_144 rfl ?_
                      refine al_26 dX8_lay_145 (by omega) h (fun j124 lj124 h => ?_)
                      refine as_31 dX8_lay_146 (by omega) h (fun j125 lj125 h => ?_)
                      refine r_mem h (fun s30 _ h => ?_)
                      refine i_iconst (v := 0) dX8_lay_147 (by decide) ?_
                      refine i_istore (ls' := [some (rf X 8 0), some (.int p1), some (.int p2), some (.int p3), some (.int (1 : Int32)), some (.int (σ 28 0 j117)), some (.int (0 : Int32))]) dX8_lay_148 (by decide) (okp_at rfl) rfl ?_
                      refine At.fewer (ls' := [some (rf X 8 0), some (.int p1), none, some (.int p3), none, some (.int (σ 28 0 j117)), some (.int (0 : Int32))]) (And.intro rfl (And.intro rfl (And.intro rfl (And.intro rfl (And.intro rfl trivial))))) ?_
                      refine L_X8_lay_150  FU _ _ h (fun σ_30 h => ?_)
                      refine i_iload dX8_lay_187 rfl ?_
                      exact e_iw rfl dX8_lay_189 h
                · refine i_aload_n dX8_lay_99 rfl ?_
                  refine i_iload_n dX8_lay_100 rfl ?_
                  refine i_iconst (v := 0) dX8_lay_101 (by decide) ?_
                  refine cV_ir dX8_lay_102 cw_X8_98 ci_X8_of rfl rfl (by decide) (show 0 < 1 by omega) h (fun a31 e => F_X8_of  e) (Nat.le_of_ble_eq_true rfl) rfl rfl (Nat.le_of_ble_eq_true rfl) (fun a31 ea31 h => ?_)
                  refine i_goto (tgt := 109) dX8_lay_105 (by decide) ?_
                  refine as_29 dX8_lay_109 (by omega) h (fun j126 lj126 h => ?_)
                  refine i_aload_n dX8_lay_110 rfl ?_
                  refine gf_X8_34 rfl (by omega) dX8_lay_111 ?_
                  refine i_iload_n dX8_lay_114 rfl ?_
                  refine i_iload_n dX8_lay_115 rfl ?_
                  refine i_iconst (v := 1) dX8_lay_116 (by decide) ?_
                  refine r_icmp_ne (tgt := 128) dX8_lay_117 (by decide) h (fun c74 h => ?_) (fun c74 h => ?_)
                  · refine i_iconst (v := 0) dX8_lay_128 (by decide) ?_
                    refine as_30 dX8_lay_129 (by omega) h (fun j127 lj127 h => ?_)
                    refine i_iload_n dX8_lay_130 rfl ?_
                    refine i_iconst (v := 2) dX8_lay_131 (by decide) ?_
                    refine r_icmp_ne (tgt := 187) dX8_lay_132 (by decide) h (fun c75 h => ?_) (fun c75 h => ?_)
                    · refine i_iload dX8_lay_187 rfl ?_
                      exact e_iw rfl dX8_lay_189 h
                    · refine i_aload_n dX8_lay_135 rfl ?_
                      refine gf_X8_37 rfl (by omega) dX8_lay_136 ?_
                      refine i_iload_n dX8_lay_139 rfl ?_
                      refine i_aload_n dX8_lay_140 rfl ?_
                      refine gf_X8_22 rfl (by omega) dX8_lay_141 ?_
                      refine i_iload_n dX8_lay_144 rfl ?_
                      refine al_26 dX8_lay_145 (by omega) h (fun j128 lj128 h => ?_)
                      refine as_31 dX8_lay_146 (by omega) h (fun j129 lj129 h => ?_)
                      refine r_mem h (fun s31 _ h => ?_)
                      refine i_iconst (v := 0) dX8_lay_147 (by decide) ?_
                      refine i_istore (ls' := [some (rf X 8 0), some (.int p1), some (.int p2), some (.int p3), some (.int (1 : Int32)), some (.int (σ 28 0 j117)), some (.int (0 : Int32))]) dX8_lay_148 (by decide) (okp_at rfl) rfl ?_
                      refine At.fewer (ls' := [some (rf X 8 0), some (.int p1), none, some (.int p3), none, some (.int (σ 28 0 j117)), some (.int (0 : Int32))]) (And.intro rfl (And.intro rfl (And.intro rfl (And.intro rfl (And.intro rfl trivial))))) ?_
                      refine L_X8_lay_150  FU _ _ h (fun σ_31 h => ?_)
                      refine i_iload dX8_lay_187 rfl ?_
                      exact e_iw rfl dX8_lay_189 h
                  · refine i_aload_n dX8_lay_120 rfl ?_
                    refine i_iload_n dX8_lay_121 rfl ?_
                    refine cV_ir dX8_lay_122 cw_X8_122 ci_X8_worth rfl rfl (by decide) (show 0 < 1 by omega) h (fun a32 e => F_X8_worth  e) (Nat.le_of_ble_eq_true rfl) rfl rfl (Nat.le_of_ble_eq_true rfl) (fun a32 ea32 h => ?_)
                    refine i_goto (tgt := 129) dX8_lay_125 (by decide) ?_
                    refine as_30 dX8_lay_129 (by omega) h (fun j130 lj130 h => ?_)
                    refine i_iload_n dX8_lay_130 rfl ?_
                    refine i_iconst (v := 2) dX8_lay_131 (by decide) ?_
                    refine r_icmp_ne (tgt := 187) dX8_lay_132 (by decide) h (fun c76 h => ?_) (fun c76 h => ?_)
                    · refine i_iload dX8_lay_187 rfl ?_
                      exact e_iw rfl dX8_lay_189 h
                    · refine i_aload_n dX8_lay_135 rfl ?_
                      refine gf_X8_37 rfl (by omega) dX8_lay_136 ?_
                      refine i_iload_n dX8_lay_139 rfl ?_
                      refine i_aload_n dX8_lay_140 rfl ?_
                      refine gf_X8_22 rfl (by omega) dX8_lay_141 ?_
                      refine i_iload_n dX8_lay_144 rfl ?_
                      refine al_26 dX8_lay_145 (by omega) h (fun j131 lj131 h => ?_)
                      refine as_31 dX8_lay_146 (by omega) h (fun j132 lj132 h => ?_)
                      refine r_mem h (fun s32 _ h => ?_)
                      refine i_iconst (v := 0) dX8_lay_147 (by decide) ?_
                      refine i_istore (ls' := [some (rf X 8 0), some (.int p1), some (.int p2), some (.int p3), some (.int (1 : Int32)), some (.int (σ 28 0 j117)), some (.int (0 : Int32))]) dX8_lay_148 (by decide) (okp_at rfl) rfl ?_
                      refine At.fewer (ls' := [some (rf X 8 0), some (.int p1), none, some (.int p3), none, some (.int (σ 28 0 j117)), some (.int (0 : Int32))]) (And.intro rfl (And.intro rfl (And.intro rfl (And.intro rfl (And.intro rfl trivial))))) ?_
                      refine L_X8_lay_150  FU _ _ h (fun σ_32 h => ?_)
                      refine i_iload dX8_lay_187 rfl ?_
                      exact e_iw rfl dX8_lay_189 h
              · refine i_ldcw (v := (-1000000011)) dX8_lay_70 k_X8_304 ?_
                exact e_iw rfl dX8_lay_73 h
        · refine i_iload_n dX8_lay_22 rfl ?_
          refine i_iconst (v := 2) dX8_lay_23 (by decide) ?_
          refine r_icmp_ne (tgt := 38) dX8_lay_24 (by decide) h (fun c77 h => ?_) (fun c77 h => ?_)
          · refine i_iconst (v := 0) dX8_lay_38 (by decide) ?_
            refine i_istore (ls' := [some (rf X 8 0), some (.int p1), some (.int p2), some (.int p3), some (.int (0 : Int32)), none, none]) dX8_lay_39 (by decide) (okp_at rfl) rfl ?_
            refine i_iload_n dX8_lay_41 rfl ?_
            refine cS_ir dX8_lay_42 cw_X8_315 ci_X8_isSlot h (fun a33 e => F_X8_isSlot  e) (Nat.le_of_ble_eq_true rfl) rfl rfl (Nat.le_of_ble_eq_true rfl) (fun a33 ea33 h => ?_)
            refine r_if_eq (tgt := 53) dX8_lay_45 (by decide) h (fun c78 h => ?_) (fun c78 h => ?_)
            · refine i_ldc (v := (-1000000001)) dX8_lay_53 k_X8_86 ?_
              exact e_iw rfl dX8_lay_55 h
            · refine i_iload dX8_lay_48 rfl ?_
              refine i_if_ne (tgt := 56) dX8_lay_50 (by decide) (fun c => absurd c (by decide)) (fun _ => ?_)
              refine i_ldc (v := (-1000000001)) dX8_lay_53 k_X8_86 ?_
              exact e_iw rfl dX8_lay_55 h
          · refine i_iload_n dX8_lay_27 rfl ?_
            refine cS_ir dX8_lay_28 cw_X8_298 ci_X8_isSheet h (fun a34 e => F_X8_isSheet  e) (Nat.le_of_ble_eq_true rfl) rfl rfl (Nat.le_of_ble_eq_true rfl) (fun a34 ea34 h => ?_)
            refine r_if_eq (tgt := 38) dX8_lay_31 (by decide) h (fun c79 h => ?_) (fun c79 h => ?_)
            · refine i_iconst (v := 0) dX8_lay_38 (by decide) ?_
              refine i_istore (ls' := [some (rf X 8 0), some (.int p1), some (.int p2), some (.int p3), some (.int (0 : Int32)), none, none]) dX8_lay_39 (by decide) (okp_at rfl) rfl ?_
              refine i_iload_n dX8_lay_41 rfl ?_
              refine cS_ir dX8_lay_42 cw_X8_315 ci_X8_isSlot h (fun a35 e => F_X8_isSlot  e) (Nat.le_of_ble_eq_true rfl) rfl rfl (Nat.le_of_ble_eq_true rfl) (fun a35 ea35 h => ?_)
              refine r_if_eq (tgt := 53) dX8_lay_45 (by decide) h (fun c80 h => ?_) (fun c80 h => ?_)
              · refine i_ldc (v := (-1000000001)) dX8_lay_53 k_X8_86 ?_
                exact e_iw rfl dX8_lay_55 h
              · refine i_iload dX8_lay_48 rfl ?_
                refine i_if_ne (tgt := 56) dX8_lay_50 (by decide) (fun c => absurd c (by decide)) (fun _ => ?_)
                refine i_ldc (v := (-1000000001)) dX8_lay_53 k_X8_86 ?_
                exact e_iw rfl dX8_lay_55 h
            · refine i_iconst (v := 1) dX8_lay_34 (by decide) ?_
              refine i_goto (tgt := 39) dX8_lay_35 (by decide) ?_
              refine i_istore (ls' := [some (rf X 8 0), some (.int p1), some (.int p2), some (.int p3), some (.int (1 : Int32)), none, none]) dX8_lay_39 (by decide) (okp_at rfl) rfl ?_
              refine i_iload_n dX8_lay_41 rfl ?_
              refine cS_ir dX8_lay_42 cw_X8_315 ci_X8_isSlot h (fun a36 e => F_X8_isSlot  e) (Nat.le_of_ble_eq_true rfl) rfl rfl (Nat.le_of_ble_eq_true rfl) (fun a36 ea36 h => ?_)
              refine r_if_eq (tgt := 53) dX8_lay_45 (by decide) h (fun c81 h => ?_) (fun c81 h => ?_)
              · refine i_ldc (v := (-1000000001)) dX8_lay_53 k_X8_86 ?_
                exact e_iw rfl dX8_lay_55 h
              · refine i_iload dX8_lay_48 rfl ?_
                refine i_if_ne (tgt := 56) dX8_lay_50 (by decide) (fun _ => ?_) (fun c => absurd c (by decide))
                refine i_iload_n dX8_lay_56 rfl ?_
                refine i_iconst (v := 2) dX8_lay_57 (by decide) ?_
                refine r_icmp_ne (tgt := 74) dX8_lay_58 (by decide) h (fun c82 h => ?_) (fun c82 h => ?_)
                · refine i_aload_n dX8_lay_74 rfl ?_
                  refine gf_X8_28 rfl (by omega) dX8_lay_75 ?_
                  refine i_iload_n dX8_lay_78 rfl ?_
                  refine al_28 dX8_lay_79 (by omega) h (fun j133 lj133 h => ?_)
                  refine i_istore (ls' := [some (rf X 8 0), some (.int p1), some (.int p2), some (.int p3), some (.int (1 : Int32)), some (.int (σ 28 0 j133)), none]) dX8_lay_80 (by decide) (okp_at rfl) rfl ?_
                  refine i_aload_n dX8_lay_82 rfl ?_
                  refine gf_X8_28 rfl (by omega) dX8_lay_83 ?_
                  refine i_iload_n dX8_lay_86 rfl ?_
                  refine i_iload_n dX8_lay_87 rfl ?_
                  refine as_28 dX8_lay_88 (by omega) h (fun j134 lj134 h => ?_)
                  refine i_aload_n dX8_lay_89 rfl ?_
                  refine gf_X8_31 rfl (by omega) dX8_lay_90 ?_
                  refine i_iload_n dX8_lay_93 rfl ?_
                  refine i_iload_n dX8_lay_94 rfl ?_
                  refine i_iconst (v := 1) dX8_lay_95 (by decide) ?_
                  refine r_icmp_ne (tgt := 108) dX8_lay_96 (by decide) h (fun c83 h => ?_) (fun c83 h => ?_)
                  · refine i_iload_n dX8_lay_108 rfl ?_
                    refine as_29 dX8_lay_109 (by omega) h (fun j135 lj135 h => ?_)
                    refine i_aload_n dX8_lay_110 rfl ?_
                    refine gf_X8_34 rfl (by omega) dX8_lay_111 ?_
                    refine i_iload_n dX8_lay_114 rfl ?_
                    refine i_iload_n dX8_lay_115 rfl ?_
                    refine i_iconst (v := 1) dX8_lay_116 (by decide) ?_
                    refine r_icmp_ne (tgt := 128) dX8_lay_117 (by decide) h (fun c84 h => ?_) (fun c84 h => ?_)
                    · refine i_iconst (v := 0) dX8_lay_128 (by decide) ?_
                      refine as_30 dX8_lay_129 (by omega) h (fun j136 lj136 h => ?_)
                      refine i_iload_n dX8_lay_130 rfl ?_
                      refine i_iconst (v := 2) dX8_lay_131 (by decide) ?_
                      refine r_icmp_ne (tgt := 187) dX8_lay_132 (by decide) h (fun c85 h => ?_) (fun c85 h => ?_)
                      · refine i_iload dX8_lay_187 rfl ?_
                        exact e_iw rfl dX8_lay_189 h
                      · refine i_aload_n dX8_lay_135 rfl ?_
                        refine gf_X8_37 rfl (by omega) dX8_lay_136 ?_
                        refine i_iload_n dX8_lay_139 rfl ?_
                        refine i_aload_n dX8_lay_140 rfl ?_
                        refine gf_X8_22 rfl (by omega) dX8_lay_141 ?_
                        refine i_iload_n dX8_lay_144 rfl ?_
                        refine al_26 dX8_lay_145 (by omega) h (fun j137 lj137 h => ?_)
                        refine as_31 dX8_lay_146 (by omega) h (fun j138 lj138 h => ?_)
                        refine r_mem h (fun s33 _ h => ?_)
                        refine i_iconst (v := 0) dX8_lay_147 (by decide) ?_
                        refine i_istore (ls' := [some (rf X 8 0), some (.int p1), some (.int p2), some (.int p3), some (.int (1 : Int32)), some (.int (σ 28 0 j133)), some (.int (0 : Int32))]) dX8_lay_148 (by decide) (okp_at rfl) rfl ?_
                        refine At.fewer (ls' := [some (rf X 8 0), some (.int p1), none, some (.int p3), none, some (.int (σ 28 0 j133)), some (.int (0 : Int32))]) (And.intro rfl (And.intro rfl (And.intro rfl (And.intro rfl (And.intro rfl trivial))))) ?_
                        refine L_X8_lay_150  FU _ _ h (fun σ_33 h => ?_)
                        refine i_iload dX8_lay_187 rfl ?_
                        exact e_iw rfl dX8_lay_189 h
                    · refine i_aload_n dX8_lay_120 rfl ?_
                      refine i_iload_n dX8_lay_121 rfl ?_
                      refine cV_ir dX8_lay_122 cw_X8_122 ci_X8_worth rfl rfl (by decide) (show 0 < 1 by omega) h (fun a37 e => F_X8_worth  e) (Nat.le_of_ble_eq_true rfl) rfl rfl (Nat.le_of_ble_eq_true rfl) (fun a37 ea37 h => ?_)
                      refine i_goto (tgt := 129) dX8_lay_125 (by decide) ?_
                      refine as_30 dX8_lay_129 (by omega) h (fun j139 lj139 h => ?_)
                      refine i_iload_n dX8_lay_130 rfl ?_
                      refine i_iconst (v := 2) dX8_lay_131 (by decide) ?_
                      refine r_icmp_ne (tgt := 187) dX8_lay_132 (by decide) h (fun c86 h => ?_) (fun c86 h => ?_)
                      · refine i_iload dX8_lay_187 rfl ?_
                        exact e_iw rfl dX8_lay_189 h
                      · refine i_aload_n dX8_lay_135 rfl ?_
                        refine gf_X8_37 rfl (by omega) dX8_lay_136 ?_
                        refine i_iload_n dX8_lay_139 rfl ?_
                        refine i_aload_n dX8_lay_140 rfl ?_
                        refine gf_X8_22 rfl (by omega) dX8_lay_141 ?_
                        refine i_iload_n dX8_lay_144 rfl ?_
                        refine al_26 dX8_lay_145 (by omega) h (fun j140 lj140 h => ?_)
                        refine as_31 dX8_lay_146 (by omega) h (fun j141 lj141 h => ?_)
                        refine r_mem h (fun s34 _ h => ?_)
                        refine i_iconst (v := 0) dX8_lay_147 (by decide) ?_
                        refine i_istore (ls' := [some (rf X 8 0), some (.int p1), some (.int p2), some (.int p3), some (.int (1 : Int32)), some (.int (σ 28 0 j133)), some (.int (0 : Int32))]) dX8_lay_148 (by decide) (okp_at rfl) rfl ?_
                        refine At.fewer (ls' := [some (rf X 8 0), some (.int p1), none, some (.int p3), none, some (.int (σ 28 0 j133)), some (.int (0 : Int32))]) (And.intro rfl (And.intro rfl (And.intro rfl (And.intro rfl (And.intro rfl trivial))))) ?_
                        refine L_X8_lay_150  FU _ _ h (fun σ_34 h => ?_)
                        refine i_iload dX8_lay_187 rfl ?_
                        exact e_iw rfl dX8_lay_189 h
                  · refine i_aload_n dX8_lay_99 rfl ?_
                    refine i_iload_n dX8_lay_100 rfl ?_
                    refine i_iconst (v := 0) dX8_lay_101 (by decide) ?_
                    refine cV_ir dX8_lay_102 cw_X8_98 ci_X8_of rfl rfl (by decide) (show 0 < 1 by omega) h (fun a38 e => F_X8_of  e) (Nat.le_of_ble_eq_true rfl) rfl rfl (Nat.le_of_ble_eq_true rfl) (fun a38 ea38 h => ?_)
                    refine i_goto (tgt := 109) dX8_lay_105 (by decide) ?_
                    refine as_29 dX8_lay_109 (by omega) h (fun j142 lj142 h => ?_)
                    refine i_aload_n dX8_lay_110 rfl ?_
                    refine gf_X8_34 rfl (by omega) dX8_lay_111 ?_
                    refine i_iload_n dX8_lay_114 rfl ?_
                    refine i_iload_n dX8_lay_115 rfl ?_
                    refine i_iconst (v := 1) dX8_lay_116 (by decide) ?_
                    refine r_icmp_ne (tgt := 128) dX8_lay_117 (by decide) h (fun c87 h => ?_) (fun c87 h => ?_)
                    · refine i_iconst (v := 0) dX8_lay_128 (by decide) ?_
                      refine as_30 dX8_lay_129 (by omega) h (fun j143 lj143 h => ?_)
                      refine i_iload_n dX8_lay_130 rfl ?_
                      refine i_iconst (v := 2) dX8_lay_131 (by decide) ?_
                      refine r_icmp_ne (tgt := 187) dX8_lay_132 (by decide) h (fun c88 h => ?_) (fun c88 h => ?_)
                      · refine i_iload dX8_lay_187 rfl ?_
                        exact e_iw rfl dX8_lay_189 h
                      · refine i_aload_n dX8_lay_135 rfl ?_
                        refine gf_X8_37 rfl (by omega) dX8_lay_136 ?_
                        refine i_iload_n dX8_lay_139 rfl ?_
                        refine i_aload_n dX8_lay_140 rfl ?_
                        refine gf_X8_22 rfl (by omega) dX8_lay_141 ?_
                        refine i_iload_n dX8_lay_144 rfl ?_
                        refine al_26 dX8_lay_145 (by omega) h (fun j144 lj144 h => ?_)
                        refine as_31 dX8_lay_146 (by omega) h (fun j145 lj145 h => ?_)
                        refine r_mem h (fun s35 _ h => ?_)
                        refine i_iconst (v := 0) dX8_lay_147 (by decide) ?_
                        refine i_istore (ls' := [some (rf X 8 0), some (.int p1), some (.int p2), some (.int p3), some (.int (1 : Int32)), some (.int (σ 28 0 j133)), some (.int (0 : Int32))]) dX8_lay_148 (by decide) (okp_at rfl) rfl ?_
                        refine At.fewer (ls' := [some (rf X 8 0), some (.int p1), none, some (.int p3), none, some (.int (σ 28 0 j133)), some (.int (0 : Int32))]) (And.intro rfl (And.intro rfl (And.intro rfl (And.intro rfl (And.intro rfl trivial))))) ?_
                        refine L_X8_lay_150  FU _ _ h (fun σ_35 h => ?_)
                        refine i_iload dX8_lay_187 rfl ?_
                        exact e_iw rfl dX8_lay_189 h
                    · refine i_aload_n dX8_lay_120 rfl ?_
                      refine i_iload_n dX8_lay_121 rfl ?_
                      refine cV_ir dX8_lay_122 cw_X8_122 ci_X8_worth rfl rfl (by decide) (show 0 < 1 by omega) h (fun a39 e => F_X8_worth  e) (Nat.le_of_ble_eq_true rfl) rfl rfl (Nat.le_of_ble_eq_true rfl) (fun a39 ea39 h => ?_)
                      refine i_goto (tgt := 129) dX8_lay_125 (by decide) ?_
                      refine as_30 dX8_lay_129 (by omega) h (fun j146 lj146 h => ?_)
                      refine i_iload_n dX8_lay_130 rfl ?_
                      refine i_iconst (v := 2) dX8_lay_131 (by decide) ?_
                      refine r_icmp_ne (tgt := 187) dX8_lay_132 (by decide) h (fun c89 h => ?_) (fun c89 h => ?_)
                      · refine i_iload dX8_lay_187 rfl ?_
                        exact e_iw rfl dX8_lay_189 h
                      · refine i_aload_n dX8_lay_135 rfl ?_
                        refine gf_X8_37 rfl (by omega) dX8_lay_136 ?_
                        refine i_iload_n dX8_lay_139 rfl ?_
                        refine i_aload_n dX8_lay_140 rfl ?_
                        refine gf_X8_22 rfl (by omega) dX8_lay_141 ?_
                        refine i_iload_n dX8_lay_144 rfl ?_
                        refine al_26 dX8_lay_145 (by omega) h (fun j147 lj147 h => ?_)
                        refine as_31 dX8_lay_146 (by omega) h (fun j148 lj148 h => ?_)
                        refine r_mem h (fun s36 _ h => ?_)
                        refine i_iconst (v := 0) dX8_lay_147 (by decide) ?_
                        refine i_istore (ls' := [some (rf X 8 0), some (.int p1), some (.int p2), some (.int p3), some (.int (1 : Int32)), some (.int (σ 28 0 j133)), some (.int (0 : Int32))]) dX8_lay_148 (by decide) (okp_at rfl) rfl ?_
                        refine At.fewer (ls' := [some (rf X 8 0), some (.int p1), none, some (.int p3), none, some (.int (σ 28 0 j133)), some (.int (0 : Int32))]) (And.intro rfl (And.intro rfl (And.intro rfl (And.intro rfl (And.intro rfl trivial))))) ?_
                        refine L_X8_lay_150  FU _ _ h (fun σ_36 h => ?_)
                        refine i_iload dX8_lay_187 rfl ?_
                        exact e_iw rfl dX8_lay_189 h
                · refine i_aload_n dX8_lay_61 rfl ?_
                  refine gf_X8_19 rfl (by omega) dX8_lay_62 ?_
                  refine i_iload_n dX8_lay_65 rfl ?_
                  refine al_25 dX8_lay_66 (by omega) h (fun j149 lj149 h => ?_)
                  refine r_if_ge (tgt := 74) dX8_lay_67 (by decide) h (fun c90 h => ?_) (fun c90 h => ?_)
                  · refine i_aload_n dX8_lay_74 rfl ?_
                    refine gf_X8_28 rfl (by omega) dX8_lay_75 ?_
                    refine i_iload_n dX8_lay_78 rfl ?_
                    refine al_28 dX8_lay_79 (by omega) h (fun j150 lj150 h => ?_)
                    refine i_istore (ls' := [some (rf X 8 0), some (.int p1), some (.int p2), some (.int p3), some (.int (1 : Int32)), some (.int (σ 28 0 j150)), none]) dX8_lay_80 (by decide) (okp_at rfl) rfl ?_
                    refine i_aload_n dX8_lay_82 rfl ?_
                    refine gf_X8_28 rfl (by omega) dX8_lay_83 ?_
                    refine i_iload_n dX8_lay_86 rfl ?_
                    refine i_iload_n dX8_lay_87 rfl ?_
                    refine as_28 dX8_lay_88 (by omega) h (fun j151 lj151 h => ?_)
                    refine i_aload_n dX8_lay_89 rfl ?_
                    refine gf_X8_31 rfl (by omega) dX8_lay_90 ?_
                    refine i_iload_n dX8_lay_93 rfl ?_
                    refine i_iload_n dX8_lay_94 rfl ?_
                    refine i_iconst (v := 1) dX8_lay_95 (by decide) ?_
                    refine r_icmp_ne (tgt := 108) dX8_lay_96 (by decide) h (fun c91 h => ?_) (fun c91 h => ?_)
                    · refine i_iload_n dX8_lay_108 rfl ?_
                      refine as_29 dX8_lay_109 (by omega) h (fun j152 lj152 h => ?_)
                      refine i_aload_n dX8_lay_110 rfl ?_
                      refine gf_X8_34 rfl (by omega) dX8_lay_111 ?_
                      refine i_iload_n dX8_lay_114 rfl ?_
                      refine i_iload_n dX8_lay_115 rfl ?_
                      refine i_iconst (v := 1) dX8_lay_116 (by decide) ?_
                      refine r_icmp_ne (tgt := 128) dX8_lay_117 (by decide) h (fun c92 h => ?_) (fun c92 h => ?_)
                      · refine i_iconst (v := 0) dX8_lay_128 (by decide) ?_
                        refine as_30 dX8_lay_129 (by omega) h (fun j153 lj153 h => ?_)
                        refine i_iload_n dX8_lay_130 rfl ?_
                        refine i_iconst (v := 2) dX8_lay_131 (by decide) ?_
                        refine r_icmp_ne (tgt := 187) dX8_lay_132 (by decide) h (fun c93 h => ?_) (fun c93 h => ?_)
                        · refine i_iload dX8_lay_187 rfl ?_
                          exact e_iw rfl dX8_lay_189 h
                        · refine i_aload_n dX8_lay_135 rfl ?_
                          refine gf_X8_37 rfl (by omega) dX8_lay_136 ?_
                          refine i_iload_n dX8_lay_139 rfl ?_
                          refine i_aload_n dX8_lay_140 rfl ?_
                          refine gf_X8_22 rfl (by omega) dX8_lay_141 ?_
                          refine i_iload_n dX8_lay_144 rfl ?_
                          refine al_26 dX8_lay_145 (by omega) h (fun j154 lj154 h => ?_)
                          refine as_31 dX8_lay_146 (by omega) h (fun j155 lj155 h => ?_)
                          refine r_mem h (fun s37 _ h => ?_)
                          refine i_iconst (v := 0) dX8_lay_147 (by decide) ?_
                          refine i_istore (ls' := [some (rf X 8 0), some (.int p1), some (.int p2), some (.int p3), some (.int (1 : Int32)), some (.int (σ 28 0 j150)), some (.int (0 : Int32))]) dX8_lay_148 (by decide) (okp_at rfl) rfl ?_
                          refine At.fewer (ls' := [some (rf X 8 0), some (.int p1), none, some (.int p3), none, some (.int (σ 28 0 j150)), some (.int (0 : Int32))]) (And.intro rfl (And.intro rfl (And.intro rfl (And.intro rfl (And.intro rfl trivial))))) ?_
                          refine L_X8_lay_150  FU _ _ h (fun σ_37 h => ?_)
                          refine i_iload dX8_lay_187 rfl ?_
                          exact e_iw rfl dX8_lay_189 h
                      · refine i_aload_n dX8_lay_120 rfl ?_
                        refine i_iload_n dX8_lay_121 rfl ?_
                        refine cV_ir dX8_lay_122 cw_X8_122 ci_X8_worth rfl rfl (by decide) (show 0 < 1 by omega) h (fun a40 e => F_X8_worth  e) (Nat.le_of_ble_eq_true rfl) rfl rfl (Nat.le_of_ble_eq_true rfl) (fun a40 ea40 h => ?_)
                        refine i_goto (tgt := 129) dX8_lay_125 (by decide) ?_
                        refine as_30 dX8_lay_129 (by omega) h (fun j156 lj156 h => ?_)
                        refine i_iload_n dX8_lay_130 rfl ?_
                        refine i_iconst (v := 2) dX8_lay_131 (by decide) ?_
                        refine r_icmp_ne (tgt := 187) dX8_lay_132 (by decide) h (fun c94 h => ?_) (fun c94 h => ?_)
                        · refine i_iload dX8_lay_187 rfl ?_
                          exact e_iw rfl dX8_lay_189 h
                        · refine i_aload_n dX8_lay_135 rfl ?_
                          refine gf_X8_37 rfl (by omega) dX8_lay_136 ?_
                          refine i_iload_n dX8_lay_139 rfl ?_
                          refine i_aload_n dX8_lay_140 rfl ?_
                          refine gf_X8_22 rfl (by omega) dX8_lay_141 ?_
                          refine i_iload_n dX8_lay_144 rfl ?_
                          refine al_26 dX8_lay_145 (by omega) h (fun j157 lj157 h => ?_)
                          refine as_31 dX8_lay_146 (by omega) h (fun j158 lj158 h => ?_)
                          refine r_mem h (fun s38 _ h => ?_)
                          refine i_iconst (v := 0) dX8_lay_147 (by decide) ?_
                          refine i_istore (ls' := [some (rf X 8 0), some (.int p1), some (.int p2), some (.int p3), some (.int (1 : Int32)), some (.int (σ 28 0 j150)), some (.int (0 : Int32))]) dX8_lay_148 (by decide) (okp_at rfl) rfl ?_
                          refine At.fewer (ls' := [some (rf X 8 0), some (.int p1), none, some (.int p3), none, some (.int (σ 28 0 j150)), some (.int (0 : Int32))]) (And.intro rfl (And.intro rfl (And.intro rfl (And.intro rfl (And.intro rfl trivial))))) ?_
                          refine L_X8_lay_150  FU _ _ h (fun σ_38 h => ?_)
                          refine i_iload dX8_lay_187 rfl ?_
                          exact e_iw rfl dX8_lay_189 h
                    · refine i_aload_n dX8_lay_99 rfl ?_
                      refine i_iload_n dX8_lay_100 rfl ?_
                      refine i_iconst (v := 0) dX8_lay_101 (by decide) ?_
                      refine cV_ir dX8_lay_102 cw_X8_98 ci_X8_of rfl rfl (by decide) (show 0 < 1 by omega) h (fun a41 e => F_X8_of  e) (Nat.le_of_ble_eq_true rfl) rfl rfl (Nat.le_of_ble_eq_true rfl) (fun a41 ea41 h => ?_)
                      refine i_goto (tgt := 109) dX8_lay_105 (by decide) ?_
                      refine as_29 dX8_lay_109 (by omega) h (fun j159 lj159 h => ?_)
                      refine i_aload_n dX8_lay_110 rfl ?_
                      refine gf_X8_34 rfl (by omega) dX8_lay_111 ?_
                      refine i_iload_n dX8_lay_114 rfl ?_
                      refine i_iload_n dX8_lay_115 rfl ?_
                      refine i_iconst (v := 1) dX8_lay_116 (by decide) ?_
                      refine r_icmp_ne (tgt := 128) dX8_lay_117 (by decide) h (fun c95 h => ?_) (fun c95 h => ?_)
                      · refine i_iconst (v := 0) dX8_lay_128 (by decide) ?_
                        refine as_30 dX8_lay_129 (by omega) h (fun j160 lj160 h => ?_)
                        refine i_iload_n dX8_lay_130 rfl ?_
                        refine i_iconst (v := 2) dX8_lay_131 (by decide) ?_
                        refine r_icmp_ne (tgt := 187) dX8_lay_132 (by decide) h (fun c96 h => ?_) (fun c96 h => ?_)
                        · refine i_iload dX8_lay_187 rfl ?_
                          exact e_iw rfl dX8_lay_189 h
                        · refine i_aload_n dX8_lay_135 rfl ?_
                          refine gf_X8_37 rfl (by omega) dX8_lay_136 ?_
                          refine i_iload_n dX8_lay_139 rfl ?_
                          refine i_aload_n dX8_lay_140 rfl ?_
                          refine gf_X8_22 rfl (by omega) dX8_lay_141 ?_
                          refine i_iload_n dX8_lay_144 rfl ?_
                          refine al_26 dX8_lay_145 (by omega) h (fun j161 lj161 h => ?_)
                          refine as_31 dX8_lay_146 (by omega) h (fun j162 lj162 h => ?_)
                          refine r_mem h (fun s39 _ h => ?_)
                          refine i_iconst (v := 0) dX8_lay_147 (by decide) ?_
                          refine i_istore (ls' := [some (rf X 8 0), some (.int p1), some (.int p2), some (.int p3), some (.int (1 : Int32)), some (.int (σ 28 0 j150)), some (.int (0 : Int32))]) dX8_lay_148 (by decide) (okp_at rfl) rfl ?_
                          refine At.fewer (ls' := [some (rf X 8 0), some (.int p1), none, some (.int p3), none, some (.int (σ 28 0 j150)), some (.int (0 : Int32))]) (And.intro rfl (And.intro rfl (And.intro rfl (And.intro rfl (And.intro rfl trivial))))) ?_
                          refine L_X8_lay_150  FU _ _ h (fun σ_39 h => ?_)
                          refine i_iload dX8_lay_187 rfl ?_
                          exact e_iw rfl dX8_lay_189 h
                      · refine i_aload_n dX8_lay_120 rfl ?_
                        refine i_iload_n dX8_lay_121 rfl ?_
                        refine cV_ir dX8_lay_122 cw_X8_122 ci_X8_worth rfl rfl (by decide) (show 0 < 1 by omega) h (fun a42 e => F_X8_worth  e) (Nat.le_of_ble_eq_true rfl) rfl rfl (Nat.le_of_ble_eq_true rfl) (fun a42 ea42 h => ?_)
                        refine i_goto (tgt := 129) dX8_lay_125 (by decide) ?_
                        refine as_30 dX8_lay_129 (by omega) h (fun j163 lj163 h => ?_)
                        refine i_iload_n dX8_lay_130 rfl ?_
                        refine i_iconst (v := 2) dX8_lay_131 (by decide) ?_
                        refine r_icmp_ne (tgt := 187) dX8_lay_132 (by decide) h (fun c97 h => ?_) (fun c97 h => ?_)
                        · refine i_iload dX8_lay_187 rfl ?_
                          exact e_iw rfl dX8_lay_189 h
                        · refine i_aload_n dX8_lay_135 rfl ?_
                          refine gf_X8_37 rfl (by omega) dX8_lay_136 ?_
                          refine i_iload_n dX8_lay_139 rfl ?_
                          refine i_aload_n dX8_lay_140 rfl ?_
                          refine gf_X8_22 rfl (by omega) dX8_lay_141 ?_
                          refine i_iload_n dX8_lay_144 rfl ?_
                          refine al_26 dX8_lay_145 (by omega) h (fun j164 lj164 h => ?_)
                          refine as_31 dX8_lay_146 (by omega) h (fun j165 lj165 h => ?_)
                          refine r_mem h (fun s40 _ h => ?_)
                          refine i_iconst (v := 0) dX8_lay_147 (by decide) ?_
                          refine i_istore (ls' := [some (rf X 8 0), some (.int p1), some (.int p2), some (.int p3), some (.int (1 : Int32)), some (.int (σ 28 0 j150)), some (.int (0 : Int32))]) dX8_lay_148 (by decide) (okp_at rfl) rfl ?_
                          refine At.fewer (ls' := [some (rf X 8 0), some (.int p1), none, some (.int p3), none, some (.int (σ 28 0 j150)), some (.int (0 : Int32))]) (And.intro rfl (And.intro rfl (And.intro rfl (And.intro rfl (And.intro rfl trivial))))) ?_
                          refine L_X8_lay_150  FU _ _ h (fun σ_40 h => ?_)
                          refine i_iload dX8_lay_187 rfl ?_
                          exact e_iw rfl dX8_lay_189 h
                  · refine i_ldcw (v := (-1000000011)) dX8_lay_70 k_X8_304 ?_
                    exact e_iw rfl dX8_lay_73 h
end
