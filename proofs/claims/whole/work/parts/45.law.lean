theorem tsw_0_40 {y : Int32} (c0 : ¬ y = (0 : Int32)) (c1 : ¬ y = (1 : Int32)) (c2 : ¬ y = (2 : Int32)) (c3 : ¬ y = (3 : Int32)) (c4 : ¬ y = (4 : Int32)) (c5 : ¬ y = (5 : Int32)) (c6 : ¬ y = (6 : Int32)) (c7 : ¬ y = (7 : Int32)) (c8 : ¬ y = (8 : Int32)) (c9 : ¬ y = (9 : Int32)) (c10 : ¬ y = (10 : Int32)) (c11 : ¬ y = (11 : Int32)) (c12 : ¬ y = (12 : Int32)) (c13 : ¬ y = (13 : Int32)) (c14 : ¬ y = (14 : Int32)) (c15 : ¬ y = (15 : Int32)) (c16 : ¬ y = (16 : Int32)) (c17 : ¬ y = (17 : Int32)) (c18 : ¬ y = (18 : Int32)) (c19 : ¬ y = (19 : Int32)) (c20 : ¬ y = (20 : Int32)) (c21 : ¬ y = (21 : Int32)) (c22 : ¬ y = (22 : Int32)) (c23 : ¬ y = (23 : Int32)) (c24 : ¬ y = (24 : Int32)) (c25 : ¬ y = (25 : Int32)) (c26 : ¬ y = (26 : Int32)) (c27 : ¬ y = (27 : Int32)) (c28 : ¬ y = (28 : Int32)) (c29 : ¬ y = (29 : Int32)) (c30 : ¬ y = (30 : Int32)) (c31 : ¬ y = (31 : Int32)) (c32 : ¬ y = (32 : Int32)) (c33 : ¬ y = (33 : Int32)) (c34 : ¬ y = (34 : Int32)) (c35 : ¬ y = (35 : Int32)) (c36 : ¬ y = (36 : Int32)) (c37 : ¬ y = (37 : Int32)) (c38 : ¬ y = (38 : Int32)) (c39 : ¬ y = (39 : Int32)) (c40 : ¬ y = (40 : Int32)) : y.toInt < 0 ∨ 40 < y.toInt := by
  have q0 := ne_toInt c0 (n := 0) (by decide)
  have q1 := ne_toInt c1 (n := 1) (by decide)
  have q2 := ne_toInt c2 (n := 2) (by decide)
  have q3 := ne_toInt c3 (n := 3) (by decide)
  have q4 := ne_toInt c4 (n := 4) (by decide)
  have q5 := ne_toInt c5 (n := 5) (by decide)
  have q6 := ne_toInt c6 (n := 6) (by decide)
  have q7 := ne_toInt c7 (n := 7) (by decide)
  have q8 := ne_toInt c8 (n := 8) (by decide)
  have q9 := ne_toInt c9 (n := 9) (by decide)
  have q10 := ne_toInt c10 (n := 10) (by decide)
  have q11 := ne_toInt c11 (n := 11) (by decide)
  have q12 := ne_toInt c12 (n := 12) (by decide)
  have q13 := ne_toInt c13 (n := 13) (by decide)
  have q14 := ne_toInt c14 (n := 14) (by decide)
  have q15 := ne_toInt c15 (n := 15) (by decide)
  have q16 := ne_toInt c16 (n := 16) (by decide)
  have q17 := ne_toInt c17 (n := 17) (by decide)
  have q18 := ne_toInt c18 (n := 18) (by decide)
  have q19 := ne_toInt c19 (n := 19) (by decide)
  have q20 := ne_toInt c20 (n := 20) (by decide)
  have q21 := ne_toInt c21 (n := 21) (by decide)
  have q22 := ne_toInt c22 (n := 22) (by decide)
  have q23 := ne_toInt c23 (n := 23) (by decide)
  have q24 := ne_toInt c24 (n := 24) (by decide)
  have q25 := ne_toInt c25 (n := 25) (by decide)
  have q26 := ne_toInt c26 (n := 26) (by decide)
  have q27 := ne_toInt c27 (n := 27) (by decide)
  have q28 := ne_toInt c28 (n := 28) (by decide)
  have q29 := ne_toInt c29 (n := 29) (by decide)
  have q30 := ne_toInt c30 (n := 30) (by decide)
  have q31 := ne_toInt c31 (n := 31) (by decide)
  have q32 := ne_toInt c32 (n := 32) (by decide)
  have q33 := ne_toInt c33 (n := 33) (by decide)
  have q34 := ne_toInt c34 (n := 34) (by decide)
  have q35 := ne_toInt c35 (n := 35) (by decide)
  have q36 := ne_toInt c36 (n := 36) (by decide)
  have q37 := ne_toInt c37 (n := 37) (by decide)
  have q38 := ne_toInt c38 (n := 38) (by decide)
  have q39 := ne_toInt c39 (n := 39) (by decide)
  have q40 := ne_toInt c40 (n := 40) (by decide)
  omega
noncomputable def f_law (L : Nat) (ys : Nat → Int32) : Nat → Int32 → Mem → (Mem → Option (Int32 × Mem)) → Option (Int32 × Mem)
  | 0, _, _, _ => none
  | n + 1, v3, σ, k =>
    (if ((Int32.ofNat L) - (6 : Int32)) < v3 then (k σ) else (bnd (ix L v3) (fun j1 => (if ((ys j1) &&& (63 : Int32)) = (0 : Int32) then (bnd (ix L (v3 + (1 : Int32))) (fun j2 => (bnd (ix L (v3 + (2 : Int32))) (fun j3 => (bnd (ix L (v3 + (3 : Int32))) (fun j4 => (bnd (f_X7_person (ys j2) (ys j3) (ys j4) σ) (fun a1 => (bnd (ix L (v3 + (1 : Int32))) (fun j5 => (bnd (ix L (v3 + (2 : Int32))) (fun j6 => (bnd (ix L (v3 + (3 : Int32))) (fun j7 => (bnd (f_X8_person (ys j5) (ys j6) (ys j7) a1.2) (fun a2 => (if a1.1 = a2.1 then (f_law L ys n (v3 + (6 : Int32)) a2.2 k) else (some ((0 : Int32), a2.2))))))))))))))))))) else (if ((ys j1) &&& (63 : Int32)) = (1 : Int32) then (bnd (ix L (v3 + (1 : Int32))) (fun j8 => (bnd (ix L (v3 + (2 : Int32))) (fun j9 => (bnd (f_X7_told (ys j8) (ys j9) σ) (fun a3 => (bnd (ix L (v3 + (1 : Int32))) (fun j10 => (bnd (ix L (v3 + (2 : Int32))) (fun j11 => (bnd (f_X8_told (ys j10) (ys j11) σ) (fun a4 => (if a3 = a4 then (f_law L ys n (v3 + (6 : Int32)) σ k) else (some ((0 : Int32), σ))))))))))))))) else (if ((ys j1) &&& (63 : Int32)) = (2 : Int32) then (bnd (ix L (v3 + (1 : Int32))) (fun j12 => (bnd (ix L (v3 + (2 : Int32))) (fun j13 => (bnd (f_X7_as (ys j12) (ys j13) σ) (fun a5 => (bnd (ix L (v3 + (1 : Int32))) (fun j14 => (bnd (ix L (v3 + (2 : Int32))) (fun j15 => (bnd (f_X8_as (ys j14) (ys j15) σ) (fun a6 => (if a5 = a6 then (f_law L ys n (v3 + (6 : Int32)) σ k) else (some ((0 : Int32), σ))))))))))))))) else (if ((ys j1) &&& (63 : Int32)) = (3 : Int32) then (bnd (ix L (v3 + (1 : Int32))) (fun j16 => (bnd (ix L (v3 + (2 : Int32))) (fun j17 => (bnd (f_X7_turns (ys j16) (ys j17) σ) (fun a7 => (bnd (ix L (v3 + (1 : Int32))) (fun j18 => (bnd (ix L (v3 + (2 : Int32))) (fun j19 => (bnd (f_X8_turns (ys j18) (ys j19) a7.2) (fun a8 => (if a7.1 = a8.1 then (f_law L ys n (v3 + (6 : Int32)) a8.2 k) else (some ((0 : Int32), a8.2))))))))))))))) else (if ((ys j1) &&& (63 : Int32)) = (4 : Int32) then (bnd (ix L (v3 + (1 : Int32))) (fun j20 => (bnd (ix L (v3 + (2 : Int32))) (fun j21 => (bnd (ix L (v3 + (3 : Int32))) (fun j22 => (bnd (f_X7_set (ys j20) (ys j21) (ys j22) σ) (fun a9 => (bnd (ix L (v3 + (1 : Int32))) (fun j23 => (bnd (ix L (v3 + (2 : Int32))) (fun j24 => (bnd (ix L (v3 + (3 : Int32))) (fun j25 => (bnd (f_X8_set (ys j23) (ys j24) (ys j25) a9.2) (fun a10 => (if a9.1 = a10.1 then (f_law L ys n (v3 + (6 : Int32)) a10.2 k) else (some ((0 : Int32), a10.2))))))))))))))))))) else (if ((ys j1) &&& (63 : Int32)) = (5 : Int32) then (bnd (ix L (v3 + (1 : Int32))) (fun j26 => (bnd (ix L (v3 + (2 : Int32))) (fun j27 => (bnd (ix L (v3 + (3 : Int32))) (fun j28 => (bnd (f_X7_vow (ys j26) (ys j27) (ys j28) σ) (fun a11 => (bnd (ix L (v3 + (1 : Int32))) (fun j29 => (bnd (ix L (v3 + (2 : Int32))) (fun j30 => (bnd (ix L (v3 + (3 : Int32))) (fun j31 => (bnd (f_X8_vow (ys j29) (ys j30) (ys j31) a11.2) (fun a12 => (if a11.1 = a12.1 then (f_law L ys n (v3 + (6 : Int32)) a12.2 k) else (some ((0 : Int32), a12.2))))))))))))))))))) else (if ((ys j1) &&& (63 : Int32)) = (6 : Int32) then (bnd (ix L (v3 + (1 : Int32))) (fun j32 => (bnd (ix L (v3 + (2 : Int32))) (fun j33 => (bnd (f_X7_vowOf (ys j32) (ys j33) σ) (fun a13 => (bnd (ix L (v3 + (1 : Int32))) (fun j34 => (bnd (ix L (v3 + (2 : Int32))) (fun j35 => (bnd (f_X8_vowOf (ys j34) (ys j35) a13.2) (fun a14 => (if a13.1 = a14.1 then (f_law L ys n (v3 + (6 : Int32)) a14.2 k) else (some ((0 : Int32), a14.2))))))))))))))) else (if ((ys j1) &&& (63 : Int32)) = (7 : Int32) then (bnd (ix L (v3 + (1 : Int32))) (fun j36 => (bnd (f_X7_breaks (ys j36) σ) (fun a15 => (bnd (ix L (v3 + (1 : Int32))) (fun j37 => (bnd (f_X8_breaks (ys j37) a15.2) (fun a16 => (if a15.1 = a16.1 then (f_law L ys n (v3 + (6 : Int32)) a16.2 k) else (some ((0 : Int32), a16.2))))))))))) else (if ((ys j1) &&& (63 : Int32)) = (8 : Int32) then (bnd (f_X7_eclipse σ) (fun a17 => (bnd (f_X8_eclipse a17.2) (fun a18 => (if a17.1 = a18.1 then (f_law L ys n (v3 + (6 : Int32)) a18.2 k) else (some ((0 : Int32), a18.2))))))) else (if ((ys j1) &&& (63 : Int32)) = (9 : Int32) then (bnd (ix L (v3 + (1 : Int32))) (fun j38 => (bnd (f_X7_deal (ys j38) σ) (fun a19 => (bnd (ix L (v3 + (1 : Int32))) (fun j39 => (bnd (f_X8_deal (ys j39) a19.2) (fun a20 => (if a19.1 = a20.1 then (f_law L ys n (v3 + (6 : Int32)) a20.2 k) else (some ((0 : Int32), a20.2))))))))))) else (if ((ys j1) &&& (63 : Int32)) = (10 : Int32) then (bnd (ix L (v3 + (1 : Int32))) (fun j40 => (bnd (f_X7_seed (ys j40) σ) (fun a21 => (bnd (ix L (v3 + (1 : Int32))) (fun j41 => (bnd (f_X8_seed (ys j41) a21.2) (fun a22 => (if a21.1 = a22.1 then (f_law L ys n (v3 + (6 : Int32)) a22.2 k) else (some ((0 : Int32), a22.2))))))))))) else (if ((ys j1) &&& (63 : Int32)) = (11 : Int32) then (bnd (ix L (v3 + (1 : Int32))) (fun j42 => (bnd (f_X7_hours (ys j42) σ) (fun a23 => (bnd (ix L (v3 + (1 : Int32))) (fun j43 => (bnd (f_X8_hours (ys j43) a23.2) (fun a24 => (if a23.1 = a24.1 then (f_law L ys n (v3 + (6 : Int32)) a24.2 k) else (some ((0 : Int32), a24.2))))))))))) else (if ((ys j1) &&& (63 : Int32)) = (12 : Int32) then (bnd (ix L (v3 + (1 : Int32))) (fun j44 => (bnd (f_X7_land (ys j44) σ) (fun a25 => (bnd (ix L (v3 + (1 : Int32))) (fun j45 => (bnd (f_X8_land (ys j45) σ) (fun a26 => (if a25 = a26.1 then (f_law L ys n (v3 + (6 : Int32)) a26.2 k) else (some ((0 : Int32), a26.2))))))))))) else (if ((ys j1) &&& (63 : Int32)) = (13 : Int32) then (bnd (ix L (v3 + (1 : Int32))) (fun j46 => (bnd (ix L (v3 + (2 : Int32))) (fun j47 => (bnd (f_X7_reaches (ys j46) (ys j47) σ) (fun a27 => (bnd (ix L (v3 + (1 : Int32))) (fun j48 => (bnd (ix L (v3 + (2 : Int32))) (fun j49 => (bnd (f_X8_reaches (ys j48) (ys j49) σ) (fun a28 => (if a27 = a28.1 then (f_law L ys n (v3 + (6 : Int32)) a28.2 k) else (some ((0 : Int32), a28.2))))))))))))))) else (if ((ys j1) &&& (63 : Int32)) = (14 : Int32) then (bnd (ix L (v3 + (1 : Int32))) (fun j50 => (bnd (ix L (v3 + (2 : Int32))) (fun j51 => (bnd (f_X7_behind (ys j50) (ys j51) σ) (fun a29 => (bnd (ix L (v3 + (1 : Int32))) (fun j52 => (bnd (ix L (v3 + (2 : Int32))) (fun j53 => (bnd (f_X8_behind (ys j52) (ys j53) a29.2) (fun a30 => (if a29.1 = a30.1 then (f_law L ys n (v3 + (6 : Int32)) a30.2 k) else (some ((0 : Int32), a30.2))))))))))))))) else (if ((ys j1) &&& (63 : Int32)) = (15 : Int32) then (bnd (f_X7_free σ) (fun a31 => (bnd (f_X8_free a31.2) (fun a32 => (if a31.1 = a32.1 then (f_law L ys n (v3 + (6 : Int32)) a32.2 k) else (some ((0 : Int32), a32.2))))))) else (if ((ys j1) &&& (63 : Int32)) = (16 : Int32) then (bnd (ix L (v3 + (1 : Int32))) (fun j54 => (bnd (ix L (v3 + (2 : Int32))) (fun j55 => (bnd (f_X7_sworn (ys j54) (ys j55) σ) (fun a33 => (bnd (ix L (v3 + (1 : Int32))) (fun j56 => (bnd (ix L (v3 + (2 : Int32))) (fun j57 => (bnd (f_X8_sworn (ys j56) (ys j57) a33.2) (fun a34 => (if a33.1 = a34.1 then (f_law L ys n (v3 + (6 : Int32)) a34.2 k) else (some ((0 : Int32), a34.2))))))))))))))) else (if ((ys j1) &&& (63 : Int32)) = (17 : Int32) then (bnd (ix L (v3 + (1 : Int32))) (fun j58 => (bnd (ix L (v3 + (2 : Int32))) (fun j59 => (bnd (f_X7_trust (ys j58) (ys j59) σ) (fun a35 => (bnd (ix L (v3 + (1 : Int32))) (fun j60 => (bnd (ix L (v3 + (2 : Int32))) (fun j61 => (bnd (f_X8_trust (ys j60) (ys j61) a35.2) (fun a36 => (if a35.1 = a36.1 then (f_law L ys n (v3 + (6 : Int32)) a36.2 k) else (some ((0 : Int32), a36.2))))))))))))))) else (if ((ys j1) &&& (63 : Int32)) = (18 : Int32) then (bnd (ix L (v3 + (1 : Int32))) (fun j62 => (bnd (ix L (v3 + (2 : Int32))) (fun j63 => (bnd (f_X7_debtor (ys j62) (ys j63) σ) (fun a37 => (bnd (ix L (v3 + (1 : Int32))) (fun j64 => (bnd (ix L (v3 + (2 : Int32))) (fun j65 => (bnd (f_X8_debtor (ys j64) (ys j65) a37.2) (fun a38 => (if a37.1 = a38.1 then (f_law L ys n (v3 + (6 : Int32)) a38.2 k) else (some ((0 : Int32), a38.2))))))))))))))) else (if ((ys j1) &&& (63 : Int32)) = (19 : Int32) then (bnd (ix L (v3 + (1 : Int32))) (fun j66 => (bnd (ix L (v3 + (2 : Int32))) (fun j67 => (bnd (ix L (v3 + (3 : Int32))) (fun j68 => (bnd (f_X7_clock (ys j66) (ys j67) (ys j68) σ) (fun a39 => (bnd (ix L (v3 + (1 : Int32))) (fun j69 => (bnd (ix L (v3 + (2 : Int32))) (fun j70 => (bnd (ix L (v3 + (3 : Int32))) (fun j71 => (bnd (f_X8_clock (ys j69) (ys j70) (ys j71) a39.2) (fun a40 => (if a39.1 = a40.1 then (f_law L ys n (v3 + (6 : Int32)) a40.2 k) else (some ((0 : Int32), a40.2))))))))))))))))))) else (if ((ys j1) &&& (63 : Int32)) = (20 : Int32) then (bnd (f_X7_fee σ) (fun a41 => (bnd (f_X8_fee a41.2) (fun a42 => (if a41.1 = a42.1 then (f_law L ys n (v3 + (6 : Int32)) a42.2 k) else (some ((0 : Int32), a42.2))))))) else (if ((ys j1) &&& (63 : Int32)) = (21 : Int32) then (bnd (ix L (v3 + (1 : Int32))) (fun j72 => (bnd (f_X7_fine (ys j72) σ) (fun a43 => (bnd (ix L (v3 + (1 : Int32))) (fun j73 => (bnd (f_X8_fine (ys j73) a43.2) (fun a44 => (if a43.1 = a44.1 then (f_law L ys n (v3 + (6 : Int32)) a44.2 k) else (some ((0 : Int32), a44.2))))))))))) else (if ((ys j1) &&& (63 : Int32)) = (22 : Int32) then (bnd (ix L (v3 + (1 : Int32))) (fun j74 => (bnd (ix L (v3 + (2 : Int32))) (fun j75 => (bnd (ix L (v3 + (3 : Int32))) (fun j76 => (bnd (f_X7_feed (ys j74) (ys j75) (ys j76) σ) (fun a45 => (bnd (ix L (v3 + (1 : Int32))) (fun j77 => (bnd (ix L (v3 + (2 : Int32))) (fun j78 => (bnd (ix L (v3 + (3 : Int32))) (fun j79 => (bnd (f_X8_feed (ys j77) (ys j78) (ys j79) a45.2) (fun a46 => (if a45.1 = a46.1 then (f_law L ys n (v3 + (6 : Int32)) a46.2 k) else (some ((0 : Int32), a46.2))))))))))))))))))) else (if ((ys j1) &&& (63 : Int32)) = (23 : Int32) then (bnd (ix L (v3 + (1 : Int32))) (fun j80 => (bnd (f_X7_trim (ys j80) σ) (fun a47 => (bnd (ix L (v3 + (1 : Int32))) (fun j81 => (bnd (f_X8_trim (ys j81) a47.2) (fun a48 => (if a47.1 = a48.1 then (f_law L ys n (v3 + (6 : Int32)) a48.2 k) else (some ((0 : Int32), a48.2))))))))))) else (if ((ys j1) &&& (63 : Int32)) = (24 : Int32) then (bnd (f_X7_text σ) (fun a49 => (bnd (f_X8_text a49.2) (fun a50 => (if a49.1 = a50.1 then (f_law L ys n (v3 + (6 : Int32)) a50.2 k) else (some ((0 : Int32), a50.2))))))) else (if ((ys j1) &&& (63 : Int32)) = (25 : Int32) then (bnd (ix L (v3 + (1 : Int32))) (fun j82 => (bnd (ix L (v3 + (2 : Int32))) (fun j83 => (bnd (f_X7_textTold (ys j82) (ys j83) σ) (fun a51 => (bnd (ix L (v3 + (1 : Int32))) (fun j84 => (bnd (ix L (v3 + (2 : Int32))) (fun j85 => (bnd (f_X8_textTold (ys j84) (ys j85) σ) (fun a52 => (if a51 = a52 then (f_law L ys n (v3 + (6 : Int32)) σ k) else (some ((0 : Int32), σ))))))))))))))) else (if ((ys j1) &&& (63 : Int32)) = (26 : Int32) then (bnd (ix L (v3 + (1 : Int32))) (fun j86 => (bnd (f_X7_why (ys j86) σ) (fun a53 => (bnd (ix L (v3 + (1 : Int32))) (fun j87 => (bnd (f_X8_why (ys j87) σ) (fun a54 => (if a53 = a54 then (f_law L ys n (v3 + (6 : Int32)) σ k) else (some ((0 : Int32), σ))))))))))) else (if ((ys j1) &&& (63 : Int32)) = (27 : Int32) then (bnd (ix L (v3 + (1 : Int32))) (fun j88 => (bnd (ix L (v3 + (2 : Int32))) (fun j89 => (bnd (ix L (v3 + (3 : Int32))) (fun j90 => (bnd (f_X7_sheet (ys j88) (ys j89) (ys j90) σ) (fun a55 => (bnd (ix L (v3 + (1 : Int32))) (fun j91 => (bnd (ix L (v3 + (2 : Int32))) (fun j92 => (bnd (ix L (v3 + (3 : Int32))) (fun j93 => (bnd (f_X8_sheet (ys j91) (ys j92) (ys j93) a55.2) (fun a56 => (if a55.1 = a56.1 then (f_law L ys n (v3 + (6 : Int32)) a56.2 k) else (some ((0 : Int32), a56.2))))))))))))))))))) else (if ((ys j1) &&& (63 : Int32)) = (28 : Int32) then (bnd (ix L (v3 + (1 : Int32))) (fun j94 => (bnd (ix L (v3 + (2 : Int32))) (fun j95 => (bnd (ix L (v3 + (3 : Int32))) (fun j96 => (bnd (f_X7_mark (ys j94) (ys j95) (ys j96) σ) (fun a57 => (bnd (ix L (v3 + (1 : Int32))) (fun j97 => (bnd (ix L (v3 + (2 : Int32))) (fun j98 => (bnd (ix L (v3 + (3 : Int32))) (fun j99 => (bnd (f_X8_mark (ys j97) (ys j98) (ys j99) a57.2) (fun a58 => (if a57.1 = a58.1 then (f_law L ys n (v3 + (6 : Int32)) a58.2 k) else (some ((0 : Int32), a58.2))))))))))))))))))) else (if ((ys j1) &&& (63 : Int32)) = (29 : Int32) then (bnd (ix L (v3 + (1 : Int32))) (fun j100 => (bnd (f_X7_pour (ys j100) σ) (fun a59 => (bnd (ix L (v3 + (1 : Int32))) (fun j101 => (bnd (f_X8_pour (ys j101) a59.2) (fun a60 => (if a59.1 = a60.1 then (f_law L ys n (v3 + (6 : Int32)) a60.2 k) else (some ((0 : Int32), a60.2))))))))))) else (if ((ys j1) &&& (63 : Int32)) = (30 : Int32) then (bnd (ix L (v3 + (1 : Int32))) (fun j102 => (bnd (f_X7_reads (ys j102) σ) (fun a61 => (bnd (ix L (v3 + (1 : Int32))) (fun j103 => (bnd (f_X8_reads (ys j103) σ) (fun a62 => (if a61 = a62 then (f_law L ys n (v3 + (6 : Int32)) σ k) else (some ((0 : Int32), σ))))))))))) else (if ((ys j1) &&& (63 : Int32)) = (31 : Int32) then (bnd (ix L (v3 + (1 : Int32))) (fun j104 => (bnd (ix L (v3 + (2 : Int32))) (fun j105 => (bnd (ix L (v3 + (3 : Int32))) (fun j106 => (bnd (ix L (v3 + (4 : Int32))) (fun j107 => (bnd (ix L (v3 + (5 : Int32))) (fun j108 => (bnd (f_X7_copy (ys j104) (ys j105) (ys j106) (ys j107) (ys j108) σ) (fun a63 => (bnd (ix L (v3 + (1 : Int32))) (fun j109 => (bnd (ix L (v3 + (2 : Int32))) (fun j110 => (bnd (ix L (v3 + (3 : Int32))) (fun j111 => (bnd (ix L (v3 + (4 : Int32))) (fun j112 => (bnd (ix L (v3 + (5 : Int32))) (fun j113 => (bnd (f_X8_copy (ys j109) (ys j110) (ys j111) (ys j112) (ys j113) a63.2) (fun a64 => (if a63.1 = a64.1 then (f_law L ys n (v3 + (6 : Int32)) a64.2 k) else (some ((0 : Int32), a64.2))))))))))))))))))))))))))) else (if ((ys j1) &&& (63 : Int32)) = (32 : Int32) then (bnd (ix L (v3 + (1 : Int32))) (fun j114 => (bnd (ix L (v3 + (2 : Int32))) (fun j115 => (bnd (ix L (v3 + (3 : Int32))) (fun j116 => (bnd (f_X7_lay (ys j114) (ys j115) (ys j116) σ) (fun a65 => (bnd (ix L (v3 + (1 : Int32))) (fun j117 => (bnd (ix L (v3 + (2 : Int32))) (fun j118 => (bnd (ix L (v3 + (3 : Int32))) (fun j119 => (bnd (f_X8_lay (ys j117) (ys j118) (ys j119) a65.2) (fun a66 => (if a65.1 = a66.1 then (f_law L ys n (v3 + (6 : Int32)) a66.2 k) else (some ((0 : Int32), a66.2))))))))))))))))))) else (if ((ys j1) &&& (63 : Int32)) = (33 : Int32) then (bnd (ix L (v3 + (1 : Int32))) (fun j120 => (bnd (ix L (v3 + (2 : Int32))) (fun j121 => (bnd (f_X7_ask (ys j120) (ys j121) σ) (fun a67 => (bnd (ix L (v3 + (1 : Int32))) (fun j122 => (bnd (ix L (v3 + (2 : Int32))) (fun j123 => (bnd (f_X8_ask (ys j122) (ys j123) σ) (fun a68 => (if a67 = a68 then (f_law L ys n (v3 + (6 : Int32)) σ k) else (some ((0 : Int32), σ))))))))))))))) else (if ((ys j1) &&& (63 : Int32)) = (34 : Int32) then (bnd (ix L (v3 + (1 : Int32))) (fun j124 => (bnd (ix L (v3 + (2 : Int32))) (fun j125 => (bnd (f_X7_item (ys j124) (ys j125) σ) (fun a69 => (bnd (ix L (v3 + (1 : Int32))) (fun j126 => (bnd (ix L (v3 + (2 : Int32))) (fun j127 => (bnd (f_X8_item (ys j126) (ys j127) σ) (fun a70 => (if a69 = a70 then (f_law L ys n (v3 + (6 : Int32)) σ k) else (some ((0 : Int32), σ))))))))))))))) else (if ((ys j1) &&& (63 : Int32)) = (35 : Int32) then (bnd (ix L (v3 + (1 : Int32))) (fun j128 => (bnd (ix L (v3 + (2 : Int32))) (fun j129 => (bnd (f_X7_rest (ys j128) (ys j129) σ) (fun a71 => (bnd (ix L (v3 + (1 : Int32))) (fun j130 => (bnd (ix L (v3 + (2 : Int32))) (fun j131 => (bnd (f_X8_rest (ys j130) (ys j131) σ) (fun a72 => (if a71 = a72 then (f_law L ys n (v3 + (6 : Int32)) σ k) else (some ((0 : Int32), σ))))))))))))))) else (if ((ys j1) &&& (63 : Int32)) = (36 : Int32) then (bnd (ix L (v3 + (1 : Int32))) (fun j132 => (bnd (f_X7_tell (ys j132) σ) (fun a73 => (bnd (ix L (v3 + (1 : Int32))) (fun j133 => (bnd (f_X8_tell (ys j133) a73.2) (fun a74 => (if a73.1 = a74.1 then (f_law L ys n (v3 + (6 : Int32)) a74.2 k) else (some ((0 : Int32), a74.2))))))))))) else (if ((ys j1) &&& (63 : Int32)) = (37 : Int32) then (bnd (ix L (v3 + (1 : Int32))) (fun j134 => (bnd (f_X7_check (ys j134) σ) (fun a75 => (bnd (ix L (v3 + (1 : Int32))) (fun j135 => (bnd (f_X8_check (ys j135) a75.2) (fun a76 => (if a75.1 = a76.1 then (f_law L ys n (v3 + (6 : Int32)) a76.2 k) else (some ((0 : Int32), a76.2))))))))))) else (if ((ys j1) &&& (63 : Int32)) = (38 : Int32) then (bnd (f_X7_keep σ) (fun a77 => (bnd (f_X8_keep a77.2) (fun a78 => (if a77.1 = a78.1 then (f_law L ys n (v3 + (6 : Int32)) a78.2 k) else (some ((0 : Int32), a78.2))))))) else (if ((ys j1) &&& (63 : Int32)) = (39 : Int32) then (bnd (f_X7_back σ) (fun a79 => (bnd (f_X8_back a79.2) (fun a80 => (if a79.1 = a80.1 then (f_law L ys n (v3 + (6 : Int32)) a80.2 k) else (some ((0 : Int32), a80.2))))))) else (if ((ys j1) &&& (63 : Int32)) = (40 : Int32) then (bnd (ix L (v3 + (1 : Int32))) (fun j136 => (bnd (f_X7_count (ys j136) σ) (fun a81 => (bnd (ix L (v3 + (1 : Int32))) (fun j137 => (bnd (f_X8_count (ys j137) σ) (fun a82 => (if a81 = a82 then (f_law L ys n (v3 + (6 : Int32)) σ k) else (some ((0 : Int32), σ))))))))))) else (f_law L ys n (v3 + (6 : Int32)) σ k)))))))))))))))))))))))))))))))))))))))))))))
set_option maxRecDepth 100000 in
set_option maxHeartbeats 40000000 in
theorem L_law {X : Cx} {σ2 : Mem} {k : Mem → Option (Int32 × Mem)} : ∀ (n : Nat) (v3 : Int32) (σ : Mem), f_law (xL X) (xs X) n v3 σ k = some (1, σ2) → (∀ σ1 : Mem, k σ1 = some (1, σ2) → AL X 1431 [none, none, none, none] [] σ1) → AL X 18 [some (.ref (xb X)), some (rf X 7 0), some (rf X 8 0), some (.int v3)] [] σ := by
  intro n
  induction n with
  | zero =>
    intro v3 σ h
    cases h
  | succ n ih =>
    intro v3 σ h hk
    rw [f_law.eq_2] at h
    refine tq_iload_n dL_law_18 rfl ?_
    refine tq_xload_n dL_law_19 rfl ?_
    refine tq_slen dL_law_20 ?_
    refine tq_bipush (v := 6) dL_law_21 (by decide) ?_
    refine tq_isub dL_law_23 ?_
    refine tr_icmp_gt (tgt := 1431) dL_law_24 (by decide) h (fun c1 h => ?_) (fun c1 h => ?_)
    · refine AL.fewer (ls' := [none, none, none, none]) trivial ?_
      exact hk _ h
    · refine tq_xload_n dL_law_27 rfl ?_
      refine tq_iload_n dL_law_28 rfl ?_
      refine tr_sld dL_law_29 h (fun j1 lj1 h => ?_)
      refine tq_bipush (v := 63) dL_law_30 (by decide) ?_
      refine tq_iand dL_law_32 ?_
      refine r_case (c := ((xs X j1) &&& (63 : Int32)) = (0 : Int32)) h (fun c2 h => ?_) (fun c2 h => ?_)
      · refine tq_tin (tgt := 212) (off := 179) dL_law_33 (0 : Int32) c2 (by decide) (by decide) (by decide) (by decide) ?_
        refine tq_aload_n dL_law_212 rfl ?_
        refine tq_xload_n dL_law_213 rfl ?_
        refine tq_iload_n dL_law_214 rfl ?_
        refine tq_iconst (v := 1) dL_law_215 (by decide) ?_
        refine tq_iadd dL_law_216 ?_
        refine tr_sld dL_law_217 h (fun j2 lj2 h => ?_)
        refine tq_xload_n dL_law_218 rfl ?_
        refine tq_iload_n dL_law_219 rfl ?_
        refine tq_iconst (v := 2) dL_law_220 (by decide) ?_
        refine tq_iadd dL_law_221 ?_
        refine tr_sld dL_law_222 h (fun j3 lj3 h => ?_)
        refine tq_xload_n dL_law_223 rfl ?_
        refine tq_iload_n dL_law_224 rfl ?_
        refine tq_iconst (v := 3) dL_law_225 (by decide) ?_
        refine tq_iadd dL_law_226 ?_
        refine tr_sld dL_law_227 h (fun j4 lj4 h => ?_)
        refine tcV_iw dL_law_228 cw_L_13 ci_X7_person rfl rfl (by decide) (show 0 < 1 by omega) h (fun a1 e => F_X7_person  e) (Nat.le_of_ble_eq_true rfl) rfl rfl (Nat.le_of_ble_eq_true rfl) (fun a1 ea1 h => ?_)
        refine tq_aload_n dL_law_231 rfl ?_
        refine tq_xload_n dL_law_232 rfl ?_
        refine tq_iload_n dL_law_233 rfl ?_
        refine tq_iconst (v := 1) dL_law_234 (by decide) ?_
        refine tq_iadd dL_law_235 ?_
        refine tr_sld dL_law_236 h (fun j5 lj5 h => ?_)
        refine tq_xload_n dL_law_237 rfl ?_
        refine tq_iload_n dL_law_238 rfl ?_
        refine tq_iconst (v := 2) dL_law_239 (by decide) ?_
        refine tq_iadd dL_law_240 ?_
        refine tr_sld dL_law_241 h (fun j6 lj6 h => ?_)
        refine tq_xload_n dL_law_242 rfl ?_
        refine tq_iload_n dL_law_243 rfl ?_
        refine tq_iconst (v := 3) dL_law_244 (by decide) ?_
        refine tq_iadd dL_law_245 ?_
        refine tr_sld dL_law_246 h (fun j7 lj7 h => ?_)
        refine tcV_iw dL_law_247 cw_L_17 ci_X8_person rfl rfl (by decide) (show 0 < 1 by omega) h (fun a2 e => F_X8_person  e) (Nat.le_of_ble_eq_true rfl) rfl rfl (Nat.le_of_ble_eq_true rfl) (fun a2 ea2 h => ?_)
        refine tr_icmp_eq (tgt := 1425) dL_law_250 (by decide) h (fun c3 h => ?_) (fun c3 h => ?_)
        · refine tq_iinc (v := (v3 + (6 : Int32))) (ls' := [some (.ref (xb X)), some (rf X 7 0), some (rf X 8 0), some (.int (v3 + (6 : Int32)))]) dL_law_1425 rfl (by rfl) (by decide) (okp_at rfl) rfl ?_
          refine tq_goto (tgt := 18) dL_law_1428 (by decide) ?_
          exact ih _ _ h hk
        · refine tq_iconst (v := 0) dL_law_253 (by decide) ?_
          exact tq_end dL_law_254 h
      · refine r_case (c := ((xs X j1) &&& (63 : Int32)) = (1 : Int32)) h (fun c4 h => ?_) (fun c4 h => ?_)
        · refine tq_tin (tgt := 255) (off := 222) dL_law_33 (1 : Int32) c4 (by decide) (by decide) (by decide) (by decide) ?_
          refine tq_aload_n dL_law_255 rfl ?_
          refine tq_xload_n dL_law_256 rfl ?_
          refine tq_iload_n dL_law_257 rfl ?_
          refine tq_iconst (v := 1) dL_law_258 (by decide) ?_
          refine tq_iadd dL_law_259 ?_
          refine tr_sld dL_law_260 h (fun j8 lj8 h => ?_)
          refine tq_xload_n dL_law_261 rfl ?_
          refine tq_iload_n dL_law_262 rfl ?_
          refine tq_iconst (v := 2) dL_law_263 (by decide) ?_
          refine tq_iadd dL_law_264 ?_
          refine tr_sld dL_law_265 h (fun j9 lj9 h => ?_)
          refine tcV_ir dL_law_266 cw_L_18 ci_X7_told rfl rfl (by decide) (show 0 < 1 by omega) h (fun a3 e => F_X7_told  e) (Nat.le_of_ble_eq_true rfl) rfl rfl (Nat.le_of_ble_eq_true rfl) (fun a3 ea3 h => ?_)
          refine tq_aload_n dL_law_269 rfl ?_
          refine tq_xload_n dL_law_270 rfl ?_
          refine tq_iload_n dL_law_271 rfl ?_
          refine tq_iconst (v := 1) dL_law_272 (by decide) ?_
          refine tq_iadd dL_law_273 ?_
          refine tr_sld dL_law_274 h (fun j10 lj10 h => ?_)
          refine tq_xload_n dL_law_275 rfl ?_
          refine tq_iload_n dL_law_276 rfl ?_
          refine tq_iconst (v := 2) dL_law_277 (by decide) ?_
          refine tq_iadd dL_law_278 ?_
          refine tr_sld dL_law_279 h (fun j11 lj11 h => ?_)
          refine tcV_ir dL_law_280 cw_L_22 ci_X8_told rfl rfl (by decide) (show 0 < 1 by omega) h (fun a4 e => F_X8_told  e) (Nat.le_of_ble_eq_true rfl) rfl rfl (Nat.le_of_ble_eq_true rfl) (fun a4 ea4 h => ?_)
          refine tr_icmp_eq (tgt := 1425) dL_law_283 (by decide) h (fun c5 h => ?_) (fun c5 h => ?_)
          · refine tq_iinc (v := (v3 + (6 : Int32))) (ls' := [some (.ref (xb X)), some (rf X 7 0), some (rf X 8 0), some (.int (v3 + (6 : Int32)))]) dL_law_1425 rfl (by rfl) (by decide) (okp_at rfl) rfl ?_
            refine tq_goto (tgt := 18) dL_law_1428 (by decide) ?_
            exact ih _ _ h hk
          · refine tq_iconst (v := 0) dL_law_286 (by decide) ?_
            exact tq_end dL_law_287 h
        · refine r_case (c := ((xs X j1) &&& (63 : Int32)) = (2 : Int32)) h (fun c6 h => ?_) (fun c6 h => ?_)
          · refine tq_tin (tgt := 288) (off := 255) dL_law_33 (2 : Int32) c6 (by decide) (by decide) (by decide) (by decide) ?_
            refine tq_aload_n dL_law_288 rfl ?_
            refine tq_xload_n dL_law_289 rfl ?_
            refine tq_iload_n dL_law_290 rfl ?_
            refine tq_iconst (v := 1) dL_law_291 (by decide) ?_
            refine tq_iadd dL_law_292 ?_
            refine tr_sld dL_law_293 h (fun j12 lj12 h => ?_)
            refine tq_xload_n dL_law_294 rfl ?_
            refine tq_iload_n dL_law_295 rfl ?_
            refine tq_iconst (v := 2) dL_law_296 (by decide) ?_
            refine tq_iadd dL_law_297 ?_
            refine tr_sld dL_law_298 h (fun j13 lj13 h => ?_)
            refine tcV_ir dL_law_299 cw_L_23 ci_X7_as rfl rfl (by decide) (show 0 < 1 by omega) h (fun a5 e => F_X7_as  e) (Nat.le_of_ble_eq_true rfl) rfl rfl (Nat.le_of_ble_eq_true rfl) (fun a5 ea5 h => ?_)
            refine tq_aload_n dL_law_302 rfl ?_
            refine tq_xload_n dL_law_303 rfl ?_
            refine tq_iload_n dL_law_304 rfl ?_
            refine tq_iconst (v := 1) dL_law_305 (by decide) ?_
            refine tq_iadd dL_law_306 ?_
            refine tr_sld dL_law_307 h (fun j14 lj14 h => ?_)
            refine tq_xload_n dL_law_308 rfl ?_
            refine tq_iload_n dL_law_309 rfl ?_
            refine tq_iconst (v := 2) dL_law_310 (by decide) ?_
            refine tq_iadd dL_law_311 ?_
            refine tr_sld dL_law_312 h (fun j15 lj15 h => ?_)
            refine tcV_ir dL_law_313 cw_L_26 ci_X8_as rfl rfl (by decide) (show 0 < 1 by omega) h (fun a6 e => F_X8_as  e) (Nat.le_of_ble_eq_true rfl) rfl rfl (Nat.le_of_ble_eq_true rfl) (fun a6 ea6 h => ?_)
            refine tr_icmp_eq (tgt := 1425) dL_law_316 (by decide) h (fun c7 h => ?_) (fun c7 h => ?_)
            · refine tq_iinc (v := (v3 + (6 : Int32))) (ls' := [some (.ref (xb X)), some (rf X 7 0), some (rf X 8 0), some (.int (v3 + (6 : Int32)))]) dL_law_1425 rfl (by rfl) (by decide) (okp_at rfl) rfl ?_
              refine tq_goto (tgt := 18) dL_law_1428 (by decide) ?_
              exact ih _ _ h hk
            · refine tq_iconst (v := 0) dL_law_319 (by decide) ?_
              exact tq_end dL_law_320 h
          · refine r_case (c := ((xs X j1) &&& (63 : Int32)) = (3 : Int32)) h (fun c8 h => ?_) (fun c8 h => ?_)
            · refine tq_tin (tgt := 321) (off := 288) dL_law_33 (3 : Int32) c8 (by decide) (by decide) (by decide) (by decide) ?_
              refine tq_aload_n dL_law_321 rfl ?_
              refine tq_xload_n dL_law_322 rfl ?_
              refine tq_iload_n dL_law_323 rfl ?_
              refine tq_iconst (v := 1) dL_law_324 (by decide) ?_
              refine tq_iadd dL_law_325 ?_
              refine tr_sld dL_law_326 h (fun j16 lj16 h => ?_)
              refine tq_xload_n dL_law_327 rfl ?_
              refine tq_iload_n dL_law_328 rfl ?_
              refine tq_iconst (v := 2) dL_law_329 (by decide) ?_
              refine tq_iadd dL_law_330 ?_
              refine tr_sld dL_law_331 h (fun j17 lj17 h => ?_)
              refine tcV_iw dL_law_332 cw_L_27 ci_X7_turns rfl rfl (by decide) (show 0 < 1 by omega) h (fun a7 e => F_X7_turns  e) (Nat.le_of_ble_eq_true rfl) rfl rfl (Nat.le_of_ble_eq_true rfl) (fun a7 ea7 h => ?_)
              refine tq_aload_n dL_law_335 rfl ?_
              refine tq_xload_n dL_law_336 rfl ?_
              refine tq_iload_n dL_law_337 rfl ?_
              refine tq_iconst (v := 1) dL_law_338 (by decide) ?_
              refine tq_iadd dL_law_339 ?_
              refine tr_sld dL_law_340 h (fun j18 lj18 h => ?_)
              refine tq_xload_n dL_law_341 rfl ?_
              refine tq_iload_n dL_law_342 rfl ?_
              refine tq_iconst (v := 2) dL_law_343 (by decide) ?_
              refine tq_iadd dL_law_344 ?_
              refine tr_sld dL_law_345 h (fun j19 lj19 h => ?_)
              refine tcV_iw dL_law_346 cw_L_30 ci_X8_turns rfl rfl (by decide) (show 0 < 1 by omega) h (fun a8 e => F_X8_turns  e) (Nat.le_of_ble_eq_true rfl) rfl rfl (Nat.le_of_ble_eq_true rfl) (fun a8 ea8 h => ?_)
              refine tr_icmp_eq (tgt := 1425) dL_law_349 (by decide) h (fun c9 h => ?_) (fun c9 h => ?_)
              · refine tq_iinc (v := (v3 + (6 : Int32))) (ls' := [some (.ref (xb X)), some (rf X 7 0), some (rf X 8 0), some (.int (v3 + (6 : Int32)))]) dL_law_1425 rfl (by rfl) (by decide) (okp_at rfl) rfl ?_
                refine tq_goto (tgt := 18) dL_law_1428 (by decide) ?_
                exact ih _ _ h hk
              · refine tq_iconst (v := 0) dL_law_352 (by decide) ?_
                exact tq_end dL_law_353 h
            · refine r_case (c := ((xs X j1) &&& (63 : Int32)) = (4 : Int32)) h (fun c10 h => ?_) (fun c10 h => ?_)
              · refine tq_tin (tgt := 354) (off := 321) dL_law_33 (4 : Int32) c10 (by decide) (by decide) (by decide) (by decide) ?_
                refine tq_aload_n dL_law_354 rfl ?_
                refine tq_xload_n dL_law_355 rfl ?_
                refine tq_iload_n dL_law_356 rfl ?_
                refine tq_iconst (v := 1) dL_law_357 (by decide) ?_
                refine tq_iadd dL_law_358 ?_
                refine tr_sld dL_law_359 h (fun j20 lj20 h => ?_)
                refine tq_xload_n dL_law_360 rfl ?_
                refine tq_iload_n dL_law_361 rfl ?_
                refine tq_iconst (v := 2) dL_law_362 (by decide) ?_
                refine tq_iadd dL_law_363 ?_
                refine tr_sld dL_law_364 h (fun j21 lj21 h => ?_)
                refine tq_xload_n dL_law_365 rfl ?_
                refine tq_iload_n dL_law_366 rfl ?_
                refine tq_iconst (v := 3) dL_law_367 (by decide) ?_
                refine tq_iadd dL_law_368 ?_
                refine tr_sld dL_law_369 h (fun j22 lj22 h => ?_)
                refine tcV_iw dL_law_370 cw_L_31 ci_X7_set rfl rfl (by decide) (show 0 < 1 by omega) h (fun a9 e => F_X7_set  e) (Nat.le_of_ble_eq_true rfl) rfl rfl (Nat.le_of_ble_eq_true rfl) (fun a9 ea9 h => ?_)
                refine tq_aload_n dL_law_373 rfl ?_
                refine tq_xload_n dL_law_374 rfl ?_
                refine tq_iload_n dL_law_375 rfl ?_
                refine tq_iconst (v := 1) dL_law_376 (by decide) ?_
                refine tq_iadd dL_law_377 ?_
                refine tr_sld dL_law_378 h (fun j23 lj23 h => ?_)
                refine tq_xload_n dL_law_379 rfl ?_
                refine tq_iload_n dL_law_380 rfl ?_
                refine tq_iconst (v := 2) dL_law_381 (by decide) ?_
                refine tq_iadd dL_law_382 ?_
                refine tr_sld dL_law_383 h (fun j24 lj24 h => ?_)
                refine tq_xload_n dL_law_384 rfl ?_
                refine tq_iload_n dL_law_385 rfl ?_
                refine tq_iconst (v := 3) dL_law_386 (by decide) ?_
                refine tq_iadd dL_law_387 ?_
                refine tr_sld dL_law_388 h (fun j25 lj25 h => ?_)
                refine tcV_iw dL_law_389 cw_L_34 ci_X8_set rfl rfl (by decide) (show 0 < 1 by omega) h (fun a10 e => F_X8_set  e) (Nat.le_of_ble_eq_true rfl) rfl rfl (Nat.le_of_ble_eq_true rfl) (fun a10 ea10 h => ?_)
                refine tr_icmp_eq (tgt := 1425) dL_law_392 (by decide) h (fun c11 h => ?_) (fun c11 h => ?_)
                · refine tq_iinc (v := (v3 + (6 : Int32))) (ls' := [some (.ref (xb X)), some (rf X 7 0), some (rf X 8 0), some (.int (v3 + (6 : Int32)))]) dL_law_1425 rfl (by rfl) (by decide) (okp_at rfl) rfl ?_
                  refine tq_goto (tgt := 18) dL_law_1428 (by decide) ?_
                  exact ih _ _ h hk
                · refine tq_iconst (v := 0) dL_law_395 (by decide) ?_
                  exact tq_end dL_law_396 h
              · refine r_case (c := ((xs X j1) &&& (63 : Int32)) = (5 : Int32)) h (fun c12 h => ?_) (fun c12 h => ?_)
                · refine tq_tin (tgt := 397) (off := 364) dL_law_33 (5 : Int32) c12 (by decide) (by decide) (by decide) (by decide) ?_
                  refine tq_aload_n dL_law_397 rfl ?_
                  refine tq_xload_n dL_law_398 rfl ?_
                  refine tq_iload_n dL_law_399 rfl ?_
                  refine tq_iconst (v := 1) dL_law_400 (by decide) ?_
                  refine tq_iadd dL_law_401 ?_
                  refine tr_sld dL_law_402 h (fun j26 lj26 h => ?_)
                  refine tq_xload_n dL_law_403 rfl ?_
                  refine tq_iload_n dL_law_404 rfl ?_
                  refine tq_iconst (v := 2) dL_law_405 (by decide) ?_
                  refine tq_iadd dL_law_406 ?_
                  refine tr_sld dL_law_407 h (fun j27 lj27 h => ?_)
                  refine tq_xload_n dL_law_408 rfl ?_
                  refine tq_iload_n dL_law_409 rfl ?_
                  refine tq_iconst (v := 3) dL_law_410 (by decide) ?_
                  refine tq_iadd dL_law_411 ?_
                  refine tr_sld dL_law_412 h (fun j28 lj28 h => ?_)
                  refine tcV_iw dL_law_413 cw_L_35 ci_X7_vow rfl rfl (by decide) (show 0 < 1 by omega) h (fun a11 e => F_X7_vow  e) (Nat.le_of_ble_eq_true rfl) rfl rfl (Nat.le_of_ble_eq_true rfl) (fun a11 ea11 h => ?_)
                  refine tq_aload_n dL_law_416 rfl ?_
                  refine tq_xload_n dL_law_417 rfl ?_
                  refine tq_iload_n dL_law_418 rfl ?_
                  refine tq_iconst (v := 1) dL_law_419 (by decide) ?_
                  refine tq_iadd dL_law_420 ?_
                  refine tr_sld dL_law_421 h (fun j29 lj29 h => ?_)
                  refine tq_xload_n dL_law_422 rfl ?_
                  refine tq_iload_n dL_law_423 rfl ?_
                  refine tq_iconst (v := 2) dL_law_424 (by decide) ?_
                  refine tq_iadd dL_law_425 ?_
                  refine tr_sld dL_law_426 h (fun j30 lj30 h => ?_)
                  refine tq_xload_n dL_law_427 rfl ?_
                  refine tq_iload_n dL_law_428 rfl ?_
                  refine tq_iconst (v := 3) dL_law_429 (by decide) ?_
                  refine tq_iadd dL_law_430 ?_
                  refine tr_sld dL_law_431 h (fun j31 lj31 h => ?_)
                  refine tcV_iw dL_law_432 cw_L_38 ci_X8_vow rfl rfl (by decide) (show 0 < 1 by omega) h (fun a12 e => F_X8_vow  e) (Nat.le_of_ble_eq_true rfl) rfl rfl (Nat.le_of_ble_eq_true rfl) (fun a12 ea12 h => ?_)
                  refine tr_icmp_eq (tgt := 1425) dL_law_435 (by decide) h (fun c13 h => ?_) (fun c13 h => ?_)
                  · refine tq_iinc (v := (v3 + (6 : Int32))) (ls' := [some (.ref (xb X)), some (rf X 7 0), some (rf X 8 0), some (.int (v3 + (6 : Int32)))]) dL_law_1425 rfl (by rfl) (by decide) (okp_at rfl) rfl ?_
                    refine tq_goto (tgt := 18) dL_law_1428 (by decide) ?_
                    exact ih _ _ h hk
                  · refine tq_iconst (v := 0) dL_law_438 (by decide) ?_
                    exact tq_end dL_law_439 h
                · refine r_case (c := ((xs X j1) &&& (63 : Int32)) = (6 : Int32)) h (fun c14 h => ?_) (fun c14 h => ?_)
                  · refine tq_tin (tgt := 440) (off := 407) dL_law_33 (6 : Int32) c14 (by decide) (by decide) (by decide) (by decide) ?_
                    refine tq_aload_n dL_law_440 rfl ?_
                    refine tq_xload_n dL_law_441 rfl ?_
                    refine tq_iload_n dL_law_442 rfl ?_
                    refine tq_iconst (v := 1) dL_law_443 (by decide) ?_
                    refine tq_iadd dL_law_444 ?_
                    refine tr_sld dL_law_445 h (fun j32 lj32 h => ?_)
                    refine tq_xload_n dL_law_446 rfl ?_
                    refine tq_iload_n dL_law_447 rfl ?_
                    refine tq_iconst (v := 2) dL_law_448 (by decide) ?_
                    refine tq_iadd dL_law_449 ?_
                    refine tr_sld dL_law_450 h (fun j33 lj33 h => ?_)
                    refine tcV_iw dL_law_451 cw_L_39 ci_X7_vowOf rfl rfl (by decide) (show 0 < 1 by omega) h (fun a13 e => F_X7_vowOf  e) (Nat.le_of_ble_eq_true rfl) rfl rfl (Nat.le_of_ble_eq_true rfl) (fun a13 ea13 h => ?_)
                    refine tq_aload_n dL_law_454 rfl ?_
                    refine tq_xload_n dL_law_455 rfl ?_
                    refine tq_iload_n dL_law_456 rfl ?_
                    refine tq_iconst (v := 1) dL_law_457 (by decide) ?_
                    refine tq_iadd dL_law_458 ?_
                    refine tr_sld dL_law_459 h (fun j34 lj34 h => ?_)
                    refine tq_xload_n dL_law_460 rfl ?_
                    refine tq_iload_n dL_law_461 rfl ?_
                    refine tq_iconst (v := 2) dL_law_462 (by decide) ?_
                    refine tq_iadd dL_law_463 ?_
                    refine tr_sld dL_law_464 h (fun j35 lj35 h => ?_)
                    refine tcV_iw dL_law_465 cw_L_42 ci_X8_vowOf rfl rfl (by decide) (show 0 < 1 by omega) h (fun a14 e => F_X8_vowOf  e) (Nat.le_of_ble_eq_true rfl) rfl rfl (Nat.le_of_ble_eq_true rfl) (fun a14 ea14 h => ?_)
                    refine tr_icmp_eq (tgt := 1425) dL_law_468 (by decide) h (fun c15 h => ?_) (fun c15 h => ?_)
                    · refine tq_iinc (v := (v3 + (6 : Int32))) (ls' := [some (.ref (xb X)), some (rf X 7 0), some (rf X 8 0), some (.int (v3 + (6 : Int32)))]) dL_law_1425 rfl (by rfl) (by decide) (okp_at rfl) rfl ?_
                      refine tq_goto (tgt := 18) dL_law_1428 (by decide) ?_
                      exact ih _ _ h hk
                    · refine tq_iconst (v := 0) dL_law_471 (by decide) ?_
                      exact tq_end dL_law_472 h
                  · refine r_case (c := ((xs X j1) &&& (63 : Int32)) = (7 : Int32)) h (fun c16 h => ?_) (fun c16 h => ?_)
                    · refine tq_tin (tgt := 473) (off := 440) dL_law_33 (7 : Int32) c16 (by decide) (by decide) (by decide) (by decide) ?_
                      refine tq_aload_n dL_law_473 rfl ?_
                      refine tq_xload_n dL_law_474 rfl ?_
                      refine tq_iload_n dL_law_475 rfl ?_
                      refine tq_iconst (v := 1) dL_law_476 (by decide) ?_
                      refine tq_iadd dL_law_477 ?_
                      refine tr_sld dL_law_478 h (fun j36 lj36 h => ?_)
                      refine tcV_iw dL_law_479 cw_L_43 ci_X7_breaks rfl rfl (by decide) (show 0 < 1 by omega) h (fun a15 e => F_X7_breaks  e) (Nat.le_of_ble_eq_true rfl) rfl rfl (Nat.le_of_ble_eq_true rfl) (fun a15 ea15 h => ?_)
                      refine tq_aload_n dL_law_482 rfl ?_
                      refine tq_xload_n dL_law_483 rfl ?_
                      refine tq_iload_n dL_law_484 rfl ?_
                      refine tq_iconst (v := 1) dL_law_485 (by decide) ?_
                      refine tq_iadd dL_law_486 ?_
                      refine tr_sld dL_law_487 h (fun j37 lj37 h => ?_)
                      refine tcV_iw dL_law_488 cw_L_47 ci_X8_breaks rfl rfl (by decide) (show 0 < 1 by omega) h (fun a16 e => F_X8_breaks  e) (Nat.le_of_ble_eq_true rfl) rfl rfl (Nat.le_of_ble_eq_true rfl) (fun a16 ea16 h => ?_)
                      refine tr_icmp_eq (tgt := 1425) dL_law_491 (by decide) h (fun c17 h => ?_) (fun c17 h => ?_)
                      · refine tq_iinc (v := (v3 + (6 : Int32))) (ls' := [some (.ref (xb X)), some (rf X 7 0), some (rf X 8 0), some (.int (v3 + (6 : Int32)))]) dL_law_1425 rfl (by rfl) (by decide) (okp_at rfl) rfl ?_
                        refine tq_goto (tgt := 18) dL_law_1428 (by decide) ?_
                        exact ih _ _ h hk
                      · refine tq_iconst (v := 0) dL_law_494 (by decide) ?_
                        exact tq_end dL_law_495 h
                    · refine r_case (c := ((xs X j1) &&& (63 : Int32)) = (8 : Int32)) h (fun c18 h => ?_) (fun c18 h => ?_)
                      · refine tq_tin (tgt := 496) (off := 463) dL_law_33 (8 : Int32) c18 (by decide) (by decide) (by decide) (by decide) ?_
                        refine tq_aload_n dL_law_496 rfl ?_
                        refine tcV_iw dL_law_497 cw_L_48 ci_X7_eclipse rfl rfl (by decide) (show 0 < 1 by omega) h (fun a17 e => F_X7_eclipse  e) (Nat.le_of_ble_eq_true rfl) rfl rfl (Nat.le_of_ble_eq_true rfl) (fun a17 ea17 h => ?_)
                        refine tq_aload_n dL_law_500 rfl ?_
                        refine tcV_iw dL_law_501 cw_L_52 ci_X8_eclipse rfl rfl (by decide) (show 0 < 1 by omega) h (fun a18 e => F_X8_eclipse  e) (Nat.le_of_ble_eq_true rfl) rfl rfl (Nat.le_of_ble_eq_true rfl) (fun a18 ea18 h => ?_)
                        refine tr_icmp_eq (tgt := 1425) dL_law_504 (by decide) h (fun c19 h => ?_) (fun c19 h => ?_)
                        · refine tq_iinc (v := (v3 + (6 : Int32))) (ls' := [some (.ref (xb X)), some (rf X 7 0), some (rf X 8 0), some (.int (v3 + (6 : Int32)))]) dL_law_1425 rfl (by rfl) (by decide) (okp_at rfl) rfl ?_
                          refine tq_goto (tgt := 18) dL_law_1428 (by decide) ?_
                          exact ih _ _ h hk
                        · refine tq_iconst (v := 0) dL_law_507 (by decide) ?_
                          exact tq_end dL_law_508 h
                      · refine r_case (c := ((xs X j1) &&& (63 : Int32)) = (9 : Int32)) h (fun c20 h => ?_) (fun c20 h => ?_)
                        · refine tq_tin (tgt := 509) (off := 476) dL_law_33 (9 : Int32) c20 (by decide) (by decide) (by decide) (by decide) ?_
                          refine tq_aload_n dL_law_509 rfl ?_
                          refine tq_xload_n dL_law_510 rfl ?_
                          refine tq_iload_n dL_law_511 rfl ?_
                          refine tq_iconst (v := 1) dL_law_512 (by decide) ?_
                          refine tq_iadd dL_law_513 ?_
                          refine tr_sld dL_law_514 h (fun j38 lj38 h => ?_)
                          refine tcV_iw dL_law_515 cw_L_53 ci_X7_deal rfl rfl (by decide) (show 0 < 1 by omega) h (fun a19 e => F_X7_deal  e) (Nat.le_of_ble_eq_true rfl) rfl rfl (Nat.le_of_ble_eq_true rfl) (fun a19 ea19 h => ?_)
                          refine tq_aload_n dL_law_518 rfl ?_
                          refine tq_xload_n dL_law_519 rfl ?_
                          refine tq_iload_n dL_law_520 rfl ?_
                          refine tq_iconst (v := 1) dL_law_521 (by decide) ?_
                          refine tq_iadd dL_law_522 ?_
                          refine tr_sld dL_law_523 h (fun j39 lj39 h => ?_)
                          refine tcV_iw dL_law_524 cw_L_56 ci_X8_deal rfl rfl (by decide) (show 0 < 1 by omega) h (fun a20 e => F_X8_deal  e) (Nat.le_of_ble_eq_true rfl) rfl rfl (Nat.le_of_ble_eq_true rfl) (fun a20 ea20 h => ?_)
                          refine tr_icmp_eq (tgt := 1425) dL_law_527 (by decide) h (fun c21 h => ?_) (fun c21 h => ?_)
                          · refine tq_iinc (v := (v3 + (6 : Int32))) (ls' := [some (.ref (xb X)), some (rf X 7 0), some (rf X 8 0), some (.int (v3 + (6 : Int32)))]) dL_law_1425 rfl (by rfl) (by decide) (okp_at rfl) rfl ?_
                            refine tq_goto (tgt := 18) dL_law_1428 (by decide) ?_
                            exact ih _ _ h hk
                          · refine tq_iconst (v := 0) dL_law_530 (by decide) ?_
                            exact tq_end dL_law_531 h
                        · refine r_case (c := ((xs X j1) &&& (63 : Int32)) = (10 : Int32)) h (fun c22 h => ?_) (fun c22 h => ?_)
                          · refine tq_tin (tgt := 532) (off := 499) dL_law_33 (10 : Int32) c22 (by decide) (by decide) (by decide) (by decide) ?_
                            refine tq_aload_n dL_law_532 rfl ?_
                            refine tq_xload_n dL_law_533 rfl ?_
                            refine tq_iload_n dL_law_534 rfl ?_
                            refine tq_iconst (v := 1) dL_law_535 (by decide) ?_
                            refine tq_iadd dL_law_536 ?_
                            refine tr_sld dL_law_537 h (fun j40 lj40 h => ?_)
                            refine tcV_iw dL_law_538 cw_L_57 ci_X7_seed rfl rfl (by decide) (show 0 < 1 by omega) h (fun a21 e => F_X7_seed  e) (Nat.le_of_ble_eq_true rfl) rfl rfl (Nat.le_of_ble_eq_true rfl) (fun a21 ea21 h => ?_)
                            refine tq_aload_n dL_law_541 rfl ?_
                            refine tq_xload_n dL_law_542 rfl ?_
                            refine tq_iload_n dL_law_543 rfl ?_
                            refine tq_iconst (v := 1) dL_law_544 (by decide) ?_
                            refine tq_iadd dL_law_545 ?_
                            refine tr_sld dL_law_546 h (fun j41 lj41 h => ?_)
                            refine tcV_iw dL_law_547 cw_L_60 ci_X8_seed rfl rfl (by decide) (show 0 < 1 by omega) h (fun a22 e => F_X8_seed  e) (Nat.le_of_ble_eq_true rfl) rfl rfl (Nat.le_of_ble_eq_true rfl) (fun a22 ea22 h => ?_)
                            refine tr_icmp_eq (tgt := 1425) dL_law_550 (by decide) h (fun c23 h => ?_) (fun c23 h => ?_)
                            · refine tq_iinc (v := (v3 + (6 : Int32))) (ls' := [some (.ref (xb X)), some (rf X 7 0), some (rf X 8 0), some (.int (v3 + (6 : Int32)))]) dL_law_1425 rfl (by rfl) (by decide) (okp_at rfl) rfl ?_
                              refine tq_goto (tgt := 18) dL_law_1428 (by decide) ?_
                              exact ih _ _ h hk
                            · refine tq_iconst (v := 0) dL_law_553 (by decide) ?_
                              exact tq_end dL_law_554 h
                          · refine r_case (c := ((xs X j1) &&& (63 : Int32)) = (11 : Int32)) h (fun c24 h => ?_) (fun c24 h => ?_)
                            · refine tq_tin (tgt := 555) (off := 522) dL_law_33 (11 : Int32) c24 (by decide) (by decide) (by decide) (by decide) ?_
                              refine tq_aload_n dL_law_555 rfl ?_
                              refine tq_xload_n dL_law_556 rfl ?_
                              refine tq_iload_n dL_law_557 rfl ?_
                              refine tq_iconst (v := 1) dL_law_558 (by decide) ?_
                              refine tq_iadd dL_law_559 ?_
                              refine tr_sld dL_law_560 h (fun j42 lj42 h => ?_)
                              refine tcV_iw dL_law_561 cw_L_61 ci_X7_hours rfl rfl (by decide) (show 0 < 1 by omega) h (fun a23 e => F_X7_hours  e) (Nat.le_of_ble_eq_true rfl) rfl rfl (Nat.le_of_ble_eq_true rfl) (fun a23 ea23 h => ?_)
                              refine tq_aload_n dL_law_564 rfl ?_
                              refine tq_xload_n dL_law_565 rfl ?_
                              refine tq_iload_n dL_law_566 rfl ?_
                              refine tq_iconst (v := 1) dL_law_567 (by decide) ?_
                              refine tq_iadd dL_law_568 ?_
                              refine tr_sld dL_law_569 h (fun j43 lj43 h => ?_)
                              refine tcV_iw dL_law_570 cw_L_64 ci_X8_hours rfl rfl (by decide) (show 0 < 1 by omega) h (fun a24 e => F_X8_hours  e) (Nat.le_of_ble_eq_true rfl) rfl rfl (Nat.le_of_ble_eq_true rfl) (fun a24 ea24 h => ?_)
                              refine tr_icmp_eq (tgt := 1425) dL_law_573 (by decide) h (fun c25 h => ?_) (fun c25 h => ?_)
                              · refine tq_iinc (v := (v3 + (6 : Int32))) (ls' := [some (.ref (xb X)), some (rf X 7 0), some (rf X 8 0), some (.int (v3 + (6 : Int32)))]) dL_law_1425 rfl (by rfl) (by decide) (okp_at rfl) rfl ?_
                                refine tq_goto (tgt := 18) dL_law_1428 (by decide) ?_
                                exact ih _ _ h hk
                              · refine tq_iconst (v := 0) dL_law_576 (by decide) ?_
                                exact tq_end dL_law_577 h
                            · refine r_case (c := ((xs X j1) &&& (63 : Int32)) = (12 : Int32)) h (fun c26 h => ?_) (fun c26 h => ?_)
                              · refine tq_tin (tgt := 578) (off := 545) dL_law_33 (12 : Int32) c26 (by decide) (by decide) (by decide) (by decide) ?_
                                refine tq_aload_n dL_law_578 rfl ?_
                                refine tq_xload_n dL_law_579 rfl ?_
                                refine tq_iload_n dL_law_580 rfl ?_
                                refine tq_iconst (v := 1) dL_law_581 (by decide) ?_
                                refine tq_iadd dL_law_582 ?_
                                refine tr_sld dL_law_583 h (fun j44 lj44 h => ?_)
                                refine tcV_ir dL_law_584 cw_L_65 ci_X7_land rfl rfl (by decide) (show 0 < 1 by omega) h (fun a25 e => F_X7_land  e) (Nat.le_of_ble_eq_true rfl) rfl rfl (Nat.le_of_ble_eq_true rfl) (fun a25 ea25 h => ?_)
                                refine tq_aload_n dL_law_587 rfl ?_
                                refine tq_xload_n dL_law_588 rfl ?_
                                refine tq_iload_n dL_law_589 rfl ?_
                                refine tq_iconst (v := 1) dL_law_590 (by decide) ?_
                                refine tq_iadd dL_law_591 ?_
                                refine tr_sld dL_law_592 h (fun j45 lj45 h => ?_)
                                refine tcV_iw dL_law_593 cw_L_68 ci_X8_land rfl rfl (by decide) (show 0 < 1 by omega) h (fun a26 e => F_X8_land  e) (Nat.le_of_ble_eq_true rfl) rfl rfl (Nat.le_of_ble_eq_true rfl) (fun a26 ea26 h => ?_)
                                refine tr_icmp_eq (tgt := 1425) dL_law_596 (by decide) h (fun c27 h => ?_) (fun c27 h => ?_)
                                · refine tq_iinc (v := (v3 + (6 : Int32))) (ls' := [some (.ref (xb X)), some (rf X 7 0), some (rf X 8 0), some (.int (v3 + (6 : Int32)))]) dL_law_1425 rfl (by rfl) (by decide) (okp_at rfl) rfl ?_
                                  refine tq_goto (tgt := 18) dL_law_1428 (by decide) ?_
                                  exact ih _ _ h hk
                                · refine tq_iconst (v := 0) dL_law_599 (by decide) ?_
                                  exact tq_end dL_law_600 h
                              · refine r_case (c := ((xs X j1) &&& (63 : Int32)) = (13 : Int32)) h (fun c28 h => ?_) (fun c28 h => ?_)
                                · refine tq_tin (tgt := 601) (off := 568) dL_law_33 (13 : Int32) c28 (by decide) (by decide) (by decide) (by decide) ?_
                                  refine tq_aload_n dL_law_601 rfl ?_
                                  refine tq_xload_n dL_law_602 rfl ?_
                                  refine tq_iload_n dL_law_603 rfl ?_
                                  refine tq_iconst (v := 1) dL_law_604 (by decide) ?_
                                  refine tq_iadd dL_law_605 ?_
                                  refine tr_sld dL_law_606 h (fun j46 lj46 h => ?_)
                                  refine tq_xload_n dL_law_607 rfl ?_
                                  refine tq_iload_n dL_law_608 rfl ?_
                                  refine tq_iconst (v := 2) dL_law_609 (by decide) ?_
                                  refine tq_iadd dL_law_610 ?_
                                  refine tr_sld dL_law_611 h (fun j47 lj47 h => ?_)
                                  refine tcV_ir dL_law_612 cw_L_69 ci_X7_reaches rfl rfl (by decide) (show 0 < 1 by omega) h (fun a27 e => F_X7_reaches  e) (Nat.le_of_ble_eq_true rfl) rfl rfl (Nat.le_of_ble_eq_true rfl) (fun a27 ea27 h => ?_)
                                  refine tq_aload_n dL_law_615 rfl ?_
                                  refine tq_xload_n dL_law_616 rfl ?_
                                  refine tq_iload_n dL_law_617 rfl ?_
                                  refine tq_iconst (v := 1) dL_law_618 (by decide) ?_
                                  refine tq_iadd dL_law_619 ?_
                                  refine tr_sld dL_law_620 h (fun j48 lj48 h => ?_)
                                  refine tq_xload_n dL_law_621 rfl ?_
                                  refine tq_iload_n dL_law_622 rfl ?_
                                  refine tq_iconst (v := 2) dL_law_623 (by decide) ?_
                                  refine tq_iadd dL_law_624 ?_
                                  refine tr_sld dL_law_625 h (fun j49 lj49 h => ?_)
                                  refine tcV_iw dL_law_626 cw_L_72 ci_X8_reaches rfl rfl (by decide) (show 0 < 1 by omega) h (fun a28 e => F_X8_reaches  e) (Nat.le_of_ble_eq_true rfl) rfl rfl (Nat.le_of_ble_eq_true rfl) (fun a28 ea28 h => ?_)
                                  refine tr_icmp_eq (tgt := 1425) dL_law_629 (by decide) h (fun c29 h => ?_) (fun c29 h => ?_)
                                  · refine tq_iinc (v := (v3 + (6 : Int32))) (ls' := [some (.ref (xb X)), some (rf X 7 0), some (rf X 8 0), some (.int (v3 + (6 : Int32)))]) dL_law_1425 rfl (by rfl) (by decide) (okp_at rfl) rfl ?_
                                    refine tq_goto (tgt := 18) dL_law_1428 (by decide) ?_
                                    exact ih _ _ h hk
                                  · refine tq_iconst (v := 0) dL_law_632 (by decide) ?_
                                    exact tq_end dL_law_633 h
                                · refine r_case (c := ((xs X j1) &&& (63 : Int32)) = (14 : Int32)) h (fun c30 h => ?_) (fun c30 h => ?_)
                                  · refine tq_tin (tgt := 634) (off := 601) dL_law_33 (14 : Int32) c30 (by decide) (by decide) (by decide) (by decide) ?_
                                    refine tq_aload_n dL_law_634 rfl ?_
                                    refine tq_xload_n dL_law_635 rfl ?_
                                    refine tq_iload_n dL_law_636 rfl ?_
                                    refine tq_iconst (v := 1) dL_law_637 (by decide) ?_
                                    refine tq_iadd dL_law_638 ?_
                                    refine tr_sld dL_law_639 h (fun j50 lj50 h => ?_)
                                    refine tq_xload_n dL_law_640 rfl ?_
                                    refine tq_iload_n dL_law_641 rfl ?_
                                    refine tq_iconst (v := 2) dL_law_642 (by decide) ?_
                                    refine tq_iadd dL_law_643 ?_
                                    refine tr_sld dL_law_644 h (fun j51 lj51 h => ?_)
                                    refine tcV_iw dL_law_645 cw_L_73 ci_X7_behind rfl rfl (by decide) (show 0 < 1 by omega) h (fun a29 e => F_X7_behind  e) (Nat.le_of_ble_eq_true rfl) rfl rfl (Nat.le_of_ble_eq_true rfl) (fun a29 ea29 h => ?_)
                                    refine tq_aload_n dL_law_648 rfl ?_
                                    refine tq_xload_n dL_law_649 rfl ?_
                                    refine tq_iload_n dL_law_650 rfl ?_
                                    refine tq_iconst (v := 1) dL_law_651 (by decide) ?_
                                    refine tq_iadd dL_law_652 ?_
                                    refine tr_sld dL_law_653 h (fun j52 lj52 h => ?_)
                                    refine tq_xload_n dL_law_654 rfl ?_
                                    refine tq_iload_n dL_law_655 rfl ?_
                                    refine tq_iconst (v := 2) dL_law_656 (by decide) ?_
                                    refine tq_iadd dL_law_657 ?_
                                    refine tr_sld dL_law_658 h (fun j53 lj53 h => ?_)
                                    refine tcV_iw dL_law_659 cw_L_76 ci_X8_behind rfl rfl (by decide) (show 0 < 1 by omega) h (fun a30 e => F_X8_behind  e) (Nat.le_of_ble_eq_true rfl) rfl rfl (Nat.le_of_ble_eq_true rfl) (fun a30 ea30 h => ?_)
                                    refine tr_icmp_eq (tgt := 1425) dL_law_662 (by decide) h (fun c31 h => ?_) (fun c31 h => ?_)
                                    · refine tq_iinc (v := (v3 + (6 : Int32))) (ls' := [some (.ref (xb X)), some (rf X 7 0), some (rf X 8 0), some (.int (v3 + (6 : Int32)))]) dL_law_1425 rfl (by rfl) (by decide) (okp_at rfl) rfl ?_
                                      refine tq_goto (tgt := 18) dL_law_1428 (by decide) ?_
                                      exact ih _ _ h hk
                                    · refine tq_iconst (v := 0) dL_law_665 (by decide) ?_
                                      exact tq_end dL_law_666 h
                                  · refine r_case (c := ((xs X j1) &&& (63 : Int32)) = (15 : Int32)) h (fun c32 h => ?_) (fun c32 h => ?_)
                                    · refine tq_tin (tgt := 667) (off := 634) dL_law_33 (15 : Int32) c32 (by decide) (by decide) (by decide) (by decide) ?_
                                      refine tq_aload_n dL_law_667 rfl ?_
                                      refine tcV_iw dL_law_668 cw_L_77 ci_X7_free rfl rfl (by decide) (show 0 < 1 by omega) h (fun a31 e => F_X7_free  e) (Nat.le_of_ble_eq_true rfl) rfl rfl (Nat.le_of_ble_eq_true rfl) (fun a31 ea31 h => ?_)
                                      refine tq_aload_n dL_law_671 rfl ?_
                                      refine tcV_iw dL_law_672 cw_L_80 ci_X8_free rfl rfl (by decide) (show 0 < 1 by omega) h (fun a32 e => F_X8_free  e) (Nat.le_of_ble_eq_true rfl) rfl rfl (Nat.le_of_ble_eq_true rfl) (fun a32 ea32 h => ?_)
                                      refine tr_icmp_eq (tgt := 1425) dL_law_675 (by decide) h (fun c33 h => ?_) (fun c33 h => ?_)
                                      · refine tq_iinc (v := (v3 + (6 : Int32))) (ls' := [some (.ref (xb X)), some (rf X 7 0), some (rf X 8 0), some (.int (v3 + (6 : Int32)))]) dL_law_1425 rfl (by rfl) (by decide) (okp_at rfl) rfl ?_
                                        refine tq_goto (tgt := 18) dL_law_1428 (by decide) ?_
                                        exact ih _ _ h hk
                                      · refine tq_iconst (v := 0) dL_law_678 (by decide) ?_
                                        exact tq_end dL_law_679 h
                                    · refine r_case (c := ((xs X j1) &&& (63 : Int32)) = (16 : Int32)) h (fun c34 h => ?_) (fun c34 h => ?_)
                                      · refine tq_tin (tgt := 680) (off := 647) dL_law_33 (16 : Int32) c34 (by decide) (by decide) (by decide) (by decide) ?_
                                        refine tq_aload_n dL_law_680 rfl ?_
                                        refine tq_xload_n dL_law_681 rfl ?_
                                        refine tq_iload_n dL_law_682 rfl ?_
                                        refine tq_iconst (v := 1) dL_law_683 (by decide) ?_
                                        refine tq_iadd dL_law_684 ?_
                                        refine tr_sld dL_law_685 h (fun j54 lj54 h => ?_)
                                        refine tq_xload_n dL_law_686 rfl ?_
                                        refine tq_iload_n dL_law_687 rfl ?_
                                        refine tq_iconst (v := 2) dL_law_688 (by decide) ?_
                                        refine tq_iadd dL_law_689 ?_
                                        refine tr_sld dL_law_690 h (fun j55 lj55 h => ?_)
                                        refine tcV_iw dL_law_691 cw_L_81 ci_X7_sworn rfl rfl (by decide) (show 0 < 1 by omega) h (fun a33 e => F_X7_sworn  e) (Nat.le_of_ble_eq_true rfl) rfl rfl (Nat.le_of_ble_eq_true rfl) (fun a33 ea33 h => ?_)
                                        refine tq_aload_n dL_law_694 rfl ?_
                                        refine tq_xload_n dL_law_695 rfl ?_
                                        refine tq_iload_n dL_law_696 rfl ?_
                                        refine tq_iconst (v := 1) dL_law_697 (by decide) ?_
                                        refine tq_iadd dL_law_698 ?_
                                        refine tr_sld dL_law_699 h (fun j56 lj56 h => ?_)
                                        refine tq_xload_n dL_law_700 rfl ?_
                                        refine tq_iload_n dL_law_701 rfl ?_
                                        refine tq_iconst (v := 2) dL_law_702 (by decide) ?_
                                        refine tq_iadd dL_law_703 ?_
                                        refine tr_sld dL_law_704 h (fun j57 lj57 h => ?_)
                                        refine tcV_iw dL_law_705 cw_L_84 ci_X8_sworn rfl rfl (by decide) (show 0 < 1 by omega) h (fun a34 e => F_X8_sworn  e) (Nat.le_of_ble_eq_true rfl) rfl rfl (Nat.le_of_ble_eq_true rfl) (fun a34 ea34 h => ?_)
                                        refine tr_icmp_eq (tgt := 1425) dL_law_708 (by decide) h (fun c35 h => ?_) (fun c35 h => ?_)
                                        · refine tq_iinc (v := (v3 + (6 : Int32))) (ls' := [some (.ref (xb X)), some (rf X 7 0), some (rf X 8 0), some (.int (v3 + (6 : Int32)))]) dL_law_1425 rfl (by rfl) (by decide) (okp_at rfl) rfl ?_
                                          refine tq_goto (tgt := 18) dL_law_1428 (by decide) ?_
                                          exact ih _ _ h hk
                                        · refine tq_iconst (v := 0) dL_law_711 (by decide) ?_
                                          exact tq_end dL_law_712 h
                                      · refine r_case (c := ((xs X j1) &&& (63 : Int32)) = (17 : Int32)) h (fun c36 h => ?_) (fun c36 h => ?_)
                                        · refine tq_tin (tgt := 713) (off := 680) dL_law_33 (17 : Int32) c36 (by decide) (by decide) (by decide) (by decide) ?_
                                          refine tq_aload_n dL_law_713 rfl ?_
                                          refine tq_xload_n dL_law_714 rfl ?_
                                          refine tq_iload_n dL_law_715 rfl ?_
                                          refine tq_iconst (v := 1) dL_law_716 (by decide) ?_
                                          refine tq_iadd dL_law_717 ?_
                                          refine tr_sld dL_law_718 h (fun j58 lj58 h => ?_)
                                          refine tq_xload_n dL_law_719 rfl ?_
                                          refine tq_iload_n dL_law_720 rfl ?_
                                          refine tq_iconst (v := 2) dL_law_721 (by decide) ?_
                                          refine tq_iadd dL_law_722 ?_
                                          refine tr_sld dL_law_723 h (fun j59 lj59 h => ?_)
                                          refine tcV_iw dL_law_724 cw_L_85 ci_X7_trust rfl rfl (by decide) (show 0 < 1 by omega) h (fun a35 e => F_X7_trust  e) (Nat.le_of_ble_eq_true rfl) rfl rfl (Nat.le_of_ble_eq_true rfl) (fun a35 ea35 h => ?_)
                                          refine tq_aload_n dL_law_727 rfl ?_
                                          refine tq_xload_n dL_law_728 rfl ?_
                                          refine tq_iload_n dL_law_729 rfl ?_
                                          refine tq_iconst (v := 1) dL_law_730 (by decide) ?_
                                          refine tq_iadd dL_law_731 ?_
                                          refine tr_sld dL_law_732 h (fun j60 lj60 h => ?_)
                                          refine tq_xload_n dL_law_733 rfl ?_
                                          refine tq_iload_n dL_law_734 rfl ?_
                                          refine tq_iconst (v := 2) dL_law_735 (by decide) ?_
                                          refine tq_iadd dL_law_736 ?_
                                          refine tr_sld dL_law_737 h (fun j61 lj61 h => ?_)
                                          refine tcV_iw dL_law_738 cw_L_88 ci_X8_trust rfl rfl (by decide) (show 0 < 1 by omega) h (fun a36 e => F_X8_trust  e) (Nat.le_of_ble_eq_true rfl) rfl rfl (Nat.le_of_ble_eq_true rfl) (fun a36 ea36 h => ?_)
                                          refine tr_icmp_eq (tgt := 1425) dL_law_741 (by decide) h (fun c37 h => ?_) (fun c37 h => ?_)
                                          · refine tq_iinc (v := (v3 + (6 : Int32))) (ls' := [some (.ref (xb X)), some (rf X 7 0), some (rf X 8 0), some (.int (v3 + (6 : Int32)))]) dL_law_1425 rfl (by rfl) (by decide) (okp_at rfl) rfl ?_
                                            refine tq_goto (tgt := 18) dL_law_1428 (by decide) ?_
                                            exact ih _ _ h hk
                                          · refine tq_iconst (v := 0) dL_law_744 (by decide) ?_
                                            exact tq_end dL_law_745 h
                                        · refine r_case (c := ((xs X j1) &&& (63 : Int32)) = (18 : Int32)) h (fun c38 h => ?_) (fun c38 h => ?_)
                                          · refine tq_tin (tgt := 746) (off := 713) dL_law_33 (18 : Int32) c38 (by decide) (by decide) (by decide) (by decide) ?_
                                            refine tq_aload_n dL_law_746 rfl ?_
                                            refine tq_xload_n dL_law_747 rfl ?_
                                            refine tq_iload_n dL_law_748 rfl ?_
                                            refine tq_iconst (v := 1) dL_law_749 (by decide) ?_
                                            refine tq_iadd dL_law_750 ?_
                                            refine tr_sld dL_law_751 h (fun j62 lj62 h => ?_)
                                            refine tq_xload_n dL_law_752 rfl ?_
                                            refine tq_iload_n dL_law_753 rfl ?_
                                            refine tq_iconst (v := 2) dL_law_754 (by decide) ?_
                                            refine tq_iadd dL_law_755 ?_
                                            refine tr_sld dL_law_756 h (fun j63 lj63 h => ?_)
                                            refine tcV_iw dL_law_757 cw_L_89 ci_X7_debtor rfl rfl (by decide) (show 0 < 1 by omega) h (fun a37 e => F_X7_debtor  e) (Nat.le_of_ble_eq_true rfl) rfl rfl (Nat.le_of_ble_eq_true rfl) (fun a37 ea37 h => ?_)
                                            refine tq_aload_n dL_law_760 rfl ?_
                                            refine tq_xload_n dL_law_761 rfl ?_
                                            refine tq_iload_n dL_law_762 rfl ?_
                                            refine tq_iconst (v := 1) dL_law_763 (by decide) ?_
                                            refine tq_iadd dL_law_764 ?_
                                            refine tr_sld dL_law_765 h (fun j64 lj64 h => ?_)
                                            refine tq_xload_n dL_law_766 rfl ?_
                                            refine tq_iload_n dL_law_767 rfl ?_
                                            refine tq_iconst (v := 2) dL_law_768 (by decide) ?_
                                            refine tq_iadd dL_law_769 ?_
                                            refine tr_sld dL_law_770 h (fun j65 lj65 h => ?_)
                                            refine tcV_iw dL_law_771 cw_L_92 ci_X8_debtor rfl rfl (by decide) (show 0 < 1 by omega) h (fun a38 e => F_X8_debtor  e) (Nat.le_of_ble_eq_true rfl) rfl rfl (Nat.le_of_ble_eq_true rfl) (fun a38 ea38 h => ?_)
                                            refine tr_icmp_eq (tgt := 1425) dL_law_774 (by decide) h (fun c39 h => ?_) (fun c39 h => ?_)
                                            · refine tq_iinc (v := (v3 + (6 : Int32))) (ls' := [some (.ref (xb X)), some (rf X 7 0), some (rf X 8 0), some (.int (v3 + (6 : Int32)))]) dL_law_1425 rfl (by rfl) (by decide) (okp_at rfl) rfl ?_
                                              refine tq_goto (tgt := 18) dL_law_1428 (by decide) ?_
                                              exact ih _ _ h hk
                                            · refine tq_iconst (v := 0) dL_law_777 (by decide) ?_
                                              exact tq_end dL_law_778 h
                                          · refine r_case (c := ((xs X j1) &&& (63 : Int32)) = (19 : Int32)) h (fun c40 h => ?_) (fun c40 h => ?_)
                                            · refine tq_tin (tgt := 779) (off := 746) dL_law_33 (19 : Int32) c40 (by decide) (by decide) (by decide) (by decide) ?_
                                              refine tq_aload_n dL_law_779 rfl ?_
                                              refine tq_xload_n dL_law_780 rfl ?_
                                              refine tq_iload_n dL_law_781 rfl ?_
                                              refine tq_iconst (v := 1) dL_law_782 (by decide) ?_
                                              refine tq_iadd dL_law_783 ?_
                                              refine tr_sld dL_law_784 h (fun j66 lj66 h => ?_)
                                              refine tq_xload_n dL_law_785 rfl ?_
                                              refine tq_iload_n dL_law_786 rfl ?_
                                              refine tq_iconst (v := 2) dL_law_787 (by decide) ?_
                                              refine tq_iadd dL_law_788 ?_
                                              refine tr_sld dL_law_789 h (fun j67 lj67 h => ?_)
                                              refine tq_xload_n dL_law_790 rfl ?_
                                              refine tq_iload_n dL_law_791 rfl ?_
                                              refine tq_iconst (v := 3) dL_law_792 (by decide) ?_
                                              refine tq_iadd dL_law_793 ?_
                                              refine tr_sld dL_law_794 h (fun j68 lj68 h => ?_)
                                              refine tcV_iw dL_law_795 cw_L_93 ci_X7_clock rfl rfl (by decide) (show 0 < 1 by omega) h (fun a39 e => F_X7_clock  e) (Nat.le_of_ble_eq_true rfl) rfl rfl (Nat.le_of_ble_eq_true rfl) (fun a39 ea39 h => ?_)
                                              refine tq_aload_n dL_law_798 rfl ?_
                                              refine tq_xload_n dL_law_799 rfl ?_
                                              refine tq_iload_n dL_law_800 rfl ?_
                                              refine tq_iconst (v := 1) dL_law_801 (by decide) ?_
                                              refine tq_iadd dL_law_802 ?_
                                              refine tr_sld dL_law_803 h (fun j69 lj69 h => ?_)
                                              refine tq_xload_n dL_law_804 rfl ?_
                                              refine tq_iload_n dL_law_805 rfl ?_
                                              refine tq_iconst (v := 2) dL_law_806 (by decide) ?_
                                              refine tq_iadd dL_law_807 ?_
                                              refine tr_sld dL_law_808 h (fun j70 lj70 h => ?_)
                                              refine tq_xload_n dL_law_809 rfl ?_
                                              refine tq_iload_n dL_law_810 rfl ?_
                                              refine tq_iconst (v := 3) dL_law_811 (by decide) ?_
                                              refine tq_iadd dL_law_812 ?_
                                              refine tr_sld dL_law_813 h (fun j71 lj71 h => ?_)
                                              refine tcV_iw dL_law_814 cw_L_96 ci_X8_clock rfl rfl (by decide) (show 0 < 1 by omega) h (fun a40 e => F_X8_clock  e) (Nat.le_of_ble_eq_true rfl) rfl rfl (Nat.le_of_ble_eq_true rfl) (fun a40 ea40 h => ?_)
                                              refine tr_icmp_eq (tgt := 1425) dL_law_817 (by decide) h (fun c41 h => ?_) (fun c41 h => ?_)
                                              · refine tq_iinc (v := (v3 + (6 : Int32))) (ls' := [some (.ref (xb X)), some (rf X 7 0), some (rf X 8 0), some (.int (v3 + (6 : Int32)))]) dL_law_1425 rfl (by rfl) (by decide) (okp_at rfl) rfl ?_
                                                refine tq_goto (tgt := 18) dL_law_1428 (by decide) ?_
                                                exact ih _ _ h hk
                                              · refine tq_iconst (v := 0) dL_law_820 (by decide) ?_
                                                exact tq_end dL_law_821 h
                                            · refine r_case (c := ((xs X j1) &&& (63 : Int32)) = (20 : Int32)) h (fun c42 h => ?_) (fun c42 h => ?_)
                                              · refine tq_tin (tgt := 822) (off := 789) dL_law_33 (20 : Int32) c42 (by decide) (by decide) (by decide) (by decide) ?_
                                                refine tq_aload_n dL_law_822 rfl ?_
                                                refine tcV_iw dL_law_823 cw_L_97 ci_X7_fee rfl rfl (by decide) (show 0 < 1 by omega) h (fun a41 e => F_X7_fee  e) (Nat.le_of_ble_eq_true rfl) rfl rfl (Nat.le_of_ble_eq_true rfl) (fun a41 ea41 h => ?_)
                                                refine tq_aload_n dL_law_826 rfl ?_
                                                refine tcV_iw dL_law_827 cw_L_100 ci_X8_fee rfl rfl (by decide) (show 0 < 1 by omega) h (fun a42 e => F_X8_fee  e) (Nat.le_of_ble_eq_true rfl) rfl rfl (Nat.le_of_ble_eq_true rfl) (fun a42 ea42 h => ?_)
                                                refine tr_icmp_eq (tgt := 1425) dL_law_830 (by decide) h (fun c43 h => ?_) (fun c43 h => ?_)
                                                · refine tq_iinc (v := (v3 + (6 : Int32))) (ls' := [some (.ref (xb X)), some (rf X 7 0), some (rf X 8 0), some (.int (v3 + (6 : Int32)))]) dL_law_1425 rfl (by rfl) (by decide) (okp_at rfl) rfl ?_
                                                  refine tq_goto (tgt := 18) dL_law_1428 (by decide) ?_
                                                  exact ih _ _ h hk
                                                · refine tq_iconst (v := 0) dL_law_833 (by decide) ?_
                                                  exact tq_end dL_law_834 h
                                              · refine r_case (c := ((xs X j1) &&& (63 : Int32)) = (21 : Int32)) h (fun c44 h => ?_) (fun c44 h => ?_)
                                                · refine tq_tin (tgt := 835) (off := 802) dL_law_33 (21 : Int32) c44 (by decide) (by decide) (by decide) (by decide) ?_
                                                  refine tq_aload_n dL_law_835 rfl ?_
                                                  refine tq_xload_n dL_law_836 rfl ?_
                                                  refine tq_iload_n dL_law_837 rfl ?_
                                                  refine tq_iconst (v := 1) dL_law_838 (by decide) ?_
                                                  refine tq_iadd dL_law_839 ?_
                                                  refine tr_sld dL_law_840 h (fun j72 lj72 h => ?_)
                                                  refine tcV_iw dL_law_841 cw_L_101 ci_X7_fine rfl rfl (by decide) (show 0 < 1 by omega) h (fun a43 e => F_X7_fine  e) (Nat.le_of_ble_eq_true rfl) rfl rfl (Nat.le_of_ble_eq_true rfl) (fun a43 ea43 h => ?_)
                                                  refine tq_aload_n dL_law_844 rfl ?_
                                                  refine tq_xload_n dL_law_845 rfl ?_
                                                  refine tq_iload_n dL_law_846 rfl ?_
                                                  refine tq_iconst (v := 1) dL_law_847 (by decide) ?_
                                                  refine tq_iadd dL_law_848 ?_
                                                  refine tr_sld dL_law_849 h (fun j73 lj73 h => ?_)
                                                  refine tcV_iw dL_law_850 cw_L_104 ci_X8_fine rfl rfl (by decide) (show 0 < 1 by omega) h (fun a44 e => F_X8_fine  e) (Nat.le_of_ble_eq_true rfl) rfl rfl (Nat.le_of_ble_eq_true rfl) (fun a44 ea44 h => ?_)
                                                  refine tr_icmp_eq (tgt := 1425) dL_law_853 (by decide) h (fun c45 h => ?_) (fun c45 h => ?_)
                                                  · refine tq_iinc (v := (v3 + (6 : Int32))) (ls' := [some (.ref (xb X)), some (rf X 7 0), some (rf X 8 0), some (.int (v3 + (6 : Int32)))]) dL_law_1425 rfl (by rfl) (by decide) (okp_at rfl) rfl ?_
                                                    refine tq_goto (tgt := 18) dL_law_1428 (by decide) ?_
                                                    exact ih _ _ h hk
                                                  · refine tq_iconst (v := 0) dL_law_856 (by decide) ?_
                                                    exact tq_end dL_law_857 h
                                                · refine r_case (c := ((xs X j1) &&& (63 : Int32)) = (22 : Int32)) h (fun c46 h => ?_) (fun c46 h => ?_)
                                                  · refine tq_tin (tgt := 858) (off := 825) dL_law_33 (22 : Int32) c46 (by decide) (by decide) (by decide) (by decide) ?_
                                                    refine tq_aload_n dL_law_858 rfl ?_
                                                    refine tq_xload_n dL_law_859 rfl ?_
                                                    refine tq_iload_n dL_law_860 rfl ?_
                                                    refine tq_iconst (v := 1) dL_law_861 (by decide) ?_
                                                    refine tq_iadd dL_law_862 ?_
                                                    refine tr_sld dL_law_863 h (fun j74 lj74 h => ?_)
                                                    refine tq_xload_n dL_law_864 rfl ?_
                                                    refine tq_iload_n dL_law_865 rfl ?_
                                                    refine tq_iconst (v := 2) dL_law_866 (by decide) ?_
                                                    refine tq_iadd dL_law_867 ?_
                                                    refine tr_sld dL_law_868 h (fun j75 lj75 h => ?_)
                                                    refine tq_xload_n dL_law_869 rfl ?_
                                                    refine tq_iload_n dL_law_870 rfl ?_
                                                    refine tq_iconst (v := 3) dL_law_871 (by decide) ?_
                                                    refine tq_iadd dL_law_872 ?_
                                                    refine tr_sld dL_law_873 h (fun j76 lj76 h => ?_)
                                                    refine tcV_iw dL_law_874 cw_L_105 ci_X7_feed rfl rfl (by decide) (show 0 < 1 by omega) h (fun a45 e => F_X7_feed  e) (Nat.le_of_ble_eq_true rfl) rfl rfl (Nat.le_of_ble_eq_true rfl) (fun a45 ea45 h => ?_)
                                                    refine tq_aload_n dL_law_877 rfl ?_
                                                    refine tq_xload_n dL_law_878 rfl ?_
                                                    refine tq_iload_n dL_law_879 rfl ?_
                                                    refine tq_iconst (v := 1) dL_law_880 (by decide) ?_
                                                    refine tq_iadd dL_law_881 ?_
                                                    refine tr_sld dL_law_882 h (fun j77 lj77 h => ?_)
                                                    refine tq_xload_n dL_law_883 rfl ?_
                                                    refine tq_iload_n dL_law_884 rfl ?_
                                                    refine tq_iconst (v := 2) dL_law_885 (by decide) ?_
                                                    refine tq_iadd dL_law_886 ?_
                                                    refine tr_sld dL_law_887 h (fun j78 lj78 h => ?_)
                                                    refine tq_xload_n dL_law_888 rfl ?_
                                                    refine tq_iload_n dL_law_889 rfl ?_
                                                    refine tq_iconst (v := 3) dL_law_890 (by decide) ?_
                                                    refine tq_iadd dL_law_891 ?_
                                                    refine tr_sld dL_law_892 h (fun j79 lj79 h => ?_)
                                                    refine tcV_iw dL_law_893 cw_L_108 ci_X8_feed rfl rfl (by decide) (show 0 < 1 by omega) h (fun a46 e => F_X8_feed  e) (Nat.le_of_ble_eq_true rfl) rfl rfl (Nat.le_of_ble_eq_true rfl) (fun a46 ea46 h => ?_)
                                                    refine tr_icmp_eq (tgt := 1425) dL_law_896 (by decide) h (fun c47 h => ?_) (fun c47 h => ?_)
                                                    · refine tq_iinc (v := (v3 + (6 : Int32))) (ls' := [some (.ref (xb X)), some (rf X 7 0), some (rf X 8 0), some (.int (v3 + (6 : Int32)))]) dL_law_1425 rfl (by rfl) (by decide) (okp_at rfl) rfl ?_
                                                      refine tq_goto (tgt := 18) dL_law_1428 (by decide) ?_
                                                      exact ih _ _ h hk
                                                    · refine tq_iconst (v := 0) dL_law_899 (by decide) ?_
                                                      exact tq_end dL_law_900 h
                                                  · refine r_case (c := ((xs X j1) &&& (63 : Int32)) = (23 : Int32)) h (fun c48 h => ?_) (fun c48 h => ?_)
                                                    · refine tq_tin (tgt := 901) (off := 868) dL_law_33 (23 : Int32) c48 (by decide) (by decide) (by decide) (by decide) ?_
                                                      refine tq_aload_n dL_law_901 rfl ?_
                                                      refine tq_xload_n dL_law_902 rfl ?_
                                                      refine tq_iload_n dL_law_903 rfl ?_
                                                      refine tq_iconst (v := 1) dL_law_904 (by decide) ?_
                                                      refine tq_iadd dL_law_905 ?_
                                                      refine tr_sld dL_law_906 h (fun j80 lj80 h => ?_)
                                                      refine tcV_iw dL_law_907 cw_L_109 ci_X7_trim rfl rfl (by decide) (show 0 < 1 by omega) h (fun a47 e => F_X7_trim  e) (Nat.le_of_ble_eq_true rfl) rfl rfl (Nat.le_of_ble_eq_true rfl) (fun a47 ea47 h => ?_)
                                                      refine tq_aload_n dL_law_910 rfl ?_
                                                      refine tq_xload_n dL_law_911 rfl ?_
                                                      refine tq_iload_n dL_law_912 rfl ?_
                                                      refine tq_iconst (v := 1) dL_law_913 (by decide) ?_
                                                      refine tq_iadd dL_law_914 ?_
                                                      refine tr_sld dL_law_915 h (fun j81 lj81 h => ?_)
                                                      refine tcV_iw dL_law_916 cw_L_112 ci_X8_trim rfl rfl (by decide) (show 0 < 1 by omega) h (fun a48 e => F_X8_trim  e) (Nat.le_of_ble_eq_true rfl) rfl rfl (Nat.le_of_ble_eq_true rfl) (fun a48 ea48 h => ?_)
                                                      refine tr_icmp_eq (tgt := 1425) dL_law_919 (by decide) h (fun c49 h => ?_) (fun c49 h => ?_)
                                                      · refine tq_iinc (v := (v3 + (6 : Int32))) (ls' := [some (.ref (xb X)), some (rf X 7 0), some (rf X 8 0), some (.int (v3 + (6 : Int32)))]) dL_law_1425 rfl (by rfl) (by decide) (okp_at rfl) rfl ?_
                                                        refine tq_goto (tgt := 18) dL_law_1428 (by decide) ?_
                                                        exact ih _ _ h hk
                                                      · refine tq_iconst (v := 0) dL_law_922 (by decide) ?_
                                                        exact tq_end dL_law_923 h
                                                    · refine r_case (c := ((xs X j1) &&& (63 : Int32)) = (24 : Int32)) h (fun c50 h => ?_) (fun c50 h => ?_)
                                                      · refine tq_tin (tgt := 924) (off := 891) dL_law_33 (24 : Int32) c50 (by decide) (by decide) (by decide) (by decide) ?_
                                                        refine tq_aload_n dL_law_924 rfl ?_
                                                        refine tcV_iw dL_law_925 cw_L_113 ci_X7_text rfl rfl (by decide) (show 0 < 1 by omega) h (fun a49 e => F_X7_text  e) (Nat.le_of_ble_eq_true rfl) rfl rfl (Nat.le_of_ble_eq_true rfl) (fun a49 ea49 h => ?_)
                                                        refine tq_aload_n dL_law_928 rfl ?_
                                                        refine tcV_iw dL_law_929 cw_L_116 ci_X8_text rfl rfl (by decide) (show 0 < 1 by omega) h (fun a50 e => F_X8_text  e) (Nat.le_of_ble_eq_true rfl) rfl rfl (Nat.le_of_ble_eq_true rfl) (fun a50 ea50 h => ?_)
                                                        refine tr_icmp_eq (tgt := 1425) dL_law_932 (by decide) h (fun c51 h => ?_) (fun c51 h => ?_)
                                                        · refine tq_iinc (v := (v3 + (6 : Int32))) (ls' := [some (.ref (xb X)), some (rf X 7 0), some (rf X 8 0), some (.int (v3 + (6 : Int32)))]) dL_law_1425 rfl (by rfl) (by decide) (okp_at rfl) rfl ?_
                                                          refine tq_goto (tgt := 18) dL_law_1428 (by decide) ?_
                                                          exact ih _ _ h hk
                                                        · refine tq_iconst (v := 0) dL_law_935 (by decide) ?_
                                                          exact tq_end dL_law_936 h
                                                      · refine r_case (c := ((xs X j1) &&& (63 : Int32)) = (25 : Int32)) h (fun c52 h => ?_) (fun c52 h => ?_)
                                                        · refine tq_tin (tgt := 937) (off := 904) dL_law_33 (25 : Int32) c52 (by decide) (by decide) (by decide) (by decide) ?_
                                                          refine tq_aload_n dL_law_937 rfl ?_
                                                          refine tq_xload_n dL_law_938 rfl ?_
                                                          refine tq_iload_n dL_law_939 rfl ?_
                                                          refine tq_iconst (v := 1) dL_law_940 (by decide) ?_
                                                          refine tq_iadd dL_law_941 ?_
                                                          refine tr_sld dL_law_942 h (fun j82 lj82 h => ?_)
                                                          refine tq_xload_n dL_law_943 rfl ?_
                                                          refine tq_iload_n dL_law_944 rfl ?_
                                                          refine tq_iconst (v := 2) dL_law_945 (by decide) ?_
                                                          refine tq_iadd dL_law_946 ?_
                                                          refine tr_sld dL_law_947 h (fun j83 lj83 h => ?_)
                                                          refine tcV_ir dL_law_948 cw_L_117 ci_X7_textTold rfl rfl (by decide) (show 0 < 1 by omega) h (fun a51 e => F_X7_textTold  e) (Nat.le_of_ble_eq_true rfl) rfl rfl (Nat.le_of_ble_eq_true rfl) (fun a51 ea51 h => ?_)
                                                          refine tq_aload_n dL_law_951 rfl ?_
                                                          refine tq_xload_n dL_law_952 rfl ?_
                                                          refine tq_iload_n dL_law_953 rfl ?_
                                                          refine tq_iconst (v := 1) dL_law_954 (by decide) ?_
                                                          refine tq_iadd dL_law_955 ?_
                                                          refine tr_sld dL_law_956 h (fun j84 lj84 h => ?_)
                                                          refine tq_xload_n dL_law_957 rfl ?_
                                                          refine tq_iload_n dL_law_958 rfl ?_
                                                          refine tq_iconst (v := 2) dL_law_959 (by decide) ?_
                                                          refine tq_iadd dL_law_960 ?_
                                                          refine tr_sld dL_law_961 h (fun j85 lj85 h => ?_)
                                                          refine tcV_ir dL_law_962 cw_L_120 ci_X8_textTold rfl rfl (by decide) (show 0 < 1 by omega) h (fun a52 e => F_X8_textTold  e) (Nat.le_of_ble_eq_true rfl) rfl rfl (Nat.le_of_ble_eq_true rfl) (fun a52 ea52 h => ?_)
                                                          refine tr_icmp_eq (tgt := 1425) dL_law_965 (by decide) h (fun c53 h => ?_) (fun c53 h => ?_)
                                                          · refine tq_iinc (v := (v3 + (6 : Int32))) (ls' := [some (.ref (xb X)), some (rf X 7 0), some (rf X 8 0), some (.int (v3 + (6 : Int32)))]) dL_law_1425 rfl (by rfl) (by decide) (okp_at rfl) rfl ?_
                                                            refine tq_goto (tgt := 18) dL_law_1428 (by decide) ?_
                                                            exact ih _ _ h hk
                                                          · refine tq_iconst (v := 0) dL_law_968 (by decide) ?_
                                                            exact tq_end dL_law_969 h
                                                        · refine r_case (c := ((xs X j1) &&& (63 : Int32)) = (26 : Int32)) h (fun c54 h => ?_) (fun c54 h => ?_)
                                                          · refine tq_tin (tgt := 970) (off := 937) dL_law_33 (26 : Int32) c54 (by decide) (by decide) (by decide) (by decide) ?_
                                                            refine tq_aload_n dL_law_970 rfl ?_
                                                            refine tq_xload_n dL_law_971 rfl ?_
                                                            refine tq_iload_n dL_law_972 rfl ?_
                                                            refine tq_iconst (v := 1) dL_law_973 (by decide) ?_
                                                            refine tq_iadd dL_law_974 ?_
                                                            refine tr_sld dL_law_975 h (fun j86 lj86 h => ?_)
                                                            refine tcV_ir dL_law_976 cw_L_121 ci_X7_why rfl rfl (by decide) (show 0 < 1 by omega) h (fun a53 e => F_X7_why  e) (Nat.le_of_ble_eq_true rfl) rfl rfl (Nat.le_of_ble_eq_true rfl) (fun a53 ea53 h => ?_)
                                                            refine tq_aload_n dL_law_979 rfl ?_
                                                            refine tq_xload_n dL_law_980 rfl ?_
                                                            refine tq_iload_n dL_law_981 rfl ?_
                                                            refine tq_iconst (v := 1) dL_law_982 (by decide) ?_
                                                            refine tq_iadd dL_law_983 ?_
                                                            refine tr_sld dL_law_984 h (fun j87 lj87 h => ?_)
                                                            refine tcV_ir dL_law_985 cw_L_124 ci_X8_why rfl rfl (by decide) (show 0 < 1 by omega) h (fun a54 e => F_X8_why  e) (Nat.le_of_ble_eq_true rfl) rfl rfl (Nat.le_of_ble_eq_true rfl) (fun a54 ea54 h => ?_)
                                                            refine tr_icmp_eq (tgt := 1425) dL_law_988 (by decide) h (fun c55 h => ?_) (fun c55 h => ?_)
                                                            · refine tq_iinc (v := (v3 + (6 : Int32))) (ls' := [some (.ref (xb X)), some (rf X 7 0), some (rf X 8 0), some (.int (v3 + (6 : Int32)))]) dL_law_1425 rfl (by rfl) (by decide) (okp_at rfl) rfl ?_
                                                              refine tq_goto (tgt := 18) dL_law_1428 (by decide) ?_
                                                              exact ih _ _ h hk
                                                            · refine tq_iconst (v := 0) dL_law_991 (by decide) ?_
                                                              exact tq_end dL_law_992 h
                                                          · refine r_case (c := ((xs X j1) &&& (63 : Int32)) = (27 : Int32)) h (fun c56 h => ?_) (fun c56 h => ?_)
                                                            · refine tq_tin (tgt := 993) (off := 960) dL_law_33 (27 : Int32) c56 (by decide) (by decide) (by decide) (by decide) ?_
                                                              refine tq_aload_n dL_law_993 rfl ?_
                                                              refine tq_xload_n dL_law_994 rfl ?_
                                                              refine tq_iload_n dL_law_995 rfl ?_
                                                              refine tq_iconst (v := 1) dL_law_996 (by decide) ?_
                                                              refine tq_iadd dL_law_997 ?_
                                                              refine tr_sld dL_law_998 h (fun j88 lj88 h => ?_)
                                                              refine tq_xload_n dL_law_999 rfl ?_
                                                              refine tq_iload_n dL_law_1000 rfl ?_
                                                              refine tq_iconst (v := 2) dL_law_1001 (by decide) ?_
                                                              refine tq_iadd dL_law_1002 ?_
                                                              refine tr_sld dL_law_1003 h (fun j89 lj89 h => ?_)
                                                              refine tq_xload_n dL_law_1004 rfl ?_
                                                              refine tq_iload_n dL_law_1005 rfl ?_
                                                              refine tq_iconst (v := 3) dL_law_1006 (by decide) ?_
                                                              refine tq_iadd dL_law_1007 ?_
                                                              refine tr_sld dL_law_1008 h (fun j90 lj90 h => ?_)
                                                              refine tcV_iw dL_law_1009 cw_L_125 ci_X7_sheet rfl rfl (by decide) (show 0 < 1 by omega) h (fun a55 e => F_X7_sheet  e) (Nat.le_of_ble_eq_true rfl) rfl rfl (Nat.le_of_ble_eq_true rfl) (fun a55 ea55 h => ?_)
                                                              refine tq_aload_n dL_law_1012 rfl ?_
                                                              refine tq_xload_n dL_law_1013 rfl ?_
                                                              refine tq_iload_n dL_law_1014 rfl ?_
                                                              refine tq_iconst (v := 1) dL_law_1015 (by decide) ?_
                                                              refine tq_iadd dL_law_1016 ?_
                                                              refine tr_sld dL_law_1017 h (fun j91 lj91 h => ?_)
                                                              refine tq_xload_n dL_law_1018 rfl ?_
                                                              refine tq_iload_n dL_law_1019 rfl ?_
                                                              refine tq_iconst (v := 2) dL_law_1020 (by decide) ?_
                                                              refine tq_iadd dL_law_1021 ?_
                                                              refine tr_sld dL_law_1022 h (fun j92 lj92 h => ?_)
                                                              refine tq_xload_n dL_law_1023 rfl ?_
                                                              refine tq_iload_n dL_law_1024 rfl ?_
                                                              refine tq_iconst (v := 3) dL_law_1025 (by decide) ?_
                                                              refine tq_iadd dL_law_1026 ?_
                                                              refine tr_sld dL_law_1027 h (fun j93 lj93 h => ?_)
                                                              refine tcV_iw dL_law_1028 cw_L_128 ci_X8_sheet rfl rfl (by decide) (show 0 < 1 by omega) h (fun a56 e => F_X8_sheet  e) (Nat.le_of_ble_eq_true rfl) rfl rfl (Nat.le_of_ble_eq_true rfl) (fun a56 ea56 h => ?_)
                                                              refine tr_icmp_eq (tgt := 1425) dL_law_1031 (by decide) h (fun c57 h => ?_) (fun c57 h => ?_)
                                                              · refine tq_iinc (v := (v3 + (6 : Int32))) (ls' := [some (.ref (xb X)), some (rf X 7 0), some (rf X 8 0), some (.int (v3 + (6 : Int32)))]) dL_law_1425 rfl (by rfl) (by decide) (okp_at rfl) rfl ?_
                                                                refine tq_goto (tgt := 18) dL_law_1428 (by decide) ?_
                                                                exact ih _ _ h hk
                                                              · refine tq_iconst (v := 0) dL_law_1034 (by decide) ?_
                                                                exact tq_end dL_law_1035 h
                                                            · refine r_case (c := ((xs X j1) &&& (63 : Int32)) = (28 : Int32)) h (fun c58 h => ?_) (fun c58 h => ?_)
                                                              · refine tq_tin (tgt := 1036) (off := 1003) dL_law_33 (28 : Int32) c58 (by decide) (by decide) (by decide) (by decide) ?_
                                                                refine tq_aload_n dL_law_1036 rfl ?_
                                                                refine tq_xload_n dL_law_1037 rfl ?_
                                                                refine tq_iload_n dL_law_1038 rfl ?_
                                                                refine tq_iconst (v := 1) dL_law_1039 (by decide) ?_
                                                                refine tq_iadd dL_law_1040 ?_
                                                                refine tr_sld dL_law_1041 h (fun j94 lj94 h => ?_)
                                                                refine tq_xload_n dL_law_1042 rfl ?_
                                                                refine tq_iload_n dL_law_1043 rfl ?_
                                                                refine tq_iconst (v := 2) dL_law_1044 (by decide) ?_
                                                                refine tq_iadd dL_law_1045 ?_
                                                                refine tr_sld dL_law_1046 h (fun j95 lj95 h => ?_)
                                                                refine tq_xload_n dL_law_1047 rfl ?_
                                                                refine tq_iload_n dL_law_1048 rfl ?_
                                                                refine tq_iconst (v := 3) dL_law_1049 (by decide) ?_
                                                                refine tq_iadd dL_law_1050 ?_
                                                                refine tr_sld dL_law_1051 h (fun j96 lj96 h => ?_)
                                                                refine tcV_iw dL_law_1052 cw_L_129 ci_X7_mark rfl rfl (by decide) (show 0 < 1 by omega) h (fun a57 e => F_X7_mark  e) (Nat.le_of_ble_eq_true rfl) rfl rfl (Nat.le_of_ble_eq_true rfl) (fun a57 ea57 h => ?_)
                                                                refine tq_aload_n dL_law_1055 rfl ?_
                                                                refine tq_xload_n dL_law_1056 rfl ?_
                                                                refine tq_iload_n dL_law_1057 rfl ?_
                                                                refine tq_iconst (v := 1) dL_law_1058 (by decide) ?_
                                                                refine tq_iadd dL_law_1059 ?_
                                                                refine tr_sld dL_law_1060 h (fun j97 lj97 h => ?_)
                                                                refine tq_xload_n dL_law_1061 rfl ?_
                                                                refine tq_iload_n dL_law_1062 rfl ?_
                                                                refine tq_iconst (v := 2) dL_law_1063 (by decide) ?_
                                                                refine tq_iadd dL_law_1064 ?_
                                                                refine tr_sld dL_law_1065 h (fun j98 lj98 h => ?_)
                                                                refine tq_xload_n dL_law_1066 rfl ?_
                                                                refine tq_iload_n dL_law_1067 rfl ?_
                                                                refine tq_iconst (v := 3) dL_law_1068 (by decide) ?_
                                                                refine tq_iadd dL_law_1069 ?_
                                                                refine tr_sld dL_law_1070 h (fun j99 lj99 h => ?_)
                                                                refine tcV_iw dL_law_1071 cw_L_132 ci_X8_mark rfl rfl (by decide) (show 0 < 1 by omega) h (fun a58 e => F_X8_mark  e) (Nat.le_of_ble_eq_true rfl) rfl rfl (Nat.le_of_ble_eq_true rfl) (fun a58 ea58 h => ?_)
                                                                refine tr_icmp_eq (tgt := 1425) dL_law_1074 (by decide) h (fun c59 h => ?_) (fun c59 h => ?_)
                                                                · refine tq_iinc (v := (v3 + (6 : Int32))) (ls' := [some (.ref (xb X)), some (rf X 7 0), some (rf X 8 0), some (.int (v3 + (6 : Int32)))]) dL_law_1425 rfl (by rfl) (by decide) (okp_at rfl) rfl ?_
                                                                  refine tq_goto (tgt := 18) dL_law_1428 (by decide) ?_
                                                                  exact ih _ _ h hk
                                                                · refine tq_iconst (v := 0) dL_law_1077 (by decide) ?_
                                                                  exact tq_end dL_law_1078 h
                                                              · refine r_case (c := ((xs X j1) &&& (63 : Int32)) = (29 : Int32)) h (fun c60 h => ?_) (fun c60 h => ?_)
                                                                · refine tq_tin (tgt := 1079) (off := 1046) dL_law_33 (29 : Int32) c60 (by decide) (by decide) (by decide) (by decide) ?_
                                                                  refine tq_aload_n dL_law_1079 rfl ?_
                                                                  refine tq_xload_n dL_law_1080 rfl ?_
                                                                  refine tq_iload_n dL_law_1081 rfl ?_
                                                                  refine tq_iconst (v := 1) dL_law_1082 (by decide) ?_
                                                                  refine tq_iadd dL_law_1083 ?_
                                                                  refine tr_sld dL_law_1084 h (fun j100 lj100 h => ?_)
                                                                  refine tcV_iw dL_law_1085 cw_L_133 ci_X7_pour rfl rfl (by decide) (show 0 < 1 by omega) h (fun a59 e => F_X7_pour  e) (Nat.le_of_ble_eq_true rfl) rfl rfl (Nat.le_of_ble_eq_true rfl) (fun a59 ea59 h => ?_)
                                                                  refine tq_aload_n dL_law_1088 rfl ?_
                                                                  refine tq_xload_n dL_law_1089 rfl ?_
                                                                  refine tq_iload_n dL_law_1090 rfl ?_
                                                                  refine tq_iconst (v := 1) dL_law_1091 (by decide) ?_
                                                                  refine tq_iadd dL_law_1092 ?_
                                                                  refine tr_sld dL_law_1093 h (fun j101 lj101 h => ?_)
                                                                  refine tcV_iw dL_law_1094 cw_L_136 ci_X8_pour rfl rfl (by decide) (show 0 < 1 by omega) h (fun a60 e => F_X8_pour  e) (Nat.le_of_ble_eq_true rfl) rfl rfl (Nat.le_of_ble_eq_true rfl) (fun a60 ea60 h => ?_)
                                                                  refine tr_icmp_eq (tgt := 1425) dL_law_1097 (by decide) h (fun c61 h => ?_) (fun c61 h => ?_)
                                                                  · refine tq_iinc (v := (v3 + (6 : Int32))) (ls' := [some (.ref (xb X)), some (rf X 7 0), some (rf X 8 0), some (.int (v3 + (6 : Int32)))]) dL_law_1425 rfl (by rfl) (by decide) (okp_at rfl) rfl ?_
                                                                    refine tq_goto (tgt := 18) dL_law_1428 (by decide) ?_
                                                                    exact ih _ _ h hk
                                                                  · refine tq_iconst (v := 0) dL_law_1100 (by decide) ?_
                                                                    exact tq_end dL_law_1101 h
                                                                · refine r_case (c := ((xs X j1) &&& (63 : Int32)) = (30 : Int32)) h (fun c62 h => ?_) (fun c62 h => ?_)
                                                                  · refine tq_tin (tgt := 1102) (off := 1069) dL_law_33 (30 : Int32) c62 (by decide) (by decide) (by decide) (by decide) ?_
                                                                    refine tq_aload_n dL_law_1102 rfl ?_
                                                                    refine tq_xload_n dL_law_1103 rfl ?_
                                                                    refine tq_iload_n dL_law_1104 rfl ?_
                                                                    refine tq_iconst (v := 1) dL_law_1105 (by decide) ?_
                                                                    refine tq_iadd dL_law_1106 ?_
                                                                    refine tr_sld dL_law_1107 h (fun j102 lj102 h => ?_)
                                                                    refine tcV_ir dL_law_1108 cw_L_137 ci_X7_reads rfl rfl (by decide) (show 0 < 1 by omega) h (fun a61 e => F_X7_reads  e) (Nat.le_of_ble_eq_true rfl) rfl rfl (Nat.le_of_ble_eq_true rfl) (fun a61 ea61 h => ?_)
                                                                    refine tq_aload_n dL_law_1111 rfl ?_
                                                                    refine tq_xload_n dL_law_1112 rfl ?_
                                                                    refine tq_iload_n dL_law_1113 rfl ?_
                                                                    refine tq_iconst (v := 1) dL_law_1114 (by decide) ?_
                                                                    refine tq_iadd dL_law_1115 ?_
                                                                    refine tr_sld dL_law_1116 h (fun j103 lj103 h => ?_)
                                                                    refine tcV_ir dL_law_1117 cw_L_140 ci_X8_reads rfl rfl (by decide) (show 0 < 1 by omega) h (fun a62 e => F_X8_reads  e) (Nat.le_of_ble_eq_true rfl) rfl rfl (Nat.le_of_ble_eq_true rfl) (fun a62 ea62 h => ?_)
                                                                    refine tr_icmp_eq (tgt := 1425) dL_law_1120 (by decide) h (fun c63 h => ?_) (fun c63 h => ?_)
                                                                    · refine tq_iinc (v := (v3 + (6 : Int32))) (ls' := [some (.ref (xb X)), some (rf X 7 0), some (rf X 8 0), some (.int (v3 + (6 : Int32)))]) dL_law_1425 rfl (by rfl) (by decide) (okp_at rfl) rfl ?_
                                                                      refine tq_goto (tgt := 18) dL_law_1428 (by decide) ?_
                                                                      exact ih _ _ h hk
                                                                    · refine tq_iconst (v := 0) dL_law_1123 (by decide) ?_
                                                                      exact tq_end dL_law_1124 h
                                                                  · refine r_case (c := ((xs X j1) &&& (63 : Int32)) = (31 : Int32)) h (fun c64 h => ?_) (fun c64 h => ?_)
                                                                    · refine tq_tin (tgt := 1125) (off := 1092) dL_law_33 (31 : Int32) c64 (by decide) (by decide) (by decide) (by decide) ?_
                                                                      refine tq_aload_n dL_law_1125 rfl ?_
                                                                      refine tq_xload_n dL_law_1126 rfl ?_
                                                                      refine tq_iload_n dL_law_1127 rfl ?_
                                                                      refine tq_iconst (v := 1) dL_law_1128 (by decide) ?_
                                                                      refine tq_iadd dL_law_1129 ?_
                                                                      refine tr_sld dL_law_1130 h (fun j104 lj104 h => ?_)
                                                                      refine tq_xload_n dL_law_1131 rfl ?_
                                                                      refine tq_iload_n dL_law_1132 rfl ?_
                                                                      refine tq_iconst (v := 2) dL_law_1133 (by decide) ?_
                                                                      refine tq_iadd dL_law_1134 ?_
                                                                      refine tr_sld dL_law_1135 h (fun j105 lj105 h => ?_)
                                                                      refine tq_xload_n dL_law_1136 rfl ?_
                                                                      refine tq_iload_n dL_law_1137 rfl ?_
                                                                      refine tq_iconst (v := 3) dL_law_1138 (by decide) ?_
                                                                      refine tq_iadd dL_law_1139 ?_
                                                                      refine tr_sld dL_law_1140 h (fun j106 lj106 h => ?_)
                                                                      refine tq_xload_n dL_law_1141 rfl ?_
                                                                      refine tq_iload_n dL_law_1142 rfl ?_
                                                                      refine tq_iconst (v := 4) dL_law_1143 (by decide) ?_
                                                                      refine tq_iadd dL_law_1144 ?_
                                                                      refine tr_sld dL_law_1145 h (fun j107 lj107 h => ?_)
                                                                      refine tq_xload_n dL_law_1146 rfl ?_
                                                                      refine tq_iload_n dL_law_1147 rfl ?_
                                                                      refine tq_iconst (v := 5) dL_law_1148 (by decide) ?_
                                                                      refine tq_iadd dL_law_1149 ?_
                                                                      refine tr_sld dL_law_1150 h (fun j108 lj108 h => ?_)
                                                                      refine tcV_iw dL_law_1151 cw_L_141 ci_X7_copy rfl rfl (by decide) (show 0 < 1 by omega) h (fun a63 e => F_X7_copy  e) (Nat.le_of_ble_eq_true rfl) rfl rfl (Nat.le_of_ble_eq_true rfl) (fun a63 ea63 h => ?_)
                                                                      refine tq_aload_n dL_law_1154 rfl ?_
                                                                      refine tq_xload_n dL_law_1155 rfl ?_
                                                                      refine tq_iload_n dL_law_1156 rfl ?_
                                                                      refine tq_iconst (v := 1) dL_law_1157 (by decide) ?_
                                                                      refine tq_iadd dL_law_1158 ?_
                                                                      refine tr_sld dL_law_1159 h (fun j109 lj109 h => ?_)
                                                                      refine tq_xload_n dL_law_1160 rfl ?_
                                                                      refine tq_iload_n dL_law_1161 rfl ?_
                                                                      refine tq_iconst (v := 2) dL_law_1162 (by decide) ?_
                                                                      refine tq_iadd dL_law_1163 ?_
                                                                      refine tr_sld dL_law_1164 h (fun j110 lj110 h => ?_)
                                                                      refine tq_xload_n dL_law_1165 rfl ?_
                                                                      refine tq_iload_n dL_law_1166 rfl ?_
                                                                      refine tq_iconst (v := 3) dL_law_1167 (by decide) ?_
                                                                      refine tq_iadd dL_law_1168 ?_
                                                                      refine tr_sld dL_law_1169 h (fun j111 lj111 h => ?_)
                                                                      refine tq_xload_n dL_law_1170 rfl ?_
                                                                      refine tq_iload_n dL_law_1171 rfl ?_
                                                                      refine tq_iconst (v := 4) dL_law_1172 (by decide) ?_
                                                                      refine tq_iadd dL_law_1173 ?_
                                                                      refine tr_sld dL_law_1174 h (fun j112 lj112 h => ?_)
                                                                      refine tq_xload_n dL_law_1175 rfl ?_
                                                                      refine tq_iload_n dL_law_1176 rfl ?_
                                                                      refine tq_iconst (v := 5) dL_law_1177 (by decide) ?_
                                                                      refine tq_iadd dL_law_1178 ?_
                                                                      refine tr_sld dL_law_1179 h (fun j113 lj113 h => ?_)
                                                                      refine tcV_iw dL_law_1180 cw_L_145 ci_X8_copy rfl rfl (by decide) (show 0 < 1 by omega) h (fun a64 e => F_X8_copy  e) (Nat.le_of_ble_eq_true rfl) rfl rfl (Nat.le_of_ble_eq_true rfl) (fun a64 ea64 h => ?_)
                                                                      refine tr_icmp_eq (tgt := 1425) dL_law_1183 (by decide) h (fun c65 h => ?_) (fun c65 h => ?_)
                                                                      · refine tq_iinc (v := (v3 + (6 : Int32))) (ls' := [some (.ref (xb X)), some (rf X 7 0), some (rf X 8 0), some (.int (v3 + (6 : Int32)))]) dL_law_1425 rfl (by rfl) (by decide) (okp_at rfl) rfl ?_
                                                                        refine tq_goto (tgt := 18) dL_law_1428 (by decide) ?_
                                                                        exact ih _ _ h hk
                                                                      · refine tq_iconst (v := 0) dL_law_1186 (by decide) ?_
                                                                        exact tq_end dL_law_1187 h
                                                                    · refine r_case (c := ((xs X j1) &&& (63 : Int32)) = (32 : Int32)) h (fun c66 h => ?_) (fun c66 h => ?_)
                                                                      · refine tq_tin (tgt := 1188) (off := 1155) dL_law_33 (32 : Int32) c66 (by decide) (by decide) (by decide) (by decide) ?_
                                                                        refine tq_aload_n dL_law_1188 rfl ?_
                                                                        refine tq_xload_n dL_law_1189 rfl ?_
                                                                        refine tq_iload_n dL_law_1190 rfl ?_
                                                                        refine tq_iconst (v := 1) dL_law_1191 (by decide) ?_
                                                                        refine tq_iadd dL_law_1192 ?_
                                                                        refine tr_sld dL_law_1193 h (fun j114 lj114 h => ?_)
                                                                        refine tq_xload_n dL_law_1194 rfl ?_
                                                                        refine tq_iload_n dL_law_1195 rfl ?_
                                                                        refine tq_iconst (v := 2) dL_law_1196 (by decide) ?_
                                                                        refine tq_iadd dL_law_1197 ?_
                                                                        refine tr_sld dL_law_1198 h (fun j115 lj115 h => ?_)
                                                                        refine tq_xload_n dL_law_1199 rfl ?_
                                                                        refine tq_iload_n dL_law_1200 rfl ?_
                                                                        refine tq_iconst (v := 3) dL_law_1201 (by decide) ?_
                                                                        refine tq_iadd dL_law_1202 ?_
                                                                        refine tr_sld dL_law_1203 h (fun j116 lj116 h => ?_)
                                                                        refine tcV_iw dL_law_1204 cw_L_146 ci_X7_lay rfl rfl (by decide) (show 0 < 1 by omega) h (fun a65 e => F_X7_lay  e) (Nat.le_of_ble_eq_true rfl) rfl rfl (Nat.le_of_ble_eq_true rfl) (fun a65 ea65 h => ?_)
                                                                        refine tq_aload_n dL_law_1207 rfl ?_
                                                                        refine tq_xload_n dL_law_1208 rfl ?_
                                                                        refine tq_iload_n dL_law_1209 rfl ?_
                                                                        refine tq_iconst (v := 1) dL_law_1210 (by decide) ?_
                                                                        refine tq_iadd dL_law_1211 ?_
                                                                        refine tr_sld dL_law_1212 h (fun j117 lj117 h => ?_)
                                                                        refine tq_xload_n dL_law_1213 rfl ?_
                                                                        refine tq_iload_n dL_law_1214 rfl ?_
                                                                        refine tq_iconst (v := 2) dL_law_1215 (by decide) ?_
                                                                        refine tq_iadd dL_law_1216 ?_
                                                                        refine tr_sld dL_law_1217 h (fun j118 lj118 h => ?_)
                                                                        refine tq_xload_n dL_law_1218 rfl ?_
                                                                        refine tq_iload_n dL_law_1219 rfl ?_
                                                                        refine tq_iconst (v := 3) dL_law_1220 (by decide) ?_
                                                                        refine tq_iadd dL_law_1221 ?_
                                                                        refine tr_sld dL_law_1222 h (fun j119 lj119 h => ?_)
                                                                        refine tcV_iw dL_law_1223 cw_L_149 ci_X8_lay rfl rfl (by decide) (show 0 < 1 by omega) h (fun a66 e => F_X8_lay  e) (Nat.le_of_ble_eq_true rfl) rfl rfl (Nat.le_of_ble_eq_true rfl) (fun a66 ea66 h => ?_)
                                                                        refine tr_icmp_eq (tgt := 1425) dL_law_1226 (by decide) h (fun c67 h => ?_) (fun c67 h => ?_)
                                                                        · refine tq_iinc (v := (v3 + (6 : Int32))) (ls' := [some (.ref (xb X)), some (rf X 7 0), some (rf X 8 0), some (.int (v3 + (6 : Int32)))]) dL_law_1425 rfl (by rfl) (by decide) (okp_at rfl) rfl ?_
                                                                          refine tq_goto (tgt := 18) dL_law_1428 (by decide) ?_
                                                                          exact ih _ _ h hk
                                                                        · refine tq_iconst (v := 0) dL_law_1229 (by decide) ?_
                                                                          exact tq_end dL_law_1230 h
                                                                      · refine r_case (c := ((xs X j1) &&& (63 : Int32)) = (33 : Int32)) h (fun c68 h => ?_) (fun c68 h => ?_)
                                                                        · refine tq_tin (tgt := 1231) (off := 1198) dL_law_33 (33 : Int32) c68 (by decide) (by decide) (by decide) (by decide) ?_
                                                                          refine tq_aload_n dL_law_1231 rfl ?_
                                                                          refine tq_xload_n dL_law_1232 rfl ?_
                                                                          refine tq_iload_n dL_law_1233 rfl ?_
                                                                          refine tq_iconst (v := 1) dL_law_1234 (by decide) ?_
                                                                          refine tq_iadd dL_law_1235 ?_
                                                                          refine tr_sld dL_law_1236 h (fun j120 lj120 h => ?_)
                                                                          refine tq_xload_n dL_law_1237 rfl ?_
                                                                          refine tq_iload_n dL_law_1238 rfl ?_
                                                                          refine tq_iconst (v := 2) dL_law_1239 (by decide) ?_
                                                                          refine tq_iadd dL_law_1240 ?_
                                                                          refine tr_sld dL_law_1241 h (fun j121 lj121 h => ?_)
                                                                          refine tcV_ir dL_law_1242 cw_L_150 ci_X7_ask rfl rfl (by decide) (show 0 < 1 by omega) h (fun a67 e => F_X7_ask  e) (Nat.le_of_ble_eq_true rfl) rfl rfl (Nat.le_of_ble_eq_true rfl) (fun a67 ea67 h => ?_)
                                                                          refine tq_aload_n dL_law_1245 rfl ?_
                                                                          refine tq_xload_n dL_law_1246 rfl ?_
                                                                          refine tq_iload_n dL_law_1247 rfl ?_
                                                                          refine tq_iconst (v := 1) dL_law_1248 (by decide) ?_
                                                                          refine tq_iadd dL_law_1249 ?_
                                                                          refine tr_sld dL_law_1250 h (fun j122 lj122 h => ?_)
                                                                          refine tq_xload_n dL_law_1251 rfl ?_
                                                                          refine tq_iload_n dL_law_1252 rfl ?_
                                                                          refine tq_iconst (v := 2) dL_law_1253 (by decide) ?_
                                                                          refine tq_iadd dL_law_1254 ?_
                                                                          refine tr_sld dL_law_1255 h (fun j123 lj123 h => ?_)
                                                                          refine tcV_ir dL_law_1256 cw_L_153 ci_X8_ask rfl rfl (by decide) (show 0 < 1 by omega) h (fun a68 e => F_X8_ask  e) (Nat.le_of_ble_eq_true rfl) rfl rfl (Nat.le_of_ble_eq_true rfl) (fun a68 ea68 h => ?_)
                                                                          refine tr_icmp_eq (tgt := 1425) dL_law_1259 (by decide) h (fun c69 h => ?_) (fun c69 h => ?_)
                                                                          · refine tq_iinc (v := (v3 + (6 : Int32))) (ls' := [some (.ref (xb X)), some (rf X 7 0), some (rf X 8 0), some (.int (v3 + (6 : Int32)))]) dL_law_1425 rfl (by rfl) (by decide) (okp_at rfl) rfl ?_
                                                                            refine tq_goto (tgt := 18) dL_law_1428 (by decide) ?_
                                                                            exact ih _ _ h hk
                                                                          · refine tq_iconst (v := 0) dL_law_1262 (by decide) ?_
                                                                            exact tq_end dL_law_1263 h
                                                                        · refine r_case (c := ((xs X j1) &&& (63 : Int32)) = (34 : Int32)) h (fun c70 h => ?_) (fun c70 h => ?_)
                                                                          · refine tq_tin (tgt := 1264) (off := 1231) dL_law_33 (34 : Int32) c70 (by decide) (by decide) (by decide) (by decide) ?_
                                                                            refine tq_aload_n dL_law_1264 rfl ?_
                                                                            refine tq_xload_n dL_law_1265 rfl ?_
                                                                            refine tq_iload_n dL_law_1266 rfl ?_
                                                                            refine tq_iconst (v := 1) dL_law_1267 (by decide) ?_
                                                                            refine tq_iadd dL_law_1268 ?_
                                                                            refine tr_sld dL_law_1269 h (fun j124 lj124 h => ?_)
                                                                            refine tq_xload_n dL_law_1270 rfl ?_
                                                                            refine tq_iload_n dL_law_1271 rfl ?_
                                                                            refine tq_iconst (v := 2) dL_law_1272 (by decide) ?_
                                                                            refine tq_iadd dL_law_1273 ?_
                                                                            refine tr_sld dL_law_1274 h (fun j125 lj125 h => ?_)
                                                                            refine tcV_ir dL_law_1275 cw_L_154 ci_X7_item rfl rfl (by decide) (show 0 < 1 by omega) h (fun a69 e => F_X7_item  e) (Nat.le_of_ble_eq_true rfl) rfl rfl (Nat.le_of_ble_eq_true rfl) (fun a69 ea69 h => ?_)
                                                                            refine tq_aload_n dL_law_1278 rfl ?_
                                                                            refine tq_xload_n dL_law_1279 rfl ?_
                                                                            refine tq_iload_n dL_law_1280 rfl ?_
                                                                            refine tq_iconst (v := 1) dL_law_1281 (by decide) ?_
                                                                            refine tq_iadd dL_law_1282 ?_
                                                                            refine tr_sld dL_law_1283 h (fun j126 lj126 h => ?_)
                                                                            refine tq_xload_n dL_law_1284 rfl ?_
                                                                            refine tq_iload_n dL_law_1285 rfl ?_
                                                                            refine tq_iconst (v := 2) dL_law_1286 (by decide) ?_
                                                                            refine tq_iadd dL_law_1287 ?_
                                                                            refine tr_sld dL_law_1288 h (fun j127 lj127 h => ?_)
                                                                            refine tcV_ir dL_law_1289 cw_L_157 ci_X8_item rfl rfl (by decide) (show 0 < 1 by omega) h (fun a70 e => F_X8_item  e) (Nat.le_of_ble_eq_true rfl) rfl rfl (Nat.le_of_ble_eq_true rfl) (fun a70 ea70 h => ?_)
                                                                            refine tr_icmp_eq (tgt := 1425) dL_law_1292 (by decide) h (fun c71 h => ?_) (fun c71 h => ?_)
                                                                            · refine tq_iinc (v := (v3 + (6 : Int32))) (ls' := [some (.ref (xb X)), some (rf X 7 0), some (rf X 8 0), some (.int (v3 + (6 : Int32)))]) dL_law_1425 rfl (by rfl) (by decide) (okp_at rfl) rfl ?_
                                                                              refine tq_goto (tgt := 18) dL_law_1428 (by decide) ?_
                                                                              exact ih _ _ h hk
                                                                            · refine tq_iconst (v := 0) dL_law_1295 (by decide) ?_
                                                                              exact tq_end dL_law_1296 h
                                                                          · refine r_case (c := ((xs X j1) &&& (63 : Int32)) = (35 : Int32)) h (fun c72 h => ?_) (fun c72 h => ?_)
                                                                            · refine tq_tin (tgt := 1297) (off := 1264) dL_law_33 (35 : Int32) c72 (by decide) (by decide) (by decide) (by decide) ?_
                                                                              refine tq_aload_n dL_law_1297 rfl ?_
                                                                              refine tq_xload_n dL_law_1298 rfl ?_
                                                                              refine tq_iload_n dL_law_1299 rfl ?_
                                                                              refine tq_iconst (v := 1) dL_law_1300 (by decide) ?_
                                                                              refine tq_iadd dL_law_1301 ?_
                                                                              refine tr_sld dL_law_1302 h (fun j128 lj128 h => ?_)
                                                                              refine tq_xload_n dL_law_1303 rfl ?_
                                                                              refine tq_iload_n dL_law_1304 rfl ?_
                                                                              refine tq_iconst (v := 2) dL_law_1305 (by decide) ?_
                                                                              refine tq_iadd dL_law_1306 ?_
                                                                              refine tr_sld dL_law_1307 h (fun j129 lj129 h => ?_)
                                                                              refine tcV_ir dL_law_1308 cw_L_158 ci_X7_rest rfl rfl (by decide) (show 0 < 1 by omega) h (fun a71 e => F_X7_rest  e) (Nat.le_of_ble_eq_true rfl) rfl rfl (Nat.le_of_ble_eq_true rfl) (fun a71 ea71 h => ?_)
                                                                              refine tq_aload_n dL_law_1311 rfl ?_
                                                                              refine tq_xload_n dL_law_1312 rfl ?_
                                                                              refine tq_iload_n dL_law_1313 rfl ?_
                                                                              refine tq_iconst (v := 1) dL_law_1314 (by decide) ?_
                                                                              refine tq_iadd dL_law_1315 ?_
                                                                              refine tr_sld dL_law_1316 h (fun j130 lj130 h => ?_)
                                                                              refine tq_xload_n dL_law_1317 rfl ?_
                                                                              refine tq_iload_n dL_law_1318 rfl ?_
                                                                              refine tq_iconst (v := 2) dL_law_1319 (by decide) ?_
                                                                              refine tq_iadd dL_law_1320 ?_
                                                                              refine tr_sld dL_law_1321 h (fun j131 lj131 h => ?_)
                                                                              refine tcV_ir dL_law_1322 cw_L_161 ci_X8_rest rfl rfl (by decide) (show 0 < 1 by omega) h (fun a72 e => F_X8_rest  e) (Nat.le_of_ble_eq_true rfl) rfl rfl (Nat.le_of_ble_eq_true rfl) (fun a72 ea72 h => ?_)
                                                                              refine tr_icmp_eq (tgt := 1425) dL_law_1325 (by decide) h (fun c73 h => ?_) (fun c73 h => ?_)
                                                                              · refine tq_iinc (v := (v3 + (6 : Int32))) (ls' := [some (.ref (xb X)), some (rf X 7 0), some (rf X 8 0), some (.int (v3 + (6 : Int32)))]) dL_law_1425 rfl (by rfl) (by decide) (okp_at rfl) rfl ?_
                                                                                refine tq_goto (tgt := 18) dL_law_1428 (by decide) ?_
                                                                                exact ih _ _ h hk
                                                                              · refine tq_iconst (v := 0) dL_law_1328 (by decide) ?_
                                                                                exact tq_end dL_law_1329 h
                                                                            · refine r_case (c := ((xs X j1) &&& (63 : Int32)) = (36 : Int32)) h (fun c74 h => ?_) (fun c74 h => ?_)
                                                                              · refine tq_tin (tgt := 1330) (off := 1297) dL_law_33 (36 : Int32) c74 (by decide) (by decide) (by decide) (by decide) ?_
                                                                                refine tq_aload_n dL_law_1330 rfl ?_
                                                                                refine tq_xload_n dL_law_1331 rfl ?_
                                                                                refine tq_iload_n dL_law_1332 rfl ?_
                                                                                refine tq_iconst (v := 1) dL_law_1333 (by decide) ?_
                                                                                refine tq_iadd dL_law_1334 ?_
                                                                                refine tr_sld dL_law_1335 h (fun j132 lj132 h => ?_)
                                                                                refine tcV_iw dL_law_1336 cw_L_162 ci_X7_tell rfl rfl (by decide) (show 0 < 1 by omega) h (fun a73 e => F_X7_tell  e) (Nat.le_of_ble_eq_true rfl) rfl rfl (Nat.le_of_ble_eq_true rfl) (fun a73 ea73 h => ?_)
                                                                                refine tq_aload_n dL_law_1339 rfl ?_
                                                                                refine tq_xload_n dL_law_1340 rfl ?_
                                                                                refine tq_iload_n dL_law_1341 rfl ?_
                                                                                refine tq_iconst (v := 1) dL_law_1342 (by decide) ?_
                                                                                refine tq_iadd dL_law_1343 ?_
                                                                                refine tr_sld dL_law_1344 h (fun j133 lj133 h => ?_)
                                                                                refine tcV_iw dL_law_1345 cw_L_165 ci_X8_tell rfl rfl (by decide) (show 0 < 1 by omega) h (fun a74 e => F_X8_tell  e) (Nat.le_of_ble_eq_true rfl) rfl rfl (Nat.le_of_ble_eq_true rfl) (fun a74 ea74 h => ?_)
                                                                                refine tr_icmp_eq (tgt := 1425) dL_law_1348 (by decide) h (fun c75 h => ?_) (fun c75 h => ?_)
                                                                                · refine tq_iinc (v := (v3 + (6 : Int32))) (ls' := [some (.ref (xb X)), some (rf X 7 0), some (rf X 8 0), some (.int (v3 + (6 : Int32)))]) dL_law_1425 rfl (by rfl) (by decide) (okp_at rfl) rfl ?_
                                                                                  refine tq_goto (tgt := 18) dL_law_1428 (by decide) ?_
                                                                                  exact ih _ _ h hk
                                                                                · refine tq_iconst (v := 0) dL_law_1351 (by decide) ?_
                                                                                  exact tq_end dL_law_1352 h
                                                                              · refine r_case (c := ((xs X j1) &&& (63 : Int32)) = (37 : Int32)) h (fun c76 h => ?_) (fun c76 h => ?_)
                                                                                · refine tq_tin (tgt := 1353) (off := 1320) dL_law_33 (37 : Int32) c76 (by decide) (by decide) (by decide) (by decide) ?_
                                                                                  refine tq_aload_n dL_law_1353 rfl ?_
                                                                                  refine tq_xload_n dL_law_1354 rfl ?_
                                                                                  refine tq_iload_n dL_law_1355 rfl ?_
                                                                                  refine tq_iconst (v := 1) dL_law_1356 (by decide) ?_
                                                                                  refine tq_iadd dL_law_1357 ?_
                                                                                  refine tr_sld dL_law_1358 h (fun j134 lj134 h => ?_)
                                                                                  refine tcV_iw dL_law_1359 cw_L_166 ci_X7_check rfl rfl (by decide) (show 0 < 1 by omega) h (fun a75 e => F_X7_check  e) (Nat.le_of_ble_eq_true rfl) rfl rfl (Nat.le_of_ble_eq_true rfl) (fun a75 ea75 h => ?_)
                                                                                  refine tq_aload_n dL_law_1362 rfl ?_
                                                                                  refine tq_xload_n dL_law_1363 rfl ?_
                                                                                  refine tq_iload_n dL_law_1364 rfl ?_
                                                                                  refine tq_iconst (v := 1) dL_law_1365 (by decide) ?_
                                                                                  refine tq_iadd dL_law_1366 ?_
                                                                                  refine tr_sld dL_law_1367 h (fun j135 lj135 h => ?_)
                                                                                  refine tcV_iw dL_law_1368 cw_L_169 ci_X8_check rfl rfl (by decide) (show 0 < 1 by omega) h (fun a76 e => F_X8_check  e) (Nat.le_of_ble_eq_true rfl) rfl rfl (Nat.le_of_ble_eq_true rfl) (fun a76 ea76 h => ?_)
                                                                                  refine tr_icmp_eq (tgt := 1425) dL_law_1371 (by decide) h (fun c77 h => ?_) (fun c77 h => ?_)
                                                                                  · refine tq_iinc (v := (v3 + (6 : Int32))) (ls' := [some (.ref (xb X)), some (rf X 7 0), some (rf X 8 0), some (.int (v3 + (6 : Int32)))]) dL_law_1425 rfl (by rfl) (by decide) (okp_at rfl) rfl ?_
                                                                                    refine tq_goto (tgt := 18) dL_law_1428 (by decide) ?_
                                                                                    exact ih _ _ h hk
                                                                                  · refine tq_iconst (v := 0) dL_law_1374 (by decide) ?_
                                                                                    exact tq_end dL_law_1375 h
                                                                                · refine r_case (c := ((xs X j1) &&& (63 : Int32)) = (38 : Int32)) h (fun c78 h => ?_) (fun c78 h => ?_)
                                                                                  · refine tq_tin (tgt := 1376) (off := 1343) dL_law_33 (38 : Int32) c78 (by decide) (by decide) (by decide) (by decide) ?_
                                                                                    refine tq_aload_n dL_law_1376 rfl ?_
                                                                                    refine tcV_iw dL_law_1377 cw_L_170 ci_X7_keep rfl rfl (by decide) (show 0 < 1 by omega) h (fun a77 e => F_X7_keep  e) (Nat.le_of_ble_eq_true rfl) rfl rfl (Nat.le_of_ble_eq_true rfl) (fun a77 ea77 h => ?_)
                                                                                    refine tq_aload_n dL_law_1380 rfl ?_
                                                                                    refine tcV_iw dL_law_1381 cw_L_173 ci_X8_keep rfl rfl (by decide) (show 0 < 1 by omega) h (fun a78 e => F_X8_keep  e) (Nat.le_of_ble_eq_true rfl) rfl rfl (Nat.le_of_ble_eq_true rfl) (fun a78 ea78 h => ?_)
                                                                                    refine tr_icmp_eq (tgt := 1425) dL_law_1384 (by decide) h (fun c79 h => ?_) (fun c79 h => ?_)
                                                                                    · refine tq_iinc (v := (v3 + (6 : Int32))) (ls' := [some (.ref (xb X)), some (rf X 7 0), some (rf X 8 0), some (.int (v3 + (6 : Int32)))]) dL_law_1425 rfl (by rfl) (by decide) (okp_at rfl) rfl ?_
                                                                                      refine tq_goto (tgt := 18) dL_law_1428 (by decide) ?_
                                                                                      exact ih _ _ h hk
                                                                                    · refine tq_iconst (v := 0) dL_law_1387 (by decide) ?_
                                                                                      exact tq_end dL_law_1388 h
                                                                                  · refine r_case (c := ((xs X j1) &&& (63 : Int32)) = (39 : Int32)) h (fun c80 h => ?_) (fun c80 h => ?_)
                                                                                    · refine tq_tin (tgt := 1389) (off := 1356) dL_law_33 (39 : Int32) c80 (by decide) (by decide) (by decide) (by decide) ?_
                                                                                      refine tq_aload_n dL_law_1389 rfl ?_
                                                                                      refine tcV_iw dL_law_1390 cw_L_174 ci_X7_back rfl rfl (by decide) (show 0 < 1 by omega) h (fun a79 e => F_X7_back  e) (Nat.le_of_ble_eq_true rfl) rfl rfl (Nat.le_of_ble_eq_true rfl) (fun a79 ea79 h => ?_)
                                                                                      refine tq_aload_n dL_law_1393 rfl ?_
                                                                                      refine tcV_iw dL_law_1394 cw_L_177 ci_X8_back rfl rfl (by decide) (show 0 < 1 by omega) h (fun a80 e => F_X8_back  e) (Nat.le_of_ble_eq_true rfl) rfl rfl (Nat.le_of_ble_eq_true rfl) (fun a80 ea80 h => ?_)
                                                                                      refine tr_icmp_eq (tgt := 1425) dL_law_1397 (by decide) h (fun c81 h => ?_) (fun c81 h => ?_)
                                                                                      · refine tq_iinc (v := (v3 + (6 : Int32))) (ls' := [some (.ref (xb X)), some (rf X 7 0), some (rf X 8 0), some (.int (v3 + (6 : Int32)))]) dL_law_1425 rfl (by rfl) (by decide) (okp_at rfl) rfl ?_
                                                                                        refine tq_goto (tgt := 18) dL_law_1428 (by decide) ?_
                                                                                        exact ih _ _ h hk
                                                                                      · refine tq_iconst (v := 0) dL_law_1400 (by decide) ?_
                                                                                        exact tq_end dL_law_1401 h
                                                                                    · refine r_case (c := ((xs X j1) &&& (63 : Int32)) = (40 : Int32)) h (fun c82 h => ?_) (fun c82 h => ?_)
                                                                                      · refine tq_tin (tgt := 1402) (off := 1369) dL_law_33 (40 : Int32) c82 (by decide) (by decide) (by decide) (by decide) ?_
                                                                                        refine tq_aload_n dL_law_1402 rfl ?_
                                                                                        refine tq_xload_n dL_law_1403 rfl ?_
                                                                                        refine tq_iload_n dL_law_1404 rfl ?_
                                                                                        refine tq_iconst (v := 1) dL_law_1405 (by decide) ?_
                                                                                        refine tq_iadd dL_law_1406 ?_
                                                                                        refine tr_sld dL_law_1407 h (fun j136 lj136 h => ?_)
                                                                                        refine tcV_ir dL_law_1408 cw_L_178 ci_X7_count rfl rfl (by decide) (show 0 < 1 by omega) h (fun a81 e => F_X7_count  e) (Nat.le_of_ble_eq_true rfl) rfl rfl (Nat.le_of_ble_eq_true rfl) (fun a81 ea81 h => ?_)
                                                                                        refine tq_aload_n dL_law_1411 rfl ?_
                                                                                        refine tq_xload_n dL_law_1412 rfl ?_
                                                                                        refine tq_iload_n dL_law_1413 rfl ?_
                                                                                        refine tq_iconst (v := 1) dL_law_1414 (by decide) ?_
                                                                                        refine tq_iadd dL_law_1415 ?_
                                                                                        refine tr_sld dL_law_1416 h (fun j137 lj137 h => ?_)
                                                                                        refine tcV_ir dL_law_1417 cw_L_181 ci_X8_count rfl rfl (by decide) (show 0 < 1 by omega) h (fun a82 e => F_X8_count  e) (Nat.le_of_ble_eq_true rfl) rfl rfl (Nat.le_of_ble_eq_true rfl) (fun a82 ea82 h => ?_)
                                                                                        refine tr_icmp_eq (tgt := 1425) dL_law_1420 (by decide) h (fun c83 h => ?_) (fun c83 h => ?_)
                                                                                        · refine tq_iinc (v := (v3 + (6 : Int32))) (ls' := [some (.ref (xb X)), some (rf X 7 0), some (rf X 8 0), some (.int (v3 + (6 : Int32)))]) dL_law_1425 rfl (by rfl) (by decide) (okp_at rfl) rfl ?_
                                                                                          refine tq_goto (tgt := 18) dL_law_1428 (by decide) ?_
                                                                                          exact ih _ _ h hk
                                                                                        · refine tq_iconst (v := 0) dL_law_1423 (by decide) ?_
                                                                                          exact tq_end dL_law_1424 h
                                                                                      · refine tq_tout (tgt := 1425) dL_law_33 (tsw_0_40 c2 c4 c6 c8 c10 c12 c14 c16 c18 c20 c22 c24 c26 c28 c30 c32 c34 c36 c38 c40 c42 c44 c46 c48 c50 c52 c54 c56 c58 c60 c62 c64 c66 c68 c70 c72 c74 c76 c78 c80 c82) (by decide) ?_
                                                                                        refine tq_iinc (v := (v3 + (6 : Int32))) (ls' := [some (.ref (xb X)), some (rf X 7 0), some (rf X 8 0), some (.int (v3 + (6 : Int32)))]) dL_law_1425 rfl (by rfl) (by decide) (okp_at rfl) rfl ?_
                                                                                        refine tq_goto (tgt := 18) dL_law_1428 (by decide) ?_
                                                                                        exact ih _ _ h hk
