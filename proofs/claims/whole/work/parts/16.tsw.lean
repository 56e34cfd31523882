theorem tsw_0_2 {x : Int32} (c0 : ¬ x = (0 : Int32)) (c1 : ¬ x = (1 : Int32)) (c2 : ¬ x = (2 : Int32)) : x.toInt < 0 ∨ 2 < x.toInt := by
  have q0 := ne_toInt c0 (n := 0) (by decide)
  have q1 := ne_toInt c1 (n := 1) (by decide)
  have q2 := ne_toInt c2 (n := 2) (by decide)
  omega
theorem tsw_0_3 {x : Int32} (c0 : ¬ x = (0 : Int32)) (c1 : ¬ x = (1 : Int32)) (c2 : ¬ x = (2 : Int32)) (c3 : ¬ x = (3 : Int32)) : x.toInt < 0 ∨ 3 < x.toInt := by
  have q0 := ne_toInt c0 (n := 0) (by decide)
  have q1 := ne_toInt c1 (n := 1) (by decide)
  have q2 := ne_toInt c2 (n := 2) (by decide)
  have q3 := ne_toInt c3 (n := 3) (by decide)
  omega
theorem tsw_0_5 {x : Int32} (c0 : ¬ x = (0 : Int32)) (c1 : ¬ x = (1 : Int32)) (c2 : ¬ x = (2 : Int32)) (c3 : ¬ x = (3 : Int32)) (c4 : ¬ x = (4 : Int32)) (c5 : ¬ x = (5 : Int32)) : x.toInt < 0 ∨ 5 < x.toInt := by
  have q0 := ne_toInt c0 (n := 0) (by decide)
  have q1 := ne_toInt c1 (n := 1) (by decide)
  have q2 := ne_toInt c2 (n := 2) (by decide)
  have q3 := ne_toInt c3 (n := 3) (by decide)
  have q4 := ne_toInt c4 (n := 4) (by decide)
  have q5 := ne_toInt c5 (n := 5) (by decide)
  omega
theorem tsw_0_7 {x : Int32} (c0 : ¬ x = (0 : Int32)) (c1 : ¬ x = (1 : Int32)) (c2 : ¬ x = (2 : Int32)) (c3 : ¬ x = (3 : Int32)) (c4 : ¬ x = (4 : Int32)) (c5 : ¬ x = (5 : Int32)) (c6 : ¬ x = (6 : Int32)) (c7 : ¬ x = (7 : Int32)) : x.toInt < 0 ∨ 7 < x.toInt := by
  have q0 := ne_toInt c0 (n := 0) (by decide)
  have q1 := ne_toInt c1 (n := 1) (by decide)
  have q2 := ne_toInt c2 (n := 2) (by decide)
  have q3 := ne_toInt c3 (n := 3) (by decide)
  have q4 := ne_toInt c4 (n := 4) (by decide)
  have q5 := ne_toInt c5 (n := 5) (by decide)
  have q6 := ne_toInt c6 (n := 6) (by decide)
  have q7 := ne_toInt c7 (n := 7) (by decide)
  omega
theorem tsw_0_8 {x : Int32} (c0 : ¬ x = (0 : Int32)) (c1 : ¬ x = (1 : Int32)) (c2 : ¬ x = (2 : Int32)) (c3 : ¬ x = (3 : Int32)) (c4 : ¬ x = (4 : Int32)) (c5 : ¬ x = (5 : Int32)) (c6 : ¬ x = (6 : Int32)) (c7 : ¬ x = (7 : Int32)) (c8 : ¬ x = (8 : Int32)) : x.toInt < 0 ∨ 8 < x.toInt := by
  have q0 := ne_toInt c0 (n := 0) (by decide)
  have q1 := ne_toInt c1 (n := 1) (by decide)
  have q2 := ne_toInt c2 (n := 2) (by decide)
  have q3 := ne_toInt c3 (n := 3) (by decide)
  have q4 := ne_toInt c4 (n := 4) (by decide)
  have q5 := ne_toInt c5 (n := 5) (by decide)
  have q6 := ne_toInt c6 (n := 6) (by decide)
  have q7 := ne_toInt c7 (n := 7) (by decide)
  have q8 := ne_toInt c8 (n := 8) (by decide)
  omega
theorem tsw_1_3 {x : Int32} (c0 : ¬ x = (1 : Int32)) (c1 : ¬ x = (2 : Int32)) (c2 : ¬ x = (3 : Int32)) : x.toInt < 1 ∨ 3 < x.toInt := by
  have q0 := ne_toInt c0 (n := 1) (by decide)
  have q1 := ne_toInt c1 (n := 2) (by decide)
  have q2 := ne_toInt c2 (n := 3) (by decide)
  omega
theorem tsw_1_5 {x : Int32} (c0 : ¬ x = (1 : Int32)) (c1 : ¬ x = (2 : Int32)) (c2 : ¬ x = (3 : Int32)) (c3 : ¬ x = (4 : Int32)) (c4 : ¬ x = (5 : Int32)) : x.toInt < 1 ∨ 5 < x.toInt := by
  have q0 := ne_toInt c0 (n := 1) (by decide)
  have q1 := ne_toInt c1 (n := 2) (by decide)
  have q2 := ne_toInt c2 (n := 3) (by decide)
  have q3 := ne_toInt c3 (n := 4) (by decide)
  have q4 := ne_toInt c4 (n := 5) (by decide)
  omega
theorem tsw_38_62 {x : Int32} (c0 : ¬ x = (38 : Int32)) (c1 : ¬ x = (39 : Int32)) (c2 : ¬ x = (40 : Int32)) (c3 : ¬ x = (41 : Int32)) (c4 : ¬ x = (42 : Int32)) (c5 : ¬ x = (43 : Int32)) (c6 : ¬ x = (44 : Int32)) (c7 : ¬ x = (45 : Int32)) (c8 : ¬ x = (46 : Int32)) (c9 : ¬ x = (47 : Int32)) (c10 : ¬ x = (48 : Int32)) (c11 : ¬ x = (49 : Int32)) (c12 : ¬ x = (50 : Int32)) (c13 : ¬ x = (51 : Int32)) (c14 : ¬ x = (52 : Int32)) (c15 : ¬ x = (53 : Int32)) (c16 : ¬ x = (54 : Int32)) (c17 : ¬ x = (55 : Int32)) (c18 : ¬ x = (56 : Int32)) (c19 : ¬ x = (57 : Int32)) (c20 : ¬ x = (58 : Int32)) (c21 : ¬ x = (59 : Int32)) (c22 : ¬ x = (60 : Int32)) (c23 : ¬ x = (61 : Int32)) (c24 : ¬ x = (62 : Int32)) : x.toInt < 38 ∨ 62 < x.toInt := by
  have q0 := ne_toInt c0 (n := 38) (by decide)
  have q1 := ne_toInt c1 (n := 39) (by decide)
  have q2 := ne_toInt c2 (n := 40) (by decide)
  have q3 := ne_toInt c3 (n := 41) (by decide)
  have q4 := ne_toInt c4 (n := 42) (by decide)
  have q5 := ne_toInt c5 (n := 43) (by decide)
  have q6 := ne_toInt c6 (n := 44) (by decide)
  have q7 := ne_toInt c7 (n := 45) (by decide)
  have q8 := ne_toInt c8 (n := 46) (by decide)
  have q9 := ne_toInt c9 (n := 47) (by decide)
  have q10 := ne_toInt c10 (n := 48) (by decide)
  have q11 := ne_toInt c11 (n := 49) (by decide)
  have q12 := ne_toInt c12 (n := 50) (by decide)
  have q13 := ne_toInt c13 (n := 51) (by decide)
  have q14 := ne_toInt c14 (n := 52) (by decide)
  have q15 := ne_toInt c15 (n := 53) (by decide)
  have q16 := ne_toInt c16 (n := 54) (by decide)
  have q17 := ne_toInt c17 (n := 55) (by decide)
  have q18 := ne_toInt c18 (n := 56) (by decide)
  have q19 := ne_toInt c19 (n := 57) (by decide)
  have q20 := ne_toInt c20 (n := 58) (by decide)
  have q21 := ne_toInt c21 (n := 59) (by decide)
  have q22 := ne_toInt c22 (n := 60) (by decide)
  have q23 := ne_toInt c23 (n := 61) (by decide)
  have q24 := ne_toInt c24 (n := 62) (by decide)
  omega
