section
/-- a private method of a class that the tables say can be made, by its rows of tables_1 -/
def lw_okq (q : MethodName × Nat) : Prop := (q.1.cls ≠ "java/lang/invoke/MethodHandle" ∧ q.1.cls ≠ "java/lang/invoke/VarHandle") ∧ Cond.instantiable q.1.cls q.2 ∈ tables_1 ∧ Cond.privateMethod q.1 ∈ tables_1 ∧ Cond.instanceMethod q.1 ∈ tables_1
theorem lw_p0 : lw_okq (⟨"NoonVows$Land", "addPerson", "(III)V"⟩, 13) := ⟨⟨by decide +kernel, by decide +kernel⟩, List.mem_of_getElem? (i := 66) (by decide +kernel), List.mem_of_getElem? (i := 274) (by decide +kernel), List.mem_of_getElem? (i := 275) (by decide +kernel)⟩
theorem lw_p1 : lw_okq (⟨"NoonVows$Person", "comes", "(III)V"⟩, 5) := ⟨⟨by decide +kernel, by decide +kernel⟩, List.mem_of_getElem? (i := 73) (by decide +kernel), List.mem_of_getElem? (i := 278) (by decide +kernel), List.mem_of_getElem? (i := 279) (by decide +kernel)⟩
theorem lw_p2 : lw_okq (⟨"NoonVows$Land", "hasPerson", "(I)Z"⟩, 13) := ⟨⟨by decide +kernel, by decide +kernel⟩, List.mem_of_getElem? (i := 66) (by decide +kernel), List.mem_of_getElem? (i := 286) (by decide +kernel), List.mem_of_getElem? (i := 287) (by decide +kernel)⟩
theorem lw_p3 : lw_okq (⟨"NoonVows$Land", "vowsGivenBy", "(I)I"⟩, 13) := ⟨⟨by decide +kernel, by decide +kernel⟩, List.mem_of_getElem? (i := 66) (by decide +kernel), List.mem_of_getElem? (i := 291) (by decide +kernel), List.mem_of_getElem? (i := 292) (by decide +kernel)⟩
theorem lw_p4 : lw_okq (⟨"NoonVows$Land", "timesIn", "([II)I"⟩, 13) := ⟨⟨by decide +kernel, by decide +kernel⟩, List.mem_of_getElem? (i := 66) (by decide +kernel), List.mem_of_getElem? (i := 295) (by decide +kernel), List.mem_of_getElem? (i := 296) (by decide +kernel)⟩
theorem lw_p5 : lw_okq (⟨"NoonVows$Land", "vowsGivenTo", "(I)I"⟩, 13) := ⟨⟨by decide +kernel, by decide +kernel⟩, List.mem_of_getElem? (i := 66) (by decide +kernel), List.mem_of_getElem? (i := 299) (by decide +kernel), List.mem_of_getElem? (i := 300) (by decide +kernel)⟩
theorem lw_p6 : lw_okq (⟨"NoonVows$Person", "noon", "()I"⟩, 5) := ⟨⟨by decide +kernel, by decide +kernel⟩, List.mem_of_getElem? (i := 73) (by decide +kernel), List.mem_of_getElem? (i := 303) (by decide +kernel), List.mem_of_getElem? (i := 304) (by decide +kernel)⟩
theorem lw_p7 : lw_okq (⟨"NoonVows$Person", "pays", "()I"⟩, 5) := ⟨⟨by decide +kernel, by decide +kernel⟩, List.mem_of_getElem? (i := 73) (by decide +kernel), List.mem_of_getElem? (i := 309) (by decide +kernel), List.mem_of_getElem? (i := 310) (by decide +kernel)⟩
theorem lw_p8 : lw_okq (⟨"NoonVows$Person", "worth", "()I"⟩, 5) := ⟨⟨by decide +kernel, by decide +kernel⟩, List.mem_of_getElem? (i := 73) (by decide +kernel), List.mem_of_getElem? (i := 315) (by decide +kernel), List.mem_of_getElem? (i := 316) (by decide +kernel)⟩
theorem lw_p9 : lw_okq (⟨"NoonVows$Person", "isOf", "(I)Z"⟩, 5) := ⟨⟨by decide +kernel, by decide +kernel⟩, List.mem_of_getElem? (i := 73) (by decide +kernel), List.mem_of_getElem? (i := 323) (by decide +kernel), List.mem_of_getElem? (i := 324) (by decide +kernel)⟩
theorem lw_p10 : lw_okq (⟨"NoonVows$Person", "changeEast", "(I)I"⟩, 5) := ⟨⟨by decide +kernel, by decide +kernel⟩, List.mem_of_getElem? (i := 73) (by decide +kernel), List.mem_of_getElem? (i := 338) (by decide +kernel), List.mem_of_getElem? (i := 339) (by decide +kernel)⟩
theorem lw_p11 : lw_okq (⟨"NoonVows$Person", "changeFaith", "(I)I"⟩, 5) := ⟨⟨by decide +kernel, by decide +kernel⟩, List.mem_of_getElem? (i := 73) (by decide +kernel), List.mem_of_getElem? (i := 342) (by decide +kernel), List.mem_of_getElem? (i := 343) (by decide +kernel)⟩
theorem lw_p12 : lw_okq (⟨"NoonVows$Person", "changePurse", "(I)I"⟩, 5) := ⟨⟨by decide +kernel, by decide +kernel⟩, List.mem_of_getElem? (i := 73) (by decide +kernel), List.mem_of_getElem? (i := 346) (by decide +kernel), List.mem_of_getElem? (i := 347) (by decide +kernel)⟩
theorem lw_p13 : lw_okq (⟨"NoonVows$Land", "strikeOff", "(I)V"⟩, 13) := ⟨⟨by decide +kernel, by decide +kernel⟩, List.mem_of_getElem? (i := 66) (by decide +kernel), List.mem_of_getElem? (i := 355) (by decide +kernel), List.mem_of_getElem? (i := 356) (by decide +kernel)⟩
theorem lw_p14 : lw_okq (⟨"NoonVows$Land", "lapse", "(I)V"⟩, 13) := ⟨⟨by decide +kernel, by decide +kernel⟩, List.mem_of_getElem? (i := 66) (by decide +kernel), List.mem_of_getElem? (i := 359) (by decide +kernel), List.mem_of_getElem? (i := 360) (by decide +kernel)⟩
theorem lw_p15 : lw_okq (⟨"NoonVows$Land", "addVow", "(III)V"⟩, 13) := ⟨⟨by decide +kernel, by decide +kernel⟩, List.mem_of_getElem? (i := 66) (by decide +kernel), List.mem_of_getElem? (i := 367) (by decide +kernel), List.mem_of_getElem? (i := 368) (by decide +kernel)⟩
def lw_privs_1 : List (MethodName × Nat) := [(⟨"NoonVows$Land", "addPerson", "(III)V"⟩, 13), (⟨"NoonVows$Person", "comes", "(III)V"⟩, 5), (⟨"NoonVows$Land", "hasPerson", "(I)Z"⟩, 13), (⟨"NoonVows$Land", "vowsGivenBy", "(I)I"⟩, 13), (⟨"NoonVows$Land", "timesIn", "([II)I"⟩, 13), (⟨"NoonVows$Land", "vowsGivenTo", "(I)I"⟩, 13), (⟨"NoonVows$Person", "noon", "()I"⟩, 5), (⟨"NoonVows$Person", "pays", "()I"⟩, 5), (⟨"NoonVows$Person", "worth", "()I"⟩, 5), (⟨"NoonVows$Person", "isOf", "(I)Z"⟩, 5), (⟨"NoonVows$Person", "changeEast", "(I)I"⟩, 5), (⟨"NoonVows$Person", "changeFaith", "(I)I"⟩, 5), (⟨"NoonVows$Person", "changePurse", "(I)I"⟩, 5), (⟨"NoonVows$Land", "strikeOff", "(I)V"⟩, 13), (⟨"NoonVows$Land", "lapse", "(I)V"⟩, 13), (⟨"NoonVows$Land", "addVow", "(III)V"⟩, 13)]
theorem lw_r1 : ∀ q ∈ lw_privs_1, lw_okq q := List.forall_mem_cons.mpr ⟨lw_p0, List.forall_mem_cons.mpr ⟨lw_p1, List.forall_mem_cons.mpr ⟨lw_p2, List.forall_mem_cons.mpr ⟨lw_p3, List.forall_mem_cons.mpr ⟨lw_p4, List.forall_mem_cons.mpr ⟨lw_p5, List.forall_mem_cons.mpr ⟨lw_p6, List.forall_mem_cons.mpr ⟨lw_p7, List.forall_mem_cons.mpr ⟨lw_p8, List.forall_mem_cons.mpr ⟨lw_p9, List.forall_mem_cons.mpr ⟨lw_p10, List.forall_mem_cons.mpr ⟨lw_p11, List.forall_mem_cons.mpr ⟨lw_p12, List.forall_mem_cons.mpr ⟨lw_p13, List.forall_mem_cons.mpr ⟨lw_p14, List.forall_mem_cons.mpr ⟨lw_p15, fun _ h => absurd h List.not_mem_nil⟩⟩⟩⟩⟩⟩⟩⟩⟩⟩⟩⟩⟩⟩⟩⟩
theorem lw_p16 : lw_okq (⟨"NoonVows$Land", "hasVow", "(I)Z"⟩, 13) := ⟨⟨by decide +kernel, by decide +kernel⟩, List.mem_of_getElem? (i := 66) (by decide +kernel), List.mem_of_getElem? (i := 375) (by decide +kernel), List.mem_of_getElem? (i := 376) (by decide +kernel)⟩
theorem lw_p17 : lw_okq (⟨"NoonVows$Land", "keeps", "(I)I"⟩, 13) := ⟨⟨by decide +kernel, by decide +kernel⟩, List.mem_of_getElem? (i := 66) (by decide +kernel), List.mem_of_getElem? (i := 379) (by decide +kernel), List.mem_of_getElem? (i := 380) (by decide +kernel)⟩
theorem lw_p18 : lw_okq (⟨"NoonVows$Laws", "gives", "(IIII)I"⟩, 2) := ⟨⟨by decide +kernel, by decide +kernel⟩, List.mem_of_getElem? (i := 26) (by decide +kernel), List.mem_of_getElem? (i := 387) (by decide +kernel), List.mem_of_getElem? (i := 388) (by decide +kernel)⟩
theorem lw_p19 : lw_okq (⟨"NoonVows$Person", "keepsFrom", "(I)I"⟩, 5) := ⟨⟨by decide +kernel, by decide +kernel⟩, List.mem_of_getElem? (i := 73) (by decide +kernel), List.mem_of_getElem? (i := 401) (by decide +kernel), List.mem_of_getElem? (i := 402) (by decide +kernel)⟩
theorem lw_p20 : lw_okq (⟨"NoonVows$Land", "drawPerson", "()V"⟩, 13) := ⟨⟨by decide +kernel, by decide +kernel⟩, List.mem_of_getElem? (i := 66) (by decide +kernel), List.mem_of_getElem? (i := 420) (by decide +kernel), List.mem_of_getElem? (i := 421) (by decide +kernel)⟩
theorem lw_p21 : lw_okq (⟨"NoonVows$Land", "draw", "()I"⟩, 13) := ⟨⟨by decide +kernel, by decide +kernel⟩, List.mem_of_getElem? (i := 66) (by decide +kernel), List.mem_of_getElem? (i := 424) (by decide +kernel), List.mem_of_getElem? (i := 425) (by decide +kernel)⟩
theorem lw_p22 : lw_okq (⟨"NoonVows$Land", "passHours", "(I)V"⟩, 13) := ⟨⟨by decide +kernel, by decide +kernel⟩, List.mem_of_getElem? (i := 66) (by decide +kernel), List.mem_of_getElem? (i := 438) (by decide +kernel), List.mem_of_getElem? (i := 439) (by decide +kernel)⟩
theorem lw_p23 : lw_okq (⟨"NoonVows$Land", "passHour", "()V"⟩, 13) := ⟨⟨by decide +kernel, by decide +kernel⟩, List.mem_of_getElem? (i := 66) (by decide +kernel), List.mem_of_getElem? (i := 442) (by decide +kernel), List.mem_of_getElem? (i := 443) (by decide +kernel)⟩
theorem lw_p24 : lw_okq (⟨"NoonVows$Land", "callVowsAtNoon", "()V"⟩, 13) := ⟨⟨by decide +kernel, by decide +kernel⟩, List.mem_of_getElem? (i := 66) (by decide +kernel), List.mem_of_getElem? (i := 446) (by decide +kernel), List.mem_of_getElem? (i := 447) (by decide +kernel)⟩
theorem lw_p25 : lw_okq (⟨"NoonVows$Land", "payDebts", "()V"⟩, 13) := ⟨⟨by decide +kernel, by decide +kernel⟩, List.mem_of_getElem? (i := 66) (by decide +kernel), List.mem_of_getElem? (i := 452) (by decide +kernel), List.mem_of_getElem? (i := 453) (by decide +kernel)⟩
theorem lw_p26 : lw_okq (⟨"NoonVows$Person", "receive", "(I)V"⟩, 5) := ⟨⟨by decide +kernel, by decide +kernel⟩, List.mem_of_getElem? (i := 73) (by decide +kernel), List.mem_of_getElem? (i := 457) (by decide +kernel), List.mem_of_getElem? (i := 458) (by decide +kernel)⟩
theorem lw_p27 : lw_okq (⟨"NoonVows$Land", "givers", "()I"⟩, 13) := ⟨⟨by decide +kernel, by decide +kernel⟩, List.mem_of_getElem? (i := 66) (by decide +kernel), List.mem_of_getElem? (i := 466) (by decide +kernel), List.mem_of_getElem? (i := 467) (by decide +kernel)⟩
theorem lw_p28 : lw_okq (⟨"NoonVows$Land", "bitsOf", "([I)I"⟩, 13) := ⟨⟨by decide +kernel, by decide +kernel⟩, List.mem_of_getElem? (i := 66) (by decide +kernel), List.mem_of_getElem? (i := 470) (by decide +kernel), List.mem_of_getElem? (i := 471) (by decide +kernel)⟩
theorem lw_p29 : lw_okq (⟨"NoonVows$Land", "takers", "()I"⟩, 13) := ⟨⟨by decide +kernel, by decide +kernel⟩, List.mem_of_getElem? (i := 66) (by decide +kernel), List.mem_of_getElem? (i := 474) (by decide +kernel), List.mem_of_getElem? (i := 475) (by decide +kernel)⟩
theorem lw_p30 : lw_okq (⟨"NoonVows$Land", "longestChain", "()I"⟩, 13) := ⟨⟨by decide +kernel, by decide +kernel⟩, List.mem_of_getElem? (i := 66) (by decide +kernel), List.mem_of_getElem? (i := 478) (by decide +kernel), List.mem_of_getElem? (i := 479) (by decide +kernel)⟩
theorem lw_p31 : lw_okq (⟨"NoonVows$Land", "fewestVowsBetween", "(II)I"⟩, 13) := ⟨⟨by decide +kernel, by decide +kernel⟩, List.mem_of_getElem? (i := 66) (by decide +kernel), List.mem_of_getElem? (i := 489) (by decide +kernel), List.mem_of_getElem? (i := 490) (by decide +kernel)⟩
def lw_privs_2 : List (MethodName × Nat) := [(⟨"NoonVows$Land", "hasVow", "(I)Z"⟩, 13), (⟨"NoonVows$Land", "keeps", "(I)I"⟩, 13), (⟨"NoonVows$Laws", "gives", "(IIII)I"⟩, 2), (⟨"NoonVows$Person", "keepsFrom", "(I)I"⟩, 5), (⟨"NoonVows$Land", "drawPerson", "()V"⟩, 13), (⟨"NoonVows$Land", "draw", "()I"⟩, 13), (⟨"NoonVows$Land", "passHours", "(I)V"⟩, 13), (⟨"NoonVows$Land", "passHour", "()V"⟩, 13), (⟨"NoonVows$Land", "callVowsAtNoon", "()V"⟩, 13), (⟨"NoonVows$Land", "payDebts", "()V"⟩, 13), (⟨"NoonVows$Person", "receive", "(I)V"⟩, 5), (⟨"NoonVows$Land", "givers", "()I"⟩, 13), (⟨"NoonVows$Land", "bitsOf", "([I)I"⟩, 13), (⟨"NoonVows$Land", "takers", "()I"⟩, 13), (⟨"NoonVows$Land", "longestChain", "()I"⟩, 13), (⟨"NoonVows$Land", "fewestVowsBetween", "(II)I"⟩, 13)]
theorem lw_r2 : ∀ q ∈ lw_privs_2, lw_okq q := List.forall_mem_cons.mpr ⟨lw_p16, List.forall_mem_cons.mpr ⟨lw_p17, List.forall_mem_cons.mpr ⟨lw_p18, List.forall_mem_cons.mpr ⟨lw_p19, List.forall_mem_cons.mpr ⟨lw_p20, List.forall_mem_cons.mpr ⟨lw_p21, List.forall_mem_cons.mpr ⟨lw_p22, List.forall_mem_cons.mpr ⟨lw_p23, List.forall_mem_cons.mpr ⟨lw_p24, List.forall_mem_cons.mpr ⟨lw_p25, List.forall_mem_cons.mpr ⟨lw_p26, List.forall_mem_cons.mpr ⟨lw_p27, List.forall_mem_cons.mpr ⟨lw_p28, List.forall_mem_cons.mpr ⟨lw_p29, List.forall_mem_cons.mpr ⟨lw_p30, List.forall_mem_cons.mpr ⟨lw_p31, fun _ h => absurd h List.not_mem_nil⟩⟩⟩⟩⟩⟩⟩⟩⟩⟩⟩⟩⟩⟩⟩⟩
theorem lw_p32 : lw_okq (⟨"NoonVows$Land", "becomes", "(LNoonVows$Land;)V"⟩, 13) := ⟨⟨by decide +kernel, by decide +kernel⟩, List.mem_of_getElem? (i := 66) (by decide +kernel), List.mem_of_getElem? (i := 498) (by decide +kernel), List.mem_of_getElem? (i := 499) (by decide +kernel)⟩
theorem lw_p33 : lw_okq (⟨"NoonVows$Person", "becomes", "(LNoonVows$Person;)V"⟩, 5) := ⟨⟨by decide +kernel, by decide +kernel⟩, List.mem_of_getElem? (i := 73) (by decide +kernel), List.mem_of_getElem? (i := 502) (by decide +kernel), List.mem_of_getElem? (i := 503) (by decide +kernel)⟩
theorem lw_p34 : lw_okq (⟨"NoonVows$Sheet", "isMissing", "()Z"⟩, 3) := ⟨⟨by decide +kernel, by decide +kernel⟩, List.mem_of_getElem? (i := 182) (by decide +kernel), List.mem_of_getElem? (i := 527) (by decide +kernel), List.mem_of_getElem? (i := 528) (by decide +kernel)⟩
theorem lw_p35 : lw_okq (⟨"NoonVows", "differencesWithEast", "(LNoonVows$Sheet;II)I"⟩, 12) := ⟨⟨by decide +kernel, by decide +kernel⟩, List.mem_of_getElem? (i := 18) (by decide +kernel), List.mem_of_getElem? (i := 532) (by decide +kernel), List.mem_of_getElem? (i := 533) (by decide +kernel)⟩
theorem lw_p36 : lw_okq (⟨"NoonVows$Sheet", "isNumber", "(I)Z"⟩, 3) := ⟨⟨by decide +kernel, by decide +kernel⟩, List.mem_of_getElem? (i := 182) (by decide +kernel), List.mem_of_getElem? (i := 536) (by decide +kernel), List.mem_of_getElem? (i := 537) (by decide +kernel)⟩
theorem lw_p37 : lw_okq (⟨"NoonVows", "putBytes", "(I)V"⟩, 12) := ⟨⟨by decide +kernel, by decide +kernel⟩, List.mem_of_getElem? (i := 18) (by decide +kernel), List.mem_of_getElem? (i := 557) (by decide +kernel), List.mem_of_getElem? (i := 558) (by decide +kernel)⟩
theorem lw_p38 : lw_okq (⟨"NoonVows$Reader", "readsText", "(ILNoonVows$Law;)Z"⟩, 6) := ⟨⟨by decide +kernel, by decide +kernel⟩, List.mem_of_getElem? (i := 154) (by decide +kernel), List.mem_of_getElem? (i := 569) (by decide +kernel), List.mem_of_getElem? (i := 570) (by decide +kernel)⟩
theorem lw_p39 : lw_okq (⟨"NoonVows$Law", "startAnew", "()V"⟩, 4) := ⟨⟨by decide +kernel, by decide +kernel⟩, List.mem_of_getElem? (i := 33) (by decide +kernel), List.mem_of_getElem? (i := 573) (by decide +kernel), List.mem_of_getElem? (i := 574) (by decide +kernel)⟩
theorem lw_p40 : lw_okq (⟨"NoonVows$Reader", "goOn", "()V"⟩, 6) := ⟨⟨by decide +kernel, by decide +kernel⟩, List.mem_of_getElem? (i := 154) (by decide +kernel), List.mem_of_getElem? (i := 577) (by decide +kernel), List.mem_of_getElem? (i := 578) (by decide +kernel)⟩
theorem lw_p41 : lw_okq (⟨"NoonVows$Reader", "isLetter", "(I)Z"⟩, 6) := ⟨⟨by decide +kernel, by decide +kernel⟩, List.mem_of_getElem? (i := 154) (by decide +kernel), List.mem_of_getElem? (i := 581) (by decide +kernel), List.mem_of_getElem? (i := 582) (by decide +kernel)⟩
theorem lw_p42 : lw_okq (⟨"NoonVows$Reader", "isDigit", "(I)Z"⟩, 6) := ⟨⟨by decide +kernel, by decide +kernel⟩, List.mem_of_getElem? (i := 154) (by decide +kernel), List.mem_of_getElem? (i := 585) (by decide +kernel), List.mem_of_getElem? (i := 586) (by decide +kernel)⟩
theorem lw_p43 : lw_okq (⟨"NoonVows$Reader", "keyHere", "()I"⟩, 6) := ⟨⟨by decide +kernel, by decide +kernel⟩, List.mem_of_getElem? (i := 154) (by decide +kernel), List.mem_of_getElem? (i := 589) (by decide +kernel), List.mem_of_getElem? (i := 590) (by decide +kernel)⟩
theorem lw_p44 : lw_okq (⟨"NoonVows$Reader", "isWordHere", "(Ljava/lang/String;)Z"⟩, 6) := ⟨⟨by decide +kernel, by decide +kernel⟩, List.mem_of_getElem? (i := 154) (by decide +kernel), List.mem_of_getElem? (i := 594) (by decide +kernel), List.mem_of_getElem? (i := 595) (by decide +kernel)⟩
theorem lw_p45 : lw_okq (⟨"NoonVows$Reader", "readsLevel", "(III)Z"⟩, 6) := ⟨⟨by decide +kernel, by decide +kernel⟩, List.mem_of_getElem? (i := 154) (by decide +kernel), List.mem_of_getElem? (i := 648) (by decide +kernel), List.mem_of_getElem? (i := 649) (by decide +kernel)⟩
theorem lw_p46 : lw_okq (⟨"NoonVows$Reader", "readsPiece", "(II)Z"⟩, 6) := ⟨⟨by decide +kernel, by decide +kernel⟩, List.mem_of_getElem? (i := 154) (by decide +kernel), List.mem_of_getElem? (i := 652) (by decide +kernel), List.mem_of_getElem? (i := 653) (by decide +kernel)⟩
theorem lw_p47 : lw_okq (⟨"NoonVows$Reader", "numberHere", "()I"⟩, 6) := ⟨⟨by decide +kernel, by decide +kernel⟩, List.mem_of_getElem? (i := 154) (by decide +kernel), List.mem_of_getElem? (i := 656) (by decide +kernel), List.mem_of_getElem? (i := 657) (by decide +kernel)⟩
def lw_privs_3 : List (MethodName × Nat) := [(⟨"NoonVows$Land", "becomes", "(LNoonVows$Land;)V"⟩, 13), (⟨"NoonVows$Person", "becomes", "(LNoonVows$Person;)V"⟩, 5), (⟨"NoonVows$Sheet", "isMissing", "()Z"⟩, 3), (⟨"NoonVows", "differencesWithEast", "(LNoonVows$Sheet;II)I"⟩, 12), (⟨"NoonVows$Sheet", "isNumber", "(I)Z"⟩, 3), (⟨"NoonVows", "putBytes", "(I)V"⟩, 12), (⟨"NoonVows$Reader", "readsText", "(ILNoonVows$Law;)Z"⟩, 6), (⟨"NoonVows$Law", "startAnew", "()V"⟩, 4), (⟨"NoonVows$Reader", "goOn", "()V"⟩, 6), (⟨"NoonVows$Reader", "isLetter", "(I)Z"⟩, 6), (⟨"NoonVows$Reader", "isDigit", "(I)Z"⟩, 6), (⟨"NoonVows$Reader", "keyHere", "()I"⟩, 6), (⟨"NoonVows$Reader", "isWordHere", "(Ljava/lang/String;)Z"⟩, 6), (⟨"NoonVows$Reader", "readsLevel", "(III)Z"⟩, 6), (⟨"NoonVows$Reader", "readsPiece", "(II)Z"⟩, 6), (⟨"NoonVows$Reader", "numberHere", "()I"⟩, 6)]
theorem lw_r3 : ∀ q ∈ lw_privs_3, lw_okq q := List.forall_mem_cons.mpr ⟨lw_p32, List.forall_mem_cons.mpr ⟨lw_p33, List.forall_mem_cons.mpr ⟨lw_p34, List.forall_mem_cons.mpr ⟨lw_p35, List.forall_mem_cons.mpr ⟨lw_p36, List.forall_mem_cons.mpr ⟨lw_p37, List.forall_mem_cons.mpr ⟨lw_p38, List.forall_mem_cons.mpr ⟨lw_p39, List.forall_mem_cons.mpr ⟨lw_p40, List.forall_mem_cons.mpr ⟨lw_p41, List.forall_mem_cons.mpr ⟨lw_p42, List.forall_mem_cons.mpr ⟨lw_p43, List.forall_mem_cons.mpr ⟨lw_p44, List.forall_mem_cons.mpr ⟨lw_p45, List.forall_mem_cons.mpr ⟨lw_p46, List.forall_mem_cons.mpr ⟨lw_p47, fun _ h => absurd h List.not_mem_nil⟩⟩⟩⟩⟩⟩⟩⟩⟩⟩⟩⟩⟩⟩⟩⟩
theorem lw_p48 : lw_okq (⟨"NoonVows$Law", "addNumber", "(I)V"⟩, 4) := ⟨⟨by decide +kernel, by decide +kernel⟩, List.mem_of_getElem? (i := 33) (by decide +kernel), List.mem_of_getElem? (i := 660) (by decide +kernel), List.mem_of_getElem? (i := 661) (by decide +kernel)⟩
theorem lw_p49 : lw_okq (⟨"NoonVows$Law", "put", "(I)V"⟩, 4) := ⟨⟨by decide +kernel, by decide +kernel⟩, List.mem_of_getElem? (i := 33) (by decide +kernel), List.mem_of_getElem? (i := 664) (by decide +kernel), List.mem_of_getElem? (i := 665) (by decide +kernel)⟩
theorem lw_p50 : lw_okq (⟨"NoonVows$Reader", "readsName", "()Z"⟩, 6) := ⟨⟨by decide +kernel, by decide +kernel⟩, List.mem_of_getElem? (i := 154) (by decide +kernel), List.mem_of_getElem? (i := 668) (by decide +kernel), List.mem_of_getElem? (i := 669) (by decide +kernel)⟩
theorem lw_p51 : lw_okq (⟨"NoonVows$Reader", "signHere", "()C"⟩, 6) := ⟨⟨by decide +kernel, by decide +kernel⟩, List.mem_of_getElem? (i := 154) (by decide +kernel), List.mem_of_getElem? (i := 678) (by decide +kernel), List.mem_of_getElem? (i := 679) (by decide +kernel)⟩
theorem lw_p52 : lw_okq (⟨"NoonVows$Law", "addName", "(I)V"⟩, 4) := ⟨⟨by decide +kernel, by decide +kernel⟩, List.mem_of_getElem? (i := 33) (by decide +kernel), List.mem_of_getElem? (i := 737) (by decide +kernel), List.mem_of_getElem? (i := 738) (by decide +kernel)⟩
theorem lw_p53 : lw_okq (⟨"NoonVows$Law", "addSign", "(C)V"⟩, 4) := ⟨⟨by decide +kernel, by decide +kernel⟩, List.mem_of_getElem? (i := 33) (by decide +kernel), List.mem_of_getElem? (i := 741) (by decide +kernel), List.mem_of_getElem? (i := 742) (by decide +kernel)⟩
theorem lw_p54 : lw_okq (⟨"NoonVows$Reader", "closesBracket", "()Z"⟩, 6) := ⟨⟨by decide +kernel, by decide +kernel⟩, List.mem_of_getElem? (i := 154) (by decide +kernel), List.mem_of_getElem? (i := 745) (by decide +kernel), List.mem_of_getElem? (i := 746) (by decide +kernel)⟩
theorem lw_p55 : lw_okq (⟨"NoonVows$Sheet", "startAnew", "(II)V"⟩, 3) := ⟨⟨by decide +kernel, by decide +kernel⟩, List.mem_of_getElem? (i := 182) (by decide +kernel), List.mem_of_getElem? (i := 769) (by decide +kernel), List.mem_of_getElem? (i := 770) (by decide +kernel)⟩
theorem lw_p56 : lw_okq (⟨"NoonVows$Sheet", "hasPlace", "(I)Z"⟩, 3) := ⟨⟨by decide +kernel, by decide +kernel⟩, List.mem_of_getElem? (i := 182) (by decide +kernel), List.mem_of_getElem? (i := 778) (by decide +kernel), List.mem_of_getElem? (i := 779) (by decide +kernel)⟩
theorem lw_p57 : lw_okq (⟨"NoonVows$Sheet", "hasRun", "(II)Z"⟩, 3) := ⟨⟨by decide +kernel, by decide +kernel⟩, List.mem_of_getElem? (i := 182) (by decide +kernel), List.mem_of_getElem? (i := 799) (by decide +kernel), List.mem_of_getElem? (i := 800) (by decide +kernel)⟩
theorem lw_p58 : lw_okq (⟨"NoonVows$Sheet", "becomes", "(LNoonVows$Sheet;)V"⟩, 3) := ⟨⟨by decide +kernel, by decide +kernel⟩, List.mem_of_getElem? (i := 182) (by decide +kernel), List.mem_of_getElem? (i := 809) (by decide +kernel), List.mem_of_getElem? (i := 810) (by decide +kernel)⟩
theorem lw_p59 : lw_okq (⟨"NoonVows$Land", "struckCount", "()I"⟩, 13) := ⟨⟨by decide +kernel, by decide +kernel⟩, List.mem_of_getElem? (i := 66) (by decide +kernel), List.mem_of_getElem? (i := 846) (by decide +kernel), List.mem_of_getElem? (i := 847) (by decide +kernel)⟩
theorem lw_p60 : lw_okq (⟨"NoonVowsModel", "comes", "(III)V"⟩, 33) := ⟨⟨by decide +kernel, by decide +kernel⟩, List.mem_of_getElem? (i := 850) (by decide +kernel), List.mem_of_getElem? (i := 968) (by decide +kernel), List.mem_of_getElem? (i := 969) (by decide +kernel)⟩
theorem lw_p61 : lw_okq (⟨"NoonVowsModel", "sets", "(III)V"⟩, 33) := ⟨⟨by decide +kernel, by decide +kernel⟩, List.mem_of_getElem? (i := 850) (by decide +kernel), List.mem_of_getElem? (i := 972) (by decide +kernel), List.mem_of_getElem? (i := 973) (by decide +kernel)⟩
theorem lw_p62 : lw_okq (⟨"NoonVowsModel", "isOne", "(I)Z"⟩, 33) := ⟨⟨by decide +kernel, by decide +kernel⟩, List.mem_of_getElem? (i := 850) (by decide +kernel), List.mem_of_getElem? (i := 980) (by decide +kernel), List.mem_of_getElem? (i := 981) (by decide +kernel)⟩
theorem lw_p63 : lw_okq (⟨"NoonVowsModel", "of", "(II)I"⟩, 33) := ⟨⟨by decide +kernel, by decide +kernel⟩, List.mem_of_getElem? (i := 850) (by decide +kernel), List.mem_of_getElem? (i := 984) (by decide +kernel), List.mem_of_getElem? (i := 985) (by decide +kernel)⟩
def lw_privs_4 : List (MethodName × Nat) := [(⟨"NoonVows$Law", "addNumber", "(I)V"⟩, 4), (⟨"NoonVows$Law", "put", "(I)V"⟩, 4), (⟨"NoonVows$Reader", "readsName", "()Z"⟩, 6), (⟨"NoonVows$Reader", "signHere", "()C"⟩, 6), (⟨"NoonVows$Law", "addName", "(I)V"⟩, 4), (⟨"NoonVows$Law", "addSign", "(C)V"⟩, 4), (⟨"NoonVows$Reader", "closesBracket", "()Z"⟩, 6), (⟨"NoonVows$Sheet", "startAnew", "(II)V"⟩, 3), (⟨"NoonVows$Sheet", "hasPlace", "(I)Z"⟩, 3), (⟨"NoonVows$Sheet", "hasRun", "(II)Z"⟩, 3), (⟨"NoonVows$Sheet", "becomes", "(LNoonVows$Sheet;)V"⟩, 3), (⟨"NoonVows$Land", "struckCount", "()I"⟩, 13), (⟨"NoonVowsModel", "comes", "(III)V"⟩, 33), (⟨"NoonVowsModel", "sets", "(III)V"⟩, 33), (⟨"NoonVowsModel", "isOne", "(I)Z"⟩, 33), (⟨"NoonVowsModel", "of", "(II)I"⟩, 33)]
theorem lw_r4 : ∀ q ∈ lw_privs_4, lw_okq q := List.forall_mem_cons.mpr ⟨lw_p48, List.forall_mem_cons.mpr ⟨lw_p49, List.forall_mem_cons.mpr ⟨lw_p50, List.forall_mem_cons.mpr ⟨lw_p51, List.forall_mem_cons.mpr ⟨lw_p52, List.forall_mem_cons.mpr ⟨lw_p53, List.forall_mem_cons.mpr ⟨lw_p54, List.forall_mem_cons.mpr ⟨lw_p55, List.forall_mem_cons.mpr ⟨lw_p56, List.forall_mem_cons.mpr ⟨lw_p57, List.forall_mem_cons.mpr ⟨lw_p58, List.forall_mem_cons.mpr ⟨lw_p59, List.forall_mem_cons.mpr ⟨lw_p60, List.forall_mem_cons.mpr ⟨lw_p61, List.forall_mem_cons.mpr ⟨lw_p62, List.forall_mem_cons.mpr ⟨lw_p63, fun _ h => absurd h List.not_mem_nil⟩⟩⟩⟩⟩⟩⟩⟩⟩⟩⟩⟩⟩⟩⟩⟩
theorem lw_p64 : lw_okq (⟨"NoonVowsModel", "manyBy", "(II)I"⟩, 33) := ⟨⟨by decide +kernel, by decide +kernel⟩, List.mem_of_getElem? (i := 850) (by decide +kernel), List.mem_of_getElem? (i := 988) (by decide +kernel), List.mem_of_getElem? (i := 989) (by decide +kernel)⟩
theorem lw_p65 : lw_okq (⟨"NoonVowsModel", "vowIs", "(II)I"⟩, 33) := ⟨⟨by decide +kernel, by decide +kernel⟩, List.mem_of_getElem? (i := 850) (by decide +kernel), List.mem_of_getElem? (i := 992) (by decide +kernel), List.mem_of_getElem? (i := 993) (by decide +kernel)⟩
theorem lw_p66 : lw_okq (⟨"NoonVowsModel", "noon", "(I)I"⟩, 33) := ⟨⟨by decide +kernel, by decide +kernel⟩, List.mem_of_getElem? (i := 850) (by decide +kernel), List.mem_of_getElem? (i := 996) (by decide +kernel), List.mem_of_getElem? (i := 997) (by decide +kernel)⟩
theorem lw_p67 : lw_okq (⟨"NoonVowsModel", "pays", "(I)I"⟩, 33) := ⟨⟨by decide +kernel, by decide +kernel⟩, List.mem_of_getElem? (i := 850) (by decide +kernel), List.mem_of_getElem? (i := 1000) (by decide +kernel), List.mem_of_getElem? (i := 1001) (by decide +kernel)⟩
theorem lw_p68 : lw_okq (⟨"NoonVowsModel", "worth", "(I)I"⟩, 33) := ⟨⟨by decide +kernel, by decide +kernel⟩, List.mem_of_getElem? (i := 850) (by decide +kernel), List.mem_of_getElem? (i := 1004) (by decide +kernel), List.mem_of_getElem? (i := 1005) (by decide +kernel)⟩
theorem lw_p69 : lw_okq (⟨"NoonVowsModel", "becomes", "(II)I"⟩, 33) := ⟨⟨by decide +kernel, by decide +kernel⟩, List.mem_of_getElem? (i := 850) (by decide +kernel), List.mem_of_getElem? (i := 1020) (by decide +kernel), List.mem_of_getElem? (i := 1021) (by decide +kernel)⟩
theorem lw_p70 : lw_okq (⟨"NoonVowsModel", "strikes", "(I)V"⟩, 33) := ⟨⟨by decide +kernel, by decide +kernel⟩, List.mem_of_getElem? (i := 850) (by decide +kernel), List.mem_of_getElem? (i := 1037) (by decide +kernel), List.mem_of_getElem? (i := 1038) (by decide +kernel)⟩
theorem lw_p71 : lw_okq (⟨"NoonVowsModel", "goes", "(I)V"⟩, 33) := ⟨⟨by decide +kernel, by decide +kernel⟩, List.mem_of_getElem? (i := 850) (by decide +kernel), List.mem_of_getElem? (i := 1041) (by decide +kernel), List.mem_of_getElem? (i := 1042) (by decide +kernel)⟩
theorem lw_p72 : lw_okq (⟨"NoonVowsModel", "gives", "(III)V"⟩, 33) := ⟨⟨by decide +kernel, by decide +kernel⟩, List.mem_of_getElem? (i := 850) (by decide +kernel), List.mem_of_getElem? (i := 1046) (by decide +kernel), List.mem_of_getElem? (i := 1047) (by decide +kernel)⟩
theorem lw_p73 : lw_okq (⟨"NoonVowsModel", "isVow", "(I)Z"⟩, 33) := ⟨⟨by decide +kernel, by decide +kernel⟩, List.mem_of_getElem? (i := 850) (by decide +kernel), List.mem_of_getElem? (i := 1054) (by decide +kernel), List.mem_of_getElem? (i := 1055) (by decide +kernel)⟩
theorem lw_p74 : lw_okq (⟨"NoonVowsModel", "keeps", "(I)I"⟩, 33) := ⟨⟨by decide +kernel, by decide +kernel⟩, List.mem_of_getElem? (i := 850) (by decide +kernel), List.mem_of_getElem? (i := 1058) (by decide +kernel), List.mem_of_getElem? (i := 1059) (by decide +kernel)⟩
theorem lw_p75 : lw_okq (⟨"NoonVowsModel", "counts", "(I)I"⟩, 33) := ⟨⟨by decide +kernel, by decide +kernel⟩, List.mem_of_getElem? (i := 850) (by decide +kernel), List.mem_of_getElem? (i := 1062) (by decide +kernel), List.mem_of_getElem? (i := 1063) (by decide +kernel)⟩
theorem lw_p76 : lw_okq (⟨"NoonVowsModel", "textAt", "(I)I"⟩, 33) := ⟨⟨by decide +kernel, by decide +kernel⟩, List.mem_of_getElem? (i := 850) (by decide +kernel), List.mem_of_getElem? (i := 1066) (by decide +kernel), List.mem_of_getElem? (i := 1067) (by decide +kernel)⟩
theorem lw_p77 : lw_okq (⟨"NoonVowsModel", "worked", "(I)I"⟩, 33) := ⟨⟨by decide +kernel, by decide +kernel⟩, List.mem_of_getElem? (i := 850) (by decide +kernel), List.mem_of_getElem? (i := 1070) (by decide +kernel), List.mem_of_getElem? (i := 1071) (by decide +kernel)⟩
theorem lw_p78 : lw_okq (⟨"NoonVowsModel", "drawn", "()I"⟩, 33) := ⟨⟨by decide +kernel, by decide +kernel⟩, List.mem_of_getElem? (i := 850) (by decide +kernel), List.mem_of_getElem? (i := 1093) (by decide +kernel), List.mem_of_getElem? (i := 1094) (by decide +kernel)⟩
theorem lw_p79 : lw_okq (⟨"NoonVowsModel", "goesOn", "()V"⟩, 33) := ⟨⟨by decide +kernel, by decide +kernel⟩, List.mem_of_getElem? (i := 850) (by decide +kernel), List.mem_of_getElem? (i := 1107) (by decide +kernel), List.mem_of_getElem? (i := 1108) (by decide +kernel)⟩
def lw_privs_5 : List (MethodName × Nat) := [(⟨"NoonVowsModel", "manyBy", "(II)I"⟩, 33), (⟨"NoonVowsModel", "vowIs", "(II)I"⟩, 33), (⟨"NoonVowsModel", "noon", "(I)I"⟩, 33), (⟨"NoonVowsModel", "pays", "(I)I"⟩, 33), (⟨"NoonVowsModel", "worth", "(I)I"⟩, 33), (⟨"NoonVowsModel", "becomes", "(II)I"⟩, 33), (⟨"NoonVowsModel", "strikes", "(I)V"⟩, 33), (⟨"NoonVowsModel", "goes", "(I)V"⟩, 33), (⟨"NoonVowsModel", "gives", "(III)V"⟩, 33), (⟨"NoonVowsModel", "isVow", "(I)Z"⟩, 33), (⟨"NoonVowsModel", "keeps", "(I)I"⟩, 33), (⟨"NoonVowsModel", "counts", "(I)I"⟩, 33), (⟨"NoonVowsModel", "textAt", "(I)I"⟩, 33), (⟨"NoonVowsModel", "worked", "(I)I"⟩, 33), (⟨"NoonVowsModel", "drawn", "()I"⟩, 33), (⟨"NoonVowsModel", "goesOn", "()V"⟩, 33)]
theorem lw_r5 : ∀ q ∈ lw_privs_5, lw_okq q := List.forall_mem_cons.mpr ⟨lw_p64, List.forall_mem_cons.mpr ⟨lw_p65, List.forall_mem_cons.mpr ⟨lw_p66, List.forall_mem_cons.mpr ⟨lw_p67, List.forall_mem_cons.mpr ⟨lw_p68, List.forall_mem_cons.mpr ⟨lw_p69, List.forall_mem_cons.mpr ⟨lw_p70, List.forall_mem_cons.mpr ⟨lw_p71, List.forall_mem_cons.mpr ⟨lw_p72, List.forall_mem_cons.mpr ⟨lw_p73, List.forall_mem_cons.mpr ⟨lw_p74, List.forall_mem_cons.mpr ⟨lw_p75, List.forall_mem_cons.mpr ⟨lw_p76, List.forall_mem_cons.mpr ⟨lw_p77, List.forall_mem_cons.mpr ⟨lw_p78, List.forall_mem_cons.mpr ⟨lw_p79, fun _ h => absurd h List.not_mem_nil⟩⟩⟩⟩⟩⟩⟩⟩⟩⟩⟩⟩⟩⟩⟩⟩
theorem lw_p80 : lw_okq (⟨"NoonVowsModel", "earns", "(II)V"⟩, 33) := ⟨⟨by decide +kernel, by decide +kernel⟩, List.mem_of_getElem? (i := 850) (by decide +kernel), List.mem_of_getElem? (i := 1111) (by decide +kernel), List.mem_of_getElem? (i := 1112) (by decide +kernel)⟩
theorem lw_p81 : lw_okq (⟨"NoonVowsModel", "setBy", "(I)I"⟩, 33) := ⟨⟨by decide +kernel, by decide +kernel⟩, List.mem_of_getElem? (i := 850) (by decide +kernel), List.mem_of_getElem? (i := 1119) (by decide +kernel), List.mem_of_getElem? (i := 1120) (by decide +kernel)⟩
theorem lw_p82 : lw_okq (⟨"NoonVowsModel", "chain", "()I"⟩, 33) := ⟨⟨by decide +kernel, by decide +kernel⟩, List.mem_of_getElem? (i := 850) (by decide +kernel), List.mem_of_getElem? (i := 1123) (by decide +kernel), List.mem_of_getElem? (i := 1124) (by decide +kernel)⟩
theorem lw_p83 : lw_okq (⟨"NoonVowsModel", "findSworn", "()V"⟩, 33) := ⟨⟨by decide +kernel, by decide +kernel⟩, List.mem_of_getElem? (i := 850) (by decide +kernel), List.mem_of_getElem? (i := 1127) (by decide +kernel), List.mem_of_getElem? (i := 1128) (by decide +kernel)⟩
theorem lw_p84 : lw_okq (⟨"NoonVowsModel", "laysBy", "()V"⟩, 33) := ⟨⟨by decide +kernel, by decide +kernel⟩, List.mem_of_getElem? (i := 850) (by decide +kernel), List.mem_of_getElem? (i := 1142) (by decide +kernel), List.mem_of_getElem? (i := 1143) (by decide +kernel)⟩
theorem lw_p85 : lw_okq (⟨"NoonVowsModel", "goesOnMany", "(I)V"⟩, 33) := ⟨⟨by decide +kernel, by decide +kernel⟩, List.mem_of_getElem? (i := 850) (by decide +kernel), List.mem_of_getElem? (i := 1146) (by decide +kernel), List.mem_of_getElem? (i := 1147) (by decide +kernel)⟩
theorem lw_p86 : lw_okq (⟨"NoonVowsModel", "laysBack", "()V"⟩, 33) := ⟨⟨by decide +kernel, by decide +kernel⟩, List.mem_of_getElem? (i := 850) (by decide +kernel), List.mem_of_getElem? (i := 1150) (by decide +kernel), List.mem_of_getElem? (i := 1151) (by decide +kernel)⟩
theorem lw_p87 : lw_okq (⟨"NoonVowsModel", "parse", "()I"⟩, 33) := ⟨⟨by decide +kernel, by decide +kernel⟩, List.mem_of_getElem? (i := 850) (by decide +kernel), List.mem_of_getElem? (i := 1195) (by decide +kernel), List.mem_of_getElem? (i := 1196) (by decide +kernel)⟩
theorem lw_p88 : lw_okq (⟨"NoonVowsModel", "nextToken", "()V"⟩, 33) := ⟨⟨by decide +kernel, by decide +kernel⟩, List.mem_of_getElem? (i := 850) (by decide +kernel), List.mem_of_getElem? (i := 1199) (by decide +kernel), List.mem_of_getElem? (i := 1200) (by decide +kernel)⟩
theorem lw_p89 : lw_okq (⟨"NoonVowsModel", "isLetter", "(I)Z"⟩, 33) := ⟨⟨by decide +kernel, by decide +kernel⟩, List.mem_of_getElem? (i := 850) (by decide +kernel), List.mem_of_getElem? (i := 1203) (by decide +kernel), List.mem_of_getElem? (i := 1204) (by decide +kernel)⟩
theorem lw_p90 : lw_okq (⟨"NoonVowsModel", "isDigit", "(I)Z"⟩, 33) := ⟨⟨by decide +kernel, by decide +kernel⟩, List.mem_of_getElem? (i := 850) (by decide +kernel), List.mem_of_getElem? (i := 1209) (by decide +kernel), List.mem_of_getElem? (i := 1210) (by decide +kernel)⟩
theorem lw_p91 : lw_okq (⟨"NoonVowsModel", "key", "()I"⟩, 33) := ⟨⟨by decide +kernel, by decide +kernel⟩, List.mem_of_getElem? (i := 850) (by decide +kernel), List.mem_of_getElem? (i := 1215) (by decide +kernel), List.mem_of_getElem? (i := 1216) (by decide +kernel)⟩
theorem lw_p92 : lw_okq (⟨"NoonVowsModel", "isWordAt", "(IIII)Z"⟩, 33) := ⟨⟨by decide +kernel, by decide +kernel⟩, List.mem_of_getElem? (i := 850) (by decide +kernel), List.mem_of_getElem? (i := 1219) (by decide +kernel), List.mem_of_getElem? (i := 1220) (by decide +kernel)⟩
theorem lw_p93 : lw_okq (⟨"NoonVowsModel", "either", "(I)Z"⟩, 33) := ⟨⟨by decide +kernel, by decide +kernel⟩, List.mem_of_getElem? (i := 850) (by decide +kernel), List.mem_of_getElem? (i := 1223) (by decide +kernel), List.mem_of_getElem? (i := 1224) (by decide +kernel)⟩
theorem lw_p94 : lw_okq (⟨"NoonVowsModel", "both", "(I)Z"⟩, 33) := ⟨⟨by decide +kernel, by decide +kernel⟩, List.mem_of_getElem? (i := 850) (by decide +kernel), List.mem_of_getElem? (i := 1227) (by decide +kernel), List.mem_of_getElem? (i := 1228) (by decide +kernel)⟩
theorem lw_p95 : lw_okq (⟨"NoonVowsModel", "test", "(I)Z"⟩, 33) := ⟨⟨by decide +kernel, by decide +kernel⟩, List.mem_of_getElem? (i := 850) (by decide +kernel), List.mem_of_getElem? (i := 1231) (by decide +kernel), List.mem_of_getElem? (i := 1232) (by decide +kernel)⟩
def lw_privs_6 : List (MethodName × Nat) := [(⟨"NoonVowsModel", "earns", "(II)V"⟩, 33), (⟨"NoonVowsModel", "setBy", "(I)I"⟩, 33), (⟨"NoonVowsModel", "chain", "()I"⟩, 33), (⟨"NoonVowsModel", "findSworn", "()V"⟩, 33), (⟨"NoonVowsModel", "laysBy", "()V"⟩, 33), (⟨"NoonVowsModel", "goesOnMany", "(I)V"⟩, 33), (⟨"NoonVowsModel", "laysBack", "()V"⟩, 33), (⟨"NoonVowsModel", "parse", "()I"⟩, 33), (⟨"NoonVowsModel", "nextToken", "()V"⟩, 33), (⟨"NoonVowsModel", "isLetter", "(I)Z"⟩, 33), (⟨"NoonVowsModel", "isDigit", "(I)Z"⟩, 33), (⟨"NoonVowsModel", "key", "()I"⟩, 33), (⟨"NoonVowsModel", "isWordAt", "(IIII)Z"⟩, 33), (⟨"NoonVowsModel", "either", "(I)Z"⟩, 33), (⟨"NoonVowsModel", "both", "(I)Z"⟩, 33), (⟨"NoonVowsModel", "test", "(I)Z"⟩, 33)]
theorem lw_r6 : ∀ q ∈ lw_privs_6, lw_okq q := List.forall_mem_cons.mpr ⟨lw_p80, List.forall_mem_cons.mpr ⟨lw_p81, List.forall_mem_cons.mpr ⟨lw_p82, List.forall_mem_cons.mpr ⟨lw_p83, List.forall_mem_cons.mpr ⟨lw_p84, List.forall_mem_cons.mpr ⟨lw_p85, List.forall_mem_cons.mpr ⟨lw_p86, List.forall_mem_cons.mpr ⟨lw_p87, List.forall_mem_cons.mpr ⟨lw_p88, List.forall_mem_cons.mpr ⟨lw_p89, List.forall_mem_cons.mpr ⟨lw_p90, List.forall_mem_cons.mpr ⟨lw_p91, List.forall_mem_cons.mpr ⟨lw_p92, List.forall_mem_cons.mpr ⟨lw_p93, List.forall_mem_cons.mpr ⟨lw_p94, List.forall_mem_cons.mpr ⟨lw_p95, fun _ h => absurd h List.not_mem_nil⟩⟩⟩⟩⟩⟩⟩⟩⟩⟩⟩⟩⟩⟩⟩⟩
theorem lw_p96 : lw_okq (⟨"NoonVowsModel", "sum", "(I)Z"⟩, 33) := ⟨⟨by decide +kernel, by decide +kernel⟩, List.mem_of_getElem? (i := 850) (by decide +kernel), List.mem_of_getElem? (i := 1235) (by decide +kernel), List.mem_of_getElem? (i := 1236) (by decide +kernel)⟩
theorem lw_p97 : lw_okq (⟨"NoonVowsModel", "term", "(I)Z"⟩, 33) := ⟨⟨by decide +kernel, by decide +kernel⟩, List.mem_of_getElem? (i := 850) (by decide +kernel), List.mem_of_getElem? (i := 1239) (by decide +kernel), List.mem_of_getElem? (i := 1240) (by decide +kernel)⟩
theorem lw_p98 : lw_okq (⟨"NoonVowsModel", "part0", "(I)Z"⟩, 33) := ⟨⟨by decide +kernel, by decide +kernel⟩, List.mem_of_getElem? (i := 850) (by decide +kernel), List.mem_of_getElem? (i := 1243) (by decide +kernel), List.mem_of_getElem? (i := 1244) (by decide +kernel)⟩
theorem lw_p99 : lw_okq (⟨"NoonVowsModel", "step", "(II)V"⟩, 33) := ⟨⟨by decide +kernel, by decide +kernel⟩, List.mem_of_getElem? (i := 850) (by decide +kernel), List.mem_of_getElem? (i := 1247) (by decide +kernel), List.mem_of_getElem? (i := 1248) (by decide +kernel)⟩
theorem lw_p100 : lw_okq (⟨"NoonVowsModel", "isSign", "(I)Z"⟩, 33) := ⟨⟨by decide +kernel, by decide +kernel⟩, List.mem_of_getElem? (i := 850) (by decide +kernel), List.mem_of_getElem? (i := 1254) (by decide +kernel), List.mem_of_getElem? (i := 1255) (by decide +kernel)⟩
theorem lw_p101 : lw_okq (⟨"NoonVowsModel", "isText", "(I)Z"⟩, 33) := ⟨⟨by decide +kernel, by decide +kernel⟩, List.mem_of_getElem? (i := 850) (by decide +kernel), List.mem_of_getElem? (i := 1262) (by decide +kernel), List.mem_of_getElem? (i := 1263) (by decide +kernel)⟩
theorem lw_p102 : lw_okq (⟨"NoonVowsModel", "setAside", "([I[I)V"⟩, 33) := ⟨⟨by decide +kernel, by decide +kernel⟩, List.mem_of_getElem? (i := 850) (by decide +kernel), List.mem_of_getElem? (i := 1335) (by decide +kernel), List.mem_of_getElem? (i := 1336) (by decide +kernel)⟩
theorem lw_p103 : lw_okq (⟨"NoonVowsModel", "manyStruck", "()I"⟩, 33) := ⟨⟨by decide +kernel, by decide +kernel⟩, List.mem_of_getElem? (i := 850) (by decide +kernel), List.mem_of_getElem? (i := 1351) (by decide +kernel), List.mem_of_getElem? (i := 1352) (by decide +kernel)⟩
def lw_privs_7 : List (MethodName × Nat) := [(⟨"NoonVowsModel", "sum", "(I)Z"⟩, 33), (⟨"NoonVowsModel", "term", "(I)Z"⟩, 33), (⟨"NoonVowsModel", "part0", "(I)Z"⟩, 33), (⟨"NoonVowsModel", "step", "(II)V"⟩, 33), (⟨"NoonVowsModel", "isSign", "(I)Z"⟩, 33), (⟨"NoonVowsModel", "isText", "(I)Z"⟩, 33), (⟨"NoonVowsModel", "setAside", "([I[I)V"⟩, 33), (⟨"NoonVowsModel", "manyStruck", "()I"⟩, 33)]
theorem lw_r7 : ∀ q ∈ lw_privs_7, lw_okq q := List.forall_mem_cons.mpr ⟨lw_p96, List.forall_mem_cons.mpr ⟨lw_p97, List.forall_mem_cons.mpr ⟨lw_p98, List.forall_mem_cons.mpr ⟨lw_p99, List.forall_mem_cons.mpr ⟨lw_p100, List.forall_mem_cons.mpr ⟨lw_p101, List.forall_mem_cons.mpr ⟨lw_p102, List.forall_mem_cons.mpr ⟨lw_p103, fun _ h => absurd h List.not_mem_nil⟩⟩⟩⟩⟩⟩⟩⟩
def lw_privs : List (MethodName × Nat) := lw_privs_1 ++ (lw_privs_2 ++ (lw_privs_3 ++ (lw_privs_4 ++ (lw_privs_5 ++ (lw_privs_6 ++ (lw_privs_7))))))
def lw_tbl : List Cond := k2_sels lw_privs ++ tables_1
theorem lw_privs_ok : ∀ q ∈ lw_privs, lw_okq q := by
  show ∀ q ∈ lw_privs_1 ++ (lw_privs_2 ++ (lw_privs_3 ++ (lw_privs_4 ++ (lw_privs_5 ++ (lw_privs_6 ++ (lw_privs_7)))))), lw_okq q
  exact List.forall_mem_append.mpr ⟨lw_r1, List.forall_mem_append.mpr ⟨lw_r2, List.forall_mem_append.mpr ⟨lw_r3, List.forall_mem_append.mpr ⟨lw_r4, List.forall_mem_append.mpr ⟨lw_r5, List.forall_mem_append.mpr ⟨lw_r6, lw_r7⟩⟩⟩⟩⟩⟩
end
section
def RX0 : String := "NoonVows$Land"
def TX0 : u_T := fun k => match k with
  | 0 => ("NoonVows$Land", "laws", "LNoonVows$Laws;", true)
  | 1 => ("NoonVows$Land", "people", "[LNoonVows$Person;", true)
  | 2 => ("NoonVows$Land", "peopleCount", "I", false)
  | 3 => ("NoonVows$Land", "ones", "[I", true)
  | 4 => ("NoonVows$Land", "others", "[I", true)
  | 5 => ("NoonVows$Land", "whats", "[I", true)
  | 6 => ("NoonVows$Land", "vowCount", "I", false)
  | 7 => ("NoonVows$Land", "kept", "I", false)
  | 8 => ("NoonVows$Land", "lapsed", "I", false)
  | 9 => ("NoonVows$Land", "hour", "I", false)
  | 10 => ("NoonVows$Land", "z", "I", false)
  | 11 => ("NoonVows$Land", "textCount", "I", false)
  | _ => ("NoonVows$Land", "lawOf", "[I", true)
def tyX0 : Nat → FieldType := fun k => match k with
  | 0 => .object "NoonVows$Laws"
  | 1 => .array (.object "NoonVows$Person")
  | 2 => .int
  | 3 => .array .int
  | 4 => .array .int
  | 5 => .array .int
  | 6 => .int
  | 7 => .int
  | 8 => .int
  | 9 => .int
  | 10 => .int
  | 11 => .int
  | _ => .array .int
abbrev wsX00 : List Cond := u_ws RX0 TX0 13
theorem nmX0 : ∀ a, a < 13 → ∀ b, b < 13 → a ≠ b → (TX0 a).2.1 ≠ (TX0 b).2.1 := by decide +kernel
theorem tyX0_ok : ∀ k, k < 13 → parseFieldDescriptor (TX0 k).2.2.1 = some (tyX0 k) := by decide +kernel
abbrev cX0_init : ByteArray := prog_2_method_1_code
def yX0_init : MethodName := ⟨RX0, "<init>", "(LNoonVows$Laws;)V"⟩
abbrev cX0_becomes : ByteArray := prog_2_method_2_code
def yX0_becomes : MethodName := ⟨RX0, "becomes", "(LNoonVows$Land;)V"⟩
abbrev cX0_hasPerson : ByteArray := prog_2_method_3_code
def yX0_hasPerson : MethodName := ⟨RX0, "hasPerson", "(I)Z"⟩
abbrev cX0_hasVow : ByteArray := prog_2_method_4_code
def yX0_hasVow : MethodName := ⟨RX0, "hasVow", "(I)Z"⟩
abbrev cX0_addPerson : ByteArray := prog_2_method_5_code
def yX0_addPerson : MethodName := ⟨RX0, "addPerson", "(III)V"⟩
abbrev cX0_drawPerson : ByteArray := prog_2_method_6_code
def yX0_drawPerson : MethodName := ⟨RX0, "drawPerson", "()V"⟩
abbrev cX0_draw : ByteArray := prog_2_method_7_code
def yX0_draw : MethodName := ⟨RX0, "draw", "()I"⟩
abbrev cX0_struckCount : ByteArray := prog_2_method_8_code
def yX0_struckCount : MethodName := ⟨RX0, "struckCount", "()I"⟩
abbrev cX0_addVow : ByteArray := prog_2_method_9_code
def yX0_addVow : MethodName := ⟨RX0, "addVow", "(III)V"⟩
abbrev cX0_lapse : ByteArray := prog_2_method_10_code
def yX0_lapse : MethodName := ⟨RX0, "lapse", "(I)V"⟩
abbrev cX0_strikeOff : ByteArray := prog_2_method_11_code
def yX0_strikeOff : MethodName := ⟨RX0, "strikeOff", "(I)V"⟩
abbrev cX0_vowsGivenBy : ByteArray := prog_2_method_12_code
def yX0_vowsGivenBy : MethodName := ⟨RX0, "vowsGivenBy", "(I)I"⟩
abbrev cX0_vowsGivenTo : ByteArray := prog_2_method_13_code
def yX0_vowsGivenTo : MethodName := ⟨RX0, "vowsGivenTo", "(I)I"⟩
abbrev cX0_timesIn : ByteArray := prog_2_method_14_code
def yX0_timesIn : MethodName := ⟨RX0, "timesIn", "([II)I"⟩
abbrev cX0_keeps : ByteArray := prog_2_method_15_code
def yX0_keeps : MethodName := ⟨RX0, "keeps", "(I)I"⟩
abbrev cX0_passHours : ByteArray := prog_2_method_16_code
def yX0_passHours : MethodName := ⟨RX0, "passHours", "(I)V"⟩
abbrev cX0_passHour : ByteArray := prog_2_method_17_code
def yX0_passHour : MethodName := ⟨RX0, "passHour", "()V"⟩
abbrev cX0_callVowsAtNoon : ByteArray := prog_2_method_18_code
def yX0_callVowsAtNoon : MethodName := ⟨RX0, "callVowsAtNoon", "()V"⟩
abbrev cX0_payDebts : ByteArray := prog_2_method_19_code
def yX0_payDebts : MethodName := ⟨RX0, "payDebts", "()V"⟩
abbrev cX0_givers : ByteArray := prog_2_method_20_code
def yX0_givers : MethodName := ⟨RX0, "givers", "()I"⟩
abbrev cX0_takers : ByteArray := prog_2_method_21_code
def yX0_takers : MethodName := ⟨RX0, "takers", "()I"⟩
abbrev cX0_bitsOf : ByteArray := prog_2_method_22_code
def yX0_bitsOf : MethodName := ⟨RX0, "bitsOf", "([I)I"⟩
abbrev cX0_longestChain : ByteArray := prog_2_method_23_code
def yX0_longestChain : MethodName := ⟨RX0, "longestChain", "()I"⟩
abbrev cX0_longestChainFrom : ByteArray := prog_2_method_24_code
def yX0_longestChainFrom : MethodName := ⟨RX0, "longestChainFrom", "(LNoonVows$Land;II)I"⟩
abbrev cX0_fewestVowsBetween : ByteArray := prog_2_method_25_code
def yX0_fewestVowsBetween : MethodName := ⟨RX0, "fewestVowsBetween", "(II)I"⟩
def RX1 : String := "NoonVows$Law"
def TX1 : u_T := fun k => match k with
  | 0 => ("NoonVows$Law", "key", "I", false)
  | 1 => ("NoonVows$Law", "leaves", "I", false)
  | 2 => ("NoonVows$Law", "code", "[S", true)
  | _ => ("NoonVows$Law", "length", "I", false)
def tyX1 : Nat → FieldType := fun k => match k with
  | 0 => .int
  | 1 => .int
  | 2 => .array .short
  | _ => .int
abbrev wsX10 : List Cond := u_ws RX1 TX1 4
theorem nmX1 : ∀ a, a < 4 → ∀ b, b < 4 → a ≠ b → (TX1 a).2.1 ≠ (TX1 b).2.1 := by decide +kernel
theorem tyX1_ok : ∀ k, k < 4 → parseFieldDescriptor (TX1 k).2.2.1 = some (tyX1 k) := by decide +kernel
abbrev cX1_init : ByteArray := prog_3_method_1_code
def yX1_init : MethodName := ⟨RX1, "<init>", "()V"⟩
abbrev cX1_startAnew : ByteArray := prog_3_method_2_code
def yX1_startAnew : MethodName := ⟨RX1, "startAnew", "()V"⟩
abbrev cX1_addNumber : ByteArray := prog_3_method_3_code
def yX1_addNumber : MethodName := ⟨RX1, "addNumber", "(I)V"⟩
abbrev cX1_addName : ByteArray := prog_3_method_4_code
def yX1_addName : MethodName := ⟨RX1, "addName", "(I)V"⟩
abbrev cX1_addSign : ByteArray := prog_3_method_5_code
def yX1_addSign : MethodName := ⟨RX1, "addSign", "(C)V"⟩
abbrev cX1_put : ByteArray := prog_3_method_6_code
def yX1_put : MethodName := ⟨RX1, "put", "(I)V"⟩
def RX2 : String := "NoonVows$Laws"
def TX2 : u_T := fun k => match k with
  | 0 => ("NoonVows$Laws", "all", "[LNoonVows$Law;", true)
  | _ => ("NoonVows$Laws", "stack", "[I", true)
def tyX2 : Nat → FieldType := fun k => match k with
  | 0 => .array (.object "NoonVows$Law")
  | _ => .array .int
abbrev wsX20 : List Cond := u_ws RX2 TX2 2
theorem nmX2 : ∀ a, a < 2 → ∀ b, b < 2 → a ≠ b → (TX2 a).2.1 ≠ (TX2 b).2.1 := by decide +kernel
theorem tyX2_ok : ∀ k, k < 2 → parseFieldDescriptor (TX2 k).2.2.1 = some (tyX2 k) := by decide +kernel
abbrev cX2_init : ByteArray := prog_4_method_1_code
def yX2_init : MethodName := ⟨RX2, "<init>", "()V"⟩
abbrev cX2_gives : ByteArray := prog_4_method_2_code
def yX2_gives : MethodName := ⟨RX2, "gives", "(IIII)I"⟩
abbrev cX2_join : ByteArray := prog_4_method_3_code
def yX2_join : MethodName := ⟨RX2, "join", "(CII)I"⟩
def RX3 : String := "NoonVows$Person"
def TX3 : u_T := fun k => match k with
  | 0 => ("NoonVows$Person", "kind", "I", false)
  | 1 => ("NoonVows$Person", "east", "I", false)
  | 2 => ("NoonVows$Person", "faith", "I", false)
  | 3 => ("NoonVows$Person", "purse", "I", false)
  | _ => ("NoonVows$Person", "gaveAt", "I", false)
def tyX3 : Nat → FieldType := fun k => match k with
  | 0 => .int
  | 1 => .int
  | 2 => .int
  | 3 => .int
  | _ => .int
abbrev wsX30 : List Cond := u_ws RX3 TX3 5
theorem nmX3 : ∀ a, a < 5 → ∀ b, b < 5 → a ≠ b → (TX3 a).2.1 ≠ (TX3 b).2.1 := by decide +kernel
theorem tyX3_ok : ∀ k, k < 5 → parseFieldDescriptor (TX3 k).2.2.1 = some (tyX3 k) := by decide +kernel
abbrev cX3_init : ByteArray := prog_5_method_1_code
def yX3_init : MethodName := ⟨RX3, "<init>", "()V"⟩
abbrev cX3_comes : ByteArray := prog_5_method_2_code
def yX3_comes : MethodName := ⟨RX3, "comes", "(III)V"⟩
abbrev cX3_becomes : ByteArray := prog_5_method_3_code
def yX3_becomes : MethodName := ⟨RX3, "becomes", "(LNoonVows$Person;)V"⟩
abbrev cX3_changeEast : ByteArray := prog_5_method_4_code
def yX3_changeEast : MethodName := ⟨RX3, "changeEast", "(I)I"⟩
abbrev cX3_changeFaith : ByteArray := prog_5_method_5_code
def yX3_changeFaith : MethodName := ⟨RX3, "changeFaith", "(I)I"⟩
abbrev cX3_changePurse : ByteArray := prog_5_method_6_code
def yX3_changePurse : MethodName := ⟨RX3, "changePurse", "(I)I"⟩
abbrev cX3_receive : ByteArray := prog_5_method_7_code
def yX3_receive : MethodName := ⟨RX3, "receive", "(I)V"⟩
abbrev cX3_isOf : ByteArray := prog_5_method_8_code
def yX3_isOf : MethodName := ⟨RX3, "isOf", "(I)Z"⟩
abbrev cX3_noon : ByteArray := prog_5_method_9_code
def yX3_noon : MethodName := ⟨RX3, "noon", "()I"⟩
abbrev cX3_pays : ByteArray := prog_5_method_10_code
def yX3_pays : MethodName := ⟨RX3, "pays", "()I"⟩
abbrev cX3_worth : ByteArray := prog_5_method_11_code
def yX3_worth : MethodName := ⟨RX3, "worth", "()I"⟩
abbrev cX3_keepsFrom : ByteArray := prog_5_method_12_code
def yX3_keepsFrom : MethodName := ⟨RX3, "keepsFrom", "(I)I"⟩
def RX4 : String := "NoonVows$Reader"
def TX4 : u_T := fun k => match k with
  | 0 => ("NoonVows$Reader", "tape", "[B", true)
  | 1 => ("NoonVows$Reader", "length", "I", false)
  | 2 => ("NoonVows$Reader", "law", "LNoonVows$Law;", false)
  | 3 => ("NoonVows$Reader", "sort", "I", false)
  | 4 => ("NoonVows$Reader", "start", "I", false)
  | _ => ("NoonVows$Reader", "end", "I", false)
def tyX4 : Nat → FieldType := fun k => match k with
  | 0 => .array .byte
  | 1 => .int
  | 2 => .object "NoonVows$Law"
  | 3 => .int
  | 4 => .int
  | _ => .int
abbrev wsX40 : List Cond := u_ws RX4 TX4 6
theorem nmX4 : ∀ a, a < 6 → ∀ b, b < 6 → a ≠ b → (TX4 a).2.1 ≠ (TX4 b).2.1 := by decide +kernel
theorem tyX4_ok : ∀ k, k < 6 → parseFieldDescriptor (TX4 k).2.2.1 = some (tyX4 k) := by decide +kernel
abbrev cX4_init : ByteArray := prog_6_method_1_code
def yX4_init : MethodName := ⟨RX4, "<init>", "([B)V"⟩
abbrev cX4_readsText : ByteArray := prog_6_method_2_code
def yX4_readsText : MethodName := ⟨RX4, "readsText", "(ILNoonVows$Law;)Z"⟩
abbrev cX4_keyHere : ByteArray := prog_6_method_3_code
def yX4_keyHere : MethodName := ⟨RX4, "keyHere", "()I"⟩
abbrev cX4_isWordHere : ByteArray := prog_6_method_4_code
def yX4_isWordHere : MethodName := ⟨RX4, "isWordHere", "(Ljava/lang/String;)Z"⟩
abbrev cX4_namesOf : ByteArray := prog_6_method_5_code
def yX4_namesOf : MethodName := ⟨RX4, "namesOf", "(I)Ljava/lang/String;"⟩
abbrev cX4_signsOf : ByteArray := prog_6_method_6_code
def yX4_signsOf : MethodName := ⟨RX4, "signsOf", "(I)Ljava/lang/String;"⟩
abbrev cX4_readsLevel : ByteArray := prog_6_method_7_code
def yX4_readsLevel : MethodName := ⟨RX4, "readsLevel", "(III)Z"⟩
abbrev cX4_readsPiece : ByteArray := prog_6_method_8_code
def yX4_readsPiece : MethodName := ⟨RX4, "readsPiece", "(II)Z"⟩
abbrev cX4_readsName : ByteArray := prog_6_method_9_code
def yX4_readsName : MethodName := ⟨RX4, "readsName", "()Z"⟩
abbrev cX4_closesBracket : ByteArray := prog_6_method_10_code
def yX4_closesBracket : MethodName := ⟨RX4, "closesBracket", "()Z"⟩
abbrev cX4_numberHere : ByteArray := prog_6_method_11_code
def yX4_numberHere : MethodName := ⟨RX4, "numberHere", "()I"⟩
abbrev cX4_signHere : ByteArray := prog_6_method_12_code
def yX4_signHere : MethodName := ⟨RX4, "signHere", "()C"⟩
abbrev cX4_goOn : ByteArray := prog_6_method_13_code
def yX4_goOn : MethodName := ⟨RX4, "goOn", "()V"⟩
abbrev cX4_isLetter : ByteArray := prog_6_method_14_code
def yX4_isLetter : MethodName := ⟨RX4, "isLetter", "(I)Z"⟩
abbrev cX4_isDigit : ByteArray := prog_6_method_15_code
def yX4_isDigit : MethodName := ⟨RX4, "isDigit", "(I)Z"⟩
def RX5 : String := "NoonVows$Sheet"
def TX5 : u_T := fun k => match k with
  | 0 => ("NoonVows$Sheet", "sort", "I", false)
  | 1 => ("NoonVows$Sheet", "size", "I", false)
  | _ => ("NoonVows$Sheet", "places", "[I", true)
def tyX5 : Nat → FieldType := fun k => match k with
  | 0 => .int
  | 1 => .int
  | _ => .array .int
abbrev wsX50 : List Cond := u_ws RX5 TX5 3
theorem nmX5 : ∀ a, a < 3 → ∀ b, b < 3 → a ≠ b → (TX5 a).2.1 ≠ (TX5 b).2.1 := by decide +kernel
theorem tyX5_ok : ∀ k, k < 3 → parseFieldDescriptor (TX5 k).2.2.1 = some (tyX5 k) := by decide +kernel
abbrev cX5_init : ByteArray := prog_7_method_1_code
def yX5_init : MethodName := ⟨RX5, "<init>", "()V"⟩
abbrev cX5_startAnew : ByteArray := prog_7_method_2_code
def yX5_startAnew : MethodName := ⟨RX5, "startAnew", "(II)V"⟩
abbrev cX5_becomes : ByteArray := prog_7_method_3_code
def yX5_becomes : MethodName := ⟨RX5, "becomes", "(LNoonVows$Sheet;)V"⟩
abbrev cX5_isMissing : ByteArray := prog_7_method_4_code
def yX5_isMissing : MethodName := ⟨RX5, "isMissing", "()Z"⟩
abbrev cX5_hasPlace : ByteArray := prog_7_method_5_code
def yX5_hasPlace : MethodName := ⟨RX5, "hasPlace", "(I)Z"⟩
abbrev cX5_hasRun : ByteArray := prog_7_method_6_code
def yX5_hasRun : MethodName := ⟨RX5, "hasRun", "(II)Z"⟩
abbrev cX5_isNumber : ByteArray := prog_7_method_7_code
def yX5_isNumber : MethodName := ⟨RX5, "isNumber", "(I)Z"⟩
def RX6 : String := "NoonVows$Slot"
def TX6 : u_T := fun k => match k with
  | 0 => ("NoonVows$Slot", "holds", "I", false)
  | 1 => ("NoonVows$Slot", "one", "LNoonVows$Person;", true)
  | 2 => ("NoonVows$Slot", "row", "LNoonVows$Sheet;", true)
  | _ => ("NoonVows$Slot", "number", "I", false)
def tyX6 : Nat → FieldType := fun k => match k with
  | 0 => .int
  | 1 => .object "NoonVows$Person"
  | 2 => .object "NoonVows$Sheet"
  | _ => .int
abbrev wsX60 : List Cond := u_ws RX6 TX6 4
theorem nmX6 : ∀ a, a < 4 → ∀ b, b < 4 → a ≠ b → (TX6 a).2.1 ≠ (TX6 b).2.1 := by decide +kernel
theorem tyX6_ok : ∀ k, k < 4 → parseFieldDescriptor (TX6 k).2.2.1 = some (tyX6 k) := by decide +kernel
abbrev cX6_init : ByteArray := prog_8_method_1_code
def yX6_init : MethodName := ⟨RX6, "<init>", "()V"⟩
def RX7 : String := "NoonVows"
def TX7 : u_T := fun k => match k with
  | 0 => ("NoonVows", "laws", "LNoonVows$Laws;", true)
  | 1 => ("NoonVows", "now", "LNoonVows$Land;", true)
  | 2 => ("NoonVows", "image", "LNoonVows$Land;", true)
  | 3 => ("NoonVows", "thought", "LNoonVows$Land;", true)
  | 4 => ("NoonVows", "imageIsKept", "Z", false)
  | 5 => ("NoonVows", "tape", "[B", true)
  | 6 => ("NoonVows", "tapeLength", "I", false)
  | 7 => ("NoonVows", "reader", "LNoonVows$Reader;", true)
  | 8 => ("NoonVows", "waiting", "[I", true)
  | 9 => ("NoonVows", "waitingCount", "I", false)
  | 10 => ("NoonVows", "sheets", "[LNoonVows$Sheet;", true)
  | _ => ("NoonVows", "slots", "[LNoonVows$Slot;", true)
def tyX7 : Nat → FieldType := fun k => match k with
  | 0 => .object "NoonVows$Laws"
  | 1 => .object "NoonVows$Land"
  | 2 => .object "NoonVows$Land"
  | 3 => .object "NoonVows$Land"
  | 4 => .boolean
  | 5 => .array .byte
  | 6 => .int
  | 7 => .object "NoonVows$Reader"
  | 8 => .array .int
  | 9 => .int
  | 10 => .array (.object "NoonVows$Sheet")
  | _ => .array (.object "NoonVows$Slot")
abbrev wsX70 : List Cond := u_ws RX7 TX7 12
theorem nmX7 : ∀ a, a < 12 → ∀ b, b < 12 → a ≠ b → (TX7 a).2.1 ≠ (TX7 b).2.1 := by decide +kernel
theorem tyX7_ok : ∀ k, k < 12 → parseFieldDescriptor (TX7 k).2.2.1 = some (tyX7 k) := by decide +kernel
abbrev cX7_init : ByteArray := prog_1_method_1_code
def yX7_init : MethodName := ⟨RX7, "<init>", "()V"⟩
abbrev cX7_person : ByteArray := prog_1_method_2_code
def yX7_person : MethodName := ⟨RX7, "person", "(III)I"⟩
abbrev cX7_told : ByteArray := prog_1_method_3_code
def yX7_told : MethodName := ⟨RX7, "told", "(II)I"⟩
abbrev cX7_as : ByteArray := prog_1_method_4_code
def yX7_as : MethodName := ⟨RX7, "as", "(II)I"⟩
abbrev cX7_turns : ByteArray := prog_1_method_5_code
def yX7_turns : MethodName := ⟨RX7, "turns", "(II)I"⟩
abbrev cX7_set : ByteArray := prog_1_method_6_code
def yX7_set : MethodName := ⟨RX7, "set", "(III)I"⟩
abbrev cX7_vow : ByteArray := prog_1_method_7_code
def yX7_vow : MethodName := ⟨RX7, "vow", "(III)I"⟩
abbrev cX7_vowOf : ByteArray := prog_1_method_8_code
def yX7_vowOf : MethodName := ⟨RX7, "vowOf", "(II)I"⟩
abbrev cX7_breaks : ByteArray := prog_1_method_9_code
def yX7_breaks : MethodName := ⟨RX7, "breaks", "(I)I"⟩
abbrev cX7_eclipse : ByteArray := prog_1_method_10_code
def yX7_eclipse : MethodName := ⟨RX7, "eclipse", "()I"⟩
abbrev cX7_deal : ByteArray := prog_1_method_11_code
def yX7_deal : MethodName := ⟨RX7, "deal", "(I)I"⟩
abbrev cX7_seed : ByteArray := prog_1_method_12_code
def yX7_seed : MethodName := ⟨RX7, "seed", "(I)I"⟩
abbrev cX7_hours : ByteArray := prog_1_method_13_code
def yX7_hours : MethodName := ⟨RX7, "hours", "(I)I"⟩
abbrev cX7_land : ByteArray := prog_1_method_14_code
def yX7_land : MethodName := ⟨RX7, "land", "(I)I"⟩
abbrev cX7_reaches : ByteArray := prog_1_method_15_code
def yX7_reaches : MethodName := ⟨RX7, "reaches", "(II)I"⟩
abbrev cX7_behind : ByteArray := prog_1_method_16_code
def yX7_behind : MethodName := ⟨RX7, "behind", "(II)I"⟩
abbrev cX7_free : ByteArray := prog_1_method_17_code
def yX7_free : MethodName := ⟨RX7, "free", "()I"⟩
abbrev cX7_sworn : ByteArray := prog_1_method_18_code
def yX7_sworn : MethodName := ⟨RX7, "sworn", "(II)I"⟩
abbrev cX7_trust : ByteArray := prog_1_method_19_code
def yX7_trust : MethodName := ⟨RX7, "trust", "(II)I"⟩
abbrev cX7_debtor : ByteArray := prog_1_method_20_code
def yX7_debtor : MethodName := ⟨RX7, "debtor", "(II)I"⟩
abbrev cX7_clock : ByteArray := prog_1_method_21_code
def yX7_clock : MethodName := ⟨RX7, "clock", "(III)I"⟩
abbrev cX7_differencesWithEast : ByteArray := prog_1_method_22_code
def yX7_differencesWithEast : MethodName := ⟨RX7, "differencesWithEast", "(LNoonVows$Sheet;II)I"⟩
abbrev cX7_fee : ByteArray := prog_1_method_23_code
def yX7_fee : MethodName := ⟨RX7, "fee", "()I"⟩
abbrev cX7_fine : ByteArray := prog_1_method_24_code
def yX7_fine : MethodName := ⟨RX7, "fine", "(I)I"⟩
abbrev cX7_feed : ByteArray := prog_1_method_25_code
def yX7_feed : MethodName := ⟨RX7, "feed", "(III)I"⟩
abbrev cX7_putBytes : ByteArray := prog_1_method_26_code
def yX7_putBytes : MethodName := ⟨RX7, "putBytes", "(I)V"⟩
abbrev cX7_trim : ByteArray := prog_1_method_27_code
def yX7_trim : MethodName := ⟨RX7, "trim", "(I)I"⟩
abbrev cX7_text : ByteArray := prog_1_method_28_code
def yX7_text : MethodName := ⟨RX7, "text", "()I"⟩
abbrev cX7_textTold : ByteArray := prog_1_method_29_code
def yX7_textTold : MethodName := ⟨RX7, "textTold", "(II)I"⟩
abbrev cX7_why : ByteArray := prog_1_method_30_code
def yX7_why : MethodName := ⟨RX7, "why", "(I)I"⟩
abbrev cX7_sheet : ByteArray := prog_1_method_31_code
def yX7_sheet : MethodName := ⟨RX7, "sheet", "(III)I"⟩
abbrev cX7_mark : ByteArray := prog_1_method_32_code
def yX7_mark : MethodName := ⟨RX7, "mark", "(III)I"⟩
abbrev cX7_pour : ByteArray := prog_1_method_33_code
def yX7_pour : MethodName := ⟨RX7, "pour", "(I)I"⟩
abbrev cX7_reads : ByteArray := prog_1_method_34_code
def yX7_reads : MethodName := ⟨RX7, "reads", "(I)I"⟩
abbrev cX7_copy : ByteArray := prog_1_method_35_code
def yX7_copy : MethodName := ⟨RX7, "copy", "(IIIII)I"⟩
abbrev cX7_lay : ByteArray := prog_1_method_36_code
def yX7_lay : MethodName := ⟨RX7, "lay", "(III)I"⟩
abbrev cX7_ask : ByteArray := prog_1_method_37_code
def yX7_ask : MethodName := ⟨RX7, "ask", "(II)I"⟩
abbrev cX7_item : ByteArray := prog_1_method_38_code
def yX7_item : MethodName := ⟨RX7, "item", "(II)I"⟩
abbrev cX7_rest : ByteArray := prog_1_method_39_code
def yX7_rest : MethodName := ⟨RX7, "rest", "(II)I"⟩
abbrev cX7_tell : ByteArray := prog_1_method_40_code
def yX7_tell : MethodName := ⟨RX7, "tell", "(I)I"⟩
abbrev cX7_check : ByteArray := prog_1_method_41_code
def yX7_check : MethodName := ⟨RX7, "check", "(I)I"⟩
abbrev cX7_keep : ByteArray := prog_1_method_42_code
def yX7_keep : MethodName := ⟨RX7, "keep", "()I"⟩
abbrev cX7_back : ByteArray := prog_1_method_43_code
def yX7_back : MethodName := ⟨RX7, "back", "()I"⟩
abbrev cX7_count : ByteArray := prog_1_method_44_code
def yX7_count : MethodName := ⟨RX7, "count", "(I)I"⟩
abbrev cX7_isWithin : ByteArray := prog_1_method_45_code
def yX7_isWithin : MethodName := ⟨RX7, "isWithin", "(III)Z"⟩
abbrev cX7_heldWithin : ByteArray := prog_1_method_46_code
def yX7_heldWithin : MethodName := ⟨RX7, "heldWithin", "(III)I"⟩
def RX8 : String := "NoonVowsModel"
def TX8 : u_T := fun k => match k with
  | 0 => ("NoonVowsModel", "s", "[I", true)
  | 1 => ("NoonVowsModel", "image", "[I", true)
  | 2 => ("NoonVowsModel", "aside", "[I", true)
  | 3 => ("NoonVowsModel", "hasImage", "Z", false)
  | 4 => ("NoonVowsModel", "tSort", "[I", true)
  | 5 => ("NoonVowsModel", "tSize", "[I", true)
  | 6 => ("NoonVowsModel", "tNumber", "[I", true)
  | 7 => ("NoonVowsModel", "held", "[I", true)
  | 8 => ("NoonVowsModel", "heldNumber", "[I", true)
  | 9 => ("NoonVowsModel", "heldWorth", "[I", true)
  | 10 => ("NoonVowsModel", "heldSize", "[I", true)
  | 11 => ("NoonVowsModel", "heldRow", "[I", true)
  | 12 => ("NoonVowsModel", "swornTo", "[I", true)
  | 13 => ("NoonVowsModel", "ends", "[I", true)
  | 14 => ("NoonVowsModel", "close", "[I", true)
  | 15 => ("NoonVowsModel", "tape", "[I", true)
  | 16 => ("NoonVowsModel", "taped", "I", false)
  | 17 => ("NoonVowsModel", "begin", "I", false)
  | 18 => ("NoonVowsModel", "behind", "I", false)
  | 19 => ("NoonVowsModel", "token", "I", false)
  | 20 => ("NoonVowsModel", "number", "I", false)
  | 21 => ("NoonVowsModel", "letter", "I", false)
  | 22 => ("NoonVowsModel", "deep", "I", false)
  | 23 => ("NoonVowsModel", "turned", "I", false)
  | 24 => ("NoonVowsModel", "laid", "I", false)
  | 25 => ("NoonVowsModel", "laidAt", "I", false)
  | 26 => ("NoonVowsModel", "said", "I", false)
  | 27 => ("NoonVowsModel", "named", "[I", true)
  | 28 => ("NoonVowsModel", "pile", "[I", true)
  | 29 => ("NoonVowsModel", "carried", "[I", true)
  | 30 => ("NoonVowsModel", "waits", "[I", true)
  | 31 => ("NoonVowsModel", "waiting", "I", false)
  | _ => ("NoonVowsModel", "rowDue", "[I", true)
def tyX8 : Nat → FieldType := fun k => match k with
  | 0 => .array .int
  | 1 => .array .int
  | 2 => .array .int
  | 3 => .boolean
  | 4 => .array .int
  | 5 => .array .int
  | 6 => .array .int
  | 7 => .array .int
  | 8 => .array .int
  | 9 => .array .int
  | 10 => .array .int
  | 11 => .array .int
  | 12 => .array .int
  | 13 => .array .int
  | 14 => .array .int
  | 15 => .array .int
  | 16 => .int
  | 17 => .int
  | 18 => .int
  | 19 => .int
  | 20 => .int
  | 21 => .int
  | 22 => .int
  | 23 => .int
  | 24 => .int
  | 25 => .int
  | 26 => .int
  | 27 => .array .int
  | 28 => .array .int
  | 29 => .array .int
  | 30 => .array .int
  | 31 => .int
  | _ => .array .int
abbrev wsX80 : List Cond := u_ws RX8 TX8 33
theorem nmX8 : ∀ a, a < 33 → ∀ b, b < 33 → a ≠ b → (TX8 a).2.1 ≠ (TX8 b).2.1 := by decide +kernel
theorem tyX8_ok : ∀ k, k < 33 → parseFieldDescriptor (TX8 k).2.2.1 = some (tyX8 k) := by decide +kernel
abbrev cX8_init : ByteArray := prog_10_method_1_code
def yX8_init : MethodName := ⟨RX8, "<init>", "()V"⟩
abbrev cX8_isIn : ByteArray := prog_10_method_2_code
def yX8_isIn : MethodName := ⟨RX8, "isIn", "(JJJ)Z"⟩
abbrev cX8_orNone : ByteArray := prog_10_method_3_code
def yX8_orNone : MethodName := ⟨RX8, "orNone", "(I)I"⟩
abbrev cX8_within : ByteArray := prog_10_method_4_code
def yX8_within : MethodName := ⟨RX8, "within", "(III)I"⟩
abbrev cX8_off : ByteArray := prog_10_method_5_code
def yX8_off : MethodName := ⟨RX8, "off", "(II)I"⟩
abbrev cX8_becomes : ByteArray := prog_10_method_6_code
def yX8_becomes : MethodName := ⟨RX8, "becomes", "(II)I"⟩
abbrev cX8_textAt : ByteArray := prog_10_method_7_code
def yX8_textAt : MethodName := ⟨RX8, "textAt", "(I)I"⟩
abbrev cX8_of : ByteArray := prog_10_method_8_code
def yX8_of : MethodName := ⟨RX8, "of", "(II)I"⟩
abbrev cX8_sets : ByteArray := prog_10_method_9_code
def yX8_sets : MethodName := ⟨RX8, "sets", "(III)V"⟩
abbrev cX8_vowIs : ByteArray := prog_10_method_10_code
def yX8_vowIs : MethodName := ⟨RX8, "vowIs", "(II)I"⟩
abbrev cX8_isOne : ByteArray := prog_10_method_11_code
def yX8_isOne : MethodName := ⟨RX8, "isOne", "(I)Z"⟩
abbrev cX8_isVow : ByteArray := prog_10_method_12_code
def yX8_isVow : MethodName := ⟨RX8, "isVow", "(I)Z"⟩
abbrev cX8_isText : ByteArray := prog_10_method_13_code
def yX8_isText : MethodName := ⟨RX8, "isText", "(I)Z"⟩
abbrev cX8_drawn : ByteArray := prog_10_method_14_code
def yX8_drawn : MethodName := ⟨RX8, "drawn", "()I"⟩
abbrev cX8_comes : ByteArray := prog_10_method_15_code
def yX8_comes : MethodName := ⟨RX8, "comes", "(III)V"⟩
abbrev cX8_person : ByteArray := prog_10_method_16_code
def yX8_person : MethodName := ⟨RX8, "person", "(III)I"⟩
abbrev cX8_manyBy : ByteArray := prog_10_method_17_code
def yX8_manyBy : MethodName := ⟨RX8, "manyBy", "(II)I"⟩
abbrev cX8_keeps : ByteArray := prog_10_method_18_code
def yX8_keeps : MethodName := ⟨RX8, "keeps", "(I)I"⟩
abbrev cX8_noon : ByteArray := prog_10_method_19_code
def yX8_noon : MethodName := ⟨RX8, "noon", "(I)I"⟩
abbrev cX8_pays : ByteArray := prog_10_method_20_code
def yX8_pays : MethodName := ⟨RX8, "pays", "(I)I"⟩
abbrev cX8_worth : ByteArray := prog_10_method_21_code
def yX8_worth : MethodName := ⟨RX8, "worth", "(I)I"⟩
abbrev cX8_told : ByteArray := prog_10_method_22_code
def yX8_told : MethodName := ⟨RX8, "told", "(II)I"⟩
abbrev cX8_isOf : ByteArray := prog_10_method_23_code
def yX8_isOf : MethodName := ⟨RX8, "isOf", "(II)Z"⟩
abbrev cX8_as : ByteArray := prog_10_method_24_code
def yX8_as : MethodName := ⟨RX8, "as", "(II)I"⟩
abbrev cX8_turns : ByteArray := prog_10_method_25_code
def yX8_turns : MethodName := ⟨RX8, "turns", "(II)I"⟩
abbrev cX8_set : ByteArray := prog_10_method_26_code
def yX8_set : MethodName := ⟨RX8, "set", "(III)I"⟩
abbrev cX8_gives : ByteArray := prog_10_method_27_code
def yX8_gives : MethodName := ⟨RX8, "gives", "(III)V"⟩
abbrev cX8_goes : ByteArray := prog_10_method_28_code
def yX8_goes : MethodName := ⟨RX8, "goes", "(I)V"⟩
abbrev cX8_strikes : ByteArray := prog_10_method_29_code
def yX8_strikes : MethodName := ⟨RX8, "strikes", "(I)V"⟩
abbrev cX8_vow : ByteArray := prog_10_method_30_code
def yX8_vow : MethodName := ⟨RX8, "vow", "(III)I"⟩
abbrev cX8_vowOf : ByteArray := prog_10_method_31_code
def yX8_vowOf : MethodName := ⟨RX8, "vowOf", "(II)I"⟩
abbrev cX8_breaks : ByteArray := prog_10_method_32_code
def yX8_breaks : MethodName := ⟨RX8, "breaks", "(I)I"⟩
abbrev cX8_eclipse : ByteArray := prog_10_method_33_code
def yX8_eclipse : MethodName := ⟨RX8, "eclipse", "()I"⟩
abbrev cX8_deal : ByteArray := prog_10_method_34_code
def yX8_deal : MethodName := ⟨RX8, "deal", "(I)I"⟩
abbrev cX8_seed : ByteArray := prog_10_method_35_code
def yX8_seed : MethodName := ⟨RX8, "seed", "(I)I"⟩
abbrev cX8_earns : ByteArray := prog_10_method_36_code
def yX8_earns : MethodName := ⟨RX8, "earns", "(II)V"⟩
abbrev cX8_goesOn : ByteArray := prog_10_method_37_code
def yX8_goesOn : MethodName := ⟨RX8, "goesOn", "()V"⟩
abbrev cX8_goesOnMany : ByteArray := prog_10_method_38_code
def yX8_goesOnMany : MethodName := ⟨RX8, "goesOnMany", "(I)V"⟩
abbrev cX8_hours : ByteArray := prog_10_method_39_code
def yX8_hours : MethodName := ⟨RX8, "hours", "(I)I"⟩
abbrev cX8_setBy : ByteArray := prog_10_method_40_code
def yX8_setBy : MethodName := ⟨RX8, "setBy", "(I)I"⟩
abbrev cX8_findSworn : ByteArray := prog_10_method_41_code
def yX8_findSworn : MethodName := ⟨RX8, "findSworn", "()V"⟩
abbrev cX8_manyIn : ByteArray := prog_10_method_42_code
def yX8_manyIn : MethodName := ⟨RX8, "manyIn", "(I)I"⟩
abbrev cX8_chain : ByteArray := prog_10_method_43_code
def yX8_chain : MethodName := ⟨RX8, "chain", "()I"⟩
abbrev cX8_land : ByteArray := prog_10_method_44_code
def yX8_land : MethodName := ⟨RX8, "land", "(I)I"⟩
abbrev cX8_reaches : ByteArray := prog_10_method_45_code
def yX8_reaches : MethodName := ⟨RX8, "reaches", "(II)I"⟩
abbrev cX8_laysBy : ByteArray := prog_10_method_46_code
def yX8_laysBy : MethodName := ⟨RX8, "laysBy", "()V"⟩
abbrev cX8_laysBack : ByteArray := prog_10_method_47_code
def yX8_laysBack : MethodName := ⟨RX8, "laysBack", "()V"⟩
abbrev cX8_behind : ByteArray := prog_10_method_48_code
def yX8_behind : MethodName := ⟨RX8, "behind", "(II)I"⟩
abbrev cX8_free : ByteArray := prog_10_method_49_code
def yX8_free : MethodName := ⟨RX8, "free", "()I"⟩
abbrev cX8_sworn : ByteArray := prog_10_method_50_code
def yX8_sworn : MethodName := ⟨RX8, "sworn", "(II)I"⟩
abbrev cX8_trust : ByteArray := prog_10_method_51_code
def yX8_trust : MethodName := ⟨RX8, "trust", "(II)I"⟩
abbrev cX8_debtor : ByteArray := prog_10_method_52_code
def yX8_debtor : MethodName := ⟨RX8, "debtor", "(II)I"⟩
abbrev cX8_fee : ByteArray := prog_10_method_53_code
def yX8_fee : MethodName := ⟨RX8, "fee", "()I"⟩
abbrev cX8_fine : ByteArray := prog_10_method_54_code
def yX8_fine : MethodName := ⟨RX8, "fine", "(I)I"⟩
abbrev cX8_manyStruck : ByteArray := prog_10_method_55_code
def yX8_manyStruck : MethodName := ⟨RX8, "manyStruck", "()I"⟩
abbrev cX8_feed : ByteArray := prog_10_method_56_code
def yX8_feed : MethodName := ⟨RX8, "feed", "(III)I"⟩
abbrev cX8_trim : ByteArray := prog_10_method_57_code
def yX8_trim : MethodName := ⟨RX8, "trim", "(I)I"⟩
abbrev cX8_isLetter : ByteArray := prog_10_method_58_code
def yX8_isLetter : MethodName := ⟨RX8, "isLetter", "(I)Z"⟩
abbrev cX8_isDigit : ByteArray := prog_10_method_59_code
def yX8_isDigit : MethodName := ⟨RX8, "isDigit", "(I)Z"⟩
abbrev cX8_nextToken : ByteArray := prog_10_method_60_code
def yX8_nextToken : MethodName := ⟨RX8, "nextToken", "()V"⟩
abbrev cX8_isSign : ByteArray := prog_10_method_61_code
def yX8_isSign : MethodName := ⟨RX8, "isSign", "(I)Z"⟩
abbrev cX8_isWordAt : ByteArray := prog_10_method_62_code
def yX8_isWordAt : MethodName := ⟨RX8, "isWordAt", "(IIII)Z"⟩
abbrev cX8_key : ByteArray := prog_10_method_63_code
def yX8_key : MethodName := ⟨RX8, "key", "()I"⟩
abbrev cX8_isName : ByteArray := prog_10_method_64_code
def yX8_isName : MethodName := ⟨RX8, "isName", "(II)Z"⟩
abbrev cX8_step : ByteArray := prog_10_method_65_code
def yX8_step : MethodName := ⟨RX8, "step", "(II)V"⟩
abbrev cX8_either : ByteArray := prog_10_method_66_code
def yX8_either : MethodName := ⟨RX8, "either", "(I)Z"⟩
abbrev cX8_both : ByteArray := prog_10_method_67_code
def yX8_both : MethodName := ⟨RX8, "both", "(I)Z"⟩
abbrev cX8_test : ByteArray := prog_10_method_68_code
def yX8_test : MethodName := ⟨RX8, "test", "(I)Z"⟩
abbrev cX8_sum : ByteArray := prog_10_method_69_code
def yX8_sum : MethodName := ⟨RX8, "sum", "(I)Z"⟩
abbrev cX8_term : ByteArray := prog_10_method_70_code
def yX8_term : MethodName := ⟨RX8, "term", "(I)Z"⟩
abbrev cX8_part0 : ByteArray := prog_10_method_71_code
def yX8_part0 : MethodName := ⟨RX8, "part0", "(I)Z"⟩
abbrev cX8_parse : ByteArray := prog_10_method_72_code
def yX8_parse : MethodName := ⟨RX8, "parse", "()I"⟩
abbrev cX8_text : ByteArray := prog_10_method_73_code
def yX8_text : MethodName := ⟨RX8, "text", "()I"⟩
abbrev cX8_textTold : ByteArray := prog_10_method_74_code
def yX8_textTold : MethodName := ⟨RX8, "textTold", "(II)I"⟩
abbrev cX8_counts : ByteArray := prog_10_method_75_code
def yX8_counts : MethodName := ⟨RX8, "counts", "(I)I"⟩
abbrev cX8_why : ByteArray := prog_10_method_76_code
def yX8_why : MethodName := ⟨RX8, "why", "(I)I"⟩
abbrev cX8_joined : ByteArray := prog_10_method_77_code
def yX8_joined : MethodName := ⟨RX8, "joined", "(III)I"⟩
abbrev cX8_worked : ByteArray := prog_10_method_78_code
def yX8_worked : MethodName := ⟨RX8, "worked", "(I)I"⟩
abbrev cX8_isSheet : ByteArray := prog_10_method_79_code
def yX8_isSheet : MethodName := ⟨RX8, "isSheet", "(I)Z"⟩
abbrev cX8_sheet : ByteArray := prog_10_method_80_code
def yX8_sheet : MethodName := ⟨RX8, "sheet", "(III)I"⟩
abbrev cX8_mark : ByteArray := prog_10_method_81_code
def yX8_mark : MethodName := ⟨RX8, "mark", "(III)I"⟩
abbrev cX8_pour : ByteArray := prog_10_method_82_code
def yX8_pour : MethodName := ⟨RX8, "pour", "(I)I"⟩
abbrev cX8_reads : ByteArray := prog_10_method_83_code
def yX8_reads : MethodName := ⟨RX8, "reads", "(I)I"⟩
abbrev cX8_clock : ByteArray := prog_10_method_84_code
def yX8_clock : MethodName := ⟨RX8, "clock", "(III)I"⟩
abbrev cX8_copy : ByteArray := prog_10_method_85_code
def yX8_copy : MethodName := ⟨RX8, "copy", "(IIIII)I"⟩
abbrev cX8_isSlot : ByteArray := prog_10_method_86_code
def yX8_isSlot : MethodName := ⟨RX8, "isSlot", "(I)Z"⟩
abbrev cX8_lay : ByteArray := prog_10_method_87_code
def yX8_lay : MethodName := ⟨RX8, "lay", "(III)I"⟩
abbrev cX8_ask : ByteArray := prog_10_method_88_code
def yX8_ask : MethodName := ⟨RX8, "ask", "(II)I"⟩
abbrev cX8_item : ByteArray := prog_10_method_89_code
def yX8_item : MethodName := ⟨RX8, "item", "(II)I"⟩
abbrev cX8_rest : ByteArray := prog_10_method_90_code
def yX8_rest : MethodName := ⟨RX8, "rest", "(II)I"⟩
abbrev cX8_tell : ByteArray := prog_10_method_91_code
def yX8_tell : MethodName := ⟨RX8, "tell", "(I)I"⟩
abbrev cX8_setAside : ByteArray := prog_10_method_92_code
def yX8_setAside : MethodName := ⟨RX8, "setAside", "([I[I)V"⟩
abbrev cX8_check : ByteArray := prog_10_method_93_code
def yX8_check : MethodName := ⟨RX8, "check", "(I)I"⟩
abbrev cX8_keep : ByteArray := prog_10_method_94_code
def yX8_keep : MethodName := ⟨RX8, "keep", "()I"⟩
abbrev cX8_back : ByteArray := prog_10_method_95_code
def yX8_back : MethodName := ⟨RX8, "back", "()I"⟩
abbrev cX8_count : ByteArray := prog_10_method_96_code
def yX8_count : MethodName := ⟨RX8, "count", "(I)I"⟩
def RJ11 : String := "java/lang/Character"
def TJ11 : u_T := fun k => match k with
  | _ => ("", "", "", false)
def tyJ11 : Nat → FieldType := fun k => match k with
  | _ => .int
abbrev wsJ110 : List Cond := u_ws RJ11 TJ11 0
theorem nmJ11 : ∀ a, a < 0 → ∀ b, b < 0 → a ≠ b → (TJ11 a).2.1 ≠ (TJ11 b).2.1 := by decide +kernel
theorem tyJ11_ok : ∀ k, k < 0 → parseFieldDescriptor (TJ11 k).2.2.1 = some (tyJ11 k) := by decide +kernel
abbrev cJ11_isValidCodePoint_9a6ad : ByteArray := prog_11_method_11_code
def yJ11_isValidCodePoint_9a6ad : MethodName := ⟨RJ11, "isValidCodePoint", "(I)Z"⟩
abbrev cJ11_highSurrogate_5068e : ByteArray := prog_11_method_28_code
def yJ11_highSurrogate_5068e : MethodName := ⟨RJ11, "highSurrogate", "(I)C"⟩
abbrev cJ11_lowSurrogate_5068e : ByteArray := prog_11_method_29_code
def yJ11_lowSurrogate_5068e : MethodName := ⟨RJ11, "lowSurrogate", "(I)C"⟩
def RJ9 : String := "java/lang/Math"
def TJ9 : u_T := fun k => match k with
  | _ => ("", "", "", false)
def tyJ9 : Nat → FieldType := fun k => match k with
  | _ => .int
abbrev wsJ90 : List Cond := u_ws RJ9 TJ9 0
theorem nmJ9 : ∀ a, a < 0 → ∀ b, b < 0 → a ≠ b → (TJ9 a).2.1 ≠ (TJ9 b).2.1 := by decide +kernel
theorem tyJ9_ok : ∀ k, k < 0 → parseFieldDescriptor (TJ9 k).2.2.1 = some (tyJ9 k) := by decide +kernel
abbrev cJ9_abs_0f7a4 : ByteArray := prog_12_method_59_code
def yJ9_abs_0f7a4 : MethodName := ⟨RJ9, "abs", "(I)I"⟩
abbrev cJ9_max_7cf53 : ByteArray := prog_12_method_65_code
def yJ9_max_7cf53 : MethodName := ⟨RJ9, "max", "(II)I"⟩
abbrev cJ9_min_7cf53 : ByteArray := prog_12_method_69_code
def yJ9_min_7cf53 : MethodName := ⟨RJ9, "min", "(II)I"⟩
def RJ0 : String := "java/lang/String"
def TJ0 : u_T := fun k => match k with
  | _ => ("", "", "", false)
def tyJ0 : Nat → FieldType := fun k => match k with
  | _ => .int
abbrev wsJ00 : List Cond := u_ws RJ0 TJ0 0
theorem nmJ0 : ∀ a, a < 0 → ∀ b, b < 0 → a ≠ b → (TJ0 a).2.1 ≠ (TJ0 b).2.1 := by decide +kernel
theorem tyJ0_ok : ∀ k, k < 0 → parseFieldDescriptor (TJ0 k).2.2.1 = some (tyJ0 k) := by decide +kernel
abbrev cJ0_length_8abf5 : ByteArray := prog_13_method_54_code
def yJ0_length_8abf5 : MethodName := ⟨RJ0, "length", "()I"⟩
abbrev cJ0_charAt_5068e : ByteArray := prog_13_method_56_code
def yJ0_charAt_5068e : MethodName := ⟨RJ0, "charAt", "(I)C"⟩
abbrev cJ0_indexOf_0f7a4 : ByteArray := prog_13_method_79_code
def yJ0_indexOf_0f7a4 : MethodName := ⟨RJ0, "indexOf", "(I)I"⟩
abbrev cJ0_indexOf_7cf53 : ByteArray := prog_13_method_80_code
def yJ0_indexOf_7cf53 : MethodName := ⟨RJ0, "indexOf", "(II)I"⟩
abbrev cJ0_coder_7d493 : ByteArray := prog_13_method_152_code
def yJ0_coder_7d493 : MethodName := ⟨RJ0, "coder", "()B"⟩
abbrev cJ0_isLatin1_aae02 : ByteArray := prog_13_method_154_code
def yJ0_isLatin1_aae02 : MethodName := ⟨RJ0, "isLatin1", "()Z"⟩
abbrev cJ0_checkIndex_df160 : ByteArray := prog_13_method_155_code
def yJ0_checkIndex_df160 : MethodName := ⟨RJ0, "checkIndex", "(II)V"⟩
abbrev cJ0_checkBoundsBeginEnd_23922 : ByteArray := prog_13_method_158_code
def yJ0_checkBoundsBeginEnd_23922 : MethodName := ⟨RJ0, "checkBoundsBeginEnd", "(III)V"⟩
def RJ1 : String := "java/lang/StringLatin1"
def TJ1 : u_T := fun k => match k with
  | _ => ("", "", "", false)
def tyJ1 : Nat → FieldType := fun k => match k with
  | _ => .int
abbrev wsJ10 : List Cond := u_ws RJ1 TJ1 0
theorem nmJ1 : ∀ a, a < 0 → ∀ b, b < 0 → a ≠ b → (TJ1 a).2.1 ≠ (TJ1 b).2.1 := by decide +kernel
theorem tyJ1_ok : ∀ k, k < 0 → parseFieldDescriptor (TJ1 k).2.2.1 = some (tyJ1 k) := by decide +kernel
abbrev cJ1_charAt_3b067 : ByteArray := prog_14_method_2_code
def yJ1_charAt_3b067 : MethodName := ⟨RJ1, "charAt", "([BI)C"⟩
abbrev cJ1_canEncode_9a6ad : ByteArray := prog_14_method_4_code
def yJ1_canEncode_9a6ad : MethodName := ⟨RJ1, "canEncode", "(I)Z"⟩
abbrev cJ1_indexOf_4cfef : ByteArray := prog_14_method_22_code
def yJ1_indexOf_4cfef : MethodName := ⟨RJ1, "indexOf", "([BIII)I"⟩
abbrev cJ1_indexOfChar_4cfef : ByteArray := prog_14_method_23_code
def yJ1_indexOfChar_4cfef : MethodName := ⟨RJ1, "indexOfChar", "([BIII)I"⟩
def RJ2 : String := "java/lang/StringUTF16"
def TJ2 : u_T := fun k => match k with
  | _ => ("", "", "", false)
def tyJ2 : Nat → FieldType := fun k => match k with
  | _ => .int
abbrev wsJ20 : List Cond := u_ws RJ2 TJ2 0
theorem nmJ2 : ∀ a, a < 0 → ∀ b, b < 0 → a ≠ b → (TJ2 a).2.1 ≠ (TJ2 b).2.1 := by decide +kernel
theorem tyJ2_ok : ∀ k, k < 0 → parseFieldDescriptor (TJ2 k).2.2.1 = some (tyJ2 k) := by decide +kernel
abbrev cJ2_getChar_3b067 : ByteArray := prog_15_method_5_code
def yJ2_getChar_3b067 : MethodName := ⟨RJ2, "getChar", "([BI)C"⟩
abbrev cJ2_length_9d52b : ByteArray := prog_15_method_6_code
def yJ2_length_9d52b : MethodName := ⟨RJ2, "length", "([B)I"⟩
abbrev cJ2_indexOf_4cfef : ByteArray := prog_15_method_40_code
def yJ2_indexOf_4cfef : MethodName := ⟨RJ2, "indexOf", "([BIII)I"⟩
abbrev cJ2_indexOfChar_4cfef : ByteArray := prog_15_method_47_code
def yJ2_indexOfChar_4cfef : MethodName := ⟨RJ2, "indexOfChar", "([BIII)I"⟩
abbrev cJ2_indexOfCharUnsafe_4cfef : ByteArray := prog_15_method_48_code
def yJ2_indexOfCharUnsafe_4cfef : MethodName := ⟨RJ2, "indexOfCharUnsafe", "([BIII)I"⟩
abbrev cJ2_indexOfSupplementary_4cfef : ByteArray := prog_15_method_49_code
def yJ2_indexOfSupplementary_4cfef : MethodName := ⟨RJ2, "indexOfSupplementary", "([BIII)I"⟩
abbrev cJ2_charAt_3b067 : ByteArray := prog_15_method_83_code
def yJ2_charAt_3b067 : MethodName := ⟨RJ2, "charAt", "([BI)C"⟩
abbrev cJ2_checkIndex_2214a : ByteArray := prog_15_method_91_code
def yJ2_checkIndex_2214a : MethodName := ⟨RJ2, "checkIndex", "(I[B)V"⟩
abbrev cJ2_checkBoundsBeginEnd_d044e : ByteArray := prog_15_method_93_code
def yJ2_checkBoundsBeginEnd_d044e : MethodName := ⟨RJ2, "checkBoundsBeginEnd", "(II[B)V"⟩
def RJ10 : String := "java/lang/System"
def TJ10 : u_T := fun k => match k with
  | _ => ("", "", "", false)
def tyJ10 : Nat → FieldType := fun k => match k with
  | _ => .int
abbrev wsJ100 : List Cond := u_ws RJ10 TJ10 0
theorem nmJ10 : ∀ a, a < 0 → ∀ b, b < 0 → a ≠ b → (TJ10 a).2.1 ≠ (TJ10 b).2.1 := by decide +kernel
theorem tyJ10_ok : ∀ k, k < 0 → parseFieldDescriptor (TJ10 k).2.2.1 = some (tyJ10 k) := by decide +kernel
def RJ3 : String := "jdk/internal/util/Preconditions"
def TJ3 : u_T := fun k => match k with
  | _ => ("", "", "", false)
def tyJ3 : Nat → FieldType := fun k => match k with
  | _ => .int
abbrev wsJ30 : List Cond := u_ws RJ3 TJ3 0
theorem nmJ3 : ∀ a, a < 0 → ∀ b, b < 0 → a ≠ b → (TJ3 a).2.1 ≠ (TJ3 b).2.1 := by decide +kernel
theorem tyJ3_ok : ∀ k, k < 0 → parseFieldDescriptor (TJ3 k).2.2.1 = some (tyJ3 k) := by decide +kernel
abbrev cJ3_checkIndex_8e157 : ByteArray := prog_17_method_11_code
def yJ3_checkIndex_8e157 : MethodName := ⟨RJ3, "checkIndex", "(IILjava/util/function/BiFunction;)I"⟩
abbrev cJ3_checkFromToIndex_8c36e : ByteArray := prog_17_method_12_code
def yJ3_checkFromToIndex_8c36e : MethodName := ⟨RJ3, "checkFromToIndex", "(IIILjava/util/function/BiFunction;)I"⟩
def RL : String := "NoonVowsLaw"
abbrev cL_law : ByteArray := code
def yL_law : MethodName := ⟨RL, "law", "([I)Z"⟩
abbrev vwCl : List vw_C := [(RX0, TX0, 13), (RX1, TX1, 4), (RX2, TX2, 2), (RX3, TX3, 5), (RX4, TX4, 6), (RX5, TX5, 3), (RX6, TX6, 4), (RX7, TX7, 12), (RX8, TX8, 33)]
end
section
theorem dX0_init_0 : decode cX0_init 0 = .ok (.aload_n 0, 1) := by decide +kernel
theorem dX0_init_1 : decode cX0_init 1 = .ok (.invokespecial 3, 3) := by decide +kernel
theorem dX0_init_4 : decode cX0_init 4 = .ok (.aload_n 0, 1) := by decide +kernel
theorem dX0_init_5 : decode cX0_init 5 = .ok (.bipush 10, 2) := by decide +kernel
theorem dX0_init_7 : decode cX0_init 7 = .ok (.anewarray 9, 3) := by decide +kernel
theorem dX0_init_10 : decode cX0_init 10 = .ok (.putfield 11, 3) := by decide +kernel
theorem dX0_init_13 : decode cX0_init 13 = .ok (.aload_n 0, 1) := by decide +kernel
theorem dX0_init_14 : decode cX0_init 14 = .ok (.bipush 17, 2) := by decide +kernel
theorem dX0_init_16 : decode cX0_init 16 = .ok (.newarray .int, 2) := by decide +kernel
theorem dX0_init_18 : decode cX0_init 18 = .ok (.putfield 17, 3) := by decide +kernel
theorem dX0_init_21 : decode cX0_init 21 = .ok (.aload_n 0, 1) := by decide +kernel
theorem dX0_init_22 : decode cX0_init 22 = .ok (.bipush 17, 2) := by decide +kernel
theorem dX0_init_24 : decode cX0_init 24 = .ok (.newarray .int, 2) := by decide +kernel
theorem dX0_init_26 : decode cX0_init 26 = .ok (.putfield 21, 3) := by decide +kernel
theorem dX0_init_29 : decode cX0_init 29 = .ok (.aload_n 0, 1) := by decide +kernel
theorem dX0_init_30 : decode cX0_init 30 = .ok (.bipush 17, 2) := by decide +kernel
theorem dX0_init_32 : decode cX0_init 32 = .ok (.newarray .int, 2) := by decide +kernel
theorem dX0_init_34 : decode cX0_init 34 = .ok (.putfield 24, 3) := by decide +kernel
theorem dX0_init_37 : decode cX0_init 37 = .ok (.aload_n 0, 1) := by decide +kernel
theorem dX0_init_38 : decode cX0_init 38 = .ok (.iconst 1, 1) := by decide +kernel
theorem dX0_init_39 : decode cX0_init 39 = .ok (.putfield 27, 3) := by decide +kernel
theorem dX0_init_42 : decode cX0_init 42 = .ok (.aload_n 0, 1) := by decide +kernel
theorem dX0_init_43 : decode cX0_init 43 = .ok (.iconst 3, 1) := by decide +kernel
theorem dX0_init_44 : decode cX0_init 44 = .ok (.newarray .int, 2) := by decide +kernel
theorem dX0_init_46 : decode cX0_init 46 = .ok (.dup, 1) := by decide +kernel
theorem dX0_init_47 : decode cX0_init 47 = .ok (.iconst 0, 1) := by decide +kernel
theorem dX0_init_48 : decode cX0_init 48 = .ok (.iconst (-1), 1) := by decide +kernel
theorem dX0_init_49 : decode cX0_init 49 = .ok (.iastore, 1) := by decide +kernel
theorem dX0_init_50 : decode cX0_init 50 = .ok (.dup, 1) := by decide +kernel
theorem dX0_init_51 : decode cX0_init 51 = .ok (.iconst 1, 1) := by decide +kernel
theorem dX0_init_52 : decode cX0_init 52 = .ok (.iconst (-1), 1) := by decide +kernel
theorem dX0_init_53 : decode cX0_init 53 = .ok (.iastore, 1) := by decide +kernel
theorem dX0_init_54 : decode cX0_init 54 = .ok (.dup, 1) := by decide +kernel
theorem dX0_init_55 : decode cX0_init 55 = .ok (.iconst 2, 1) := by decide +kernel
theorem dX0_init_56 : decode cX0_init 56 = .ok (.iconst (-1), 1) := by decide +kernel
theorem dX0_init_57 : decode cX0_init 57 = .ok (.iastore, 1) := by decide +kernel
theorem dX0_init_58 : decode cX0_init 58 = .ok (.putfield 31, 3) := by decide +kernel
theorem dX0_init_61 : decode cX0_init 61 = .ok (.aload_n 0, 1) := by decide +kernel
theorem dX0_init_62 : decode cX0_init 62 = .ok (.aload_n 1, 1) := by decide +kernel
theorem dX0_init_63 : decode cX0_init 63 = .ok (.putfield 34, 3) := by decide +kernel
theorem dX0_init_66 : decode cX0_init 66 = .ok (.iconst 0, 1) := by decide +kernel
theorem dX0_init_67 : decode cX0_init 67 = .ok (.istore_n 2, 1) := by decide +kernel
theorem dX0_init_68 : decode cX0_init 68 = .ok (.iload_n 2, 1) := by decide +kernel
theorem dX0_init_69 : decode cX0_init 69 = .ok (.bipush 10, 2) := by decide +kernel
theorem dX0_init_71 : decode cX0_init 71 = .ok (.if_icmp .ge 22, 3) := by decide +kernel
theorem dX0_init_74 : decode cX0_init 74 = .ok (.aload_n 0, 1) := by decide +kernel
theorem dX0_init_75 : decode cX0_init 75 = .ok (.getfield 11, 3) := by decide +kernel
theorem dX0_init_78 : decode cX0_init 78 = .ok (.iload_n 2, 1) := by decide +kernel
theorem dX0_init_79 : decode cX0_init 79 = .ok (.new 9, 3) := by decide +kernel
theorem dX0_init_82 : decode cX0_init 82 = .ok (.dup, 1) := by decide +kernel
theorem dX0_init_83 : decode cX0_init 83 = .ok (.invokespecial 38, 3) := by decide +kernel
theorem dX0_init_86 : decode cX0_init 86 = .ok (.aastore, 1) := by decide +kernel
theorem dX0_init_87 : decode cX0_init 87 = .ok (.iinc 2 1, 3) := by decide +kernel
theorem dX0_init_90 : decode cX0_init 90 = .ok (.goto (-22), 3) := by decide +kernel
theorem dX0_init_93 : decode cX0_init 93 = .ok (.return_, 1) := by decide +kernel
theorem dX0_becomes_0 : decode cX0_becomes 0 = .ok (.aload_n 0, 1) := by decide +kernel
theorem dX0_becomes_1 : decode cX0_becomes 1 = .ok (.aload_n 1, 1) := by decide +kernel
theorem dX0_becomes_2 : decode cX0_becomes 2 = .ok (.getfield 39, 3) := by decide +kernel
theorem dX0_becomes_5 : decode cX0_becomes 5 = .ok (.putfield 39, 3) := by decide +kernel
theorem dX0_becomes_8 : decode cX0_becomes 8 = .ok (.iconst 0, 1) := by decide +kernel
theorem dX0_becomes_9 : decode cX0_becomes 9 = .ok (.istore_n 2, 1) := by decide +kernel
theorem dX0_becomes_10 : decode cX0_becomes 10 = .ok (.iload_n 2, 1) := by decide +kernel
theorem dX0_becomes_11 : decode cX0_becomes 11 = .ok (.aload_n 0, 1) := by decide +kernel
theorem dX0_becomes_12 : decode cX0_becomes 12 = .ok (.getfield 39, 3) := by decide +kernel
theorem dX0_becomes_15 : decode cX0_becomes 15 = .ok (.if_icmp .ge 24, 3) := by decide +kernel
theorem dX0_becomes_18 : decode cX0_becomes 18 = .ok (.aload_n 0, 1) := by decide +kernel
theorem dX0_becomes_19 : decode cX0_becomes 19 = .ok (.getfield 11, 3) := by decide +kernel
theorem dX0_becomes_22 : decode cX0_becomes 22 = .ok (.iload_n 2, 1) := by decide +kernel
theorem dX0_becomes_23 : decode cX0_becomes 23 = .ok (.aaload, 1) := by decide +kernel
theorem dX0_becomes_24 : decode cX0_becomes 24 = .ok (.aload_n 1, 1) := by decide +kernel
theorem dX0_becomes_25 : decode cX0_becomes 25 = .ok (.getfield 11, 3) := by decide +kernel
theorem dX0_becomes_28 : decode cX0_becomes 28 = .ok (.iload_n 2, 1) := by decide +kernel
theorem dX0_becomes_29 : decode cX0_becomes 29 = .ok (.aaload, 1) := by decide +kernel
theorem dX0_becomes_30 : decode cX0_becomes 30 = .ok (.invokevirtual 42, 3) := by decide +kernel
theorem dX0_becomes_33 : decode cX0_becomes 33 = .ok (.iinc 2 1, 3) := by decide +kernel
theorem dX0_becomes_36 : decode cX0_becomes 36 = .ok (.goto (-26), 3) := by decide +kernel
theorem dX0_becomes_39 : decode cX0_becomes 39 = .ok (.aload_n 0, 1) := by decide +kernel
theorem dX0_becomes_40 : decode cX0_becomes 40 = .ok (.aload_n 1, 1) := by decide +kernel
theorem dX0_becomes_41 : decode cX0_becomes 41 = .ok (.getfield 46, 3) := by decide +kernel
theorem dX0_becomes_44 : decode cX0_becomes 44 = .ok (.putfield 46, 3) := by decide +kernel
theorem dX0_becomes_47 : decode cX0_becomes 47 = .ok (.aload_n 1, 1) := by decide +kernel
theorem dX0_becomes_48 : decode cX0_becomes 48 = .ok (.getfield 17, 3) := by decide +kernel
theorem dX0_becomes_51 : decode cX0_becomes 51 = .ok (.iconst 0, 1) := by decide +kernel
theorem dX0_becomes_52 : decode cX0_becomes 52 = .ok (.aload_n 0, 1) := by decide +kernel
theorem dX0_becomes_53 : decode cX0_becomes 53 = .ok (.getfield 17, 3) := by decide +kernel
theorem dX0_becomes_56 : decode cX0_becomes 56 = .ok (.iconst 0, 1) := by decide +kernel
theorem dX0_becomes_57 : decode cX0_becomes 57 = .ok (.aload_n 0, 1) := by decide +kernel
theorem dX0_becomes_58 : decode cX0_becomes 58 = .ok (.getfield 46, 3) := by decide +kernel
theorem dX0_becomes_61 : decode cX0_becomes 61 = .ok (.invokestatic 49, 3) := by decide +kernel
theorem dX0_becomes_64 : decode cX0_becomes 64 = .ok (.aload_n 1, 1) := by decide +kernel
theorem dX0_becomes_65 : decode cX0_becomes 65 = .ok (.getfield 21, 3) := by decide +kernel
theorem dX0_becomes_68 : decode cX0_becomes 68 = .ok (.iconst 0, 1) := by decide +kernel
theorem dX0_becomes_69 : decode cX0_becomes 69 = .ok (.aload_n 0, 1) := by decide +kernel
theorem dX0_becomes_70 : decode cX0_becomes 70 = .ok (.getfield 21, 3) := by decide +kernel
theorem dX0_becomes_73 : decode cX0_becomes 73 = .ok (.iconst 0, 1) := by decide +kernel
theorem dX0_becomes_74 : decode cX0_becomes 74 = .ok (.aload_n 0, 1) := by decide +kernel
theorem dX0_becomes_75 : decode cX0_becomes 75 = .ok (.getfield 46, 3) := by decide +kernel
theorem dX0_becomes_78 : decode cX0_becomes 78 = .ok (.invokestatic 49, 3) := by decide +kernel
theorem dX0_becomes_81 : decode cX0_becomes 81 = .ok (.aload_n 1, 1) := by decide +kernel
theorem dX0_becomes_82 : decode cX0_becomes 82 = .ok (.getfield 24, 3) := by decide +kernel
theorem dX0_becomes_85 : decode cX0_becomes 85 = .ok (.iconst 0, 1) := by decide +kernel
theorem dX0_becomes_86 : decode cX0_becomes 86 = .ok (.aload_n 0, 1) := by decide +kernel
theorem dX0_becomes_87 : decode cX0_becomes 87 = .ok (.getfield 24, 3) := by decide +kernel
theorem dX0_becomes_90 : decode cX0_becomes 90 = .ok (.iconst 0, 1) := by decide +kernel
theorem dX0_becomes_91 : decode cX0_becomes 91 = .ok (.aload_n 0, 1) := by decide +kernel
theorem dX0_becomes_92 : decode cX0_becomes 92 = .ok (.getfield 46, 3) := by decide +kernel
theorem dX0_becomes_95 : decode cX0_becomes 95 = .ok (.invokestatic 49, 3) := by decide +kernel
theorem dX0_becomes_98 : decode cX0_becomes 98 = .ok (.aload_n 0, 1) := by decide +kernel
theorem dX0_becomes_99 : decode cX0_becomes 99 = .ok (.aload_n 1, 1) := by decide +kernel
theorem dX0_becomes_100 : decode cX0_becomes 100 = .ok (.getfield 55, 3) := by decide +kernel
theorem dX0_becomes_103 : decode cX0_becomes 103 = .ok (.putfield 55, 3) := by decide +kernel
theorem dX0_becomes_106 : decode cX0_becomes 106 = .ok (.aload_n 0, 1) := by decide +kernel
theorem dX0_becomes_107 : decode cX0_becomes 107 = .ok (.aload_n 1, 1) := by decide +kernel
theorem dX0_becomes_108 : decode cX0_becomes 108 = .ok (.getfield 58, 3) := by decide +kernel
theorem dX0_becomes_111 : decode cX0_becomes 111 = .ok (.putfield 58, 3) := by decide +kernel
theorem dX0_becomes_114 : decode cX0_becomes 114 = .ok (.aload_n 0, 1) := by decide +kernel
theorem dX0_becomes_115 : decode cX0_becomes 115 = .ok (.aload_n 1, 1) := by decide +kernel
theorem dX0_becomes_116 : decode cX0_becomes 116 = .ok (.getfield 61, 3) := by decide +kernel
theorem dX0_becomes_119 : decode cX0_becomes 119 = .ok (.putfield 61, 3) := by decide +kernel
theorem dX0_becomes_122 : decode cX0_becomes 122 = .ok (.aload_n 0, 1) := by decide +kernel
theorem dX0_becomes_123 : decode cX0_becomes 123 = .ok (.aload_n 1, 1) := by decide +kernel
theorem dX0_becomes_124 : decode cX0_becomes 124 = .ok (.getfield 27, 3) := by decide +kernel
theorem dX0_becomes_127 : decode cX0_becomes 127 = .ok (.putfield 27, 3) := by decide +kernel
theorem dX0_becomes_130 : decode cX0_becomes 130 = .ok (.aload_n 0, 1) := by decide +kernel
theorem dX0_becomes_131 : decode cX0_becomes 131 = .ok (.aload_n 1, 1) := by decide +kernel
theorem dX0_becomes_132 : decode cX0_becomes 132 = .ok (.getfield 64, 3) := by decide +kernel
theorem dX0_becomes_135 : decode cX0_becomes 135 = .ok (.putfield 64, 3) := by decide +kernel
theorem dX0_becomes_138 : decode cX0_becomes 138 = .ok (.aload_n 1, 1) := by decide +kernel
theorem dX0_becomes_139 : decode cX0_becomes 139 = .ok (.getfield 31, 3) := by decide +kernel
theorem dX0_becomes_142 : decode cX0_becomes 142 = .ok (.iconst 0, 1) := by decide +kernel
theorem dX0_becomes_143 : decode cX0_becomes 143 = .ok (.aload_n 0, 1) := by decide +kernel
theorem dX0_becomes_144 : decode cX0_becomes 144 = .ok (.getfield 31, 3) := by decide +kernel
theorem dX0_becomes_147 : decode cX0_becomes 147 = .ok (.iconst 0, 1) := by decide +kernel
theorem dX0_becomes_148 : decode cX0_becomes 148 = .ok (.iconst 3, 1) := by decide +kernel
theorem dX0_becomes_149 : decode cX0_becomes 149 = .ok (.invokestatic 49, 3) := by decide +kernel
theorem dX0_becomes_152 : decode cX0_becomes 152 = .ok (.return_, 1) := by decide +kernel
theorem dX0_hasPerson_0 : decode cX0_hasPerson 0 = .ok (.iload_n 1, 1) := by decide +kernel
theorem dX0_hasPerson_1 : decode cX0_hasPerson 1 = .ok (.iconst 0, 1) := by decide +kernel
theorem dX0_hasPerson_2 : decode cX0_hasPerson 2 = .ok (.aload_n 0, 1) := by decide +kernel
theorem dX0_hasPerson_3 : decode cX0_hasPerson 3 = .ok (.getfield 39, 3) := by decide +kernel
theorem dX0_hasPerson_6 : decode cX0_hasPerson 6 = .ok (.iconst 1, 1) := by decide +kernel
theorem dX0_hasPerson_7 : decode cX0_hasPerson 7 = .ok (.isub, 1) := by decide +kernel
theorem dX0_hasPerson_8 : decode cX0_hasPerson 8 = .ok (.invokestatic 67, 3) := by decide +kernel
theorem dX0_hasPerson_11 : decode cX0_hasPerson 11 = .ok (.ireturn, 1) := by decide +kernel
theorem dX0_hasVow_0 : decode cX0_hasVow 0 = .ok (.iload_n 1, 1) := by decide +kernel
theorem dX0_hasVow_1 : decode cX0_hasVow 1 = .ok (.iconst 0, 1) := by decide +kernel
theorem dX0_hasVow_2 : decode cX0_hasVow 2 = .ok (.aload_n 0, 1) := by decide +kernel
theorem dX0_hasVow_3 : decode cX0_hasVow 3 = .ok (.getfield 46, 3) := by decide +kernel
theorem dX0_hasVow_6 : decode cX0_hasVow 6 = .ok (.iconst 1, 1) := by decide +kernel
theorem dX0_hasVow_7 : decode cX0_hasVow 7 = .ok (.isub, 1) := by decide +kernel
theorem dX0_hasVow_8 : decode cX0_hasVow 8 = .ok (.invokestatic 67, 3) := by decide +kernel
theorem dX0_hasVow_11 : decode cX0_hasVow 11 = .ok (.ireturn, 1) := by decide +kernel
theorem dX0_addPerson_0 : decode cX0_addPerson 0 = .ok (.aload_n 0, 1) := by decide +kernel
theorem dX0_addPerson_1 : decode cX0_addPerson 1 = .ok (.getfield 11, 3) := by decide +kernel
theorem dX0_addPerson_4 : decode cX0_addPerson 4 = .ok (.aload_n 0, 1) := by decide +kernel
theorem dX0_addPerson_5 : decode cX0_addPerson 5 = .ok (.getfield 39, 3) := by decide +kernel
theorem dX0_addPerson_8 : decode cX0_addPerson 8 = .ok (.aaload, 1) := by decide +kernel
theorem dX0_addPerson_9 : decode cX0_addPerson 9 = .ok (.iload_n 1, 1) := by decide +kernel
theorem dX0_addPerson_10 : decode cX0_addPerson 10 = .ok (.iload_n 2, 1) := by decide +kernel
theorem dX0_addPerson_11 : decode cX0_addPerson 11 = .ok (.iload_n 3, 1) := by decide +kernel
theorem dX0_addPerson_12 : decode cX0_addPerson 12 = .ok (.invokevirtual 71, 3) := by decide +kernel
theorem dX0_addPerson_15 : decode cX0_addPerson 15 = .ok (.aload_n 0, 1) := by decide +kernel
theorem dX0_addPerson_16 : decode cX0_addPerson 16 = .ok (.dup, 1) := by decide +kernel
theorem dX0_addPerson_17 : decode cX0_addPerson 17 = .ok (.getfield 39, 3) := by decide +kernel
theorem dX0_addPerson_20 : decode cX0_addPerson 20 = .ok (.iconst 1, 1) := by decide +kernel
theorem dX0_addPerson_21 : decode cX0_addPerson 21 = .ok (.iadd, 1) := by decide +kernel
theorem dX0_addPerson_22 : decode cX0_addPerson 22 = .ok (.putfield 39, 3) := by decide +kernel
theorem dX0_addPerson_25 : decode cX0_addPerson 25 = .ok (.return_, 1) := by decide +kernel
theorem dX0_drawPerson_0 : decode cX0_drawPerson 0 = .ok (.aload_n 0, 1) := by decide +kernel
theorem dX0_drawPerson_1 : decode cX0_drawPerson 1 = .ok (.invokevirtual 75, 3) := by decide +kernel
theorem dX0_drawPerson_4 : decode cX0_drawPerson 4 = .ok (.bipush 6, 2) := by decide +kernel
theorem dX0_drawPerson_6 : decode cX0_drawPerson 6 = .ok (.irem, 1) := by decide +kernel
theorem dX0_drawPerson_7 : decode cX0_drawPerson 7 = .ok (.istore_n 1, 1) := by decide +kernel
theorem dX0_drawPerson_8 : decode cX0_drawPerson 8 = .ok (.aload_n 0, 1) := by decide +kernel
theorem dX0_drawPerson_9 : decode cX0_drawPerson 9 = .ok (.invokevirtual 75, 3) := by decide +kernel
theorem dX0_drawPerson_12 : decode cX0_drawPerson 12 = .ok (.bipush 24, 2) := by decide +kernel
theorem dX0_drawPerson_14 : decode cX0_drawPerson 14 = .ok (.irem, 1) := by decide +kernel
theorem dX0_drawPerson_15 : decode cX0_drawPerson 15 = .ok (.istore_n 2, 1) := by decide +kernel
theorem dX0_drawPerson_16 : decode cX0_drawPerson 16 = .ok (.aload_n 0, 1) := by decide +kernel
theorem dX0_drawPerson_17 : decode cX0_drawPerson 17 = .ok (.invokevirtual 75, 3) := by decide +kernel
theorem dX0_drawPerson_20 : decode cX0_drawPerson 20 = .ok (.bipush 100, 2) := by decide +kernel
theorem dX0_drawPerson_22 : decode cX0_drawPerson 22 = .ok (.irem, 1) := by decide +kernel
theorem dX0_drawPerson_23 : decode cX0_drawPerson 23 = .ok (.istore_n 3, 1) := by decide +kernel
theorem dX0_drawPerson_24 : decode cX0_drawPerson 24 = .ok (.aload_n 0, 1) := by decide +kernel
theorem dX0_drawPerson_25 : decode cX0_drawPerson 25 = .ok (.iload_n 1, 1) := by decide +kernel
theorem dX0_drawPerson_26 : decode cX0_drawPerson 26 = .ok (.iload_n 2, 1) := by decide +kernel
theorem dX0_drawPerson_27 : decode cX0_drawPerson 27 = .ok (.iload_n 3, 1) := by decide +kernel
theorem dX0_drawPerson_28 : decode cX0_drawPerson 28 = .ok (.invokevirtual 79, 3) := by decide +kernel
theorem dX0_drawPerson_31 : decode cX0_drawPerson 31 = .ok (.return_, 1) := by decide +kernel
theorem dX0_draw_0 : decode cX0_draw 0 = .ok (.aload_n 0, 1) := by decide +kernel
theorem dX0_draw_1 : decode cX0_draw 1 = .ok (.aload_n 0, 1) := by decide +kernel
theorem dX0_draw_2 : decode cX0_draw 2 = .ok (.getfield 27, 3) := by decide +kernel
theorem dX0_draw_5 : decode cX0_draw 5 = .ok (.ldc 82, 2) := by decide +kernel
theorem dX0_draw_7 : decode cX0_draw 7 = .ok (.imul, 1) := by decide +kernel
theorem dX0_draw_8 : decode cX0_draw 8 = .ok (.sipush 12345, 3) := by decide +kernel
theorem dX0_draw_11 : decode cX0_draw 11 = .ok (.iadd, 1) := by decide +kernel
theorem dX0_draw_12 : decode cX0_draw 12 = .ok (.putfield 27, 3) := by decide +kernel
theorem dX0_draw_15 : decode cX0_draw 15 = .ok (.aload_n 0, 1) := by decide +kernel
theorem dX0_draw_16 : decode cX0_draw 16 = .ok (.getfield 27, 3) := by decide +kernel
theorem dX0_draw_19 : decode cX0_draw 19 = .ok (.bipush 8, 2) := by decide +kernel
theorem dX0_draw_21 : decode cX0_draw 21 = .ok (.iushr, 1) := by decide +kernel
theorem dX0_draw_22 : decode cX0_draw 22 = .ok (.ireturn, 1) := by decide +kernel
theorem dX0_struckCount_0 : decode cX0_struckCount 0 = .ok (.iconst 0, 1) := by decide +kernel
theorem dX0_struckCount_1 : decode cX0_struckCount 1 = .ok (.istore_n 1, 1) := by decide +kernel
theorem dX0_struckCount_2 : decode cX0_struckCount 2 = .ok (.iconst 0, 1) := by decide +kernel
theorem dX0_struckCount_3 : decode cX0_struckCount 3 = .ok (.istore_n 2, 1) := by decide +kernel
theorem dX0_struckCount_4 : decode cX0_struckCount 4 = .ok (.iload_n 2, 1) := by decide +kernel
theorem dX0_struckCount_5 : decode cX0_struckCount 5 = .ok (.aload_n 0, 1) := by decide +kernel
theorem dX0_struckCount_6 : decode cX0_struckCount 6 = .ok (.getfield 39, 3) := by decide +kernel
theorem dX0_struckCount_9 : decode cX0_struckCount 9 = .ok (.if_icmp .ge 25, 3) := by decide +kernel
theorem dX0_struckCount_12 : decode cX0_struckCount 12 = .ok (.aload_n 0, 1) := by decide +kernel
theorem dX0_struckCount_13 : decode cX0_struckCount 13 = .ok (.getfield 11, 3) := by decide +kernel
theorem dX0_struckCount_16 : decode cX0_struckCount 16 = .ok (.iload_n 2, 1) := by decide +kernel
theorem dX0_struckCount_17 : decode cX0_struckCount 17 = .ok (.aaload, 1) := by decide +kernel
theorem dX0_struckCount_18 : decode cX0_struckCount 18 = .ok (.getfield 83, 3) := by decide +kernel
theorem dX0_struckCount_21 : decode cX0_struckCount 21 = .ok (.iconst 5, 1) := by decide +kernel
theorem dX0_struckCount_22 : decode cX0_struckCount 22 = .ok (.if_icmp .ne 6, 3) := by decide +kernel
theorem dX0_struckCount_25 : decode cX0_struckCount 25 = .ok (.iinc 1 1, 3) := by decide +kernel
theorem dX0_struckCount_28 : decode cX0_struckCount 28 = .ok (.iinc 2 1, 3) := by decide +kernel
theorem dX0_struckCount_31 : decode cX0_struckCount 31 = .ok (.goto (-27), 3) := by decide +kernel
theorem dX0_struckCount_34 : decode cX0_struckCount 34 = .ok (.iload_n 1, 1) := by decide +kernel
theorem dX0_struckCount_35 : decode cX0_struckCount 35 = .ok (.ireturn, 1) := by decide +kernel
theorem dX0_addVow_0 : decode cX0_addVow 0 = .ok (.aload_n 0, 1) := by decide +kernel
theorem dX0_addVow_1 : decode cX0_addVow 1 = .ok (.getfield 17, 3) := by decide +kernel
theorem dX0_addVow_4 : decode cX0_addVow 4 = .ok (.aload_n 0, 1) := by decide +kernel
theorem dX0_addVow_5 : decode cX0_addVow 5 = .ok (.getfield 46, 3) := by decide +kernel
theorem dX0_addVow_8 : decode cX0_addVow 8 = .ok (.iload_n 1, 1) := by decide +kernel
theorem dX0_addVow_9 : decode cX0_addVow 9 = .ok (.iastore, 1) := by decide +kernel
theorem dX0_addVow_10 : decode cX0_addVow 10 = .ok (.aload_n 0, 1) := by decide +kernel
theorem dX0_addVow_11 : decode cX0_addVow 11 = .ok (.getfield 21, 3) := by decide +kernel
theorem dX0_addVow_14 : decode cX0_addVow 14 = .ok (.aload_n 0, 1) := by decide +kernel
theorem dX0_addVow_15 : decode cX0_addVow 15 = .ok (.getfield 46, 3) := by decide +kernel
theorem dX0_addVow_18 : decode cX0_addVow 18 = .ok (.iload_n 2, 1) := by decide +kernel
theorem dX0_addVow_19 : decode cX0_addVow 19 = .ok (.iastore, 1) := by decide +kernel
theorem dX0_addVow_20 : decode cX0_addVow 20 = .ok (.aload_n 0, 1) := by decide +kernel
theorem dX0_addVow_21 : decode cX0_addVow 21 = .ok (.getfield 24, 3) := by decide +kernel
theorem dX0_addVow_24 : decode cX0_addVow 24 = .ok (.aload_n 0, 1) := by decide +kernel
theorem dX0_addVow_25 : decode cX0_addVow 25 = .ok (.getfield 46, 3) := by decide +kernel
theorem dX0_addVow_28 : decode cX0_addVow 28 = .ok (.iload_n 3, 1) := by decide +kernel
theorem dX0_addVow_29 : decode cX0_addVow 29 = .ok (.iastore, 1) := by decide +kernel
theorem dX0_addVow_30 : decode cX0_addVow 30 = .ok (.aload_n 0, 1) := by decide +kernel
theorem dX0_addVow_31 : decode cX0_addVow 31 = .ok (.dup, 1) := by decide +kernel
theorem dX0_addVow_32 : decode cX0_addVow 32 = .ok (.getfield 46, 3) := by decide +kernel
theorem dX0_addVow_35 : decode cX0_addVow 35 = .ok (.iconst 1, 1) := by decide +kernel
theorem dX0_addVow_36 : decode cX0_addVow 36 = .ok (.iadd, 1) := by decide +kernel
theorem dX0_addVow_37 : decode cX0_addVow 37 = .ok (.putfield 46, 3) := by decide +kernel
theorem dX0_addVow_40 : decode cX0_addVow 40 = .ok (.return_, 1) := by decide +kernel
theorem dX0_lapse_0 : decode cX0_lapse 0 = .ok (.aload_n 0, 1) := by decide +kernel
theorem dX0_lapse_1 : decode cX0_lapse 1 = .ok (.getfield 46, 3) := by decide +kernel
theorem dX0_lapse_4 : decode cX0_lapse 4 = .ok (.iload_n 1, 1) := by decide +kernel
theorem dX0_lapse_5 : decode cX0_lapse 5 = .ok (.isub, 1) := by decide +kernel
theorem dX0_lapse_6 : decode cX0_lapse 6 = .ok (.iconst 1, 1) := by decide +kernel
theorem dX0_lapse_7 : decode cX0_lapse 7 = .ok (.isub, 1) := by decide +kernel
theorem dX0_lapse_8 : decode cX0_lapse 8 = .ok (.istore_n 2, 1) := by decide +kernel
theorem dX0_lapse_9 : decode cX0_lapse 9 = .ok (.aload_n 0, 1) := by decide +kernel
theorem dX0_lapse_10 : decode cX0_lapse 10 = .ok (.getfield 17, 3) := by decide +kernel
theorem dX0_lapse_13 : decode cX0_lapse 13 = .ok (.iload_n 1, 1) := by decide +kernel
theorem dX0_lapse_14 : decode cX0_lapse 14 = .ok (.iconst 1, 1) := by decide +kernel
theorem dX0_lapse_15 : decode cX0_lapse 15 = .ok (.iadd, 1) := by decide +kernel
theorem dX0_lapse_16 : decode cX0_lapse 16 = .ok (.aload_n 0, 1) := by decide +kernel
theorem dX0_lapse_17 : decode cX0_lapse 17 = .ok (.getfield 17, 3) := by decide +kernel
theorem dX0_lapse_20 : decode cX0_lapse 20 = .ok (.iload_n 1, 1) := by decide +kernel
theorem dX0_lapse_21 : decode cX0_lapse 21 = .ok (.iload_n 2, 1) := by decide +kernel
theorem dX0_lapse_22 : decode cX0_lapse 22 = .ok (.invokestatic 49, 3) := by decide +kernel
theorem dX0_lapse_25 : decode cX0_lapse 25 = .ok (.aload_n 0, 1) := by decide +kernel
theorem dX0_lapse_26 : decode cX0_lapse 26 = .ok (.getfield 21, 3) := by decide +kernel
theorem dX0_lapse_29 : decode cX0_lapse 29 = .ok (.iload_n 1, 1) := by decide +kernel
theorem dX0_lapse_30 : decode cX0_lapse 30 = .ok (.iconst 1, 1) := by decide +kernel
theorem dX0_lapse_31 : decode cX0_lapse 31 = .ok (.iadd, 1) := by decide +kernel
theorem dX0_lapse_32 : decode cX0_lapse 32 = .ok (.aload_n 0, 1) := by decide +kernel
theorem dX0_lapse_33 : decode cX0_lapse 33 = .ok (.getfield 21, 3) := by decide +kernel
theorem dX0_lapse_36 : decode cX0_lapse 36 = .ok (.iload_n 1, 1) := by decide +kernel
theorem dX0_lapse_37 : decode cX0_lapse 37 = .ok (.iload_n 2, 1) := by decide +kernel
theorem dX0_lapse_38 : decode cX0_lapse 38 = .ok (.invokestatic 49, 3) := by decide +kernel
theorem dX0_lapse_41 : decode cX0_lapse 41 = .ok (.aload_n 0, 1) := by decide +kernel
theorem dX0_lapse_42 : decode cX0_lapse 42 = .ok (.getfield 24, 3) := by decide +kernel
theorem dX0_lapse_45 : decode cX0_lapse 45 = .ok (.iload_n 1, 1) := by decide +kernel
theorem dX0_lapse_46 : decode cX0_lapse 46 = .ok (.iconst 1, 1) := by decide +kernel
theorem dX0_lapse_47 : decode cX0_lapse 47 = .ok (.iadd, 1) := by decide +kernel
theorem dX0_lapse_48 : decode cX0_lapse 48 = .ok (.aload_n 0, 1) := by decide +kernel
theorem dX0_lapse_49 : decode cX0_lapse 49 = .ok (.getfield 24, 3) := by decide +kernel
theorem dX0_lapse_52 : decode cX0_lapse 52 = .ok (.iload_n 1, 1) := by decide +kernel
theorem dX0_lapse_53 : decode cX0_lapse 53 = .ok (.iload_n 2, 1) := by decide +kernel
theorem dX0_lapse_54 : decode cX0_lapse 54 = .ok (.invokestatic 49, 3) := by decide +kernel
theorem dX0_lapse_57 : decode cX0_lapse 57 = .ok (.aload_n 0, 1) := by decide +kernel
theorem dX0_lapse_58 : decode cX0_lapse 58 = .ok (.dup, 1) := by decide +kernel
theorem dX0_lapse_59 : decode cX0_lapse 59 = .ok (.getfield 46, 3) := by decide +kernel
theorem dX0_lapse_62 : decode cX0_lapse 62 = .ok (.iconst 1, 1) := by decide +kernel
theorem dX0_lapse_63 : decode cX0_lapse 63 = .ok (.isub, 1) := by decide +kernel
theorem dX0_lapse_64 : decode cX0_lapse 64 = .ok (.putfield 46, 3) := by decide +kernel
theorem dX0_lapse_67 : decode cX0_lapse 67 = .ok (.aload_n 0, 1) := by decide +kernel
theorem dX0_lapse_68 : decode cX0_lapse 68 = .ok (.dup, 1) := by decide +kernel
theorem dX0_lapse_69 : decode cX0_lapse 69 = .ok (.getfield 58, 3) := by decide +kernel
theorem dX0_lapse_72 : decode cX0_lapse 72 = .ok (.iconst 1, 1) := by decide +kernel
theorem dX0_lapse_73 : decode cX0_lapse 73 = .ok (.iadd, 1) := by decide +kernel
theorem dX0_lapse_74 : decode cX0_lapse 74 = .ok (.putfield 58, 3) := by decide +kernel
theorem dX0_lapse_77 : decode cX0_lapse 77 = .ok (.return_, 1) := by decide +kernel
theorem dX0_strikeOff_0 : decode cX0_strikeOff 0 = .ok (.aload_n 0, 1) := by decide +kernel
theorem dX0_strikeOff_1 : decode cX0_strikeOff 1 = .ok (.getfield 11, 3) := by decide +kernel
theorem dX0_strikeOff_4 : decode cX0_strikeOff 4 = .ok (.iload_n 1, 1) := by decide +kernel
theorem dX0_strikeOff_5 : decode cX0_strikeOff 5 = .ok (.aaload, 1) := by decide +kernel
theorem dX0_strikeOff_6 : decode cX0_strikeOff 6 = .ok (.iconst 5, 1) := by decide +kernel
theorem dX0_strikeOff_7 : decode cX0_strikeOff 7 = .ok (.putfield 83, 3) := by decide +kernel
theorem dX0_strikeOff_10 : decode cX0_strikeOff 10 = .ok (.aload_n 0, 1) := by decide +kernel
theorem dX0_strikeOff_11 : decode cX0_strikeOff 11 = .ok (.getfield 46, 3) := by decide +kernel
theorem dX0_strikeOff_14 : decode cX0_strikeOff 14 = .ok (.iconst 1, 1) := by decide +kernel
theorem dX0_strikeOff_15 : decode cX0_strikeOff 15 = .ok (.isub, 1) := by decide +kernel
theorem dX0_strikeOff_16 : decode cX0_strikeOff 16 = .ok (.istore_n 2, 1) := by decide +kernel
theorem dX0_strikeOff_17 : decode cX0_strikeOff 17 = .ok (.iload_n 2, 1) := by decide +kernel
theorem dX0_strikeOff_18 : decode cX0_strikeOff 18 = .ok (.ifCond .lt 24, 3) := by decide +kernel
theorem dX0_strikeOff_21 : decode cX0_strikeOff 21 = .ok (.aload_n 0, 1) := by decide +kernel
theorem dX0_strikeOff_22 : decode cX0_strikeOff 22 = .ok (.getfield 17, 3) := by decide +kernel
theorem dX0_strikeOff_25 : decode cX0_strikeOff 25 = .ok (.iload_n 2, 1) := by decide +kernel
theorem dX0_strikeOff_26 : decode cX0_strikeOff 26 = .ok (.iaload, 1) := by decide +kernel
theorem dX0_strikeOff_27 : decode cX0_strikeOff 27 = .ok (.iload_n 1, 1) := by decide +kernel
theorem dX0_strikeOff_28 : decode cX0_strikeOff 28 = .ok (.if_icmp .ne 8, 3) := by decide +kernel
theorem dX0_strikeOff_31 : decode cX0_strikeOff 31 = .ok (.aload_n 0, 1) := by decide +kernel
theorem dX0_strikeOff_32 : decode cX0_strikeOff 32 = .ok (.iload_n 2, 1) := by decide +kernel
theorem dX0_strikeOff_33 : decode cX0_strikeOff 33 = .ok (.invokevirtual 86, 3) := by decide +kernel
theorem dX0_strikeOff_36 : decode cX0_strikeOff 36 = .ok (.iinc 2 (-1), 3) := by decide +kernel
theorem dX0_strikeOff_39 : decode cX0_strikeOff 39 = .ok (.goto (-22), 3) := by decide +kernel
theorem dX0_strikeOff_42 : decode cX0_strikeOff 42 = .ok (.return_, 1) := by decide +kernel
theorem dX0_vowsGivenBy_0 : decode cX0_vowsGivenBy 0 = .ok (.aload_n 0, 1) := by decide +kernel
theorem dX0_vowsGivenBy_1 : decode cX0_vowsGivenBy 1 = .ok (.aload_n 0, 1) := by decide +kernel
theorem dX0_vowsGivenBy_2 : decode cX0_vowsGivenBy 2 = .ok (.getfield 17, 3) := by decide +kernel
theorem dX0_vowsGivenBy_5 : decode cX0_vowsGivenBy 5 = .ok (.iload_n 1, 1) := by decide +kernel
theorem dX0_vowsGivenBy_6 : decode cX0_vowsGivenBy 6 = .ok (.invokevirtual 90, 3) := by decide +kernel
theorem dX0_vowsGivenBy_9 : decode cX0_vowsGivenBy 9 = .ok (.ireturn, 1) := by decide +kernel
theorem dX0_vowsGivenTo_0 : decode cX0_vowsGivenTo 0 = .ok (.aload_n 0, 1) := by decide +kernel
theorem dX0_vowsGivenTo_1 : decode cX0_vowsGivenTo 1 = .ok (.aload_n 0, 1) := by decide +kernel
theorem dX0_vowsGivenTo_2 : decode cX0_vowsGivenTo 2 = .ok (.getfield 21, 3) := by decide +kernel
theorem dX0_vowsGivenTo_5 : decode cX0_vowsGivenTo 5 = .ok (.iload_n 1, 1) := by decide +kernel
theorem dX0_vowsGivenTo_6 : decode cX0_vowsGivenTo 6 = .ok (.invokevirtual 90, 3) := by decide +kernel
theorem dX0_vowsGivenTo_9 : decode cX0_vowsGivenTo 9 = .ok (.ireturn, 1) := by decide +kernel
theorem dX0_timesIn_0 : decode cX0_timesIn 0 = .ok (.iconst 0, 1) := by decide +kernel
theorem dX0_timesIn_1 : decode cX0_timesIn 1 = .ok (.istore_n 3, 1) := by decide +kernel
theorem dX0_timesIn_2 : decode cX0_timesIn 2 = .ok (.iconst 0, 1) := by decide +kernel
theorem dX0_timesIn_3 : decode cX0_timesIn 3 = .ok (.istore 4, 2) := by decide +kernel
theorem dX0_timesIn_5 : decode cX0_timesIn 5 = .ok (.iload 4, 2) := by decide +kernel
theorem dX0_timesIn_7 : decode cX0_timesIn 7 = .ok (.aload_n 0, 1) := by decide +kernel
theorem dX0_timesIn_8 : decode cX0_timesIn 8 = .ok (.getfield 46, 3) := by decide +kernel
theorem dX0_timesIn_11 : decode cX0_timesIn 11 = .ok (.if_icmp .ge 20, 3) := by decide +kernel
theorem dX0_timesIn_14 : decode cX0_timesIn 14 = .ok (.aload_n 1, 1) := by decide +kernel
theorem dX0_timesIn_15 : decode cX0_timesIn 15 = .ok (.iload 4, 2) := by decide +kernel
theorem dX0_timesIn_17 : decode cX0_timesIn 17 = .ok (.iaload, 1) := by decide +kernel
theorem dX0_timesIn_18 : decode cX0_timesIn 18 = .ok (.iload_n 2, 1) := by decide +kernel
theorem dX0_timesIn_19 : decode cX0_timesIn 19 = .ok (.if_icmp .ne 6, 3) := by decide +kernel
theorem dX0_timesIn_22 : decode cX0_timesIn 22 = .ok (.iinc 3 1, 3) := by decide +kernel
theorem dX0_timesIn_25 : decode cX0_timesIn 25 = .ok (.iinc 4 1, 3) := by decide +kernel
theorem dX0_timesIn_28 : decode cX0_timesIn 28 = .ok (.goto (-23), 3) := by decide +kernel
theorem dX0_timesIn_31 : decode cX0_timesIn 31 = .ok (.iload_n 3, 1) := by decide +kernel
theorem dX0_timesIn_32 : decode cX0_timesIn 32 = .ok (.ireturn, 1) := by decide +kernel
theorem dX0_keeps_0 : decode cX0_keeps 0 = .ok (.aload_n 0, 1) := by decide +kernel
theorem dX0_keeps_1 : decode cX0_keeps 1 = .ok (.getfield 11, 3) := by decide +kernel
theorem dX0_keeps_4 : decode cX0_keeps 4 = .ok (.aload_n 0, 1) := by decide +kernel
theorem dX0_keeps_5 : decode cX0_keeps 5 = .ok (.getfield 17, 3) := by decide +kernel
theorem dX0_keeps_8 : decode cX0_keeps 8 = .ok (.iload_n 1, 1) := by decide +kernel
theorem dX0_keeps_9 : decode cX0_keeps 9 = .ok (.iaload, 1) := by decide +kernel
theorem dX0_keeps_10 : decode cX0_keeps 10 = .ok (.aaload, 1) := by decide +kernel
theorem dX0_keeps_11 : decode cX0_keeps 11 = .ok (.astore_n 2, 1) := by decide +kernel
theorem dX0_keeps_12 : decode cX0_keeps 12 = .ok (.aload_n 0, 1) := by decide +kernel
theorem dX0_keeps_13 : decode cX0_keeps 13 = .ok (.aload_n 0, 1) := by decide +kernel
theorem dX0_keeps_14 : decode cX0_keeps 14 = .ok (.getfield 17, 3) := by decide +kernel
theorem dX0_keeps_17 : decode cX0_keeps 17 = .ok (.iload_n 1, 1) := by decide +kernel
theorem dX0_keeps_18 : decode cX0_keeps 18 = .ok (.iaload, 1) := by decide +kernel
theorem dX0_keeps_19 : decode cX0_keeps 19 = .ok (.invokevirtual 94, 3) := by decide +kernel
theorem dX0_keeps_22 : decode cX0_keeps 22 = .ok (.istore_n 3, 1) := by decide +kernel
theorem dX0_keeps_23 : decode cX0_keeps 23 = .ok (.aload_n 0, 1) := by decide +kernel
theorem dX0_keeps_24 : decode cX0_keeps 24 = .ok (.getfield 31, 3) := by decide +kernel
theorem dX0_keeps_27 : decode cX0_keeps 27 = .ok (.iconst 0, 1) := by decide +kernel
theorem dX0_keeps_28 : decode cX0_keeps 28 = .ok (.iaload, 1) := by decide +kernel
theorem dX0_keeps_29 : decode cX0_keeps 29 = .ok (.istore 4, 2) := by decide +kernel
theorem dX0_keeps_31 : decode cX0_keeps 31 = .ok (.iload 4, 2) := by decide +kernel
theorem dX0_keeps_33 : decode cX0_keeps 33 = .ok (.ifCond .ge 18, 3) := by decide +kernel
theorem dX0_keeps_36 : decode cX0_keeps 36 = .ok (.iconst 0, 1) := by decide +kernel
theorem dX0_keeps_37 : decode cX0_keeps 37 = .ok (.aload_n 2, 1) := by decide +kernel
theorem dX0_keeps_38 : decode cX0_keeps 38 = .ok (.getfield 98, 3) := by decide +kernel
theorem dX0_keeps_41 : decode cX0_keeps 41 = .ok (.iconst 5, 1) := by decide +kernel
theorem dX0_keeps_42 : decode cX0_keeps 42 = .ok (.iload_n 3, 1) := by decide +kernel
theorem dX0_keeps_43 : decode cX0_keeps 43 = .ok (.imul, 1) := by decide +kernel
theorem dX0_keeps_44 : decode cX0_keeps 44 = .ok (.isub, 1) := by decide +kernel
theorem dX0_keeps_45 : decode cX0_keeps 45 = .ok (.invokestatic 101, 3) := by decide +kernel
theorem dX0_keeps_48 : decode cX0_keeps 48 = .ok (.goto 29, 3) := by decide +kernel
theorem dX0_keeps_51 : decode cX0_keeps 51 = .ok (.aload_n 0, 1) := by decide +kernel
theorem dX0_keeps_52 : decode cX0_keeps 52 = .ok (.getfield 34, 3) := by decide +kernel
theorem dX0_keeps_55 : decode cX0_keeps 55 = .ok (.iload 4, 2) := by decide +kernel
theorem dX0_keeps_57 : decode cX0_keeps 57 = .ok (.aload_n 2, 1) := by decide +kernel
theorem dX0_keeps_58 : decode cX0_keeps 58 = .ok (.getfield 98, 3) := by decide +kernel
theorem dX0_keeps_61 : decode cX0_keeps 61 = .ok (.iload_n 3, 1) := by decide +kernel
theorem dX0_keeps_62 : decode cX0_keeps 62 = .ok (.aload_n 0, 1) := by decide +kernel
theorem dX0_keeps_63 : decode cX0_keeps 63 = .ok (.getfield 24, 3) := by decide +kernel
theorem dX0_keeps_66 : decode cX0_keeps 66 = .ok (.iload_n 1, 1) := by decide +kernel
theorem dX0_keeps_67 : decode cX0_keeps 67 = .ok (.iaload, 1) := by decide +kernel
theorem dX0_keeps_68 : decode cX0_keeps 68 = .ok (.invokevirtual 107, 3) := by decide +kernel
theorem dX0_keeps_71 : decode cX0_keeps 71 = .ok (.iconst 0, 1) := by decide +kernel
theorem dX0_keeps_72 : decode cX0_keeps 72 = .ok (.bipush 100, 2) := by decide +kernel
theorem dX0_keeps_74 : decode cX0_keeps 74 = .ok (.invokestatic 113, 3) := by decide +kernel
theorem dX0_keeps_77 : decode cX0_keeps 77 = .ok (.istore 5, 2) := by decide +kernel
theorem dX0_keeps_79 : decode cX0_keeps 79 = .ok (.aload_n 2, 1) := by decide +kernel
theorem dX0_keeps_80 : decode cX0_keeps 80 = .ok (.iload 5, 2) := by decide +kernel
theorem dX0_keeps_82 : decode cX0_keeps 82 = .ok (.invokevirtual 117, 3) := by decide +kernel
theorem dX0_keeps_85 : decode cX0_keeps 85 = .ok (.ireturn, 1) := by decide +kernel
theorem dX0_passHours_0 : decode cX0_passHours 0 = .ok (.iconst 0, 1) := by decide +kernel
theorem dX0_passHours_1 : decode cX0_passHours 1 = .ok (.istore_n 2, 1) := by decide +kernel
theorem dX0_passHours_2 : decode cX0_passHours 2 = .ok (.iload_n 2, 1) := by decide +kernel
theorem dX0_passHours_3 : decode cX0_passHours 3 = .ok (.iload_n 1, 1) := by decide +kernel
theorem dX0_passHours_4 : decode cX0_passHours 4 = .ok (.if_icmp .ge 13, 3) := by decide +kernel
theorem dX0_passHours_7 : decode cX0_passHours 7 = .ok (.aload_n 0, 1) := by decide +kernel
theorem dX0_passHours_8 : decode cX0_passHours 8 = .ok (.invokevirtual 120, 3) := by decide +kernel
theorem dX0_passHours_11 : decode cX0_passHours 11 = .ok (.iinc 2 1, 3) := by decide +kernel
theorem dX0_passHours_14 : decode cX0_passHours 14 = .ok (.goto (-12), 3) := by decide +kernel
theorem dX0_passHours_17 : decode cX0_passHours 17 = .ok (.return_, 1) := by decide +kernel
theorem dX0_passHour_0 : decode cX0_passHour 0 = .ok (.aload_n 0, 1) := by decide +kernel
theorem dX0_passHour_1 : decode cX0_passHour 1 = .ok (.dup, 1) := by decide +kernel
theorem dX0_passHour_2 : decode cX0_passHour 2 = .ok (.getfield 61, 3) := by decide +kernel
theorem dX0_passHour_5 : decode cX0_passHour 5 = .ok (.iconst 1, 1) := by decide +kernel
theorem dX0_passHour_6 : decode cX0_passHour 6 = .ok (.iadd, 1) := by decide +kernel
theorem dX0_passHour_7 : decode cX0_passHour 7 = .ok (.putfield 61, 3) := by decide +kernel
theorem dX0_passHour_10 : decode cX0_passHour 10 = .ok (.aload_n 0, 1) := by decide +kernel
theorem dX0_passHour_11 : decode cX0_passHour 11 = .ok (.invokevirtual 123, 3) := by decide +kernel
theorem dX0_passHour_14 : decode cX0_passHour 14 = .ok (.aload_n 0, 1) := by decide +kernel
theorem dX0_passHour_15 : decode cX0_passHour 15 = .ok (.invokevirtual 126, 3) := by decide +kernel
theorem dX0_passHour_18 : decode cX0_passHour 18 = .ok (.return_, 1) := by decide +kernel
theorem dX0_callVowsAtNoon_0 : decode cX0_callVowsAtNoon 0 = .ok (.aload_n 0, 1) := by decide +kernel
theorem dX0_callVowsAtNoon_1 : decode cX0_callVowsAtNoon 1 = .ok (.getfield 46, 3) := by decide +kernel
theorem dX0_callVowsAtNoon_4 : decode cX0_callVowsAtNoon 4 = .ok (.istore_n 1, 1) := by decide +kernel
theorem dX0_callVowsAtNoon_5 : decode cX0_callVowsAtNoon 5 = .ok (.iconst 0, 1) := by decide +kernel
theorem dX0_callVowsAtNoon_6 : decode cX0_callVowsAtNoon 6 = .ok (.istore_n 2, 1) := by decide +kernel
theorem dX0_callVowsAtNoon_7 : decode cX0_callVowsAtNoon 7 = .ok (.iconst 0, 1) := by decide +kernel
theorem dX0_callVowsAtNoon_8 : decode cX0_callVowsAtNoon 8 = .ok (.istore_n 3, 1) := by decide +kernel
theorem dX0_callVowsAtNoon_9 : decode cX0_callVowsAtNoon 9 = .ok (.iload_n 3, 1) := by decide +kernel
theorem dX0_callVowsAtNoon_10 : decode cX0_callVowsAtNoon 10 = .ok (.iload_n 1, 1) := by decide +kernel
theorem dX0_callVowsAtNoon_11 : decode cX0_callVowsAtNoon 11 = .ok (.if_icmp .ge 75, 3) := by decide +kernel
theorem dX0_callVowsAtNoon_14 : decode cX0_callVowsAtNoon 14 = .ok (.aload_n 0, 1) := by decide +kernel
theorem dX0_callVowsAtNoon_15 : decode cX0_callVowsAtNoon 15 = .ok (.getfield 11, 3) := by decide +kernel
theorem dX0_callVowsAtNoon_18 : decode cX0_callVowsAtNoon 18 = .ok (.aload_n 0, 1) := by decide +kernel
theorem dX0_callVowsAtNoon_19 : decode cX0_callVowsAtNoon 19 = .ok (.getfield 17, 3) := by decide +kernel
theorem dX0_callVowsAtNoon_22 : decode cX0_callVowsAtNoon 22 = .ok (.iload_n 2, 1) := by decide +kernel
theorem dX0_callVowsAtNoon_23 : decode cX0_callVowsAtNoon 23 = .ok (.iaload, 1) := by decide +kernel
theorem dX0_callVowsAtNoon_24 : decode cX0_callVowsAtNoon 24 = .ok (.aaload, 1) := by decide +kernel
theorem dX0_callVowsAtNoon_25 : decode cX0_callVowsAtNoon 25 = .ok (.invokevirtual 129, 3) := by decide +kernel
theorem dX0_callVowsAtNoon_28 : decode cX0_callVowsAtNoon 28 = .ok (.aload_n 0, 1) := by decide +kernel
theorem dX0_callVowsAtNoon_29 : decode cX0_callVowsAtNoon 29 = .ok (.getfield 61, 3) := by decide +kernel
theorem dX0_callVowsAtNoon_32 : decode cX0_callVowsAtNoon 32 = .ok (.bipush 24, 2) := by decide +kernel
theorem dX0_callVowsAtNoon_34 : decode cX0_callVowsAtNoon 34 = .ok (.irem, 1) := by decide +kernel
theorem dX0_callVowsAtNoon_35 : decode cX0_callVowsAtNoon 35 = .ok (.if_icmp .eq 9, 3) := by decide +kernel
theorem dX0_callVowsAtNoon_38 : decode cX0_callVowsAtNoon 38 = .ok (.iinc 2 1, 3) := by decide +kernel
theorem dX0_callVowsAtNoon_41 : decode cX0_callVowsAtNoon 41 = .ok (.goto 39, 3) := by decide +kernel
theorem dX0_callVowsAtNoon_44 : decode cX0_callVowsAtNoon 44 = .ok (.aload_n 0, 1) := by decide +kernel
theorem dX0_callVowsAtNoon_45 : decode cX0_callVowsAtNoon 45 = .ok (.invokevirtual 75, 3) := by decide +kernel
theorem dX0_callVowsAtNoon_48 : decode cX0_callVowsAtNoon 48 = .ok (.bipush 100, 2) := by decide +kernel
theorem dX0_callVowsAtNoon_50 : decode cX0_callVowsAtNoon 50 = .ok (.irem, 1) := by decide +kernel
theorem dX0_callVowsAtNoon_51 : decode cX0_callVowsAtNoon 51 = .ok (.aload_n 0, 1) := by decide +kernel
theorem dX0_callVowsAtNoon_52 : decode cX0_callVowsAtNoon 52 = .ok (.iload_n 2, 1) := by decide +kernel
theorem dX0_callVowsAtNoon_53 : decode cX0_callVowsAtNoon 53 = .ok (.invokevirtual 132, 3) := by decide +kernel
theorem dX0_callVowsAtNoon_56 : decode cX0_callVowsAtNoon 56 = .ok (.if_icmp .ge 19, 3) := by decide +kernel
theorem dX0_callVowsAtNoon_59 : decode cX0_callVowsAtNoon 59 = .ok (.aload_n 0, 1) := by decide +kernel
theorem dX0_callVowsAtNoon_60 : decode cX0_callVowsAtNoon 60 = .ok (.dup, 1) := by decide +kernel
theorem dX0_callVowsAtNoon_61 : decode cX0_callVowsAtNoon 61 = .ok (.getfield 55, 3) := by decide +kernel
theorem dX0_callVowsAtNoon_64 : decode cX0_callVowsAtNoon 64 = .ok (.iconst 1, 1) := by decide +kernel
theorem dX0_callVowsAtNoon_65 : decode cX0_callVowsAtNoon 65 = .ok (.iadd, 1) := by decide +kernel
theorem dX0_callVowsAtNoon_66 : decode cX0_callVowsAtNoon 66 = .ok (.putfield 55, 3) := by decide +kernel
theorem dX0_callVowsAtNoon_69 : decode cX0_callVowsAtNoon 69 = .ok (.iinc 2 1, 3) := by decide +kernel
theorem dX0_callVowsAtNoon_72 : decode cX0_callVowsAtNoon 72 = .ok (.goto 8, 3) := by decide +kernel
theorem dX0_callVowsAtNoon_75 : decode cX0_callVowsAtNoon 75 = .ok (.aload_n 0, 1) := by decide +kernel
theorem dX0_callVowsAtNoon_76 : decode cX0_callVowsAtNoon 76 = .ok (.iload_n 2, 1) := by decide +kernel
theorem dX0_callVowsAtNoon_77 : decode cX0_callVowsAtNoon 77 = .ok (.invokevirtual 86, 3) := by decide +kernel
theorem dX0_callVowsAtNoon_80 : decode cX0_callVowsAtNoon 80 = .ok (.iinc 3 1, 3) := by decide +kernel
theorem dX0_callVowsAtNoon_83 : decode cX0_callVowsAtNoon 83 = .ok (.goto (-74), 3) := by decide +kernel
theorem dX0_callVowsAtNoon_86 : decode cX0_callVowsAtNoon 86 = .ok (.return_, 1) := by decide +kernel
theorem dX0_payDebts_0 : decode cX0_payDebts 0 = .ok (.iconst 0, 1) := by decide +kernel
theorem dX0_payDebts_1 : decode cX0_payDebts 1 = .ok (.istore_n 1, 1) := by decide +kernel
theorem dX0_payDebts_2 : decode cX0_payDebts 2 = .ok (.iload_n 1, 1) := by decide +kernel
theorem dX0_payDebts_3 : decode cX0_payDebts 3 = .ok (.aload_n 0, 1) := by decide +kernel
theorem dX0_payDebts_4 : decode cX0_payDebts 4 = .ok (.getfield 46, 3) := by decide +kernel
theorem dX0_payDebts_7 : decode cX0_payDebts 7 = .ok (.if_icmp .ge 65, 3) := by decide +kernel
theorem dX0_payDebts_10 : decode cX0_payDebts 10 = .ok (.aload_n 0, 1) := by decide +kernel
theorem dX0_payDebts_11 : decode cX0_payDebts 11 = .ok (.getfield 24, 3) := by decide +kernel
theorem dX0_payDebts_14 : decode cX0_payDebts 14 = .ok (.iload_n 1, 1) := by decide +kernel
theorem dX0_payDebts_15 : decode cX0_payDebts 15 = .ok (.iaload, 1) := by decide +kernel
theorem dX0_payDebts_16 : decode cX0_payDebts 16 = .ok (.iconst 2, 1) := by decide +kernel
theorem dX0_payDebts_17 : decode cX0_payDebts 17 = .ok (.if_icmp .ne 49, 3) := by decide +kernel
theorem dX0_payDebts_20 : decode cX0_payDebts 20 = .ok (.aload_n 0, 1) := by decide +kernel
theorem dX0_payDebts_21 : decode cX0_payDebts 21 = .ok (.getfield 11, 3) := by decide +kernel
theorem dX0_payDebts_24 : decode cX0_payDebts 24 = .ok (.aload_n 0, 1) := by decide +kernel
theorem dX0_payDebts_25 : decode cX0_payDebts 25 = .ok (.getfield 17, 3) := by decide +kernel
theorem dX0_payDebts_28 : decode cX0_payDebts 28 = .ok (.iload_n 1, 1) := by decide +kernel
theorem dX0_payDebts_29 : decode cX0_payDebts 29 = .ok (.iaload, 1) := by decide +kernel
theorem dX0_payDebts_30 : decode cX0_payDebts 30 = .ok (.aaload, 1) := by decide +kernel
theorem dX0_payDebts_31 : decode cX0_payDebts 31 = .ok (.invokevirtual 135, 3) := by decide +kernel
theorem dX0_payDebts_34 : decode cX0_payDebts 34 = .ok (.istore_n 2, 1) := by decide +kernel
theorem dX0_payDebts_35 : decode cX0_payDebts 35 = .ok (.aload_n 0, 1) := by decide +kernel
theorem dX0_payDebts_36 : decode cX0_payDebts 36 = .ok (.getfield 11, 3) := by decide +kernel
theorem dX0_payDebts_39 : decode cX0_payDebts 39 = .ok (.aload_n 0, 1) := by decide +kernel
theorem dX0_payDebts_40 : decode cX0_payDebts 40 = .ok (.getfield 17, 3) := by decide +kernel
theorem dX0_payDebts_43 : decode cX0_payDebts 43 = .ok (.iload_n 1, 1) := by decide +kernel
theorem dX0_payDebts_44 : decode cX0_payDebts 44 = .ok (.iaload, 1) := by decide +kernel
theorem dX0_payDebts_45 : decode cX0_payDebts 45 = .ok (.aaload, 1) := by decide +kernel
theorem dX0_payDebts_46 : decode cX0_payDebts 46 = .ok (.iload_n 2, 1) := by decide +kernel
theorem dX0_payDebts_47 : decode cX0_payDebts 47 = .ok (.ineg, 1) := by decide +kernel
theorem dX0_payDebts_48 : decode cX0_payDebts 48 = .ok (.invokevirtual 138, 3) := by decide +kernel
theorem dX0_payDebts_51 : decode cX0_payDebts 51 = .ok (.aload_n 0, 1) := by decide +kernel
theorem dX0_payDebts_52 : decode cX0_payDebts 52 = .ok (.getfield 11, 3) := by decide +kernel
theorem dX0_payDebts_55 : decode cX0_payDebts 55 = .ok (.aload_n 0, 1) := by decide +kernel
theorem dX0_payDebts_56 : decode cX0_payDebts 56 = .ok (.getfield 21, 3) := by decide +kernel
theorem dX0_payDebts_59 : decode cX0_payDebts 59 = .ok (.iload_n 1, 1) := by decide +kernel
theorem dX0_payDebts_60 : decode cX0_payDebts 60 = .ok (.iaload, 1) := by decide +kernel
theorem dX0_payDebts_61 : decode cX0_payDebts 61 = .ok (.aaload, 1) := by decide +kernel
theorem dX0_payDebts_62 : decode cX0_payDebts 62 = .ok (.iload_n 2, 1) := by decide +kernel
theorem dX0_payDebts_63 : decode cX0_payDebts 63 = .ok (.invokevirtual 138, 3) := by decide +kernel
theorem dX0_payDebts_66 : decode cX0_payDebts 66 = .ok (.iinc 1 1, 3) := by decide +kernel
theorem dX0_payDebts_69 : decode cX0_payDebts 69 = .ok (.goto (-67), 3) := by decide +kernel
theorem dX0_payDebts_72 : decode cX0_payDebts 72 = .ok (.return_, 1) := by decide +kernel
theorem dX0_givers_0 : decode cX0_givers 0 = .ok (.aload_n 0, 1) := by decide +kernel
theorem dX0_givers_1 : decode cX0_givers 1 = .ok (.aload_n 0, 1) := by decide +kernel
theorem dX0_givers_2 : decode cX0_givers 2 = .ok (.getfield 17, 3) := by decide +kernel
theorem dX0_givers_5 : decode cX0_givers 5 = .ok (.invokevirtual 141, 3) := by decide +kernel
theorem dX0_givers_8 : decode cX0_givers 8 = .ok (.ireturn, 1) := by decide +kernel
theorem dX0_takers_0 : decode cX0_takers 0 = .ok (.aload_n 0, 1) := by decide +kernel
theorem dX0_takers_1 : decode cX0_takers 1 = .ok (.aload_n 0, 1) := by decide +kernel
theorem dX0_takers_2 : decode cX0_takers 2 = .ok (.getfield 21, 3) := by decide +kernel
theorem dX0_takers_5 : decode cX0_takers 5 = .ok (.invokevirtual 141, 3) := by decide +kernel
theorem dX0_takers_8 : decode cX0_takers 8 = .ok (.ireturn, 1) := by decide +kernel
theorem dX0_bitsOf_0 : decode cX0_bitsOf 0 = .ok (.iconst 0, 1) := by decide +kernel
theorem dX0_bitsOf_1 : decode cX0_bitsOf 1 = .ok (.istore_n 2, 1) := by decide +kernel
theorem dX0_bitsOf_2 : decode cX0_bitsOf 2 = .ok (.iconst 0, 1) := by decide +kernel
theorem dX0_bitsOf_3 : decode cX0_bitsOf 3 = .ok (.istore_n 3, 1) := by decide +kernel
theorem dX0_bitsOf_4 : decode cX0_bitsOf 4 = .ok (.iload_n 3, 1) := by decide +kernel
theorem dX0_bitsOf_5 : decode cX0_bitsOf 5 = .ok (.aload_n 0, 1) := by decide +kernel
theorem dX0_bitsOf_6 : decode cX0_bitsOf 6 = .ok (.getfield 46, 3) := by decide +kernel
theorem dX0_bitsOf_9 : decode cX0_bitsOf 9 = .ok (.if_icmp .ge 17, 3) := by decide +kernel
theorem dX0_bitsOf_12 : decode cX0_bitsOf 12 = .ok (.iload_n 2, 1) := by decide +kernel
theorem dX0_bitsOf_13 : decode cX0_bitsOf 13 = .ok (.iconst 1, 1) := by decide +kernel
theorem dX0_bitsOf_14 : decode cX0_bitsOf 14 = .ok (.aload_n 1, 1) := by decide +kernel
theorem dX0_bitsOf_15 : decode cX0_bitsOf 15 = .ok (.iload_n 3, 1) := by decide +kernel
theorem dX0_bitsOf_16 : decode cX0_bitsOf 16 = .ok (.iaload, 1) := by decide +kernel
theorem dX0_bitsOf_17 : decode cX0_bitsOf 17 = .ok (.ishl, 1) := by decide +kernel
theorem dX0_bitsOf_18 : decode cX0_bitsOf 18 = .ok (.ior, 1) := by decide +kernel
theorem dX0_bitsOf_19 : decode cX0_bitsOf 19 = .ok (.istore_n 2, 1) := by decide +kernel
theorem dX0_bitsOf_20 : decode cX0_bitsOf 20 = .ok (.iinc 3 1, 3) := by decide +kernel
theorem dX0_bitsOf_23 : decode cX0_bitsOf 23 = .ok (.goto (-19), 3) := by decide +kernel
theorem dX0_bitsOf_26 : decode cX0_bitsOf 26 = .ok (.iload_n 2, 1) := by decide +kernel
theorem dX0_bitsOf_27 : decode cX0_bitsOf 27 = .ok (.ireturn, 1) := by decide +kernel
theorem dX0_longestChain_0 : decode cX0_longestChain 0 = .ok (.iconst 0, 1) := by decide +kernel
theorem dX0_longestChain_1 : decode cX0_longestChain 1 = .ok (.istore_n 1, 1) := by decide +kernel
theorem dX0_longestChain_2 : decode cX0_longestChain 2 = .ok (.iconst 0, 1) := by decide +kernel
theorem dX0_longestChain_3 : decode cX0_longestChain 3 = .ok (.istore_n 2, 1) := by decide +kernel
theorem dX0_longestChain_4 : decode cX0_longestChain 4 = .ok (.iload_n 2, 1) := by decide +kernel
theorem dX0_longestChain_5 : decode cX0_longestChain 5 = .ok (.aload_n 0, 1) := by decide +kernel
theorem dX0_longestChain_6 : decode cX0_longestChain 6 = .ok (.getfield 39, 3) := by decide +kernel
theorem dX0_longestChain_9 : decode cX0_longestChain 9 = .ok (.if_icmp .ge 22, 3) := by decide +kernel
theorem dX0_longestChain_12 : decode cX0_longestChain 12 = .ok (.iload_n 1, 1) := by decide +kernel
theorem dX0_longestChain_13 : decode cX0_longestChain 13 = .ok (.aload_n 0, 1) := by decide +kernel
theorem dX0_longestChain_14 : decode cX0_longestChain 14 = .ok (.iload_n 2, 1) := by decide +kernel
theorem dX0_longestChain_15 : decode cX0_longestChain 15 = .ok (.iconst 1, 1) := by decide +kernel
theorem dX0_longestChain_16 : decode cX0_longestChain 16 = .ok (.iload_n 2, 1) := by decide +kernel
theorem dX0_longestChain_17 : decode cX0_longestChain 17 = .ok (.ishl, 1) := by decide +kernel
theorem dX0_longestChain_18 : decode cX0_longestChain 18 = .ok (.invokestatic 145, 3) := by decide +kernel
theorem dX0_longestChain_21 : decode cX0_longestChain 21 = .ok (.invokestatic 101, 3) := by decide +kernel
theorem dX0_longestChain_24 : decode cX0_longestChain 24 = .ok (.istore_n 1, 1) := by decide +kernel
theorem dX0_longestChain_25 : decode cX0_longestChain 25 = .ok (.iinc 2 1, 3) := by decide +kernel
theorem dX0_longestChain_28 : decode cX0_longestChain 28 = .ok (.goto (-24), 3) := by decide +kernel
theorem dX0_longestChain_31 : decode cX0_longestChain 31 = .ok (.iload_n 1, 1) := by decide +kernel
theorem dX0_longestChain_32 : decode cX0_longestChain 32 = .ok (.ireturn, 1) := by decide +kernel
theorem dX0_longestChainFrom_0 : decode cX0_longestChainFrom 0 = .ok (.iconst 0, 1) := by decide +kernel
theorem dX0_longestChainFrom_1 : decode cX0_longestChainFrom 1 = .ok (.istore_n 3, 1) := by decide +kernel
theorem dX0_longestChainFrom_2 : decode cX0_longestChainFrom 2 = .ok (.iconst 0, 1) := by decide +kernel
theorem dX0_longestChainFrom_3 : decode cX0_longestChainFrom 3 = .ok (.istore 4, 2) := by decide +kernel
theorem dX0_longestChainFrom_5 : decode cX0_longestChainFrom 5 = .ok (.iload 4, 2) := by decide +kernel
theorem dX0_longestChainFrom_7 : decode cX0_longestChainFrom 7 = .ok (.aload_n 0, 1) := by decide +kernel
theorem dX0_longestChainFrom_8 : decode cX0_longestChainFrom 8 = .ok (.getfield 46, 3) := by decide +kernel
theorem dX0_longestChainFrom_11 : decode cX0_longestChainFrom 11 = .ok (.if_icmp .ge 57, 3) := by decide +kernel
theorem dX0_longestChainFrom_14 : decode cX0_longestChainFrom 14 = .ok (.aload_n 0, 1) := by decide +kernel
theorem dX0_longestChainFrom_15 : decode cX0_longestChainFrom 15 = .ok (.getfield 21, 3) := by decide +kernel
theorem dX0_longestChainFrom_18 : decode cX0_longestChainFrom 18 = .ok (.iload 4, 2) := by decide +kernel
theorem dX0_longestChainFrom_20 : decode cX0_longestChainFrom 20 = .ok (.iaload, 1) := by decide +kernel
theorem dX0_longestChainFrom_21 : decode cX0_longestChainFrom 21 = .ok (.istore 5, 2) := by decide +kernel
theorem dX0_longestChainFrom_23 : decode cX0_longestChainFrom 23 = .ok (.aload_n 0, 1) := by decide +kernel
theorem dX0_longestChainFrom_24 : decode cX0_longestChainFrom 24 = .ok (.getfield 17, 3) := by decide +kernel
theorem dX0_longestChainFrom_27 : decode cX0_longestChainFrom 27 = .ok (.iload 4, 2) := by decide +kernel
theorem dX0_longestChainFrom_29 : decode cX0_longestChainFrom 29 = .ok (.iaload, 1) := by decide +kernel
theorem dX0_longestChainFrom_30 : decode cX0_longestChainFrom 30 = .ok (.iload_n 1, 1) := by decide +kernel
theorem dX0_longestChainFrom_31 : decode cX0_longestChainFrom 31 = .ok (.if_icmp .ne 31, 3) := by decide +kernel
theorem dX0_longestChainFrom_34 : decode cX0_longestChainFrom 34 = .ok (.iload_n 2, 1) := by decide +kernel
theorem dX0_longestChainFrom_35 : decode cX0_longestChainFrom 35 = .ok (.iconst 1, 1) := by decide +kernel
theorem dX0_longestChainFrom_36 : decode cX0_longestChainFrom 36 = .ok (.iload 5, 2) := by decide +kernel
theorem dX0_longestChainFrom_38 : decode cX0_longestChainFrom 38 = .ok (.ishl, 1) := by decide +kernel
theorem dX0_longestChainFrom_39 : decode cX0_longestChainFrom 39 = .ok (.iand, 1) := by decide +kernel
theorem dX0_longestChainFrom_40 : decode cX0_longestChainFrom 40 = .ok (.ifCond .ne 22, 3) := by decide +kernel
theorem dX0_longestChainFrom_43 : decode cX0_longestChainFrom 43 = .ok (.iload_n 3, 1) := by decide +kernel
theorem dX0_longestChainFrom_44 : decode cX0_longestChainFrom 44 = .ok (.iconst 1, 1) := by decide +kernel
theorem dX0_longestChainFrom_45 : decode cX0_longestChainFrom 45 = .ok (.aload_n 0, 1) := by decide +kernel
theorem dX0_longestChainFrom_46 : decode cX0_longestChainFrom 46 = .ok (.iload 5, 2) := by decide +kernel
theorem dX0_longestChainFrom_48 : decode cX0_longestChainFrom 48 = .ok (.iload_n 2, 1) := by decide +kernel
theorem dX0_longestChainFrom_49 : decode cX0_longestChainFrom 49 = .ok (.iconst 1, 1) := by decide +kernel
theorem dX0_longestChainFrom_50 : decode cX0_longestChainFrom 50 = .ok (.iload 5, 2) := by decide +kernel
theorem dX0_longestChainFrom_52 : decode cX0_longestChainFrom 52 = .ok (.ishl, 1) := by decide +kernel
theorem dX0_longestChainFrom_53 : decode cX0_longestChainFrom 53 = .ok (.ior, 1) := by decide +kernel
theorem dX0_longestChainFrom_54 : decode cX0_longestChainFrom 54 = .ok (.invokestatic 145, 3) := by decide +kernel
theorem dX0_longestChainFrom_57 : decode cX0_longestChainFrom 57 = .ok (.iadd, 1) := by decide +kernel
theorem dX0_longestChainFrom_58 : decode cX0_longestChainFrom 58 = .ok (.invokestatic 101, 3) := by decide +kernel
theorem dX0_longestChainFrom_61 : decode cX0_longestChainFrom 61 = .ok (.istore_n 3, 1) := by decide +kernel
theorem dX0_longestChainFrom_62 : decode cX0_longestChainFrom 62 = .ok (.iinc 4 1, 3) := by decide +kernel
theorem dX0_longestChainFrom_65 : decode cX0_longestChainFrom 65 = .ok (.goto (-60), 3) := by decide +kernel
theorem dX0_longestChainFrom_68 : decode cX0_longestChainFrom 68 = .ok (.iload_n 3, 1) := by decide +kernel
theorem dX0_longestChainFrom_69 : decode cX0_longestChainFrom 69 = .ok (.ireturn, 1) := by decide +kernel
theorem dX0_fewestVowsBetween_0 : decode cX0_fewestVowsBetween 0 = .ok (.iconst 1, 1) := by decide +kernel
theorem dX0_fewestVowsBetween_1 : decode cX0_fewestVowsBetween 1 = .ok (.iload_n 1, 1) := by decide +kernel
theorem dX0_fewestVowsBetween_2 : decode cX0_fewestVowsBetween 2 = .ok (.ishl, 1) := by decide +kernel
theorem dX0_fewestVowsBetween_3 : decode cX0_fewestVowsBetween 3 = .ok (.istore_n 3, 1) := by decide +kernel
theorem dX0_fewestVowsBetween_4 : decode cX0_fewestVowsBetween 4 = .ok (.iconst 0, 1) := by decide +kernel
theorem dX0_fewestVowsBetween_5 : decode cX0_fewestVowsBetween 5 = .ok (.istore 4, 2) := by decide +kernel
theorem dX0_fewestVowsBetween_7 : decode cX0_fewestVowsBetween 7 = .ok (.iload 4, 2) := by decide +kernel
theorem dX0_fewestVowsBetween_9 : decode cX0_fewestVowsBetween 9 = .ok (.bipush 10, 2) := by decide +kernel
theorem dX0_fewestVowsBetween_11 : decode cX0_fewestVowsBetween 11 = .ok (.if_icmp .ge 74, 3) := by decide +kernel
theorem dX0_fewestVowsBetween_14 : decode cX0_fewestVowsBetween 14 = .ok (.iload_n 3, 1) := by decide +kernel
theorem dX0_fewestVowsBetween_15 : decode cX0_fewestVowsBetween 15 = .ok (.iconst 1, 1) := by decide +kernel
theorem dX0_fewestVowsBetween_16 : decode cX0_fewestVowsBetween 16 = .ok (.iload_n 2, 1) := by decide +kernel
theorem dX0_fewestVowsBetween_17 : decode cX0_fewestVowsBetween 17 = .ok (.ishl, 1) := by decide +kernel
theorem dX0_fewestVowsBetween_18 : decode cX0_fewestVowsBetween 18 = .ok (.iand, 1) := by decide +kernel
theorem dX0_fewestVowsBetween_19 : decode cX0_fewestVowsBetween 19 = .ok (.ifCond .eq 6, 3) := by decide +kernel
theorem dX0_fewestVowsBetween_22 : decode cX0_fewestVowsBetween 22 = .ok (.iload 4, 2) := by decide +kernel
theorem dX0_fewestVowsBetween_24 : decode cX0_fewestVowsBetween 24 = .ok (.ireturn, 1) := by decide +kernel
theorem dX0_fewestVowsBetween_25 : decode cX0_fewestVowsBetween 25 = .ok (.iconst 0, 1) := by decide +kernel
theorem dX0_fewestVowsBetween_26 : decode cX0_fewestVowsBetween 26 = .ok (.istore 5, 2) := by decide +kernel
theorem dX0_fewestVowsBetween_28 : decode cX0_fewestVowsBetween 28 = .ok (.iconst 0, 1) := by decide +kernel
theorem dX0_fewestVowsBetween_29 : decode cX0_fewestVowsBetween 29 = .ok (.istore 6, 2) := by decide +kernel
theorem dX0_fewestVowsBetween_31 : decode cX0_fewestVowsBetween 31 = .ok (.iload 6, 2) := by decide +kernel
theorem dX0_fewestVowsBetween_33 : decode cX0_fewestVowsBetween 33 = .ok (.aload_n 0, 1) := by decide +kernel
theorem dX0_fewestVowsBetween_34 : decode cX0_fewestVowsBetween 34 = .ok (.getfield 46, 3) := by decide +kernel
theorem dX0_fewestVowsBetween_37 : decode cX0_fewestVowsBetween 37 = .ok (.if_icmp .ge 37, 3) := by decide +kernel
theorem dX0_fewestVowsBetween_40 : decode cX0_fewestVowsBetween 40 = .ok (.iload_n 3, 1) := by decide +kernel
theorem dX0_fewestVowsBetween_41 : decode cX0_fewestVowsBetween 41 = .ok (.iconst 1, 1) := by decide +kernel
theorem dX0_fewestVowsBetween_42 : decode cX0_fewestVowsBetween 42 = .ok (.aload_n 0, 1) := by decide +kernel
theorem dX0_fewestVowsBetween_43 : decode cX0_fewestVowsBetween 43 = .ok (.getfield 17, 3) := by decide +kernel
theorem dX0_fewestVowsBetween_46 : decode cX0_fewestVowsBetween 46 = .ok (.iload 6, 2) := by decide +kernel
theorem dX0_fewestVowsBetween_48 : decode cX0_fewestVowsBetween 48 = .ok (.iaload, 1) := by decide +kernel
theorem dX0_fewestVowsBetween_49 : decode cX0_fewestVowsBetween 49 = .ok (.ishl, 1) := by decide +kernel
theorem dX0_fewestVowsBetween_50 : decode cX0_fewestVowsBetween 50 = .ok (.iand, 1) := by decide +kernel
theorem dX0_fewestVowsBetween_51 : decode cX0_fewestVowsBetween 51 = .ok (.ifCond .eq 17, 3) := by decide +kernel
theorem dX0_fewestVowsBetween_54 : decode cX0_fewestVowsBetween 54 = .ok (.iload 5, 2) := by decide +kernel
theorem dX0_fewestVowsBetween_56 : decode cX0_fewestVowsBetween 56 = .ok (.iconst 1, 1) := by decide +kernel
theorem dX0_fewestVowsBetween_57 : decode cX0_fewestVowsBetween 57 = .ok (.aload_n 0, 1) := by decide +kernel
theorem dX0_fewestVowsBetween_58 : decode cX0_fewestVowsBetween 58 = .ok (.getfield 21, 3) := by decide +kernel
theorem dX0_fewestVowsBetween_61 : decode cX0_fewestVowsBetween 61 = .ok (.iload 6, 2) := by decide +kernel
theorem dX0_fewestVowsBetween_63 : decode cX0_fewestVowsBetween 63 = .ok (.iaload, 1) := by decide +kernel
theorem dX0_fewestVowsBetween_64 : decode cX0_fewestVowsBetween 64 = .ok (.ishl, 1) := by decide +kernel
theorem dX0_fewestVowsBetween_65 : decode cX0_fewestVowsBetween 65 = .ok (.ior, 1) := by decide +kernel
theorem dX0_fewestVowsBetween_66 : decode cX0_fewestVowsBetween 66 = .ok (.istore 5, 2) := by decide +kernel
theorem dX0_fewestVowsBetween_68 : decode cX0_fewestVowsBetween 68 = .ok (.iinc 6 1, 3) := by decide +kernel
theorem dX0_fewestVowsBetween_71 : decode cX0_fewestVowsBetween 71 = .ok (.goto (-40), 3) := by decide +kernel
theorem dX0_fewestVowsBetween_74 : decode cX0_fewestVowsBetween 74 = .ok (.iload_n 3, 1) := by decide +kernel
theorem dX0_fewestVowsBetween_75 : decode cX0_fewestVowsBetween 75 = .ok (.iload 5, 2) := by decide +kernel
theorem dX0_fewestVowsBetween_77 : decode cX0_fewestVowsBetween 77 = .ok (.ior, 1) := by decide +kernel
theorem dX0_fewestVowsBetween_78 : decode cX0_fewestVowsBetween 78 = .ok (.istore_n 3, 1) := by decide +kernel
theorem dX0_fewestVowsBetween_79 : decode cX0_fewestVowsBetween 79 = .ok (.iinc 4 1, 3) := by decide +kernel
theorem dX0_fewestVowsBetween_82 : decode cX0_fewestVowsBetween 82 = .ok (.goto (-75), 3) := by decide +kernel
theorem dX0_fewestVowsBetween_85 : decode cX0_fewestVowsBetween 85 = .ok (.ldc 149, 2) := by decide +kernel
theorem dX0_fewestVowsBetween_87 : decode cX0_fewestVowsBetween 87 = .ok (.ireturn, 1) := by decide +kernel
theorem dX1_init_0 : decode cX1_init 0 = .ok (.aload_n 0, 1) := by decide +kernel
theorem dX1_init_1 : decode cX1_init 1 = .ok (.invokespecial 3, 3) := by decide +kernel
theorem dX1_init_4 : decode cX1_init 4 = .ok (.aload_n 0, 1) := by decide +kernel
theorem dX1_init_5 : decode cX1_init 5 = .ok (.bipush 96, 2) := by decide +kernel
theorem dX1_init_7 : decode cX1_init 7 = .ok (.newarray .short, 2) := by decide +kernel
theorem dX1_init_9 : decode cX1_init 9 = .ok (.putfield 9, 3) := by decide +kernel
theorem dX1_init_12 : decode cX1_init 12 = .ok (.return_, 1) := by decide +kernel
theorem dX1_startAnew_0 : decode cX1_startAnew 0 = .ok (.aload_n 0, 1) := by decide +kernel
theorem dX1_startAnew_1 : decode cX1_startAnew 1 = .ok (.iconst 0, 1) := by decide +kernel
theorem dX1_startAnew_2 : decode cX1_startAnew 2 = .ok (.putfield 15, 3) := by decide +kernel
theorem dX1_startAnew_5 : decode cX1_startAnew 5 = .ok (.aload_n 0, 1) := by decide +kernel
theorem dX1_startAnew_6 : decode cX1_startAnew 6 = .ok (.iconst 0, 1) := by decide +kernel
theorem dX1_startAnew_7 : decode cX1_startAnew 7 = .ok (.putfield 19, 3) := by decide +kernel
theorem dX1_startAnew_10 : decode cX1_startAnew 10 = .ok (.return_, 1) := by decide +kernel
theorem dX1_addNumber_0 : decode cX1_addNumber 0 = .ok (.aload_n 0, 1) := by decide +kernel
theorem dX1_addNumber_1 : decode cX1_addNumber 1 = .ok (.iload_n 1, 1) := by decide +kernel
theorem dX1_addNumber_2 : decode cX1_addNumber 2 = .ok (.invokevirtual 22, 3) := by decide +kernel
theorem dX1_addNumber_5 : decode cX1_addNumber 5 = .ok (.aload_n 0, 1) := by decide +kernel
theorem dX1_addNumber_6 : decode cX1_addNumber 6 = .ok (.dup, 1) := by decide +kernel
theorem dX1_addNumber_7 : decode cX1_addNumber 7 = .ok (.getfield 15, 3) := by decide +kernel
theorem dX1_addNumber_10 : decode cX1_addNumber 10 = .ok (.iconst 1, 1) := by decide +kernel
theorem dX1_addNumber_11 : decode cX1_addNumber 11 = .ok (.iadd, 1) := by decide +kernel
theorem dX1_addNumber_12 : decode cX1_addNumber 12 = .ok (.putfield 15, 3) := by decide +kernel
theorem dX1_addNumber_15 : decode cX1_addNumber 15 = .ok (.return_, 1) := by decide +kernel
theorem dX1_addName_0 : decode cX1_addName 0 = .ok (.aload_n 0, 1) := by decide +kernel
theorem dX1_addName_1 : decode cX1_addName 1 = .ok (.iconst (-1), 1) := by decide +kernel
theorem dX1_addName_2 : decode cX1_addName 2 = .ok (.iload_n 1, 1) := by decide +kernel
theorem dX1_addName_3 : decode cX1_addName 3 = .ok (.isub, 1) := by decide +kernel
theorem dX1_addName_4 : decode cX1_addName 4 = .ok (.invokevirtual 22, 3) := by decide +kernel
theorem dX1_addName_7 : decode cX1_addName 7 = .ok (.aload_n 0, 1) := by decide +kernel
theorem dX1_addName_8 : decode cX1_addName 8 = .ok (.dup, 1) := by decide +kernel
theorem dX1_addName_9 : decode cX1_addName 9 = .ok (.getfield 15, 3) := by decide +kernel
theorem dX1_addName_12 : decode cX1_addName 12 = .ok (.iconst 1, 1) := by decide +kernel
theorem dX1_addName_13 : decode cX1_addName 13 = .ok (.iadd, 1) := by decide +kernel
theorem dX1_addName_14 : decode cX1_addName 14 = .ok (.putfield 15, 3) := by decide +kernel
theorem dX1_addName_17 : decode cX1_addName 17 = .ok (.return_, 1) := by decide +kernel
theorem dX1_addSign_0 : decode cX1_addSign 0 = .ok (.aload_n 0, 1) := by decide +kernel
theorem dX1_addSign_1 : decode cX1_addSign 1 = .ok (.iload_n 1, 1) := by decide +kernel
theorem dX1_addSign_2 : decode cX1_addSign 2 = .ok (.ineg, 1) := by decide +kernel
theorem dX1_addSign_3 : decode cX1_addSign 3 = .ok (.invokevirtual 22, 3) := by decide +kernel
theorem dX1_addSign_6 : decode cX1_addSign 6 = .ok (.return_, 1) := by decide +kernel
theorem dX1_put_0 : decode cX1_put 0 = .ok (.aload_n 0, 1) := by decide +kernel
theorem dX1_put_1 : decode cX1_put 1 = .ok (.getfield 19, 3) := by decide +kernel
theorem dX1_put_4 : decode cX1_put 4 = .ok (.bipush 96, 2) := by decide +kernel
theorem dX1_put_6 : decode cX1_put 6 = .ok (.if_icmp .ge 24, 3) := by decide +kernel
theorem dX1_put_9 : decode cX1_put 9 = .ok (.aload_n 0, 1) := by decide +kernel
theorem dX1_put_10 : decode cX1_put 10 = .ok (.getfield 9, 3) := by decide +kernel
theorem dX1_put_13 : decode cX1_put 13 = .ok (.aload_n 0, 1) := by decide +kernel
theorem dX1_put_14 : decode cX1_put 14 = .ok (.getfield 19, 3) := by decide +kernel
theorem dX1_put_17 : decode cX1_put 17 = .ok (.iload_n 1, 1) := by decide +kernel
theorem dX1_put_18 : decode cX1_put 18 = .ok (.i2s, 1) := by decide +kernel
theorem dX1_put_19 : decode cX1_put 19 = .ok (.sastore, 1) := by decide +kernel
theorem dX1_put_20 : decode cX1_put 20 = .ok (.aload_n 0, 1) := by decide +kernel
theorem dX1_put_21 : decode cX1_put 21 = .ok (.dup, 1) := by decide +kernel
theorem dX1_put_22 : decode cX1_put 22 = .ok (.getfield 19, 3) := by decide +kernel
theorem dX1_put_25 : decode cX1_put 25 = .ok (.iconst 1, 1) := by decide +kernel
theorem dX1_put_26 : decode cX1_put 26 = .ok (.iadd, 1) := by decide +kernel
theorem dX1_put_27 : decode cX1_put 27 = .ok (.putfield 19, 3) := by decide +kernel
theorem dX1_put_30 : decode cX1_put 30 = .ok (.return_, 1) := by decide +kernel
theorem dX2_init_0 : decode cX2_init 0 = .ok (.aload_n 0, 1) := by decide +kernel
theorem dX2_init_1 : decode cX2_init 1 = .ok (.invokespecial 3, 3) := by decide +kernel
theorem dX2_init_4 : decode cX2_init 4 = .ok (.aload_n 0, 1) := by decide +kernel
theorem dX2_init_5 : decode cX2_init 5 = .ok (.bipush 15, 2) := by decide +kernel
theorem dX2_init_7 : decode cX2_init 7 = .ok (.anewarray 9, 3) := by decide +kernel
theorem dX2_init_10 : decode cX2_init 10 = .ok (.putfield 11, 3) := by decide +kernel
theorem dX2_init_13 : decode cX2_init 13 = .ok (.aload_n 0, 1) := by decide +kernel
theorem dX2_init_14 : decode cX2_init 14 = .ok (.bipush 96, 2) := by decide +kernel
theorem dX2_init_16 : decode cX2_init 16 = .ok (.newarray .int, 2) := by decide +kernel
theorem dX2_init_18 : decode cX2_init 18 = .ok (.putfield 17, 3) := by decide +kernel
theorem dX2_init_21 : decode cX2_init 21 = .ok (.iconst 0, 1) := by decide +kernel
theorem dX2_init_22 : decode cX2_init 22 = .ok (.istore_n 1, 1) := by decide +kernel
theorem dX2_init_23 : decode cX2_init 23 = .ok (.iload_n 1, 1) := by decide +kernel
theorem dX2_init_24 : decode cX2_init 24 = .ok (.bipush 14, 2) := by decide +kernel
theorem dX2_init_26 : decode cX2_init 26 = .ok (.if_icmp .gt 22, 3) := by decide +kernel
theorem dX2_init_29 : decode cX2_init 29 = .ok (.aload_n 0, 1) := by decide +kernel
theorem dX2_init_30 : decode cX2_init 30 = .ok (.getfield 11, 3) := by decide +kernel
theorem dX2_init_33 : decode cX2_init 33 = .ok (.iload_n 1, 1) := by decide +kernel
theorem dX2_init_34 : decode cX2_init 34 = .ok (.new 9, 3) := by decide +kernel
theorem dX2_init_37 : decode cX2_init 37 = .ok (.dup, 1) := by decide +kernel
theorem dX2_init_38 : decode cX2_init 38 = .ok (.invokespecial 21, 3) := by decide +kernel
theorem dX2_init_41 : decode cX2_init 41 = .ok (.aastore, 1) := by decide +kernel
theorem dX2_init_42 : decode cX2_init 42 = .ok (.iinc 1 1, 3) := by decide +kernel
theorem dX2_init_45 : decode cX2_init 45 = .ok (.goto (-22), 3) := by decide +kernel
theorem dX2_init_48 : decode cX2_init 48 = .ok (.return_, 1) := by decide +kernel
theorem dX2_gives_0 : decode cX2_gives 0 = .ok (.aload_n 0, 1) := by decide +kernel
theorem dX2_gives_1 : decode cX2_gives 1 = .ok (.getfield 11, 3) := by decide +kernel
theorem dX2_gives_4 : decode cX2_gives 4 = .ok (.iload_n 1, 1) := by decide +kernel
theorem dX2_gives_5 : decode cX2_gives 5 = .ok (.aaload, 1) := by decide +kernel
theorem dX2_gives_6 : decode cX2_gives 6 = .ok (.astore 5, 2) := by decide +kernel
theorem dX2_gives_8 : decode cX2_gives 8 = .ok (.iconst 0, 1) := by decide +kernel
theorem dX2_gives_9 : decode cX2_gives 9 = .ok (.istore 6, 2) := by decide +kernel
theorem dX2_gives_11 : decode cX2_gives 11 = .ok (.iconst 0, 1) := by decide +kernel
theorem dX2_gives_12 : decode cX2_gives 12 = .ok (.istore 7, 2) := by decide +kernel
theorem dX2_gives_14 : decode cX2_gives 14 = .ok (.iload 7, 2) := by decide +kernel
theorem dX2_gives_16 : decode cX2_gives 16 = .ok (.aload 5, 2) := by decide +kernel
theorem dX2_gives_18 : decode cX2_gives 18 = .ok (.getfield 22, 3) := by decide +kernel
theorem dX2_gives_21 : decode cX2_gives 21 = .ok (.if_icmp .ge 154, 3) := by decide +kernel
theorem dX2_gives_24 : decode cX2_gives 24 = .ok (.aload 5, 2) := by decide +kernel
theorem dX2_gives_26 : decode cX2_gives 26 = .ok (.getfield 26, 3) := by decide +kernel
theorem dX2_gives_29 : decode cX2_gives 29 = .ok (.iload 7, 2) := by decide +kernel
theorem dX2_gives_31 : decode cX2_gives 31 = .ok (.saload, 1) := by decide +kernel
theorem dX2_gives_32 : decode cX2_gives 32 = .ok (.istore 8, 2) := by decide +kernel
theorem dX2_gives_34 : decode cX2_gives 34 = .ok (.iload 8, 2) := by decide +kernel
theorem dX2_gives_36 : decode cX2_gives 36 = .ok (.bipush (-3), 2) := by decide +kernel
theorem dX2_gives_38 : decode cX2_gives 38 = .ok (.if_icmp .lt 49, 3) := by decide +kernel
theorem dX2_gives_41 : decode cX2_gives 41 = .ok (.aload_n 0, 1) := by decide +kernel
theorem dX2_gives_42 : decode cX2_gives 42 = .ok (.getfield 17, 3) := by decide +kernel
theorem dX2_gives_45 : decode cX2_gives 45 = .ok (.iload 6, 2) := by decide +kernel
theorem dX2_gives_47 : decode cX2_gives 47 = .ok (.iload 8, 2) := by decide +kernel
theorem dX2_gives_49 : decode cX2_gives 49 = .ok (.ifCond .lt 8, 3) := by decide +kernel
theorem dX2_gives_52 : decode cX2_gives 52 = .ok (.iload 8, 2) := by decide +kernel
theorem dX2_gives_54 : decode cX2_gives 54 = .ok (.goto 26, 3) := by decide +kernel
theorem dX2_gives_57 : decode cX2_gives 57 = .ok (.iload 8, 2) := by decide +kernel
theorem dX2_gives_59 : decode cX2_gives 59 = .ok (.iconst (-1), 1) := by decide +kernel
theorem dX2_gives_60 : decode cX2_gives 60 = .ok (.if_icmp .ne 7, 3) := by decide +kernel
theorem dX2_gives_63 : decode cX2_gives 63 = .ok (.iload_n 2, 1) := by decide +kernel
theorem dX2_gives_64 : decode cX2_gives 64 = .ok (.goto 16, 3) := by decide +kernel
theorem dX2_gives_67 : decode cX2_gives 67 = .ok (.iload 8, 2) := by decide +kernel
theorem dX2_gives_69 : decode cX2_gives 69 = .ok (.bipush (-2), 2) := by decide +kernel
theorem dX2_gives_71 : decode cX2_gives 71 = .ok (.if_icmp .ne 7, 3) := by decide +kernel
theorem dX2_gives_74 : decode cX2_gives 74 = .ok (.iload_n 3, 1) := by decide +kernel
theorem dX2_gives_75 : decode cX2_gives 75 = .ok (.goto 5, 3) := by decide +kernel
theorem dX2_gives_78 : decode cX2_gives 78 = .ok (.iload 4, 2) := by decide +kernel
theorem dX2_gives_80 : decode cX2_gives 80 = .ok (.iastore, 1) := by decide +kernel
theorem dX2_gives_81 : decode cX2_gives 81 = .ok (.iinc 6 1, 3) := by decide +kernel
theorem dX2_gives_84 : decode cX2_gives 84 = .ok (.goto 85, 3) := by decide +kernel
theorem dX2_gives_87 : decode cX2_gives 87 = .ok (.iload 8, 2) := by decide +kernel
theorem dX2_gives_89 : decode cX2_gives 89 = .ok (.bipush (-33), 2) := by decide +kernel
theorem dX2_gives_91 : decode cX2_gives 91 = .ok (.if_icmp .ne 37, 3) := by decide +kernel
theorem dX2_gives_94 : decode cX2_gives 94 = .ok (.iload 6, 2) := by decide +kernel
theorem dX2_gives_96 : decode cX2_gives 96 = .ok (.ifCond .le 32, 3) := by decide +kernel
theorem dX2_gives_99 : decode cX2_gives 99 = .ok (.aload_n 0, 1) := by decide +kernel
theorem dX2_gives_100 : decode cX2_gives 100 = .ok (.getfield 17, 3) := by decide +kernel
theorem dX2_gives_103 : decode cX2_gives 103 = .ok (.iload 6, 2) := by decide +kernel
theorem dX2_gives_105 : decode cX2_gives 105 = .ok (.iconst 1, 1) := by decide +kernel
theorem dX2_gives_106 : decode cX2_gives 106 = .ok (.isub, 1) := by decide +kernel
theorem dX2_gives_107 : decode cX2_gives 107 = .ok (.aload_n 0, 1) := by decide +kernel
theorem dX2_gives_108 : decode cX2_gives 108 = .ok (.getfield 17, 3) := by decide +kernel
theorem dX2_gives_111 : decode cX2_gives 111 = .ok (.iload 6, 2) := by decide +kernel
theorem dX2_gives_113 : decode cX2_gives 113 = .ok (.iconst 1, 1) := by decide +kernel
theorem dX2_gives_114 : decode cX2_gives 114 = .ok (.isub, 1) := by decide +kernel
theorem dX2_gives_115 : decode cX2_gives 115 = .ok (.iaload, 1) := by decide +kernel
theorem dX2_gives_116 : decode cX2_gives 116 = .ok (.ifCond .ne 7, 3) := by decide +kernel
theorem dX2_gives_119 : decode cX2_gives 119 = .ok (.iconst 1, 1) := by decide +kernel
theorem dX2_gives_120 : decode cX2_gives 120 = .ok (.goto 4, 3) := by decide +kernel
theorem dX2_gives_123 : decode cX2_gives 123 = .ok (.iconst 0, 1) := by decide +kernel
theorem dX2_gives_124 : decode cX2_gives 124 = .ok (.iastore, 1) := by decide +kernel
theorem dX2_gives_125 : decode cX2_gives 125 = .ok (.goto 44, 3) := by decide +kernel
theorem dX2_gives_128 : decode cX2_gives 128 = .ok (.iload 6, 2) := by decide +kernel
theorem dX2_gives_130 : decode cX2_gives 130 = .ok (.iconst 1, 1) := by decide +kernel
theorem dX2_gives_131 : decode cX2_gives 131 = .ok (.if_icmp .le 38, 3) := by decide +kernel
theorem dX2_gives_134 : decode cX2_gives 134 = .ok (.iinc 6 (-1), 3) := by decide +kernel
theorem dX2_gives_137 : decode cX2_gives 137 = .ok (.aload_n 0, 1) := by decide +kernel
theorem dX2_gives_138 : decode cX2_gives 138 = .ok (.getfield 17, 3) := by decide +kernel
theorem dX2_gives_141 : decode cX2_gives 141 = .ok (.iload 6, 2) := by decide +kernel
theorem dX2_gives_143 : decode cX2_gives 143 = .ok (.iconst 1, 1) := by decide +kernel
theorem dX2_gives_144 : decode cX2_gives 144 = .ok (.isub, 1) := by decide +kernel
theorem dX2_gives_145 : decode cX2_gives 145 = .ok (.iload 8, 2) := by decide +kernel
theorem dX2_gives_147 : decode cX2_gives 147 = .ok (.ineg, 1) := by decide +kernel
theorem dX2_gives_148 : decode cX2_gives 148 = .ok (.i2c, 1) := by decide +kernel
theorem dX2_gives_149 : decode cX2_gives 149 = .ok (.aload_n 0, 1) := by decide +kernel
theorem dX2_gives_150 : decode cX2_gives 150 = .ok (.getfield 17, 3) := by decide +kernel
theorem dX2_gives_153 : decode cX2_gives 153 = .ok (.iload 6, 2) := by decide +kernel
theorem dX2_gives_155 : decode cX2_gives 155 = .ok (.iconst 1, 1) := by decide +kernel
theorem dX2_gives_156 : decode cX2_gives 156 = .ok (.isub, 1) := by decide +kernel
theorem dX2_gives_157 : decode cX2_gives 157 = .ok (.iaload, 1) := by decide +kernel
theorem dX2_gives_158 : decode cX2_gives 158 = .ok (.aload_n 0, 1) := by decide +kernel
theorem dX2_gives_159 : decode cX2_gives 159 = .ok (.getfield 17, 3) := by decide +kernel
theorem dX2_gives_162 : decode cX2_gives 162 = .ok (.iload 6, 2) := by decide +kernel
theorem dX2_gives_164 : decode cX2_gives 164 = .ok (.iaload, 1) := by decide +kernel
theorem dX2_gives_165 : decode cX2_gives 165 = .ok (.invokestatic 30, 3) := by decide +kernel
theorem dX2_gives_168 : decode cX2_gives 168 = .ok (.iastore, 1) := by decide +kernel
theorem dX2_gives_169 : decode cX2_gives 169 = .ok (.iinc 7 1, 3) := by decide +kernel
theorem dX2_gives_172 : decode cX2_gives 172 = .ok (.goto (-158), 3) := by decide +kernel
theorem dX2_gives_175 : decode cX2_gives 175 = .ok (.aload_n 0, 1) := by decide +kernel
theorem dX2_gives_176 : decode cX2_gives 176 = .ok (.getfield 17, 3) := by decide +kernel
theorem dX2_gives_179 : decode cX2_gives 179 = .ok (.iconst 0, 1) := by decide +kernel
theorem dX2_gives_180 : decode cX2_gives 180 = .ok (.iaload, 1) := by decide +kernel
theorem dX2_gives_181 : decode cX2_gives 181 = .ok (.ireturn, 1) := by decide +kernel
theorem dX2_join_0 : decode cX2_join 0 = .ok (.iload_n 0, 1) := by decide +kernel
theorem dX2_join_1 : decode cX2_join 1 = .ok (.lookupswitch 148 #[(38, 89), (42, 144), (43, 136), (45, 140), (60, 103), (61, 114), (62, 125), (124, 75)], 75) := by decide +kernel
theorem dX2_join_76 : decode cX2_join 76 = .ok (.iload_n 1, 1) := by decide +kernel
theorem dX2_join_77 : decode cX2_join 77 = .ok (.ifCond .ne 7, 3) := by decide +kernel
theorem dX2_join_80 : decode cX2_join 80 = .ok (.iload_n 2, 1) := by decide +kernel
theorem dX2_join_81 : decode cX2_join 81 = .ok (.ifCond .eq 7, 3) := by decide +kernel
theorem dX2_join_84 : decode cX2_join 84 = .ok (.iconst 1, 1) := by decide +kernel
theorem dX2_join_85 : decode cX2_join 85 = .ok (.goto 4, 3) := by decide +kernel
theorem dX2_join_88 : decode cX2_join 88 = .ok (.iconst 0, 1) := by decide +kernel
theorem dX2_join_89 : decode cX2_join 89 = .ok (.ireturn, 1) := by decide +kernel
theorem dX2_join_90 : decode cX2_join 90 = .ok (.iload_n 1, 1) := by decide +kernel
theorem dX2_join_91 : decode cX2_join 91 = .ok (.ifCond .eq 11, 3) := by decide +kernel
theorem dX2_join_94 : decode cX2_join 94 = .ok (.iload_n 2, 1) := by decide +kernel
theorem dX2_join_95 : decode cX2_join 95 = .ok (.ifCond .eq 7, 3) := by decide +kernel
theorem dX2_join_98 : decode cX2_join 98 = .ok (.iconst 1, 1) := by decide +kernel
theorem dX2_join_99 : decode cX2_join 99 = .ok (.goto 4, 3) := by decide +kernel
theorem dX2_join_102 : decode cX2_join 102 = .ok (.iconst 0, 1) := by decide +kernel
theorem dX2_join_103 : decode cX2_join 103 = .ok (.ireturn, 1) := by decide +kernel
theorem dX2_join_104 : decode cX2_join 104 = .ok (.iload_n 1, 1) := by decide +kernel
theorem dX2_join_105 : decode cX2_join 105 = .ok (.iload_n 2, 1) := by decide +kernel
theorem dX2_join_106 : decode cX2_join 106 = .ok (.if_icmp .ge 7, 3) := by decide +kernel
theorem dX2_join_109 : decode cX2_join 109 = .ok (.iconst 1, 1) := by decide +kernel
theorem dX2_join_110 : decode cX2_join 110 = .ok (.goto 4, 3) := by decide +kernel
theorem dX2_join_113 : decode cX2_join 113 = .ok (.iconst 0, 1) := by decide +kernel
theorem dX2_join_114 : decode cX2_join 114 = .ok (.ireturn, 1) := by decide +kernel
theorem dX2_join_115 : decode cX2_join 115 = .ok (.iload_n 1, 1) := by decide +kernel
theorem dX2_join_116 : decode cX2_join 116 = .ok (.iload_n 2, 1) := by decide +kernel
theorem dX2_join_117 : decode cX2_join 117 = .ok (.if_icmp .ne 7, 3) := by decide +kernel
theorem dX2_join_120 : decode cX2_join 120 = .ok (.iconst 1, 1) := by decide +kernel
theorem dX2_join_121 : decode cX2_join 121 = .ok (.goto 4, 3) := by decide +kernel
theorem dX2_join_124 : decode cX2_join 124 = .ok (.iconst 0, 1) := by decide +kernel
theorem dX2_join_125 : decode cX2_join 125 = .ok (.ireturn, 1) := by decide +kernel
theorem dX2_join_126 : decode cX2_join 126 = .ok (.iload_n 1, 1) := by decide +kernel
theorem dX2_join_127 : decode cX2_join 127 = .ok (.iload_n 2, 1) := by decide +kernel
theorem dX2_join_128 : decode cX2_join 128 = .ok (.if_icmp .le 7, 3) := by decide +kernel
theorem dX2_join_131 : decode cX2_join 131 = .ok (.iconst 1, 1) := by decide +kernel
theorem dX2_join_132 : decode cX2_join 132 = .ok (.goto 4, 3) := by decide +kernel
theorem dX2_join_135 : decode cX2_join 135 = .ok (.iconst 0, 1) := by decide +kernel
theorem dX2_join_136 : decode cX2_join 136 = .ok (.ireturn, 1) := by decide +kernel
theorem dX2_join_137 : decode cX2_join 137 = .ok (.iload_n 1, 1) := by decide +kernel
theorem dX2_join_138 : decode cX2_join 138 = .ok (.iload_n 2, 1) := by decide +kernel
theorem dX2_join_139 : decode cX2_join 139 = .ok (.iadd, 1) := by decide +kernel
theorem dX2_join_140 : decode cX2_join 140 = .ok (.ireturn, 1) := by decide +kernel
theorem dX2_join_141 : decode cX2_join 141 = .ok (.iload_n 1, 1) := by decide +kernel
theorem dX2_join_142 : decode cX2_join 142 = .ok (.iload_n 2, 1) := by decide +kernel
theorem dX2_join_143 : decode cX2_join 143 = .ok (.isub, 1) := by decide +kernel
theorem dX2_join_144 : decode cX2_join 144 = .ok (.ireturn, 1) := by decide +kernel
theorem dX2_join_145 : decode cX2_join 145 = .ok (.iload_n 1, 1) := by decide +kernel
theorem dX2_join_146 : decode cX2_join 146 = .ok (.iload_n 2, 1) := by decide +kernel
theorem dX2_join_147 : decode cX2_join 147 = .ok (.imul, 1) := by decide +kernel
theorem dX2_join_148 : decode cX2_join 148 = .ok (.ireturn, 1) := by decide +kernel
theorem dX2_join_149 : decode cX2_join 149 = .ok (.iload_n 2, 1) := by decide +kernel
theorem dX2_join_150 : decode cX2_join 150 = .ok (.ifCond .ne 7, 3) := by decide +kernel
theorem dX2_join_153 : decode cX2_join 153 = .ok (.iconst 0, 1) := by decide +kernel
theorem dX2_join_154 : decode cX2_join 154 = .ok (.goto 6, 3) := by decide +kernel
theorem dX2_join_157 : decode cX2_join 157 = .ok (.iload_n 1, 1) := by decide +kernel
theorem dX2_join_158 : decode cX2_join 158 = .ok (.iload_n 2, 1) := by decide +kernel
theorem dX2_join_159 : decode cX2_join 159 = .ok (.idiv, 1) := by decide +kernel
theorem dX2_join_160 : decode cX2_join 160 = .ok (.ireturn, 1) := by decide +kernel
theorem dX3_init_0 : decode cX3_init 0 = .ok (.aload_n 0, 1) := by decide +kernel
theorem dX3_init_1 : decode cX3_init 1 = .ok (.invokespecial 3, 3) := by decide +kernel
theorem dX3_init_4 : decode cX3_init 4 = .ok (.return_, 1) := by decide +kernel
theorem dX3_comes_0 : decode cX3_comes 0 = .ok (.aload_n 0, 1) := by decide +kernel
theorem dX3_comes_1 : decode cX3_comes 1 = .ok (.iload_n 1, 1) := by decide +kernel
theorem dX3_comes_2 : decode cX3_comes 2 = .ok (.putfield 9, 3) := by decide +kernel
theorem dX3_comes_5 : decode cX3_comes 5 = .ok (.aload_n 0, 1) := by decide +kernel
theorem dX3_comes_6 : decode cX3_comes 6 = .ok (.iload_n 2, 1) := by decide +kernel
theorem dX3_comes_7 : decode cX3_comes 7 = .ok (.putfield 15, 3) := by decide +kernel
theorem dX3_comes_10 : decode cX3_comes 10 = .ok (.aload_n 0, 1) := by decide +kernel
theorem dX3_comes_11 : decode cX3_comes 11 = .ok (.iload_n 3, 1) := by decide +kernel
theorem dX3_comes_12 : decode cX3_comes 12 = .ok (.putfield 18, 3) := by decide +kernel
theorem dX3_comes_15 : decode cX3_comes 15 = .ok (.aload_n 0, 1) := by decide +kernel
theorem dX3_comes_16 : decode cX3_comes 16 = .ok (.iconst 0, 1) := by decide +kernel
theorem dX3_comes_17 : decode cX3_comes 17 = .ok (.putfield 21, 3) := by decide +kernel
theorem dX3_comes_20 : decode cX3_comes 20 = .ok (.aload_n 0, 1) := by decide +kernel
theorem dX3_comes_21 : decode cX3_comes 21 = .ok (.iconst (-1), 1) := by decide +kernel
theorem dX3_comes_22 : decode cX3_comes 22 = .ok (.putfield 24, 3) := by decide +kernel
theorem dX3_comes_25 : decode cX3_comes 25 = .ok (.return_, 1) := by decide +kernel
theorem dX3_becomes_0 : decode cX3_becomes 0 = .ok (.aload_n 0, 1) := by decide +kernel
theorem dX3_becomes_1 : decode cX3_becomes 1 = .ok (.aload_n 1, 1) := by decide +kernel
theorem dX3_becomes_2 : decode cX3_becomes 2 = .ok (.getfield 9, 3) := by decide +kernel
theorem dX3_becomes_5 : decode cX3_becomes 5 = .ok (.putfield 9, 3) := by decide +kernel
theorem dX3_becomes_8 : decode cX3_becomes 8 = .ok (.aload_n 0, 1) := by decide +kernel
theorem dX3_becomes_9 : decode cX3_becomes 9 = .ok (.aload_n 1, 1) := by decide +kernel
theorem dX3_becomes_10 : decode cX3_becomes 10 = .ok (.getfield 15, 3) := by decide +kernel
theorem dX3_becomes_13 : decode cX3_becomes 13 = .ok (.putfield 15, 3) := by decide +kernel
theorem dX3_becomes_16 : decode cX3_becomes 16 = .ok (.aload_n 0, 1) := by decide +kernel
theorem dX3_becomes_17 : decode cX3_becomes 17 = .ok (.aload_n 1, 1) := by decide +kernel
theorem dX3_becomes_18 : decode cX3_becomes 18 = .ok (.getfield 18, 3) := by decide +kernel
theorem dX3_becomes_21 : decode cX3_becomes 21 = .ok (.putfield 18, 3) := by decide +kernel
theorem dX3_becomes_24 : decode cX3_becomes 24 = .ok (.aload_n 0, 1) := by decide +kernel
theorem dX3_becomes_25 : decode cX3_becomes 25 = .ok (.aload_n 1, 1) := by decide +kernel
theorem dX3_becomes_26 : decode cX3_becomes 26 = .ok (.getfield 21, 3) := by decide +kernel
theorem dX3_becomes_29 : decode cX3_becomes 29 = .ok (.putfield 21, 3) := by decide +kernel
theorem dX3_becomes_32 : decode cX3_becomes 32 = .ok (.aload_n 0, 1) := by decide +kernel
theorem dX3_becomes_33 : decode cX3_becomes 33 = .ok (.aload_n 1, 1) := by decide +kernel
theorem dX3_becomes_34 : decode cX3_becomes 34 = .ok (.getfield 24, 3) := by decide +kernel
theorem dX3_becomes_37 : decode cX3_becomes 37 = .ok (.putfield 24, 3) := by decide +kernel
theorem dX3_becomes_40 : decode cX3_becomes 40 = .ok (.return_, 1) := by decide +kernel
theorem dX3_changeEast_0 : decode cX3_changeEast 0 = .ok (.aload_n 0, 1) := by decide +kernel
theorem dX3_changeEast_1 : decode cX3_changeEast 1 = .ok (.getfield 15, 3) := by decide +kernel
theorem dX3_changeEast_4 : decode cX3_changeEast 4 = .ok (.istore_n 2, 1) := by decide +kernel
theorem dX3_changeEast_5 : decode cX3_changeEast 5 = .ok (.aload_n 0, 1) := by decide +kernel
theorem dX3_changeEast_6 : decode cX3_changeEast 6 = .ok (.iload_n 1, 1) := by decide +kernel
theorem dX3_changeEast_7 : decode cX3_changeEast 7 = .ok (.putfield 15, 3) := by decide +kernel
theorem dX3_changeEast_10 : decode cX3_changeEast 10 = .ok (.iload_n 2, 1) := by decide +kernel
theorem dX3_changeEast_11 : decode cX3_changeEast 11 = .ok (.ireturn, 1) := by decide +kernel
theorem dX3_changeFaith_0 : decode cX3_changeFaith 0 = .ok (.aload_n 0, 1) := by decide +kernel
theorem dX3_changeFaith_1 : decode cX3_changeFaith 1 = .ok (.getfield 18, 3) := by decide +kernel
theorem dX3_changeFaith_4 : decode cX3_changeFaith 4 = .ok (.istore_n 2, 1) := by decide +kernel
theorem dX3_changeFaith_5 : decode cX3_changeFaith 5 = .ok (.aload_n 0, 1) := by decide +kernel
theorem dX3_changeFaith_6 : decode cX3_changeFaith 6 = .ok (.iload_n 1, 1) := by decide +kernel
theorem dX3_changeFaith_7 : decode cX3_changeFaith 7 = .ok (.putfield 18, 3) := by decide +kernel
theorem dX3_changeFaith_10 : decode cX3_changeFaith 10 = .ok (.iload_n 2, 1) := by decide +kernel
theorem dX3_changeFaith_11 : decode cX3_changeFaith 11 = .ok (.ireturn, 1) := by decide +kernel
theorem dX3_changePurse_0 : decode cX3_changePurse 0 = .ok (.aload_n 0, 1) := by decide +kernel
theorem dX3_changePurse_1 : decode cX3_changePurse 1 = .ok (.getfield 21, 3) := by decide +kernel
theorem dX3_changePurse_4 : decode cX3_changePurse 4 = .ok (.istore_n 2, 1) := by decide +kernel
theorem dX3_changePurse_5 : decode cX3_changePurse 5 = .ok (.aload_n 0, 1) := by decide +kernel
theorem dX3_changePurse_6 : decode cX3_changePurse 6 = .ok (.iload_n 1, 1) := by decide +kernel
theorem dX3_changePurse_7 : decode cX3_changePurse 7 = .ok (.putfield 21, 3) := by decide +kernel
theorem dX3_changePurse_10 : decode cX3_changePurse 10 = .ok (.iload_n 2, 1) := by decide +kernel
theorem dX3_changePurse_11 : decode cX3_changePurse 11 = .ok (.ireturn, 1) := by decide +kernel
theorem dX3_receive_0 : decode cX3_receive 0 = .ok (.aload_n 0, 1) := by decide +kernel
theorem dX3_receive_1 : decode cX3_receive 1 = .ok (.aload_n 0, 1) := by decide +kernel
theorem dX3_receive_2 : decode cX3_receive 2 = .ok (.getfield 21, 3) := by decide +kernel
theorem dX3_receive_5 : decode cX3_receive 5 = .ok (.iload_n 1, 1) := by decide +kernel
theorem dX3_receive_6 : decode cX3_receive 6 = .ok (.iadd, 1) := by decide +kernel
theorem dX3_receive_7 : decode cX3_receive 7 = .ok (.sipush (-9999), 3) := by decide +kernel
theorem dX3_receive_10 : decode cX3_receive 10 = .ok (.sipush 9999, 3) := by decide +kernel
theorem dX3_receive_13 : decode cX3_receive 13 = .ok (.invokestatic 27, 3) := by decide +kernel
theorem dX3_receive_16 : decode cX3_receive 16 = .ok (.putfield 21, 3) := by decide +kernel
theorem dX3_receive_19 : decode cX3_receive 19 = .ok (.return_, 1) := by decide +kernel
theorem dX3_isOf_0 : decode cX3_isOf 0 = .ok (.aload_n 0, 1) := by decide +kernel
theorem dX3_isOf_1 : decode cX3_isOf 1 = .ok (.getfield 9, 3) := by decide +kernel
theorem dX3_isOf_4 : decode cX3_isOf 4 = .ok (.istore_n 2, 1) := by decide +kernel
theorem dX3_isOf_5 : decode cX3_isOf 5 = .ok (.iconst 0, 1) := by decide +kernel
theorem dX3_isOf_6 : decode cX3_isOf 6 = .ok (.istore_n 3, 1) := by decide +kernel
theorem dX3_isOf_7 : decode cX3_isOf 7 = .ok (.iload_n 3, 1) := by decide +kernel
theorem dX3_isOf_8 : decode cX3_isOf 8 = .ok (.bipush 6, 2) := by decide +kernel
theorem dX3_isOf_10 : decode cX3_isOf 10 = .ok (.if_icmp .ge 26, 3) := by decide +kernel
theorem dX3_isOf_13 : decode cX3_isOf 13 = .ok (.iload_n 2, 1) := by decide +kernel
theorem dX3_isOf_14 : decode cX3_isOf 14 = .ok (.ifCond .lt 22, 3) := by decide +kernel
theorem dX3_isOf_17 : decode cX3_isOf 17 = .ok (.iload_n 2, 1) := by decide +kernel
theorem dX3_isOf_18 : decode cX3_isOf 18 = .ok (.iload_n 1, 1) := by decide +kernel
theorem dX3_isOf_19 : decode cX3_isOf 19 = .ok (.if_icmp .ne 5, 3) := by decide +kernel
theorem dX3_isOf_22 : decode cX3_isOf 22 = .ok (.iconst 1, 1) := by decide +kernel
theorem dX3_isOf_23 : decode cX3_isOf 23 = .ok (.ireturn, 1) := by decide +kernel
theorem dX3_isOf_24 : decode cX3_isOf 24 = .ok (.getstatic 31, 3) := by decide +kernel
theorem dX3_isOf_27 : decode cX3_isOf 27 = .ok (.iload_n 2, 1) := by decide +kernel
theorem dX3_isOf_28 : decode cX3_isOf 28 = .ok (.iaload, 1) := by decide +kernel
theorem dX3_isOf_29 : decode cX3_isOf 29 = .ok (.istore_n 2, 1) := by decide +kernel
theorem dX3_isOf_30 : decode cX3_isOf 30 = .ok (.iinc 3 1, 3) := by decide +kernel
theorem dX3_isOf_33 : decode cX3_isOf 33 = .ok (.goto (-26), 3) := by decide +kernel
theorem dX3_isOf_36 : decode cX3_isOf 36 = .ok (.iconst 0, 1) := by decide +kernel
theorem dX3_isOf_37 : decode cX3_isOf 37 = .ok (.ireturn, 1) := by decide +kernel
theorem dX3_noon_0 : decode cX3_noon 0 = .ok (.bipush 12, 2) := by decide +kernel
theorem dX3_noon_2 : decode cX3_noon 2 = .ok (.aload_n 0, 1) := by decide +kernel
theorem dX3_noon_3 : decode cX3_noon 3 = .ok (.getfield 15, 3) := by decide +kernel
theorem dX3_noon_6 : decode cX3_noon 6 = .ok (.iadd, 1) := by decide +kernel
theorem dX3_noon_7 : decode cX3_noon 7 = .ok (.getstatic 35, 3) := by decide +kernel
theorem dX3_noon_10 : decode cX3_noon 10 = .ok (.aload_n 0, 1) := by decide +kernel
theorem dX3_noon_11 : decode cX3_noon 11 = .ok (.getfield 9, 3) := by decide +kernel
theorem dX3_noon_14 : decode cX3_noon 14 = .ok (.iaload, 1) := by decide +kernel
theorem dX3_noon_15 : decode cX3_noon 15 = .ok (.iadd, 1) := by decide +kernel
theorem dX3_noon_16 : decode cX3_noon 16 = .ok (.bipush 24, 2) := by decide +kernel
theorem dX3_noon_18 : decode cX3_noon 18 = .ok (.irem, 1) := by decide +kernel
theorem dX3_noon_19 : decode cX3_noon 19 = .ok (.ireturn, 1) := by decide +kernel
theorem dX3_pays_0 : decode cX3_pays 0 = .ok (.getstatic 38, 3) := by decide +kernel
theorem dX3_pays_3 : decode cX3_pays 3 = .ok (.aload_n 0, 1) := by decide +kernel
theorem dX3_pays_4 : decode cX3_pays 4 = .ok (.getfield 9, 3) := by decide +kernel
theorem dX3_pays_7 : decode cX3_pays 7 = .ok (.iaload, 1) := by decide +kernel
theorem dX3_pays_8 : decode cX3_pays 8 = .ok (.ireturn, 1) := by decide +kernel
theorem dX3_worth_0 : decode cX3_worth 0 = .ok (.aload_n 0, 1) := by decide +kernel
theorem dX3_worth_1 : decode cX3_worth 1 = .ok (.getfield 9, 3) := by decide +kernel
theorem dX3_worth_4 : decode cX3_worth 4 = .ok (.tableswitch 74 1 5 #[36, 54, 44, 62, 72], 36) := by decide +kernel
theorem dX3_worth_40 : decode cX3_worth 40 = .ok (.aload_n 0, 1) := by decide +kernel
theorem dX3_worth_41 : decode cX3_worth 41 = .ok (.getfield 18, 3) := by decide +kernel
theorem dX3_worth_44 : decode cX3_worth 44 = .ok (.bipush 6, 2) := by decide +kernel
theorem dX3_worth_46 : decode cX3_worth 46 = .ok (.iadd, 1) := by decide +kernel
theorem dX3_worth_47 : decode cX3_worth 47 = .ok (.ireturn, 1) := by decide +kernel
theorem dX3_worth_48 : decode cX3_worth 48 = .ok (.iconst 2, 1) := by decide +kernel
theorem dX3_worth_49 : decode cX3_worth 49 = .ok (.aload_n 0, 1) := by decide +kernel
theorem dX3_worth_50 : decode cX3_worth 50 = .ok (.getfield 18, 3) := by decide +kernel
theorem dX3_worth_53 : decode cX3_worth 53 = .ok (.bipush 6, 2) := by decide +kernel
theorem dX3_worth_55 : decode cX3_worth 55 = .ok (.iadd, 1) := by decide +kernel
theorem dX3_worth_56 : decode cX3_worth 56 = .ok (.imul, 1) := by decide +kernel
theorem dX3_worth_57 : decode cX3_worth 57 = .ok (.ireturn, 1) := by decide +kernel
theorem dX3_worth_58 : decode cX3_worth 58 = .ok (.bipush 99, 2) := by decide +kernel
theorem dX3_worth_60 : decode cX3_worth 60 = .ok (.aload_n 0, 1) := by decide +kernel
theorem dX3_worth_61 : decode cX3_worth 61 = .ok (.getfield 18, 3) := by decide +kernel
theorem dX3_worth_64 : decode cX3_worth 64 = .ok (.isub, 1) := by decide +kernel
theorem dX3_worth_65 : decode cX3_worth 65 = .ok (.ireturn, 1) := by decide +kernel
theorem dX3_worth_66 : decode cX3_worth 66 = .ok (.bipush 99, 2) := by decide +kernel
theorem dX3_worth_68 : decode cX3_worth 68 = .ok (.aload_n 0, 1) := by decide +kernel
theorem dX3_worth_69 : decode cX3_worth 69 = .ok (.getfield 18, 3) := by decide +kernel
theorem dX3_worth_72 : decode cX3_worth 72 = .ok (.isub, 1) := by decide +kernel
theorem dX3_worth_73 : decode cX3_worth 73 = .ok (.iconst 5, 1) := by decide +kernel
theorem dX3_worth_74 : decode cX3_worth 74 = .ok (.isub, 1) := by decide +kernel
theorem dX3_worth_75 : decode cX3_worth 75 = .ok (.ireturn, 1) := by decide +kernel
theorem dX3_worth_76 : decode cX3_worth 76 = .ok (.iconst 1, 1) := by decide +kernel
theorem dX3_worth_77 : decode cX3_worth 77 = .ok (.ireturn, 1) := by decide +kernel
theorem dX3_worth_78 : decode cX3_worth 78 = .ok (.aload_n 0, 1) := by decide +kernel
theorem dX3_worth_79 : decode cX3_worth 79 = .ok (.getfield 18, 3) := by decide +kernel
theorem dX3_worth_82 : decode cX3_worth 82 = .ok (.ireturn, 1) := by decide +kernel
theorem dX3_keepsFrom_0 : decode cX3_keepsFrom 0 = .ok (.bipush 100, 2) := by decide +kernel
theorem dX3_keepsFrom_2 : decode cX3_keepsFrom 2 = .ok (.iload_n 1, 1) := by decide +kernel
theorem dX3_keepsFrom_3 : decode cX3_keepsFrom 3 = .ok (.bipush 10, 2) := by decide +kernel
theorem dX3_keepsFrom_5 : decode cX3_keepsFrom 5 = .ok (.iadd, 1) := by decide +kernel
theorem dX3_keepsFrom_6 : decode cX3_keepsFrom 6 = .ok (.invokestatic 41, 3) := by decide +kernel
theorem dX3_keepsFrom_9 : decode cX3_keepsFrom 9 = .ok (.istore_n 2, 1) := by decide +kernel
theorem dX3_keepsFrom_10 : decode cX3_keepsFrom 10 = .ok (.iconst 0, 1) := by decide +kernel
theorem dX3_keepsFrom_11 : decode cX3_keepsFrom 11 = .ok (.iload_n 1, 1) := by decide +kernel
theorem dX3_keepsFrom_12 : decode cX3_keepsFrom 12 = .ok (.bipush 20, 2) := by decide +kernel
theorem dX3_keepsFrom_14 : decode cX3_keepsFrom 14 = .ok (.isub, 1) := by decide +kernel
theorem dX3_keepsFrom_15 : decode cX3_keepsFrom 15 = .ok (.invokestatic 47, 3) := by decide +kernel
theorem dX3_keepsFrom_18 : decode cX3_keepsFrom 18 = .ok (.istore_n 3, 1) := by decide +kernel
theorem dX3_keepsFrom_19 : decode cX3_keepsFrom 19 = .ok (.aload_n 0, 1) := by decide +kernel
theorem dX3_keepsFrom_20 : decode cX3_keepsFrom 20 = .ok (.getfield 9, 3) := by decide +kernel
theorem dX3_keepsFrom_23 : decode cX3_keepsFrom 23 = .ok (.tableswitch 53 1 5 #[33, 39, 35, 41, 51], 33) := by decide +kernel
theorem dX3_keepsFrom_56 : decode cX3_keepsFrom 56 = .ok (.iload_n 2, 1) := by decide +kernel
theorem dX3_keepsFrom_57 : decode cX3_keepsFrom 57 = .ok (.ireturn, 1) := by decide +kernel
theorem dX3_keepsFrom_58 : decode cX3_keepsFrom 58 = .ok (.iload_n 2, 1) := by decide +kernel
theorem dX3_keepsFrom_59 : decode cX3_keepsFrom 59 = .ok (.iconst 2, 1) := by decide +kernel
theorem dX3_keepsFrom_60 : decode cX3_keepsFrom 60 = .ok (.idiv, 1) := by decide +kernel
theorem dX3_keepsFrom_61 : decode cX3_keepsFrom 61 = .ok (.ireturn, 1) := by decide +kernel
theorem dX3_keepsFrom_62 : decode cX3_keepsFrom 62 = .ok (.iload_n 3, 1) := by decide +kernel
theorem dX3_keepsFrom_63 : decode cX3_keepsFrom 63 = .ok (.ireturn, 1) := by decide +kernel
theorem dX3_keepsFrom_64 : decode cX3_keepsFrom 64 = .ok (.bipush 100, 2) := by decide +kernel
theorem dX3_keepsFrom_66 : decode cX3_keepsFrom 66 = .ok (.iload_n 3, 1) := by decide +kernel
theorem dX3_keepsFrom_67 : decode cX3_keepsFrom 67 = .ok (.bipush 30, 2) := by decide +kernel
theorem dX3_keepsFrom_69 : decode cX3_keepsFrom 69 = .ok (.iadd, 1) := by decide +kernel
theorem dX3_keepsFrom_70 : decode cX3_keepsFrom 70 = .ok (.invokestatic 41, 3) := by decide +kernel
theorem dX3_keepsFrom_73 : decode cX3_keepsFrom 73 = .ok (.ireturn, 1) := by decide +kernel
theorem dX3_keepsFrom_74 : decode cX3_keepsFrom 74 = .ok (.iconst 0, 1) := by decide +kernel
theorem dX3_keepsFrom_75 : decode cX3_keepsFrom 75 = .ok (.ireturn, 1) := by decide +kernel
theorem dX3_keepsFrom_76 : decode cX3_keepsFrom 76 = .ok (.iload_n 1, 1) := by decide +kernel
theorem dX3_keepsFrom_77 : decode cX3_keepsFrom 77 = .ok (.ireturn, 1) := by decide +kernel
theorem dX4_init_0 : decode cX4_init 0 = .ok (.aload_n 0, 1) := by decide +kernel
theorem dX4_init_1 : decode cX4_init 1 = .ok (.invokespecial 3, 3) := by decide +kernel
theorem dX4_init_4 : decode cX4_init 4 = .ok (.aload_n 0, 1) := by decide +kernel
theorem dX4_init_5 : decode cX4_init 5 = .ok (.aload_n 1, 1) := by decide +kernel
theorem dX4_init_6 : decode cX4_init 6 = .ok (.putfield 9, 3) := by decide +kernel
theorem dX4_init_9 : decode cX4_init 9 = .ok (.return_, 1) := by decide +kernel
theorem dX4_readsText_0 : decode cX4_readsText 0 = .ok (.aload_n 0, 1) := by decide +kernel
theorem dX4_readsText_1 : decode cX4_readsText 1 = .ok (.iload_n 1, 1) := by decide +kernel
theorem dX4_readsText_2 : decode cX4_readsText 2 = .ok (.putfield 15, 3) := by decide +kernel
theorem dX4_readsText_5 : decode cX4_readsText 5 = .ok (.aload_n 0, 1) := by decide +kernel
theorem dX4_readsText_6 : decode cX4_readsText 6 = .ok (.aload_n 2, 1) := by decide +kernel
theorem dX4_readsText_7 : decode cX4_readsText 7 = .ok (.putfield 19, 3) := by decide +kernel
theorem dX4_readsText_10 : decode cX4_readsText 10 = .ok (.aload_n 0, 1) := by decide +kernel
theorem dX4_readsText_11 : decode cX4_readsText 11 = .ok (.getfield 19, 3) := by decide +kernel
theorem dX4_readsText_14 : decode cX4_readsText 14 = .ok (.invokevirtual 23, 3) := by decide +kernel
theorem dX4_readsText_17 : decode cX4_readsText 17 = .ok (.aload_n 0, 1) := by decide +kernel
theorem dX4_readsText_18 : decode cX4_readsText 18 = .ok (.iconst 0, 1) := by decide +kernel
theorem dX4_readsText_19 : decode cX4_readsText 19 = .ok (.putfield 28, 3) := by decide +kernel
theorem dX4_readsText_22 : decode cX4_readsText 22 = .ok (.aload_n 0, 1) := by decide +kernel
theorem dX4_readsText_23 : decode cX4_readsText 23 = .ok (.iconst 0, 1) := by decide +kernel
theorem dX4_readsText_24 : decode cX4_readsText 24 = .ok (.putfield 31, 3) := by decide +kernel
theorem dX4_readsText_27 : decode cX4_readsText 27 = .ok (.aload_n 0, 1) := by decide +kernel
theorem dX4_readsText_28 : decode cX4_readsText 28 = .ok (.invokevirtual 34, 3) := by decide +kernel
theorem dX4_readsText_31 : decode cX4_readsText 31 = .ok (.aload_n 0, 1) := by decide +kernel
theorem dX4_readsText_32 : decode cX4_readsText 32 = .ok (.getfield 19, 3) := by decide +kernel
theorem dX4_readsText_35 : decode cX4_readsText 35 = .ok (.aload_n 0, 1) := by decide +kernel
theorem dX4_readsText_36 : decode cX4_readsText 36 = .ok (.invokevirtual 37, 3) := by decide +kernel
theorem dX4_readsText_39 : decode cX4_readsText 39 = .ok (.putfield 41, 3) := by decide +kernel
theorem dX4_readsText_42 : decode cX4_readsText 42 = .ok (.aload_n 0, 1) := by decide +kernel
theorem dX4_readsText_43 : decode cX4_readsText 43 = .ok (.getfield 19, 3) := by decide +kernel
theorem dX4_readsText_46 : decode cX4_readsText 46 = .ok (.getfield 41, 3) := by decide +kernel
theorem dX4_readsText_49 : decode cX4_readsText 49 = .ok (.ifCond .ge 5, 3) := by decide +kernel
theorem dX4_readsText_52 : decode cX4_readsText 52 = .ok (.iconst 0, 1) := by decide +kernel
theorem dX4_readsText_53 : decode cX4_readsText 53 = .ok (.ireturn, 1) := by decide +kernel
theorem dX4_readsText_54 : decode cX4_readsText 54 = .ok (.aload_n 0, 1) := by decide +kernel
theorem dX4_readsText_55 : decode cX4_readsText 55 = .ok (.invokevirtual 34, 3) := by decide +kernel
theorem dX4_readsText_58 : decode cX4_readsText 58 = .ok (.aload_n 0, 1) := by decide +kernel
theorem dX4_readsText_59 : decode cX4_readsText 59 = .ok (.iconst 0, 1) := by decide +kernel
theorem dX4_readsText_60 : decode cX4_readsText 60 = .ok (.iconst 0, 1) := by decide +kernel
theorem dX4_readsText_61 : decode cX4_readsText 61 = .ok (.iconst 0, 1) := by decide +kernel
theorem dX4_readsText_62 : decode cX4_readsText 62 = .ok (.invokevirtual 44, 3) := by decide +kernel
theorem dX4_readsText_65 : decode cX4_readsText 65 = .ok (.ifCond .eq 14, 3) := by decide +kernel
theorem dX4_readsText_68 : decode cX4_readsText 68 = .ok (.aload_n 0, 1) := by decide +kernel
theorem dX4_readsText_69 : decode cX4_readsText 69 = .ok (.getfield 28, 3) := by decide +kernel
theorem dX4_readsText_72 : decode cX4_readsText 72 = .ok (.ifCond .ne 7, 3) := by decide +kernel
theorem dX4_readsText_75 : decode cX4_readsText 75 = .ok (.iconst 1, 1) := by decide +kernel
theorem dX4_readsText_76 : decode cX4_readsText 76 = .ok (.goto 4, 3) := by decide +kernel
theorem dX4_readsText_79 : decode cX4_readsText 79 = .ok (.iconst 0, 1) := by decide +kernel
theorem dX4_readsText_80 : decode cX4_readsText 80 = .ok (.ireturn, 1) := by decide +kernel
theorem dX4_keyHere_0 : decode cX4_keyHere 0 = .ok (.aload_n 0, 1) := by decide +kernel
theorem dX4_keyHere_1 : decode cX4_keyHere 1 = .ok (.ldc 48, 2) := by decide +kernel
theorem dX4_keyHere_3 : decode cX4_keyHere 3 = .ok (.invokevirtual 50, 3) := by decide +kernel
theorem dX4_keyHere_6 : decode cX4_keyHere 6 = .ok (.ifCond .eq 5, 3) := by decide +kernel
theorem dX4_keyHere_9 : decode cX4_keyHere 9 = .ok (.iconst 0, 1) := by decide +kernel
theorem dX4_keyHere_10 : decode cX4_keyHere 10 = .ok (.ireturn, 1) := by decide +kernel
theorem dX4_keyHere_11 : decode cX4_keyHere 11 = .ok (.aload_n 0, 1) := by decide +kernel
theorem dX4_keyHere_12 : decode cX4_keyHere 12 = .ok (.ldc 54, 2) := by decide +kernel
theorem dX4_keyHere_14 : decode cX4_keyHere 14 = .ok (.invokevirtual 50, 3) := by decide +kernel
theorem dX4_keyHere_17 : decode cX4_keyHere 17 = .ok (.ifCond .eq 5, 3) := by decide +kernel
theorem dX4_keyHere_20 : decode cX4_keyHere 20 = .ok (.iconst 1, 1) := by decide +kernel
theorem dX4_keyHere_21 : decode cX4_keyHere 21 = .ok (.ireturn, 1) := by decide +kernel
theorem dX4_keyHere_22 : decode cX4_keyHere 22 = .ok (.aload_n 0, 1) := by decide +kernel
theorem dX4_keyHere_23 : decode cX4_keyHere 23 = .ok (.ldc 56, 2) := by decide +kernel
theorem dX4_keyHere_25 : decode cX4_keyHere 25 = .ok (.invokevirtual 50, 3) := by decide +kernel
theorem dX4_keyHere_28 : decode cX4_keyHere 28 = .ok (.ifCond .eq 7, 3) := by decide +kernel
theorem dX4_keyHere_31 : decode cX4_keyHere 31 = .ok (.iconst 2, 1) := by decide +kernel
theorem dX4_keyHere_32 : decode cX4_keyHere 32 = .ok (.goto 4, 3) := by decide +kernel
theorem dX4_keyHere_35 : decode cX4_keyHere 35 = .ok (.iconst (-1), 1) := by decide +kernel
theorem dX4_keyHere_36 : decode cX4_keyHere 36 = .ok (.ireturn, 1) := by decide +kernel
theorem dX4_isWordHere_0 : decode cX4_isWordHere 0 = .ok (.aload_n 0, 1) := by decide +kernel
theorem dX4_isWordHere_1 : decode cX4_isWordHere 1 = .ok (.getfield 28, 3) := by decide +kernel
theorem dX4_isWordHere_4 : decode cX4_isWordHere 4 = .ok (.iconst 1, 1) := by decide +kernel
theorem dX4_isWordHere_5 : decode cX4_isWordHere 5 = .ok (.if_icmp .ne 19, 3) := by decide +kernel
theorem dX4_isWordHere_8 : decode cX4_isWordHere 8 = .ok (.aload_n 0, 1) := by decide +kernel
theorem dX4_isWordHere_9 : decode cX4_isWordHere 9 = .ok (.getfield 31, 3) := by decide +kernel
theorem dX4_isWordHere_12 : decode cX4_isWordHere 12 = .ok (.aload_n 0, 1) := by decide +kernel
theorem dX4_isWordHere_13 : decode cX4_isWordHere 13 = .ok (.getfield 58, 3) := by decide +kernel
theorem dX4_isWordHere_16 : decode cX4_isWordHere 16 = .ok (.isub, 1) := by decide +kernel
theorem dX4_isWordHere_17 : decode cX4_isWordHere 17 = .ok (.aload_n 1, 1) := by decide +kernel
theorem dX4_isWordHere_18 : decode cX4_isWordHere 18 = .ok (.invokevirtual 61, 3) := by decide +kernel
theorem dX4_isWordHere_21 : decode cX4_isWordHere 21 = .ok (.if_icmp .eq 5, 3) := by decide +kernel
theorem dX4_isWordHere_24 : decode cX4_isWordHere 24 = .ok (.iconst 0, 1) := by decide +kernel
theorem dX4_isWordHere_25 : decode cX4_isWordHere 25 = .ok (.ireturn, 1) := by decide +kernel
theorem dX4_isWordHere_26 : decode cX4_isWordHere 26 = .ok (.iconst 0, 1) := by decide +kernel
theorem dX4_isWordHere_27 : decode cX4_isWordHere 27 = .ok (.istore_n 2, 1) := by decide +kernel
theorem dX4_isWordHere_28 : decode cX4_isWordHere 28 = .ok (.iload_n 2, 1) := by decide +kernel
theorem dX4_isWordHere_29 : decode cX4_isWordHere 29 = .ok (.aload_n 1, 1) := by decide +kernel
theorem dX4_isWordHere_30 : decode cX4_isWordHere 30 = .ok (.invokevirtual 61, 3) := by decide +kernel
theorem dX4_isWordHere_33 : decode cX4_isWordHere 33 = .ok (.if_icmp .ge 30, 3) := by decide +kernel
theorem dX4_isWordHere_36 : decode cX4_isWordHere 36 = .ok (.aload_n 0, 1) := by decide +kernel
theorem dX4_isWordHere_37 : decode cX4_isWordHere 37 = .ok (.getfield 9, 3) := by decide +kernel
theorem dX4_isWordHere_40 : decode cX4_isWordHere 40 = .ok (.aload_n 0, 1) := by decide +kernel
theorem dX4_isWordHere_41 : decode cX4_isWordHere 41 = .ok (.getfield 58, 3) := by decide +kernel
theorem dX4_isWordHere_44 : decode cX4_isWordHere 44 = .ok (.iload_n 2, 1) := by decide +kernel
theorem dX4_isWordHere_45 : decode cX4_isWordHere 45 = .ok (.iadd, 1) := by decide +kernel
theorem dX4_isWordHere_46 : decode cX4_isWordHere 46 = .ok (.baload, 1) := by decide +kernel
theorem dX4_isWordHere_47 : decode cX4_isWordHere 47 = .ok (.aload_n 1, 1) := by decide +kernel
theorem dX4_isWordHere_48 : decode cX4_isWordHere 48 = .ok (.iload_n 2, 1) := by decide +kernel
theorem dX4_isWordHere_49 : decode cX4_isWordHere 49 = .ok (.invokevirtual 65, 3) := by decide +kernel
theorem dX4_isWordHere_52 : decode cX4_isWordHere 52 = .ok (.if_icmp .eq 5, 3) := by decide +kernel
theorem dX4_isWordHere_55 : decode cX4_isWordHere 55 = .ok (.iconst 0, 1) := by decide +kernel
theorem dX4_isWordHere_56 : decode cX4_isWordHere 56 = .ok (.ireturn, 1) := by decide +kernel
theorem dX4_isWordHere_57 : decode cX4_isWordHere 57 = .ok (.iinc 2 1, 3) := by decide +kernel
theorem dX4_isWordHere_60 : decode cX4_isWordHere 60 = .ok (.goto (-32), 3) := by decide +kernel
theorem dX4_isWordHere_63 : decode cX4_isWordHere 63 = .ok (.iconst 1, 1) := by decide +kernel
theorem dX4_isWordHere_64 : decode cX4_isWordHere 64 = .ok (.ireturn, 1) := by decide +kernel
theorem dX4_namesOf_0 : decode cX4_namesOf 0 = .ok (.iload_n 0, 1) := by decide +kernel
theorem dX4_namesOf_1 : decode cX4_namesOf 1 = .ok (.lookupswitch 33 #[(0, 27), (1, 30)], 27) := by decide +kernel
theorem dX4_namesOf_28 : decode cX4_namesOf 28 = .ok (.ldc 69, 2) := by decide +kernel
theorem dX4_namesOf_30 : decode cX4_namesOf 30 = .ok (.areturn, 1) := by decide +kernel
theorem dX4_namesOf_31 : decode cX4_namesOf 31 = .ok (.ldc 71, 2) := by decide +kernel
theorem dX4_namesOf_33 : decode cX4_namesOf 33 = .ok (.areturn, 1) := by decide +kernel
theorem dX4_namesOf_34 : decode cX4_namesOf 34 = .ok (.ldc 73, 2) := by decide +kernel
theorem dX4_namesOf_36 : decode cX4_namesOf 36 = .ok (.areturn, 1) := by decide +kernel
theorem dX4_signsOf_0 : decode cX4_signsOf 0 = .ok (.iload_n 0, 1) := by decide +kernel
theorem dX4_signsOf_1 : decode cX4_signsOf 1 = .ok (.tableswitch 43 0 3 #[31, 34, 37, 40], 31) := by decide +kernel
theorem dX4_signsOf_32 : decode cX4_signsOf 32 = .ok (.ldc 75, 2) := by decide +kernel
theorem dX4_signsOf_34 : decode cX4_signsOf 34 = .ok (.areturn, 1) := by decide +kernel
theorem dX4_signsOf_35 : decode cX4_signsOf 35 = .ok (.ldc 77, 2) := by decide +kernel
theorem dX4_signsOf_37 : decode cX4_signsOf 37 = .ok (.areturn, 1) := by decide +kernel
theorem dX4_signsOf_38 : decode cX4_signsOf 38 = .ok (.ldc 79, 2) := by decide +kernel
theorem dX4_signsOf_40 : decode cX4_signsOf 40 = .ok (.areturn, 1) := by decide +kernel
theorem dX4_signsOf_41 : decode cX4_signsOf 41 = .ok (.ldc 81, 2) := by decide +kernel
theorem dX4_signsOf_43 : decode cX4_signsOf 43 = .ok (.areturn, 1) := by decide +kernel
theorem dX4_signsOf_44 : decode cX4_signsOf 44 = .ok (.ldc 83, 2) := by decide +kernel
theorem dX4_signsOf_46 : decode cX4_signsOf 46 = .ok (.areturn, 1) := by decide +kernel
theorem dX4_readsLevel_0 : decode cX4_readsLevel 0 = .ok (.iload_n 1, 1) := by decide +kernel
theorem dX4_readsLevel_1 : decode cX4_readsLevel 1 = .ok (.iconst 5, 1) := by decide +kernel
theorem dX4_readsLevel_2 : decode cX4_readsLevel 2 = .ok (.if_icmp .lt 10, 3) := by decide +kernel
theorem dX4_readsLevel_5 : decode cX4_readsLevel 5 = .ok (.aload_n 0, 1) := by decide +kernel
theorem dX4_readsLevel_6 : decode cX4_readsLevel 6 = .ok (.iload_n 2, 1) := by decide +kernel
theorem dX4_readsLevel_7 : decode cX4_readsLevel 7 = .ok (.iload_n 3, 1) := by decide +kernel
theorem dX4_readsLevel_8 : decode cX4_readsLevel 8 = .ok (.invokevirtual 85, 3) := by decide +kernel
theorem dX4_readsLevel_11 : decode cX4_readsLevel 11 = .ok (.ireturn, 1) := by decide +kernel
theorem dX4_readsLevel_12 : decode cX4_readsLevel 12 = .ok (.aload_n 0, 1) := by decide +kernel
theorem dX4_readsLevel_13 : decode cX4_readsLevel 13 = .ok (.iload_n 1, 1) := by decide +kernel
theorem dX4_readsLevel_14 : decode cX4_readsLevel 14 = .ok (.iconst 1, 1) := by decide +kernel
theorem dX4_readsLevel_15 : decode cX4_readsLevel 15 = .ok (.iadd, 1) := by decide +kernel
theorem dX4_readsLevel_16 : decode cX4_readsLevel 16 = .ok (.iload_n 2, 1) := by decide +kernel
theorem dX4_readsLevel_17 : decode cX4_readsLevel 17 = .ok (.iload_n 3, 1) := by decide +kernel
theorem dX4_readsLevel_18 : decode cX4_readsLevel 18 = .ok (.invokevirtual 44, 3) := by decide +kernel
theorem dX4_readsLevel_21 : decode cX4_readsLevel 21 = .ok (.ifCond .ne 5, 3) := by decide +kernel
theorem dX4_readsLevel_24 : decode cX4_readsLevel 24 = .ok (.iconst 0, 1) := by decide +kernel
theorem dX4_readsLevel_25 : decode cX4_readsLevel 25 = .ok (.ireturn, 1) := by decide +kernel
theorem dX4_readsLevel_26 : decode cX4_readsLevel 26 = .ok (.iload_n 1, 1) := by decide +kernel
theorem dX4_readsLevel_27 : decode cX4_readsLevel 27 = .ok (.iconst 2, 1) := by decide +kernel
theorem dX4_readsLevel_28 : decode cX4_readsLevel 28 = .ok (.if_icmp .ne 7, 3) := by decide +kernel
theorem dX4_readsLevel_31 : decode cX4_readsLevel 31 = .ok (.iconst 1, 1) := by decide +kernel
theorem dX4_readsLevel_32 : decode cX4_readsLevel 32 = .ok (.goto 5, 3) := by decide +kernel
theorem dX4_readsLevel_35 : decode cX4_readsLevel 35 = .ok (.bipush 96, 2) := by decide +kernel
theorem dX4_readsLevel_37 : decode cX4_readsLevel 37 = .ok (.istore 4, 2) := by decide +kernel
theorem dX4_readsLevel_39 : decode cX4_readsLevel 39 = .ok (.iconst 0, 1) := by decide +kernel
theorem dX4_readsLevel_40 : decode cX4_readsLevel 40 = .ok (.istore 5, 2) := by decide +kernel
theorem dX4_readsLevel_42 : decode cX4_readsLevel 42 = .ok (.iload 5, 2) := by decide +kernel
theorem dX4_readsLevel_44 : decode cX4_readsLevel 44 = .ok (.iload 4, 2) := by decide +kernel
theorem dX4_readsLevel_46 : decode cX4_readsLevel 46 = .ok (.if_icmp .ge 64, 3) := by decide +kernel
theorem dX4_readsLevel_49 : decode cX4_readsLevel 49 = .ok (.aload_n 0, 1) := by decide +kernel
theorem dX4_readsLevel_50 : decode cX4_readsLevel 50 = .ok (.getfield 28, 3) := by decide +kernel
theorem dX4_readsLevel_53 : decode cX4_readsLevel 53 = .ok (.iconst 3, 1) := by decide +kernel
theorem dX4_readsLevel_54 : decode cX4_readsLevel 54 = .ok (.if_icmp .ne 56, 3) := by decide +kernel
theorem dX4_readsLevel_57 : decode cX4_readsLevel 57 = .ok (.iload_n 1, 1) := by decide +kernel
theorem dX4_readsLevel_58 : decode cX4_readsLevel 58 = .ok (.invokestatic 89, 3) := by decide +kernel
theorem dX4_readsLevel_61 : decode cX4_readsLevel 61 = .ok (.aload_n 0, 1) := by decide +kernel
theorem dX4_readsLevel_62 : decode cX4_readsLevel 62 = .ok (.invokevirtual 93, 3) := by decide +kernel
theorem dX4_readsLevel_65 : decode cX4_readsLevel 65 = .ok (.invokevirtual 97, 3) := by decide +kernel
theorem dX4_readsLevel_68 : decode cX4_readsLevel 68 = .ok (.ifCond .lt 42, 3) := by decide +kernel
theorem dX4_readsLevel_71 : decode cX4_readsLevel 71 = .ok (.aload_n 0, 1) := by decide +kernel
theorem dX4_readsLevel_72 : decode cX4_readsLevel 72 = .ok (.invokevirtual 93, 3) := by decide +kernel
theorem dX4_readsLevel_75 : decode cX4_readsLevel 75 = .ok (.istore 6, 2) := by decide +kernel
theorem dX4_readsLevel_77 : decode cX4_readsLevel 77 = .ok (.aload_n 0, 1) := by decide +kernel
theorem dX4_readsLevel_78 : decode cX4_readsLevel 78 = .ok (.invokevirtual 34, 3) := by decide +kernel
theorem dX4_readsLevel_81 : decode cX4_readsLevel 81 = .ok (.aload_n 0, 1) := by decide +kernel
theorem dX4_readsLevel_82 : decode cX4_readsLevel 82 = .ok (.iload_n 1, 1) := by decide +kernel
theorem dX4_readsLevel_83 : decode cX4_readsLevel 83 = .ok (.iconst 1, 1) := by decide +kernel
theorem dX4_readsLevel_84 : decode cX4_readsLevel 84 = .ok (.iadd, 1) := by decide +kernel
theorem dX4_readsLevel_85 : decode cX4_readsLevel 85 = .ok (.iload_n 2, 1) := by decide +kernel
theorem dX4_readsLevel_86 : decode cX4_readsLevel 86 = .ok (.iload_n 3, 1) := by decide +kernel
theorem dX4_readsLevel_87 : decode cX4_readsLevel 87 = .ok (.invokevirtual 44, 3) := by decide +kernel
theorem dX4_readsLevel_90 : decode cX4_readsLevel 90 = .ok (.ifCond .ne 5, 3) := by decide +kernel
theorem dX4_readsLevel_93 : decode cX4_readsLevel 93 = .ok (.iconst 0, 1) := by decide +kernel
theorem dX4_readsLevel_94 : decode cX4_readsLevel 94 = .ok (.ireturn, 1) := by decide +kernel
theorem dX4_readsLevel_95 : decode cX4_readsLevel 95 = .ok (.aload_n 0, 1) := by decide +kernel
theorem dX4_readsLevel_96 : decode cX4_readsLevel 96 = .ok (.getfield 19, 3) := by decide +kernel
theorem dX4_readsLevel_99 : decode cX4_readsLevel 99 = .ok (.iload 6, 2) := by decide +kernel
theorem dX4_readsLevel_101 : decode cX4_readsLevel 101 = .ok (.invokevirtual 101, 3) := by decide +kernel
theorem dX4_readsLevel_104 : decode cX4_readsLevel 104 = .ok (.iinc 5 1, 3) := by decide +kernel
theorem dX4_readsLevel_107 : decode cX4_readsLevel 107 = .ok (.goto (-65), 3) := by decide +kernel
theorem dX4_readsLevel_110 : decode cX4_readsLevel 110 = .ok (.iconst 1, 1) := by decide +kernel
theorem dX4_readsLevel_111 : decode cX4_readsLevel 111 = .ok (.ireturn, 1) := by decide +kernel
theorem dX4_readsPiece_0 : decode cX4_readsPiece 0 = .ok (.aload_n 0, 1) := by decide +kernel
theorem dX4_readsPiece_1 : decode cX4_readsPiece 1 = .ok (.getfield 28, 3) := by decide +kernel
theorem dX4_readsPiece_4 : decode cX4_readsPiece 4 = .ok (.iconst 2, 1) := by decide +kernel
theorem dX4_readsPiece_5 : decode cX4_readsPiece 5 = .ok (.if_icmp .ne 20, 3) := by decide +kernel
theorem dX4_readsPiece_8 : decode cX4_readsPiece 8 = .ok (.aload_n 0, 1) := by decide +kernel
theorem dX4_readsPiece_9 : decode cX4_readsPiece 9 = .ok (.getfield 19, 3) := by decide +kernel
theorem dX4_readsPiece_12 : decode cX4_readsPiece 12 = .ok (.aload_n 0, 1) := by decide +kernel
theorem dX4_readsPiece_13 : decode cX4_readsPiece 13 = .ok (.invokevirtual 105, 3) := by decide +kernel
theorem dX4_readsPiece_16 : decode cX4_readsPiece 16 = .ok (.invokevirtual 108, 3) := by decide +kernel
theorem dX4_readsPiece_19 : decode cX4_readsPiece 19 = .ok (.aload_n 0, 1) := by decide +kernel
theorem dX4_readsPiece_20 : decode cX4_readsPiece 20 = .ok (.invokevirtual 34, 3) := by decide +kernel
theorem dX4_readsPiece_23 : decode cX4_readsPiece 23 = .ok (.iconst 1, 1) := by decide +kernel
theorem dX4_readsPiece_24 : decode cX4_readsPiece 24 = .ok (.ireturn, 1) := by decide +kernel
theorem dX4_readsPiece_25 : decode cX4_readsPiece 25 = .ok (.aload_n 0, 1) := by decide +kernel
theorem dX4_readsPiece_26 : decode cX4_readsPiece 26 = .ok (.getfield 28, 3) := by decide +kernel
theorem dX4_readsPiece_29 : decode cX4_readsPiece 29 = .ok (.iconst 1, 1) := by decide +kernel
theorem dX4_readsPiece_30 : decode cX4_readsPiece 30 = .ok (.if_icmp .ne 8, 3) := by decide +kernel
theorem dX4_readsPiece_33 : decode cX4_readsPiece 33 = .ok (.aload_n 0, 1) := by decide +kernel
theorem dX4_readsPiece_34 : decode cX4_readsPiece 34 = .ok (.invokevirtual 112, 3) := by decide +kernel
theorem dX4_readsPiece_37 : decode cX4_readsPiece 37 = .ok (.ireturn, 1) := by decide +kernel
theorem dX4_readsPiece_38 : decode cX4_readsPiece 38 = .ok (.aload_n 0, 1) := by decide +kernel
theorem dX4_readsPiece_39 : decode cX4_readsPiece 39 = .ok (.getfield 28, 3) := by decide +kernel
theorem dX4_readsPiece_42 : decode cX4_readsPiece 42 = .ok (.iconst 3, 1) := by decide +kernel
theorem dX4_readsPiece_43 : decode cX4_readsPiece 43 = .ok (.if_icmp .eq 5, 3) := by decide +kernel
theorem dX4_readsPiece_46 : decode cX4_readsPiece 46 = .ok (.iconst 0, 1) := by decide +kernel
theorem dX4_readsPiece_47 : decode cX4_readsPiece 47 = .ok (.ireturn, 1) := by decide +kernel
theorem dX4_readsPiece_48 : decode cX4_readsPiece 48 = .ok (.aload_n 0, 1) := by decide +kernel
theorem dX4_readsPiece_49 : decode cX4_readsPiece 49 = .ok (.invokevirtual 93, 3) := by decide +kernel
theorem dX4_readsPiece_52 : decode cX4_readsPiece 52 = .ok (.bipush 33, 2) := by decide +kernel
theorem dX4_readsPiece_54 : decode cX4_readsPiece 54 = .ok (.if_icmp .ne 33, 3) := by decide +kernel
theorem dX4_readsPiece_57 : decode cX4_readsPiece 57 = .ok (.iload_n 2, 1) := by decide +kernel
theorem dX4_readsPiece_58 : decode cX4_readsPiece 58 = .ok (.bipush 8, 2) := by decide +kernel
theorem dX4_readsPiece_60 : decode cX4_readsPiece 60 = .ok (.if_icmp .ge 27, 3) := by decide +kernel
theorem dX4_readsPiece_63 : decode cX4_readsPiece 63 = .ok (.aload_n 0, 1) := by decide +kernel
theorem dX4_readsPiece_64 : decode cX4_readsPiece 64 = .ok (.invokevirtual 34, 3) := by decide +kernel
theorem dX4_readsPiece_67 : decode cX4_readsPiece 67 = .ok (.aload_n 0, 1) := by decide +kernel
theorem dX4_readsPiece_68 : decode cX4_readsPiece 68 = .ok (.iload_n 1, 1) := by decide +kernel
theorem dX4_readsPiece_69 : decode cX4_readsPiece 69 = .ok (.iload_n 2, 1) := by decide +kernel
theorem dX4_readsPiece_70 : decode cX4_readsPiece 70 = .ok (.iconst 1, 1) := by decide +kernel
theorem dX4_readsPiece_71 : decode cX4_readsPiece 71 = .ok (.iadd, 1) := by decide +kernel
theorem dX4_readsPiece_72 : decode cX4_readsPiece 72 = .ok (.invokevirtual 85, 3) := by decide +kernel
theorem dX4_readsPiece_75 : decode cX4_readsPiece 75 = .ok (.istore_n 3, 1) := by decide +kernel
theorem dX4_readsPiece_76 : decode cX4_readsPiece 76 = .ok (.aload_n 0, 1) := by decide +kernel
theorem dX4_readsPiece_77 : decode cX4_readsPiece 77 = .ok (.getfield 19, 3) := by decide +kernel
theorem dX4_readsPiece_80 : decode cX4_readsPiece 80 = .ok (.bipush 33, 2) := by decide +kernel
theorem dX4_readsPiece_82 : decode cX4_readsPiece 82 = .ok (.invokevirtual 101, 3) := by decide +kernel
theorem dX4_readsPiece_85 : decode cX4_readsPiece 85 = .ok (.iload_n 3, 1) := by decide +kernel
theorem dX4_readsPiece_86 : decode cX4_readsPiece 86 = .ok (.ireturn, 1) := by decide +kernel
theorem dX4_readsPiece_87 : decode cX4_readsPiece 87 = .ok (.aload_n 0, 1) := by decide +kernel
theorem dX4_readsPiece_88 : decode cX4_readsPiece 88 = .ok (.invokevirtual 93, 3) := by decide +kernel
theorem dX4_readsPiece_91 : decode cX4_readsPiece 91 = .ok (.bipush 40, 2) := by decide +kernel
theorem dX4_readsPiece_93 : decode cX4_readsPiece 93 = .ok (.if_icmp .ne 38, 3) := by decide +kernel
theorem dX4_readsPiece_96 : decode cX4_readsPiece 96 = .ok (.iload_n 1, 1) := by decide +kernel
theorem dX4_readsPiece_97 : decode cX4_readsPiece 97 = .ok (.bipush 8, 2) := by decide +kernel
theorem dX4_readsPiece_99 : decode cX4_readsPiece 99 = .ok (.if_icmp .ge 32, 3) := by decide +kernel
theorem dX4_readsPiece_102 : decode cX4_readsPiece 102 = .ok (.aload_n 0, 1) := by decide +kernel
theorem dX4_readsPiece_103 : decode cX4_readsPiece 103 = .ok (.invokevirtual 34, 3) := by decide +kernel
theorem dX4_readsPiece_106 : decode cX4_readsPiece 106 = .ok (.aload_n 0, 1) := by decide +kernel
theorem dX4_readsPiece_107 : decode cX4_readsPiece 107 = .ok (.iconst 0, 1) := by decide +kernel
theorem dX4_readsPiece_108 : decode cX4_readsPiece 108 = .ok (.iload_n 1, 1) := by decide +kernel
theorem dX4_readsPiece_109 : decode cX4_readsPiece 109 = .ok (.iconst 1, 1) := by decide +kernel
theorem dX4_readsPiece_110 : decode cX4_readsPiece 110 = .ok (.iadd, 1) := by decide +kernel
theorem dX4_readsPiece_111 : decode cX4_readsPiece 111 = .ok (.iload_n 2, 1) := by decide +kernel
theorem dX4_readsPiece_112 : decode cX4_readsPiece 112 = .ok (.invokevirtual 44, 3) := by decide +kernel
theorem dX4_readsPiece_115 : decode cX4_readsPiece 115 = .ok (.ifCond .eq 14, 3) := by decide +kernel
theorem dX4_readsPiece_118 : decode cX4_readsPiece 118 = .ok (.aload_n 0, 1) := by decide +kernel
theorem dX4_readsPiece_119 : decode cX4_readsPiece 119 = .ok (.invokevirtual 116, 3) := by decide +kernel
theorem dX4_readsPiece_122 : decode cX4_readsPiece 122 = .ok (.ifCond .eq 7, 3) := by decide +kernel
theorem dX4_readsPiece_125 : decode cX4_readsPiece 125 = .ok (.iconst 1, 1) := by decide +kernel
theorem dX4_readsPiece_126 : decode cX4_readsPiece 126 = .ok (.goto 4, 3) := by decide +kernel
theorem dX4_readsPiece_129 : decode cX4_readsPiece 129 = .ok (.iconst 0, 1) := by decide +kernel
theorem dX4_readsPiece_130 : decode cX4_readsPiece 130 = .ok (.ireturn, 1) := by decide +kernel
theorem dX4_readsPiece_131 : decode cX4_readsPiece 131 = .ok (.iconst 0, 1) := by decide +kernel
theorem dX4_readsPiece_132 : decode cX4_readsPiece 132 = .ok (.ireturn, 1) := by decide +kernel
theorem dX4_readsName_0 : decode cX4_readsName 0 = .ok (.aload_n 0, 1) := by decide +kernel
theorem dX4_readsName_1 : decode cX4_readsName 1 = .ok (.getfield 31, 3) := by decide +kernel
theorem dX4_readsName_4 : decode cX4_readsName 4 = .ok (.aload_n 0, 1) := by decide +kernel
theorem dX4_readsName_5 : decode cX4_readsName 5 = .ok (.getfield 58, 3) := by decide +kernel
theorem dX4_readsName_8 : decode cX4_readsName 8 = .ok (.isub, 1) := by decide +kernel
theorem dX4_readsName_9 : decode cX4_readsName 9 = .ok (.iconst 1, 1) := by decide +kernel
theorem dX4_readsName_10 : decode cX4_readsName 10 = .ok (.if_icmp .ne 23, 3) := by decide +kernel
theorem dX4_readsName_13 : decode cX4_readsName 13 = .ok (.aload_n 0, 1) := by decide +kernel
theorem dX4_readsName_14 : decode cX4_readsName 14 = .ok (.getfield 19, 3) := by decide +kernel
theorem dX4_readsName_17 : decode cX4_readsName 17 = .ok (.getfield 41, 3) := by decide +kernel
theorem dX4_readsName_20 : decode cX4_readsName 20 = .ok (.invokestatic 119, 3) := by decide +kernel
theorem dX4_readsName_23 : decode cX4_readsName 23 = .ok (.aload_n 0, 1) := by decide +kernel
theorem dX4_readsName_24 : decode cX4_readsName 24 = .ok (.invokevirtual 93, 3) := by decide +kernel
theorem dX4_readsName_27 : decode cX4_readsName 27 = .ok (.invokevirtual 97, 3) := by decide +kernel
theorem dX4_readsName_30 : decode cX4_readsName 30 = .ok (.goto 4, 3) := by decide +kernel
theorem dX4_readsName_33 : decode cX4_readsName 33 = .ok (.iconst (-1), 1) := by decide +kernel
theorem dX4_readsName_34 : decode cX4_readsName 34 = .ok (.istore_n 1, 1) := by decide +kernel
theorem dX4_readsName_35 : decode cX4_readsName 35 = .ok (.iload_n 1, 1) := by decide +kernel
theorem dX4_readsName_36 : decode cX4_readsName 36 = .ok (.ifCond .ge 5, 3) := by decide +kernel
theorem dX4_readsName_39 : decode cX4_readsName 39 = .ok (.iconst 0, 1) := by decide +kernel
theorem dX4_readsName_40 : decode cX4_readsName 40 = .ok (.ireturn, 1) := by decide +kernel
theorem dX4_readsName_41 : decode cX4_readsName 41 = .ok (.aload_n 0, 1) := by decide +kernel
theorem dX4_readsName_42 : decode cX4_readsName 42 = .ok (.getfield 19, 3) := by decide +kernel
theorem dX4_readsName_45 : decode cX4_readsName 45 = .ok (.iload_n 1, 1) := by decide +kernel
theorem dX4_readsName_46 : decode cX4_readsName 46 = .ok (.invokevirtual 122, 3) := by decide +kernel
theorem dX4_readsName_49 : decode cX4_readsName 49 = .ok (.aload_n 0, 1) := by decide +kernel
theorem dX4_readsName_50 : decode cX4_readsName 50 = .ok (.invokevirtual 34, 3) := by decide +kernel
theorem dX4_readsName_53 : decode cX4_readsName 53 = .ok (.iconst 1, 1) := by decide +kernel
theorem dX4_readsName_54 : decode cX4_readsName 54 = .ok (.ireturn, 1) := by decide +kernel
theorem dX4_closesBracket_0 : decode cX4_closesBracket 0 = .ok (.aload_n 0, 1) := by decide +kernel
theorem dX4_closesBracket_1 : decode cX4_closesBracket 1 = .ok (.getfield 28, 3) := by decide +kernel
theorem dX4_closesBracket_4 : decode cX4_closesBracket 4 = .ok (.iconst 3, 1) := by decide +kernel
theorem dX4_closesBracket_5 : decode cX4_closesBracket 5 = .ok (.if_icmp .ne 12, 3) := by decide +kernel
theorem dX4_closesBracket_8 : decode cX4_closesBracket 8 = .ok (.aload_n 0, 1) := by decide +kernel
theorem dX4_closesBracket_9 : decode cX4_closesBracket 9 = .ok (.invokevirtual 93, 3) := by decide +kernel
theorem dX4_closesBracket_12 : decode cX4_closesBracket 12 = .ok (.bipush 41, 2) := by decide +kernel
theorem dX4_closesBracket_14 : decode cX4_closesBracket 14 = .ok (.if_icmp .eq 5, 3) := by decide +kernel
theorem dX4_closesBracket_17 : decode cX4_closesBracket 17 = .ok (.iconst 0, 1) := by decide +kernel
theorem dX4_closesBracket_18 : decode cX4_closesBracket 18 = .ok (.ireturn, 1) := by decide +kernel
theorem dX4_closesBracket_19 : decode cX4_closesBracket 19 = .ok (.aload_n 0, 1) := by decide +kernel
theorem dX4_closesBracket_20 : decode cX4_closesBracket 20 = .ok (.invokevirtual 34, 3) := by decide +kernel
theorem dX4_closesBracket_23 : decode cX4_closesBracket 23 = .ok (.iconst 1, 1) := by decide +kernel
theorem dX4_closesBracket_24 : decode cX4_closesBracket 24 = .ok (.ireturn, 1) := by decide +kernel
theorem dX4_numberHere_0 : decode cX4_numberHere 0 = .ok (.iconst 0, 1) := by decide +kernel
theorem dX4_numberHere_1 : decode cX4_numberHere 1 = .ok (.istore_n 1, 1) := by decide +kernel
theorem dX4_numberHere_2 : decode cX4_numberHere 2 = .ok (.aload_n 0, 1) := by decide +kernel
theorem dX4_numberHere_3 : decode cX4_numberHere 3 = .ok (.getfield 58, 3) := by decide +kernel
theorem dX4_numberHere_6 : decode cX4_numberHere 6 = .ok (.istore_n 2, 1) := by decide +kernel
theorem dX4_numberHere_7 : decode cX4_numberHere 7 = .ok (.iload_n 2, 1) := by decide +kernel
theorem dX4_numberHere_8 : decode cX4_numberHere 8 = .ok (.aload_n 0, 1) := by decide +kernel
theorem dX4_numberHere_9 : decode cX4_numberHere 9 = .ok (.getfield 31, 3) := by decide +kernel
theorem dX4_numberHere_12 : decode cX4_numberHere 12 = .ok (.if_icmp .ge 24, 3) := by decide +kernel
theorem dX4_numberHere_15 : decode cX4_numberHere 15 = .ok (.bipush 10, 2) := by decide +kernel
theorem dX4_numberHere_17 : decode cX4_numberHere 17 = .ok (.iload_n 1, 1) := by decide +kernel
theorem dX4_numberHere_18 : decode cX4_numberHere 18 = .ok (.imul, 1) := by decide +kernel
theorem dX4_numberHere_19 : decode cX4_numberHere 19 = .ok (.aload_n 0, 1) := by decide +kernel
theorem dX4_numberHere_20 : decode cX4_numberHere 20 = .ok (.getfield 9, 3) := by decide +kernel
theorem dX4_numberHere_23 : decode cX4_numberHere 23 = .ok (.iload_n 2, 1) := by decide +kernel
theorem dX4_numberHere_24 : decode cX4_numberHere 24 = .ok (.baload, 1) := by decide +kernel
theorem dX4_numberHere_25 : decode cX4_numberHere 25 = .ok (.iadd, 1) := by decide +kernel
theorem dX4_numberHere_26 : decode cX4_numberHere 26 = .ok (.bipush 48, 2) := by decide +kernel
theorem dX4_numberHere_28 : decode cX4_numberHere 28 = .ok (.isub, 1) := by decide +kernel
theorem dX4_numberHere_29 : decode cX4_numberHere 29 = .ok (.istore_n 1, 1) := by decide +kernel
theorem dX4_numberHere_30 : decode cX4_numberHere 30 = .ok (.iinc 2 1, 3) := by decide +kernel
theorem dX4_numberHere_33 : decode cX4_numberHere 33 = .ok (.goto (-26), 3) := by decide +kernel
theorem dX4_numberHere_36 : decode cX4_numberHere 36 = .ok (.iload_n 1, 1) := by decide +kernel
theorem dX4_numberHere_37 : decode cX4_numberHere 37 = .ok (.ireturn, 1) := by decide +kernel
theorem dX4_signHere_0 : decode cX4_signHere 0 = .ok (.aload_n 0, 1) := by decide +kernel
theorem dX4_signHere_1 : decode cX4_signHere 1 = .ok (.getfield 58, 3) := by decide +kernel
theorem dX4_signHere_4 : decode cX4_signHere 4 = .ok (.aload_n 0, 1) := by decide +kernel
theorem dX4_signHere_5 : decode cX4_signHere 5 = .ok (.getfield 15, 3) := by decide +kernel
theorem dX4_signHere_8 : decode cX4_signHere 8 = .ok (.if_icmp .ge 20, 3) := by decide +kernel
theorem dX4_signHere_11 : decode cX4_signHere 11 = .ok (.aload_n 0, 1) := by decide +kernel
theorem dX4_signHere_12 : decode cX4_signHere 12 = .ok (.getfield 9, 3) := by decide +kernel
theorem dX4_signHere_15 : decode cX4_signHere 15 = .ok (.aload_n 0, 1) := by decide +kernel
theorem dX4_signHere_16 : decode cX4_signHere 16 = .ok (.getfield 58, 3) := by decide +kernel
theorem dX4_signHere_19 : decode cX4_signHere 19 = .ok (.baload, 1) := by decide +kernel
theorem dX4_signHere_20 : decode cX4_signHere 20 = .ok (.sipush 255, 3) := by decide +kernel
theorem dX4_signHere_23 : decode cX4_signHere 23 = .ok (.iand, 1) := by decide +kernel
theorem dX4_signHere_24 : decode cX4_signHere 24 = .ok (.i2c, 1) := by decide +kernel
theorem dX4_signHere_25 : decode cX4_signHere 25 = .ok (.goto 4, 3) := by decide +kernel
theorem dX4_signHere_28 : decode cX4_signHere 28 = .ok (.iconst 0, 1) := by decide +kernel
theorem dX4_signHere_29 : decode cX4_signHere 29 = .ok (.ireturn, 1) := by decide +kernel
theorem dX4_goOn_0 : decode cX4_goOn 0 = .ok (.aload_n 0, 1) := by decide +kernel
theorem dX4_goOn_1 : decode cX4_goOn 1 = .ok (.getfield 31, 3) := by decide +kernel
theorem dX4_goOn_4 : decode cX4_goOn 4 = .ok (.istore_n 1, 1) := by decide +kernel
theorem dX4_goOn_5 : decode cX4_goOn 5 = .ok (.aload_n 0, 1) := by decide +kernel
theorem dX4_goOn_6 : decode cX4_goOn 6 = .ok (.getfield 28, 3) := by decide +kernel
theorem dX4_goOn_9 : decode cX4_goOn 9 = .ok (.iconst 1, 1) := by decide +kernel
theorem dX4_goOn_10 : decode cX4_goOn 10 = .ok (.if_icmp .eq 11, 3) := by decide +kernel
theorem dX4_goOn_13 : decode cX4_goOn 13 = .ok (.aload_n 0, 1) := by decide +kernel
theorem dX4_goOn_14 : decode cX4_goOn 14 = .ok (.getfield 28, 3) := by decide +kernel
theorem dX4_goOn_17 : decode cX4_goOn 17 = .ok (.iconst 2, 1) := by decide +kernel
theorem dX4_goOn_18 : decode cX4_goOn 18 = .ok (.if_icmp .ne 7, 3) := by decide +kernel
theorem dX4_goOn_21 : decode cX4_goOn 21 = .ok (.iconst 1, 1) := by decide +kernel
theorem dX4_goOn_22 : decode cX4_goOn 22 = .ok (.goto 4, 3) := by decide +kernel
theorem dX4_goOn_25 : decode cX4_goOn 25 = .ok (.iconst 0, 1) := by decide +kernel
theorem dX4_goOn_26 : decode cX4_goOn 26 = .ok (.istore_n 2, 1) := by decide +kernel
theorem dX4_goOn_27 : decode cX4_goOn 27 = .ok (.aload_n 0, 1) := by decide +kernel
theorem dX4_goOn_28 : decode cX4_goOn 28 = .ok (.aload_n 0, 1) := by decide +kernel
theorem dX4_goOn_29 : decode cX4_goOn 29 = .ok (.getfield 31, 3) := by decide +kernel
theorem dX4_goOn_32 : decode cX4_goOn 32 = .ok (.putfield 58, 3) := by decide +kernel
theorem dX4_goOn_35 : decode cX4_goOn 35 = .ok (.aload_n 0, 1) := by decide +kernel
theorem dX4_goOn_36 : decode cX4_goOn 36 = .ok (.getfield 58, 3) := by decide +kernel
theorem dX4_goOn_39 : decode cX4_goOn 39 = .ok (.aload_n 0, 1) := by decide +kernel
theorem dX4_goOn_40 : decode cX4_goOn 40 = .ok (.getfield 15, 3) := by decide +kernel
theorem dX4_goOn_43 : decode cX4_goOn 43 = .ok (.if_icmp .ge 30, 3) := by decide +kernel
theorem dX4_goOn_46 : decode cX4_goOn 46 = .ok (.aload_n 0, 1) := by decide +kernel
theorem dX4_goOn_47 : decode cX4_goOn 47 = .ok (.getfield 9, 3) := by decide +kernel
theorem dX4_goOn_50 : decode cX4_goOn 50 = .ok (.aload_n 0, 1) := by decide +kernel
theorem dX4_goOn_51 : decode cX4_goOn 51 = .ok (.getfield 58, 3) := by decide +kernel
theorem dX4_goOn_54 : decode cX4_goOn 54 = .ok (.baload, 1) := by decide +kernel
theorem dX4_goOn_55 : decode cX4_goOn 55 = .ok (.bipush 32, 2) := by decide +kernel
theorem dX4_goOn_57 : decode cX4_goOn 57 = .ok (.if_icmp .ne 16, 3) := by decide +kernel
theorem dX4_goOn_60 : decode cX4_goOn 60 = .ok (.aload_n 0, 1) := by decide +kernel
theorem dX4_goOn_61 : decode cX4_goOn 61 = .ok (.dup, 1) := by decide +kernel
theorem dX4_goOn_62 : decode cX4_goOn 62 = .ok (.getfield 58, 3) := by decide +kernel
theorem dX4_goOn_65 : decode cX4_goOn 65 = .ok (.iconst 1, 1) := by decide +kernel
theorem dX4_goOn_66 : decode cX4_goOn 66 = .ok (.iadd, 1) := by decide +kernel
theorem dX4_goOn_67 : decode cX4_goOn 67 = .ok (.putfield 58, 3) := by decide +kernel
theorem dX4_goOn_70 : decode cX4_goOn 70 = .ok (.goto (-35), 3) := by decide +kernel
theorem dX4_goOn_73 : decode cX4_goOn 73 = .ok (.aload_n 0, 1) := by decide +kernel
theorem dX4_goOn_74 : decode cX4_goOn 74 = .ok (.aload_n 0, 1) := by decide +kernel
theorem dX4_goOn_75 : decode cX4_goOn 75 = .ok (.getfield 58, 3) := by decide +kernel
theorem dX4_goOn_78 : decode cX4_goOn 78 = .ok (.putfield 31, 3) := by decide +kernel
theorem dX4_goOn_81 : decode cX4_goOn 81 = .ok (.aload_n 0, 1) := by decide +kernel
theorem dX4_goOn_82 : decode cX4_goOn 82 = .ok (.getfield 58, 3) := by decide +kernel
theorem dX4_goOn_85 : decode cX4_goOn 85 = .ok (.aload_n 0, 1) := by decide +kernel
theorem dX4_goOn_86 : decode cX4_goOn 86 = .ok (.getfield 15, 3) := by decide +kernel
theorem dX4_goOn_89 : decode cX4_goOn 89 = .ok (.if_icmp .lt 9, 3) := by decide +kernel
theorem dX4_goOn_92 : decode cX4_goOn 92 = .ok (.aload_n 0, 1) := by decide +kernel
theorem dX4_goOn_93 : decode cX4_goOn 93 = .ok (.iconst 0, 1) := by decide +kernel
theorem dX4_goOn_94 : decode cX4_goOn 94 = .ok (.putfield 28, 3) := by decide +kernel
theorem dX4_goOn_97 : decode cX4_goOn 97 = .ok (.return_, 1) := by decide +kernel
theorem dX4_goOn_98 : decode cX4_goOn 98 = .ok (.aload_n 0, 1) := by decide +kernel
theorem dX4_goOn_99 : decode cX4_goOn 99 = .ok (.aload_n 0, 1) := by decide +kernel
theorem dX4_goOn_100 : decode cX4_goOn 100 = .ok (.getfield 58, 3) := by decide +kernel
theorem dX4_goOn_103 : decode cX4_goOn 103 = .ok (.invokevirtual 125, 3) := by decide +kernel
theorem dX4_goOn_106 : decode cX4_goOn 106 = .ok (.ifCond .eq 43, 3) := by decide +kernel
theorem dX4_goOn_109 : decode cX4_goOn 109 = .ok (.aload_n 0, 1) := by decide +kernel
theorem dX4_goOn_110 : decode cX4_goOn 110 = .ok (.iconst 1, 1) := by decide +kernel
theorem dX4_goOn_111 : decode cX4_goOn 111 = .ok (.putfield 28, 3) := by decide +kernel
theorem dX4_goOn_114 : decode cX4_goOn 114 = .ok (.aload_n 0, 1) := by decide +kernel
theorem dX4_goOn_115 : decode cX4_goOn 115 = .ok (.getfield 31, 3) := by decide +kernel
theorem dX4_goOn_118 : decode cX4_goOn 118 = .ok (.aload_n 0, 1) := by decide +kernel
theorem dX4_goOn_119 : decode cX4_goOn 119 = .ok (.getfield 15, 3) := by decide +kernel
theorem dX4_goOn_122 : decode cX4_goOn 122 = .ok (.if_icmp .ge 93, 3) := by decide +kernel
theorem dX4_goOn_125 : decode cX4_goOn 125 = .ok (.aload_n 0, 1) := by decide +kernel
theorem dX4_goOn_126 : decode cX4_goOn 126 = .ok (.aload_n 0, 1) := by decide +kernel
theorem dX4_goOn_127 : decode cX4_goOn 127 = .ok (.getfield 31, 3) := by decide +kernel
theorem dX4_goOn_130 : decode cX4_goOn 130 = .ok (.invokevirtual 125, 3) := by decide +kernel
theorem dX4_goOn_133 : decode cX4_goOn 133 = .ok (.ifCond .eq 82, 3) := by decide +kernel
theorem dX4_goOn_136 : decode cX4_goOn 136 = .ok (.aload_n 0, 1) := by decide +kernel
theorem dX4_goOn_137 : decode cX4_goOn 137 = .ok (.dup, 1) := by decide +kernel
theorem dX4_goOn_138 : decode cX4_goOn 138 = .ok (.getfield 31, 3) := by decide +kernel
theorem dX4_goOn_141 : decode cX4_goOn 141 = .ok (.iconst 1, 1) := by decide +kernel
theorem dX4_goOn_142 : decode cX4_goOn 142 = .ok (.iadd, 1) := by decide +kernel
theorem dX4_goOn_143 : decode cX4_goOn 143 = .ok (.putfield 31, 3) := by decide +kernel
theorem dX4_goOn_146 : decode cX4_goOn 146 = .ok (.goto (-32), 3) := by decide +kernel
theorem dX4_goOn_149 : decode cX4_goOn 149 = .ok (.aload_n 0, 1) := by decide +kernel
theorem dX4_goOn_150 : decode cX4_goOn 150 = .ok (.aload_n 0, 1) := by decide +kernel
theorem dX4_goOn_151 : decode cX4_goOn 151 = .ok (.getfield 58, 3) := by decide +kernel
theorem dX4_goOn_154 : decode cX4_goOn 154 = .ok (.invokevirtual 129, 3) := by decide +kernel
theorem dX4_goOn_157 : decode cX4_goOn 157 = .ok (.ifCond .eq 43, 3) := by decide +kernel
theorem dX4_goOn_160 : decode cX4_goOn 160 = .ok (.aload_n 0, 1) := by decide +kernel
theorem dX4_goOn_161 : decode cX4_goOn 161 = .ok (.iconst 2, 1) := by decide +kernel
theorem dX4_goOn_162 : decode cX4_goOn 162 = .ok (.putfield 28, 3) := by decide +kernel
theorem dX4_goOn_165 : decode cX4_goOn 165 = .ok (.aload_n 0, 1) := by decide +kernel
theorem dX4_goOn_166 : decode cX4_goOn 166 = .ok (.getfield 31, 3) := by decide +kernel
theorem dX4_goOn_169 : decode cX4_goOn 169 = .ok (.aload_n 0, 1) := by decide +kernel
theorem dX4_goOn_170 : decode cX4_goOn 170 = .ok (.getfield 15, 3) := by decide +kernel
theorem dX4_goOn_173 : decode cX4_goOn 173 = .ok (.if_icmp .ge 42, 3) := by decide +kernel
theorem dX4_goOn_176 : decode cX4_goOn 176 = .ok (.aload_n 0, 1) := by decide +kernel
theorem dX4_goOn_177 : decode cX4_goOn 177 = .ok (.aload_n 0, 1) := by decide +kernel
theorem dX4_goOn_178 : decode cX4_goOn 178 = .ok (.getfield 31, 3) := by decide +kernel
theorem dX4_goOn_181 : decode cX4_goOn 181 = .ok (.invokevirtual 129, 3) := by decide +kernel
theorem dX4_goOn_184 : decode cX4_goOn 184 = .ok (.ifCond .eq 31, 3) := by decide +kernel
theorem dX4_goOn_187 : decode cX4_goOn 187 = .ok (.aload_n 0, 1) := by decide +kernel
theorem dX4_goOn_188 : decode cX4_goOn 188 = .ok (.dup, 1) := by decide +kernel
theorem dX4_goOn_189 : decode cX4_goOn 189 = .ok (.getfield 31, 3) := by decide +kernel
theorem dX4_goOn_192 : decode cX4_goOn 192 = .ok (.iconst 1, 1) := by decide +kernel
theorem dX4_goOn_193 : decode cX4_goOn 193 = .ok (.iadd, 1) := by decide +kernel
theorem dX4_goOn_194 : decode cX4_goOn 194 = .ok (.putfield 31, 3) := by decide +kernel
theorem dX4_goOn_197 : decode cX4_goOn 197 = .ok (.goto (-32), 3) := by decide +kernel
theorem dX4_goOn_200 : decode cX4_goOn 200 = .ok (.aload_n 0, 1) := by decide +kernel
theorem dX4_goOn_201 : decode cX4_goOn 201 = .ok (.iconst 3, 1) := by decide +kernel
theorem dX4_goOn_202 : decode cX4_goOn 202 = .ok (.putfield 28, 3) := by decide +kernel
theorem dX4_goOn_205 : decode cX4_goOn 205 = .ok (.aload_n 0, 1) := by decide +kernel
theorem dX4_goOn_206 : decode cX4_goOn 206 = .ok (.dup, 1) := by decide +kernel
theorem dX4_goOn_207 : decode cX4_goOn 207 = .ok (.getfield 31, 3) := by decide +kernel
theorem dX4_goOn_210 : decode cX4_goOn 210 = .ok (.iconst 1, 1) := by decide +kernel
theorem dX4_goOn_211 : decode cX4_goOn 211 = .ok (.iadd, 1) := by decide +kernel
theorem dX4_goOn_212 : decode cX4_goOn 212 = .ok (.putfield 31, 3) := by decide +kernel
theorem dX4_goOn_215 : decode cX4_goOn 215 = .ok (.iload_n 2, 1) := by decide +kernel
theorem dX4_goOn_216 : decode cX4_goOn 216 = .ok (.ifCond .eq 23, 3) := by decide +kernel
theorem dX4_goOn_219 : decode cX4_goOn 219 = .ok (.aload_n 0, 1) := by decide +kernel
theorem dX4_goOn_220 : decode cX4_goOn 220 = .ok (.getfield 28, 3) := by decide +kernel
theorem dX4_goOn_223 : decode cX4_goOn 223 = .ok (.iconst 3, 1) := by decide +kernel
theorem dX4_goOn_224 : decode cX4_goOn 224 = .ok (.if_icmp .eq 15, 3) := by decide +kernel
theorem dX4_goOn_227 : decode cX4_goOn 227 = .ok (.aload_n 0, 1) := by decide +kernel
theorem dX4_goOn_228 : decode cX4_goOn 228 = .ok (.getfield 58, 3) := by decide +kernel
theorem dX4_goOn_231 : decode cX4_goOn 231 = .ok (.iload_n 1, 1) := by decide +kernel
theorem dX4_goOn_232 : decode cX4_goOn 232 = .ok (.if_icmp .ne 7, 3) := by decide +kernel
theorem dX4_goOn_235 : decode cX4_goOn 235 = .ok (.iconst 1, 1) := by decide +kernel
theorem dX4_goOn_236 : decode cX4_goOn 236 = .ok (.goto 4, 3) := by decide +kernel
theorem dX4_goOn_239 : decode cX4_goOn 239 = .ok (.iconst 0, 1) := by decide +kernel
theorem dX4_goOn_240 : decode cX4_goOn 240 = .ok (.istore_n 3, 1) := by decide +kernel
theorem dX4_goOn_241 : decode cX4_goOn 241 = .ok (.iload_n 3, 1) := by decide +kernel
theorem dX4_goOn_242 : decode cX4_goOn 242 = .ok (.ifCond .ne 24, 3) := by decide +kernel
theorem dX4_goOn_245 : decode cX4_goOn 245 = .ok (.aload_n 0, 1) := by decide +kernel
theorem dX4_goOn_246 : decode cX4_goOn 246 = .ok (.getfield 28, 3) := by decide +kernel
theorem dX4_goOn_249 : decode cX4_goOn 249 = .ok (.iconst 2, 1) := by decide +kernel
theorem dX4_goOn_250 : decode cX4_goOn 250 = .ok (.if_icmp .ne 21, 3) := by decide +kernel
theorem dX4_goOn_253 : decode cX4_goOn 253 = .ok (.aload_n 0, 1) := by decide +kernel
theorem dX4_goOn_254 : decode cX4_goOn 254 = .ok (.getfield 31, 3) := by decide +kernel
theorem dX4_goOn_257 : decode cX4_goOn 257 = .ok (.aload_n 0, 1) := by decide +kernel
theorem dX4_goOn_258 : decode cX4_goOn 258 = .ok (.getfield 58, 3) := by decide +kernel
theorem dX4_goOn_261 : decode cX4_goOn 261 = .ok (.isub, 1) := by decide +kernel
theorem dX4_goOn_262 : decode cX4_goOn 262 = .ok (.iconst 4, 1) := by decide +kernel
theorem dX4_goOn_263 : decode cX4_goOn 263 = .ok (.if_icmp .le 8, 3) := by decide +kernel
theorem dX4_goOn_266 : decode cX4_goOn 266 = .ok (.aload_n 0, 1) := by decide +kernel
theorem dX4_goOn_267 : decode cX4_goOn 267 = .ok (.iconst 4, 1) := by decide +kernel
theorem dX4_goOn_268 : decode cX4_goOn 268 = .ok (.putfield 28, 3) := by decide +kernel
theorem dX4_goOn_271 : decode cX4_goOn 271 = .ok (.return_, 1) := by decide +kernel
theorem dX4_isLetter_0 : decode cX4_isLetter 0 = .ok (.aload_n 0, 1) := by decide +kernel
theorem dX4_isLetter_1 : decode cX4_isLetter 1 = .ok (.getfield 9, 3) := by decide +kernel
theorem dX4_isLetter_4 : decode cX4_isLetter 4 = .ok (.iload_n 1, 1) := by decide +kernel
theorem dX4_isLetter_5 : decode cX4_isLetter 5 = .ok (.baload, 1) := by decide +kernel
theorem dX4_isLetter_6 : decode cX4_isLetter 6 = .ok (.bipush 97, 2) := by decide +kernel
theorem dX4_isLetter_8 : decode cX4_isLetter 8 = .ok (.if_icmp .lt 18, 3) := by decide +kernel
theorem dX4_isLetter_11 : decode cX4_isLetter 11 = .ok (.aload_n 0, 1) := by decide +kernel
theorem dX4_isLetter_12 : decode cX4_isLetter 12 = .ok (.getfield 9, 3) := by decide +kernel
theorem dX4_isLetter_15 : decode cX4_isLetter 15 = .ok (.iload_n 1, 1) := by decide +kernel
theorem dX4_isLetter_16 : decode cX4_isLetter 16 = .ok (.baload, 1) := by decide +kernel
theorem dX4_isLetter_17 : decode cX4_isLetter 17 = .ok (.bipush 122, 2) := by decide +kernel
theorem dX4_isLetter_19 : decode cX4_isLetter 19 = .ok (.if_icmp .gt 7, 3) := by decide +kernel
theorem dX4_isLetter_22 : decode cX4_isLetter 22 = .ok (.iconst 1, 1) := by decide +kernel
theorem dX4_isLetter_23 : decode cX4_isLetter 23 = .ok (.goto 4, 3) := by decide +kernel
theorem dX4_isLetter_26 : decode cX4_isLetter 26 = .ok (.iconst 0, 1) := by decide +kernel
theorem dX4_isLetter_27 : decode cX4_isLetter 27 = .ok (.ireturn, 1) := by decide +kernel
theorem dX4_isDigit_0 : decode cX4_isDigit 0 = .ok (.aload_n 0, 1) := by decide +kernel
theorem dX4_isDigit_1 : decode cX4_isDigit 1 = .ok (.getfield 9, 3) := by decide +kernel
theorem dX4_isDigit_4 : decode cX4_isDigit 4 = .ok (.iload_n 1, 1) := by decide +kernel
theorem dX4_isDigit_5 : decode cX4_isDigit 5 = .ok (.baload, 1) := by decide +kernel
theorem dX4_isDigit_6 : decode cX4_isDigit 6 = .ok (.bipush 48, 2) := by decide +kernel
theorem dX4_isDigit_8 : decode cX4_isDigit 8 = .ok (.if_icmp .lt 18, 3) := by decide +kernel
theorem dX4_isDigit_11 : decode cX4_isDigit 11 = .ok (.aload_n 0, 1) := by decide +kernel
theorem dX4_isDigit_12 : decode cX4_isDigit 12 = .ok (.getfield 9, 3) := by decide +kernel
theorem dX4_isDigit_15 : decode cX4_isDigit 15 = .ok (.iload_n 1, 1) := by decide +kernel
theorem dX4_isDigit_16 : decode cX4_isDigit 16 = .ok (.baload, 1) := by decide +kernel
theorem dX4_isDigit_17 : decode cX4_isDigit 17 = .ok (.bipush 57, 2) := by decide +kernel
theorem dX4_isDigit_19 : decode cX4_isDigit 19 = .ok (.if_icmp .gt 7, 3) := by decide +kernel
theorem dX4_isDigit_22 : decode cX4_isDigit 22 = .ok (.iconst 1, 1) := by decide +kernel
theorem dX4_isDigit_23 : decode cX4_isDigit 23 = .ok (.goto 4, 3) := by decide +kernel
theorem dX4_isDigit_26 : decode cX4_isDigit 26 = .ok (.iconst 0, 1) := by decide +kernel
theorem dX4_isDigit_27 : decode cX4_isDigit 27 = .ok (.ireturn, 1) := by decide +kernel
theorem dX5_init_0 : decode cX5_init 0 = .ok (.aload_n 0, 1) := by decide +kernel
theorem dX5_init_1 : decode cX5_init 1 = .ok (.invokespecial 3, 3) := by decide +kernel
theorem dX5_init_4 : decode cX5_init 4 = .ok (.aload_n 0, 1) := by decide +kernel
theorem dX5_init_5 : decode cX5_init 5 = .ok (.iconst (-1), 1) := by decide +kernel
theorem dX5_init_6 : decode cX5_init 6 = .ok (.putfield 9, 3) := by decide +kernel
theorem dX5_init_9 : decode cX5_init 9 = .ok (.aload_n 0, 1) := by decide +kernel
theorem dX5_init_10 : decode cX5_init 10 = .ok (.bipush 24, 2) := by decide +kernel
theorem dX5_init_12 : decode cX5_init 12 = .ok (.newarray .int, 2) := by decide +kernel
theorem dX5_init_14 : decode cX5_init 14 = .ok (.putfield 15, 3) := by decide +kernel
theorem dX5_init_17 : decode cX5_init 17 = .ok (.return_, 1) := by decide +kernel
theorem dX5_startAnew_0 : decode cX5_startAnew 0 = .ok (.aload_n 0, 1) := by decide +kernel
theorem dX5_startAnew_1 : decode cX5_startAnew 1 = .ok (.iload_n 1, 1) := by decide +kernel
theorem dX5_startAnew_2 : decode cX5_startAnew 2 = .ok (.putfield 9, 3) := by decide +kernel
theorem dX5_startAnew_5 : decode cX5_startAnew 5 = .ok (.aload_n 0, 1) := by decide +kernel
theorem dX5_startAnew_6 : decode cX5_startAnew 6 = .ok (.iload_n 2, 1) := by decide +kernel
theorem dX5_startAnew_7 : decode cX5_startAnew 7 = .ok (.putfield 19, 3) := by decide +kernel
theorem dX5_startAnew_10 : decode cX5_startAnew 10 = .ok (.iconst 0, 1) := by decide +kernel
theorem dX5_startAnew_11 : decode cX5_startAnew 11 = .ok (.istore_n 3, 1) := by decide +kernel
theorem dX5_startAnew_12 : decode cX5_startAnew 12 = .ok (.iload_n 3, 1) := by decide +kernel
theorem dX5_startAnew_13 : decode cX5_startAnew 13 = .ok (.iload_n 2, 1) := by decide +kernel
theorem dX5_startAnew_14 : decode cX5_startAnew 14 = .ok (.if_icmp .ge 16, 3) := by decide +kernel
theorem dX5_startAnew_17 : decode cX5_startAnew 17 = .ok (.aload_n 0, 1) := by decide +kernel
theorem dX5_startAnew_18 : decode cX5_startAnew 18 = .ok (.getfield 15, 3) := by decide +kernel
theorem dX5_startAnew_21 : decode cX5_startAnew 21 = .ok (.iload_n 3, 1) := by decide +kernel
theorem dX5_startAnew_22 : decode cX5_startAnew 22 = .ok (.iconst 0, 1) := by decide +kernel
theorem dX5_startAnew_23 : decode cX5_startAnew 23 = .ok (.iastore, 1) := by decide +kernel
theorem dX5_startAnew_24 : decode cX5_startAnew 24 = .ok (.iinc 3 1, 3) := by decide +kernel
theorem dX5_startAnew_27 : decode cX5_startAnew 27 = .ok (.goto (-15), 3) := by decide +kernel
theorem dX5_startAnew_30 : decode cX5_startAnew 30 = .ok (.return_, 1) := by decide +kernel
theorem dX5_becomes_0 : decode cX5_becomes 0 = .ok (.aload_n 0, 1) := by decide +kernel
theorem dX5_becomes_1 : decode cX5_becomes 1 = .ok (.aload_n 1, 1) := by decide +kernel
theorem dX5_becomes_2 : decode cX5_becomes 2 = .ok (.getfield 9, 3) := by decide +kernel
theorem dX5_becomes_5 : decode cX5_becomes 5 = .ok (.putfield 9, 3) := by decide +kernel
theorem dX5_becomes_8 : decode cX5_becomes 8 = .ok (.aload_n 0, 1) := by decide +kernel
theorem dX5_becomes_9 : decode cX5_becomes 9 = .ok (.aload_n 1, 1) := by decide +kernel
theorem dX5_becomes_10 : decode cX5_becomes 10 = .ok (.getfield 19, 3) := by decide +kernel
theorem dX5_becomes_13 : decode cX5_becomes 13 = .ok (.putfield 19, 3) := by decide +kernel
theorem dX5_becomes_16 : decode cX5_becomes 16 = .ok (.aload_n 1, 1) := by decide +kernel
theorem dX5_becomes_17 : decode cX5_becomes 17 = .ok (.getfield 15, 3) := by decide +kernel
theorem dX5_becomes_20 : decode cX5_becomes 20 = .ok (.iconst 0, 1) := by decide +kernel
theorem dX5_becomes_21 : decode cX5_becomes 21 = .ok (.aload_n 0, 1) := by decide +kernel
theorem dX5_becomes_22 : decode cX5_becomes 22 = .ok (.getfield 15, 3) := by decide +kernel
theorem dX5_becomes_25 : decode cX5_becomes 25 = .ok (.iconst 0, 1) := by decide +kernel
theorem dX5_becomes_26 : decode cX5_becomes 26 = .ok (.aload_n 0, 1) := by decide +kernel
theorem dX5_becomes_27 : decode cX5_becomes 27 = .ok (.getfield 19, 3) := by decide +kernel
theorem dX5_becomes_30 : decode cX5_becomes 30 = .ok (.invokestatic 22, 3) := by decide +kernel
theorem dX5_becomes_33 : decode cX5_becomes 33 = .ok (.return_, 1) := by decide +kernel
theorem dX5_isMissing_0 : decode cX5_isMissing 0 = .ok (.aload_n 0, 1) := by decide +kernel
theorem dX5_isMissing_1 : decode cX5_isMissing 1 = .ok (.getfield 9, 3) := by decide +kernel
theorem dX5_isMissing_4 : decode cX5_isMissing 4 = .ok (.iconst (-1), 1) := by decide +kernel
theorem dX5_isMissing_5 : decode cX5_isMissing 5 = .ok (.if_icmp .ne 7, 3) := by decide +kernel
theorem dX5_isMissing_8 : decode cX5_isMissing 8 = .ok (.iconst 1, 1) := by decide +kernel
theorem dX5_isMissing_9 : decode cX5_isMissing 9 = .ok (.goto 4, 3) := by decide +kernel
theorem dX5_isMissing_12 : decode cX5_isMissing 12 = .ok (.iconst 0, 1) := by decide +kernel
theorem dX5_isMissing_13 : decode cX5_isMissing 13 = .ok (.ireturn, 1) := by decide +kernel
theorem dX5_hasPlace_0 : decode cX5_hasPlace 0 = .ok (.iload_n 1, 1) := by decide +kernel
theorem dX5_hasPlace_1 : decode cX5_hasPlace 1 = .ok (.iconst 0, 1) := by decide +kernel
theorem dX5_hasPlace_2 : decode cX5_hasPlace 2 = .ok (.aload_n 0, 1) := by decide +kernel
theorem dX5_hasPlace_3 : decode cX5_hasPlace 3 = .ok (.getfield 19, 3) := by decide +kernel
theorem dX5_hasPlace_6 : decode cX5_hasPlace 6 = .ok (.iconst 1, 1) := by decide +kernel
theorem dX5_hasPlace_7 : decode cX5_hasPlace 7 = .ok (.isub, 1) := by decide +kernel
theorem dX5_hasPlace_8 : decode cX5_hasPlace 8 = .ok (.invokestatic 28, 3) := by decide +kernel
theorem dX5_hasPlace_11 : decode cX5_hasPlace 11 = .ok (.ireturn, 1) := by decide +kernel
theorem dX5_hasRun_0 : decode cX5_hasRun 0 = .ok (.iload_n 1, 1) := by decide +kernel
theorem dX5_hasRun_1 : decode cX5_hasRun 1 = .ok (.iconst 0, 1) := by decide +kernel
theorem dX5_hasRun_2 : decode cX5_hasRun 2 = .ok (.aload_n 0, 1) := by decide +kernel
theorem dX5_hasRun_3 : decode cX5_hasRun 3 = .ok (.getfield 19, 3) := by decide +kernel
theorem dX5_hasRun_6 : decode cX5_hasRun 6 = .ok (.invokestatic 28, 3) := by decide +kernel
theorem dX5_hasRun_9 : decode cX5_hasRun 9 = .ok (.ifCond .eq 21, 3) := by decide +kernel
theorem dX5_hasRun_12 : decode cX5_hasRun 12 = .ok (.iload_n 2, 1) := by decide +kernel
theorem dX5_hasRun_13 : decode cX5_hasRun 13 = .ok (.iconst 0, 1) := by decide +kernel
theorem dX5_hasRun_14 : decode cX5_hasRun 14 = .ok (.aload_n 0, 1) := by decide +kernel
theorem dX5_hasRun_15 : decode cX5_hasRun 15 = .ok (.getfield 19, 3) := by decide +kernel
theorem dX5_hasRun_18 : decode cX5_hasRun 18 = .ok (.iload_n 1, 1) := by decide +kernel
theorem dX5_hasRun_19 : decode cX5_hasRun 19 = .ok (.isub, 1) := by decide +kernel
theorem dX5_hasRun_20 : decode cX5_hasRun 20 = .ok (.invokestatic 28, 3) := by decide +kernel
theorem dX5_hasRun_23 : decode cX5_hasRun 23 = .ok (.ifCond .eq 7, 3) := by decide +kernel
theorem dX5_hasRun_26 : decode cX5_hasRun 26 = .ok (.iconst 1, 1) := by decide +kernel
theorem dX5_hasRun_27 : decode cX5_hasRun 27 = .ok (.goto 4, 3) := by decide +kernel
theorem dX5_hasRun_30 : decode cX5_hasRun 30 = .ok (.iconst 0, 1) := by decide +kernel
theorem dX5_hasRun_31 : decode cX5_hasRun 31 = .ok (.ireturn, 1) := by decide +kernel
theorem dX5_isNumber_0 : decode cX5_isNumber 0 = .ok (.aload_n 0, 1) := by decide +kernel
theorem dX5_isNumber_1 : decode cX5_isNumber 1 = .ok (.getfield 15, 3) := by decide +kernel
theorem dX5_isNumber_4 : decode cX5_isNumber 4 = .ok (.iload_n 1, 1) := by decide +kernel
theorem dX5_isNumber_5 : decode cX5_isNumber 5 = .ok (.iaload, 1) := by decide +kernel
theorem dX5_isNumber_6 : decode cX5_isNumber 6 = .ok (.ldc 32, 2) := by decide +kernel
theorem dX5_isNumber_8 : decode cX5_isNumber 8 = .ok (.if_icmp .eq 7, 3) := by decide +kernel
theorem dX5_isNumber_11 : decode cX5_isNumber 11 = .ok (.iconst 1, 1) := by decide +kernel
theorem dX5_isNumber_12 : decode cX5_isNumber 12 = .ok (.goto 4, 3) := by decide +kernel
theorem dX5_isNumber_15 : decode cX5_isNumber 15 = .ok (.iconst 0, 1) := by decide +kernel
theorem dX5_isNumber_16 : decode cX5_isNumber 16 = .ok (.ireturn, 1) := by decide +kernel
theorem dX6_init_0 : decode cX6_init 0 = .ok (.aload_n 0, 1) := by decide +kernel
theorem dX6_init_1 : decode cX6_init 1 = .ok (.invokespecial 3, 3) := by decide +kernel
theorem dX6_init_4 : decode cX6_init 4 = .ok (.aload_n 0, 1) := by decide +kernel
theorem dX6_init_5 : decode cX6_init 5 = .ok (.iconst 0, 1) := by decide +kernel
theorem dX6_init_6 : decode cX6_init 6 = .ok (.putfield 9, 3) := by decide +kernel
theorem dX6_init_9 : decode cX6_init 9 = .ok (.aload_n 0, 1) := by decide +kernel
theorem dX6_init_10 : decode cX6_init 10 = .ok (.new 15, 3) := by decide +kernel
theorem dX6_init_13 : decode cX6_init 13 = .ok (.dup, 1) := by decide +kernel
theorem dX6_init_14 : decode cX6_init 14 = .ok (.invokespecial 17, 3) := by decide +kernel
theorem dX6_init_17 : decode cX6_init 17 = .ok (.putfield 18, 3) := by decide +kernel
theorem dX6_init_20 : decode cX6_init 20 = .ok (.aload_n 0, 1) := by decide +kernel
theorem dX6_init_21 : decode cX6_init 21 = .ok (.new 22, 3) := by decide +kernel
theorem dX6_init_24 : decode cX6_init 24 = .ok (.dup, 1) := by decide +kernel
theorem dX6_init_25 : decode cX6_init 25 = .ok (.invokespecial 24, 3) := by decide +kernel
theorem dX6_init_28 : decode cX6_init 28 = .ok (.putfield 25, 3) := by decide +kernel
theorem dX6_init_31 : decode cX6_init 31 = .ok (.return_, 1) := by decide +kernel
end
section
theorem dX7_init_0 : decode cX7_init 0 = .ok (.aload_n 0, 1) := by decide +kernel
theorem dX7_init_1 : decode cX7_init 1 = .ok (.invokespecial 1, 3) := by decide +kernel
theorem dX7_init_4 : decode cX7_init 4 = .ok (.aload_n 0, 1) := by decide +kernel
theorem dX7_init_5 : decode cX7_init 5 = .ok (.new 7, 3) := by decide +kernel
theorem dX7_init_8 : decode cX7_init 8 = .ok (.dup, 1) := by decide +kernel
theorem dX7_init_9 : decode cX7_init 9 = .ok (.invokespecial 9, 3) := by decide +kernel
theorem dX7_init_12 : decode cX7_init 12 = .ok (.putfield 10, 3) := by decide +kernel
theorem dX7_init_15 : decode cX7_init 15 = .ok (.aload_n 0, 1) := by decide +kernel
theorem dX7_init_16 : decode cX7_init 16 = .ok (.new 16, 3) := by decide +kernel
theorem dX7_init_19 : decode cX7_init 19 = .ok (.dup, 1) := by decide +kernel
theorem dX7_init_20 : decode cX7_init 20 = .ok (.aload_n 0, 1) := by decide +kernel
theorem dX7_init_21 : decode cX7_init 21 = .ok (.getfield 10, 3) := by decide +kernel
theorem dX7_init_24 : decode cX7_init 24 = .ok (.invokespecial 18, 3) := by decide +kernel
theorem dX7_init_27 : decode cX7_init 27 = .ok (.putfield 21, 3) := by decide +kernel
theorem dX7_init_30 : decode cX7_init 30 = .ok (.aload_n 0, 1) := by decide +kernel
theorem dX7_init_31 : decode cX7_init 31 = .ok (.new 16, 3) := by decide +kernel
theorem dX7_init_34 : decode cX7_init 34 = .ok (.dup, 1) := by decide +kernel
theorem dX7_init_35 : decode cX7_init 35 = .ok (.aload_n 0, 1) := by decide +kernel
theorem dX7_init_36 : decode cX7_init 36 = .ok (.getfield 10, 3) := by decide +kernel
theorem dX7_init_39 : decode cX7_init 39 = .ok (.invokespecial 18, 3) := by decide +kernel
theorem dX7_init_42 : decode cX7_init 42 = .ok (.putfield 25, 3) := by decide +kernel
theorem dX7_init_45 : decode cX7_init 45 = .ok (.aload_n 0, 1) := by decide +kernel
theorem dX7_init_46 : decode cX7_init 46 = .ok (.new 16, 3) := by decide +kernel
theorem dX7_init_49 : decode cX7_init 49 = .ok (.dup, 1) := by decide +kernel
theorem dX7_init_50 : decode cX7_init 50 = .ok (.aload_n 0, 1) := by decide +kernel
theorem dX7_init_51 : decode cX7_init 51 = .ok (.getfield 10, 3) := by decide +kernel
theorem dX7_init_54 : decode cX7_init 54 = .ok (.invokespecial 18, 3) := by decide +kernel
theorem dX7_init_57 : decode cX7_init 57 = .ok (.putfield 28, 3) := by decide +kernel
theorem dX7_init_60 : decode cX7_init 60 = .ok (.aload_n 0, 1) := by decide +kernel
theorem dX7_init_61 : decode cX7_init 61 = .ok (.bipush 96, 2) := by decide +kernel
theorem dX7_init_63 : decode cX7_init 63 = .ok (.newarray .byte, 2) := by decide +kernel
theorem dX7_init_65 : decode cX7_init 65 = .ok (.putfield 31, 3) := by decide +kernel
theorem dX7_init_68 : decode cX7_init 68 = .ok (.aload_n 0, 1) := by decide +kernel
theorem dX7_init_69 : decode cX7_init 69 = .ok (.new 35, 3) := by decide +kernel
theorem dX7_init_72 : decode cX7_init 72 = .ok (.dup, 1) := by decide +kernel
theorem dX7_init_73 : decode cX7_init 73 = .ok (.aload_n 0, 1) := by decide +kernel
theorem dX7_init_74 : decode cX7_init 74 = .ok (.getfield 31, 3) := by decide +kernel
theorem dX7_init_77 : decode cX7_init 77 = .ok (.invokespecial 37, 3) := by decide +kernel
theorem dX7_init_80 : decode cX7_init 80 = .ok (.putfield 40, 3) := by decide +kernel
theorem dX7_init_83 : decode cX7_init 83 = .ok (.aload_n 0, 1) := by decide +kernel
theorem dX7_init_84 : decode cX7_init 84 = .ok (.bipush 60, 2) := by decide +kernel
theorem dX7_init_86 : decode cX7_init 86 = .ok (.newarray .int, 2) := by decide +kernel
theorem dX7_init_88 : decode cX7_init 88 = .ok (.putfield 44, 3) := by decide +kernel
theorem dX7_init_91 : decode cX7_init 91 = .ok (.aload_n 0, 1) := by decide +kernel
theorem dX7_init_92 : decode cX7_init 92 = .ok (.iconst 4, 1) := by decide +kernel
theorem dX7_init_93 : decode cX7_init 93 = .ok (.anewarray 48, 3) := by decide +kernel
theorem dX7_init_96 : decode cX7_init 96 = .ok (.putfield 50, 3) := by decide +kernel
theorem dX7_init_99 : decode cX7_init 99 = .ok (.iconst 0, 1) := by decide +kernel
theorem dX7_init_100 : decode cX7_init 100 = .ok (.istore_n 1, 1) := by decide +kernel
theorem dX7_init_101 : decode cX7_init 101 = .ok (.iload_n 1, 1) := by decide +kernel
theorem dX7_init_102 : decode cX7_init 102 = .ok (.iconst 4, 1) := by decide +kernel
theorem dX7_init_103 : decode cX7_init 103 = .ok (.if_icmp .ge 22, 3) := by decide +kernel
theorem dX7_init_106 : decode cX7_init 106 = .ok (.aload_n 0, 1) := by decide +kernel
theorem dX7_init_107 : decode cX7_init 107 = .ok (.getfield 50, 3) := by decide +kernel
theorem dX7_init_110 : decode cX7_init 110 = .ok (.iload_n 1, 1) := by decide +kernel
theorem dX7_init_111 : decode cX7_init 111 = .ok (.new 48, 3) := by decide +kernel
theorem dX7_init_114 : decode cX7_init 114 = .ok (.dup, 1) := by decide +kernel
theorem dX7_init_115 : decode cX7_init 115 = .ok (.invokespecial 54, 3) := by decide +kernel
theorem dX7_init_118 : decode cX7_init 118 = .ok (.aastore, 1) := by decide +kernel
theorem dX7_init_119 : decode cX7_init 119 = .ok (.iinc 1 1, 3) := by decide +kernel
theorem dX7_init_122 : decode cX7_init 122 = .ok (.goto (-21), 3) := by decide +kernel
theorem dX7_init_125 : decode cX7_init 125 = .ok (.aload_n 0, 1) := by decide +kernel
theorem dX7_init_126 : decode cX7_init 126 = .ok (.iconst 5, 1) := by decide +kernel
theorem dX7_init_127 : decode cX7_init 127 = .ok (.anewarray 55, 3) := by decide +kernel
theorem dX7_init_130 : decode cX7_init 130 = .ok (.putfield 57, 3) := by decide +kernel
theorem dX7_init_133 : decode cX7_init 133 = .ok (.iconst 0, 1) := by decide +kernel
theorem dX7_init_134 : decode cX7_init 134 = .ok (.istore_n 1, 1) := by decide +kernel
theorem dX7_init_135 : decode cX7_init 135 = .ok (.iload_n 1, 1) := by decide +kernel
theorem dX7_init_136 : decode cX7_init 136 = .ok (.iconst 5, 1) := by decide +kernel
theorem dX7_init_137 : decode cX7_init 137 = .ok (.if_icmp .ge 22, 3) := by decide +kernel
theorem dX7_init_140 : decode cX7_init 140 = .ok (.aload_n 0, 1) := by decide +kernel
theorem dX7_init_141 : decode cX7_init 141 = .ok (.getfield 57, 3) := by decide +kernel
theorem dX7_init_144 : decode cX7_init 144 = .ok (.iload_n 1, 1) := by decide +kernel
theorem dX7_init_145 : decode cX7_init 145 = .ok (.new 55, 3) := by decide +kernel
theorem dX7_init_148 : decode cX7_init 148 = .ok (.dup, 1) := by decide +kernel
theorem dX7_init_149 : decode cX7_init 149 = .ok (.invokespecial 61, 3) := by decide +kernel
theorem dX7_init_152 : decode cX7_init 152 = .ok (.aastore, 1) := by decide +kernel
theorem dX7_init_153 : decode cX7_init 153 = .ok (.iinc 1 1, 3) := by decide +kernel
theorem dX7_init_156 : decode cX7_init 156 = .ok (.goto (-21), 3) := by decide +kernel
theorem dX7_init_159 : decode cX7_init 159 = .ok (.return_, 1) := by decide +kernel
theorem dX7_person_0 : decode cX7_person 0 = .ok (.iload_n 1, 1) := by decide +kernel
theorem dX7_person_1 : decode cX7_person 1 = .ok (.iconst 0, 1) := by decide +kernel
theorem dX7_person_2 : decode cX7_person 2 = .ok (.iconst 5, 1) := by decide +kernel
theorem dX7_person_3 : decode cX7_person 3 = .ok (.invokestatic 62, 3) := by decide +kernel
theorem dX7_person_6 : decode cX7_person 6 = .ok (.ifCond .eq 23, 3) := by decide +kernel
theorem dX7_person_9 : decode cX7_person 9 = .ok (.iload_n 2, 1) := by decide +kernel
theorem dX7_person_10 : decode cX7_person 10 = .ok (.iconst 0, 1) := by decide +kernel
theorem dX7_person_11 : decode cX7_person 11 = .ok (.bipush 23, 2) := by decide +kernel
theorem dX7_person_13 : decode cX7_person 13 = .ok (.invokestatic 62, 3) := by decide +kernel
theorem dX7_person_16 : decode cX7_person 16 = .ok (.ifCond .eq 13, 3) := by decide +kernel
theorem dX7_person_19 : decode cX7_person 19 = .ok (.iload_n 3, 1) := by decide +kernel
theorem dX7_person_20 : decode cX7_person 20 = .ok (.iconst 0, 1) := by decide +kernel
theorem dX7_person_21 : decode cX7_person 21 = .ok (.bipush 99, 2) := by decide +kernel
theorem dX7_person_23 : decode cX7_person 23 = .ok (.invokestatic 62, 3) := by decide +kernel
theorem dX7_person_26 : decode cX7_person 26 = .ok (.ifCond .ne 6, 3) := by decide +kernel
theorem dX7_person_29 : decode cX7_person 29 = .ok (.ldc 66, 2) := by decide +kernel
theorem dX7_person_31 : decode cX7_person 31 = .ok (.ireturn, 1) := by decide +kernel
theorem dX7_person_32 : decode cX7_person 32 = .ok (.aload_n 0, 1) := by decide +kernel
theorem dX7_person_33 : decode cX7_person 33 = .ok (.getfield 21, 3) := by decide +kernel
theorem dX7_person_36 : decode cX7_person 36 = .ok (.getfield 67, 3) := by decide +kernel
theorem dX7_person_39 : decode cX7_person 39 = .ok (.bipush 10, 2) := by decide +kernel
theorem dX7_person_41 : decode cX7_person 41 = .ok (.if_icmp .lt 6, 3) := by decide +kernel
theorem dX7_person_44 : decode cX7_person 44 = .ok (.ldc 71, 2) := by decide +kernel
theorem dX7_person_46 : decode cX7_person 46 = .ok (.ireturn, 1) := by decide +kernel
theorem dX7_person_47 : decode cX7_person 47 = .ok (.aload_n 0, 1) := by decide +kernel
theorem dX7_person_48 : decode cX7_person 48 = .ok (.getfield 21, 3) := by decide +kernel
theorem dX7_person_51 : decode cX7_person 51 = .ok (.iload_n 1, 1) := by decide +kernel
theorem dX7_person_52 : decode cX7_person 52 = .ok (.iload_n 2, 1) := by decide +kernel
theorem dX7_person_53 : decode cX7_person 53 = .ok (.iload_n 3, 1) := by decide +kernel
theorem dX7_person_54 : decode cX7_person 54 = .ok (.invokevirtual 72, 3) := by decide +kernel
theorem dX7_person_57 : decode cX7_person 57 = .ok (.aload_n 0, 1) := by decide +kernel
theorem dX7_person_58 : decode cX7_person 58 = .ok (.getfield 21, 3) := by decide +kernel
theorem dX7_person_61 : decode cX7_person 61 = .ok (.getfield 67, 3) := by decide +kernel
theorem dX7_person_64 : decode cX7_person 64 = .ok (.iconst 1, 1) := by decide +kernel
theorem dX7_person_65 : decode cX7_person 65 = .ok (.isub, 1) := by decide +kernel
theorem dX7_person_66 : decode cX7_person 66 = .ok (.ireturn, 1) := by decide +kernel
theorem dX7_told_0 : decode cX7_told 0 = .ok (.aload_n 0, 1) := by decide +kernel
theorem dX7_told_1 : decode cX7_told 1 = .ok (.getfield 21, 3) := by decide +kernel
theorem dX7_told_4 : decode cX7_told 4 = .ok (.iload_n 1, 1) := by decide +kernel
theorem dX7_told_5 : decode cX7_told 5 = .ok (.invokevirtual 76, 3) := by decide +kernel
theorem dX7_told_8 : decode cX7_told 8 = .ok (.ifCond .ne 6, 3) := by decide +kernel
theorem dX7_told_11 : decode cX7_told 11 = .ok (.ldc 66, 2) := by decide +kernel
theorem dX7_told_13 : decode cX7_told 13 = .ok (.ireturn, 1) := by decide +kernel
theorem dX7_told_14 : decode cX7_told 14 = .ok (.aload_n 0, 1) := by decide +kernel
theorem dX7_told_15 : decode cX7_told 15 = .ok (.getfield 21, 3) := by decide +kernel
theorem dX7_told_18 : decode cX7_told 18 = .ok (.getfield 80, 3) := by decide +kernel
theorem dX7_told_21 : decode cX7_told 21 = .ok (.iload_n 1, 1) := by decide +kernel
theorem dX7_told_22 : decode cX7_told 22 = .ok (.aaload, 1) := by decide +kernel
theorem dX7_told_23 : decode cX7_told 23 = .ok (.astore_n 3, 1) := by decide +kernel
theorem dX7_told_24 : decode cX7_told 24 = .ok (.iload_n 2, 1) := by decide +kernel
theorem dX7_told_25 : decode cX7_told 25 = .ok (.tableswitch 104 0 8 #[51, 56, 61, 66, 71, 80, 89, 94, 99], 51) := by decide +kernel
theorem dX7_told_76 : decode cX7_told 76 = .ok (.aload_n 3, 1) := by decide +kernel
theorem dX7_told_77 : decode cX7_told 77 = .ok (.getfield 84, 3) := by decide +kernel
theorem dX7_told_80 : decode cX7_told 80 = .ok (.ireturn, 1) := by decide +kernel
theorem dX7_told_81 : decode cX7_told 81 = .ok (.aload_n 3, 1) := by decide +kernel
theorem dX7_told_82 : decode cX7_told 82 = .ok (.getfield 89, 3) := by decide +kernel
theorem dX7_told_85 : decode cX7_told 85 = .ok (.ireturn, 1) := by decide +kernel
theorem dX7_told_86 : decode cX7_told 86 = .ok (.aload_n 3, 1) := by decide +kernel
theorem dX7_told_87 : decode cX7_told 87 = .ok (.getfield 92, 3) := by decide +kernel
theorem dX7_told_90 : decode cX7_told 90 = .ok (.ireturn, 1) := by decide +kernel
theorem dX7_told_91 : decode cX7_told 91 = .ok (.aload_n 3, 1) := by decide +kernel
theorem dX7_told_92 : decode cX7_told 92 = .ok (.getfield 95, 3) := by decide +kernel
theorem dX7_told_95 : decode cX7_told 95 = .ok (.ireturn, 1) := by decide +kernel
theorem dX7_told_96 : decode cX7_told 96 = .ok (.aload_n 0, 1) := by decide +kernel
theorem dX7_told_97 : decode cX7_told 97 = .ok (.getfield 21, 3) := by decide +kernel
theorem dX7_told_100 : decode cX7_told 100 = .ok (.iload_n 1, 1) := by decide +kernel
theorem dX7_told_101 : decode cX7_told 101 = .ok (.invokevirtual 98, 3) := by decide +kernel
theorem dX7_told_104 : decode cX7_told 104 = .ok (.ireturn, 1) := by decide +kernel
theorem dX7_told_105 : decode cX7_told 105 = .ok (.aload_n 0, 1) := by decide +kernel
theorem dX7_told_106 : decode cX7_told 106 = .ok (.getfield 21, 3) := by decide +kernel
theorem dX7_told_109 : decode cX7_told 109 = .ok (.iload_n 1, 1) := by decide +kernel
theorem dX7_told_110 : decode cX7_told 110 = .ok (.invokevirtual 102, 3) := by decide +kernel
theorem dX7_told_113 : decode cX7_told 113 = .ok (.ireturn, 1) := by decide +kernel
theorem dX7_told_114 : decode cX7_told 114 = .ok (.aload_n 3, 1) := by decide +kernel
theorem dX7_told_115 : decode cX7_told 115 = .ok (.invokevirtual 105, 3) := by decide +kernel
theorem dX7_told_118 : decode cX7_told 118 = .ok (.ireturn, 1) := by decide +kernel
theorem dX7_told_119 : decode cX7_told 119 = .ok (.aload_n 3, 1) := by decide +kernel
theorem dX7_told_120 : decode cX7_told 120 = .ok (.invokevirtual 109, 3) := by decide +kernel
theorem dX7_told_123 : decode cX7_told 123 = .ok (.ireturn, 1) := by decide +kernel
theorem dX7_told_124 : decode cX7_told 124 = .ok (.aload_n 3, 1) := by decide +kernel
theorem dX7_told_125 : decode cX7_told 125 = .ok (.invokevirtual 112, 3) := by decide +kernel
theorem dX7_told_128 : decode cX7_told 128 = .ok (.ireturn, 1) := by decide +kernel
theorem dX7_told_129 : decode cX7_told 129 = .ok (.ldc 66, 2) := by decide +kernel
theorem dX7_told_131 : decode cX7_told 131 = .ok (.ireturn, 1) := by decide +kernel
theorem dX7_as_0 : decode cX7_as 0 = .ok (.aload_n 0, 1) := by decide +kernel
theorem dX7_as_1 : decode cX7_as 1 = .ok (.getfield 21, 3) := by decide +kernel
theorem dX7_as_4 : decode cX7_as 4 = .ok (.iload_n 1, 1) := by decide +kernel
theorem dX7_as_5 : decode cX7_as 5 = .ok (.invokevirtual 76, 3) := by decide +kernel
theorem dX7_as_8 : decode cX7_as 8 = .ok (.ifCond .eq 12, 3) := by decide +kernel
theorem dX7_as_11 : decode cX7_as 11 = .ok (.iload_n 2, 1) := by decide +kernel
theorem dX7_as_12 : decode cX7_as 12 = .ok (.iconst 0, 1) := by decide +kernel
theorem dX7_as_13 : decode cX7_as 13 = .ok (.iconst 5, 1) := by decide +kernel
theorem dX7_as_14 : decode cX7_as 14 = .ok (.invokestatic 62, 3) := by decide +kernel
theorem dX7_as_17 : decode cX7_as 17 = .ok (.ifCond .ne 6, 3) := by decide +kernel
theorem dX7_as_20 : decode cX7_as 20 = .ok (.ldc 66, 2) := by decide +kernel
theorem dX7_as_22 : decode cX7_as 22 = .ok (.ireturn, 1) := by decide +kernel
theorem dX7_as_23 : decode cX7_as 23 = .ok (.aload_n 0, 1) := by decide +kernel
theorem dX7_as_24 : decode cX7_as 24 = .ok (.getfield 21, 3) := by decide +kernel
theorem dX7_as_27 : decode cX7_as 27 = .ok (.getfield 80, 3) := by decide +kernel
theorem dX7_as_30 : decode cX7_as 30 = .ok (.iload_n 1, 1) := by decide +kernel
theorem dX7_as_31 : decode cX7_as 31 = .ok (.aaload, 1) := by decide +kernel
theorem dX7_as_32 : decode cX7_as 32 = .ok (.astore_n 3, 1) := by decide +kernel
theorem dX7_as_33 : decode cX7_as 33 = .ok (.aload_n 3, 1) := by decide +kernel
theorem dX7_as_34 : decode cX7_as 34 = .ok (.iload_n 2, 1) := by decide +kernel
theorem dX7_as_35 : decode cX7_as 35 = .ok (.invokevirtual 115, 3) := by decide +kernel
theorem dX7_as_38 : decode cX7_as 38 = .ok (.ifCond .eq 10, 3) := by decide +kernel
theorem dX7_as_41 : decode cX7_as 41 = .ok (.aload_n 3, 1) := by decide +kernel
theorem dX7_as_42 : decode cX7_as 42 = .ok (.getfield 92, 3) := by decide +kernel
theorem dX7_as_45 : decode cX7_as 45 = .ok (.goto 5, 3) := by decide +kernel
theorem dX7_as_48 : decode cX7_as 48 = .ok (.ldc 118, 2) := by decide +kernel
theorem dX7_as_50 : decode cX7_as 50 = .ok (.ireturn, 1) := by decide +kernel
theorem dX7_turns_0 : decode cX7_turns 0 = .ok (.aload_n 0, 1) := by decide +kernel
theorem dX7_turns_1 : decode cX7_turns 1 = .ok (.getfield 21, 3) := by decide +kernel
theorem dX7_turns_4 : decode cX7_turns 4 = .ok (.iload_n 1, 1) := by decide +kernel
theorem dX7_turns_5 : decode cX7_turns 5 = .ok (.invokevirtual 76, 3) := by decide +kernel
theorem dX7_turns_8 : decode cX7_turns 8 = .ok (.ifCond .eq 12, 3) := by decide +kernel
theorem dX7_turns_11 : decode cX7_turns 11 = .ok (.iload_n 2, 1) := by decide +kernel
theorem dX7_turns_12 : decode cX7_turns 12 = .ok (.iconst 0, 1) := by decide +kernel
theorem dX7_turns_13 : decode cX7_turns 13 = .ok (.iconst 5, 1) := by decide +kernel
theorem dX7_turns_14 : decode cX7_turns 14 = .ok (.invokestatic 62, 3) := by decide +kernel
theorem dX7_turns_17 : decode cX7_turns 17 = .ok (.ifCond .ne 6, 3) := by decide +kernel
theorem dX7_turns_20 : decode cX7_turns 20 = .ok (.ldc 66, 2) := by decide +kernel
theorem dX7_turns_22 : decode cX7_turns 22 = .ok (.ireturn, 1) := by decide +kernel
theorem dX7_turns_23 : decode cX7_turns 23 = .ok (.aload_n 0, 1) := by decide +kernel
theorem dX7_turns_24 : decode cX7_turns 24 = .ok (.getfield 21, 3) := by decide +kernel
theorem dX7_turns_27 : decode cX7_turns 27 = .ok (.getfield 80, 3) := by decide +kernel
theorem dX7_turns_30 : decode cX7_turns 30 = .ok (.iload_n 1, 1) := by decide +kernel
theorem dX7_turns_31 : decode cX7_turns 31 = .ok (.aaload, 1) := by decide +kernel
theorem dX7_turns_32 : decode cX7_turns 32 = .ok (.getfield 84, 3) := by decide +kernel
theorem dX7_turns_35 : decode cX7_turns 35 = .ok (.istore_n 3, 1) := by decide +kernel
theorem dX7_turns_36 : decode cX7_turns 36 = .ok (.aload_n 0, 1) := by decide +kernel
theorem dX7_turns_37 : decode cX7_turns 37 = .ok (.getfield 21, 3) := by decide +kernel
theorem dX7_turns_40 : decode cX7_turns 40 = .ok (.getfield 80, 3) := by decide +kernel
theorem dX7_turns_43 : decode cX7_turns 43 = .ok (.iload_n 1, 1) := by decide +kernel
theorem dX7_turns_44 : decode cX7_turns 44 = .ok (.aaload, 1) := by decide +kernel
theorem dX7_turns_45 : decode cX7_turns 45 = .ok (.iload_n 2, 1) := by decide +kernel
theorem dX7_turns_46 : decode cX7_turns 46 = .ok (.putfield 84, 3) := by decide +kernel
theorem dX7_turns_49 : decode cX7_turns 49 = .ok (.iload_n 3, 1) := by decide +kernel
theorem dX7_turns_50 : decode cX7_turns 50 = .ok (.ireturn, 1) := by decide +kernel
theorem dX7_set_0 : decode cX7_set 0 = .ok (.aload_n 0, 1) := by decide +kernel
theorem dX7_set_1 : decode cX7_set 1 = .ok (.getfield 21, 3) := by decide +kernel
theorem dX7_set_4 : decode cX7_set 4 = .ok (.iload_n 1, 1) := by decide +kernel
theorem dX7_set_5 : decode cX7_set 5 = .ok (.invokevirtual 76, 3) := by decide +kernel
theorem dX7_set_8 : decode cX7_set 8 = .ok (.ifCond .ne 6, 3) := by decide +kernel
theorem dX7_set_11 : decode cX7_set 11 = .ok (.ldc 66, 2) := by decide +kernel
theorem dX7_set_13 : decode cX7_set 13 = .ok (.ireturn, 1) := by decide +kernel
theorem dX7_set_14 : decode cX7_set 14 = .ok (.aload_n 0, 1) := by decide +kernel
theorem dX7_set_15 : decode cX7_set 15 = .ok (.getfield 21, 3) := by decide +kernel
theorem dX7_set_18 : decode cX7_set 18 = .ok (.getfield 80, 3) := by decide +kernel
theorem dX7_set_21 : decode cX7_set 21 = .ok (.iload_n 1, 1) := by decide +kernel
theorem dX7_set_22 : decode cX7_set 22 = .ok (.aaload, 1) := by decide +kernel
theorem dX7_set_23 : decode cX7_set 23 = .ok (.astore 4, 2) := by decide +kernel
theorem dX7_set_25 : decode cX7_set 25 = .ok (.iload_n 2, 1) := by decide +kernel
theorem dX7_set_26 : decode cX7_set 26 = .ok (.tableswitch 95 1 3 #[26, 48, 70], 26) := by decide +kernel
theorem dX7_set_52 : decode cX7_set 52 = .ok (.iload_n 3, 1) := by decide +kernel
theorem dX7_set_53 : decode cX7_set 53 = .ok (.iconst 0, 1) := by decide +kernel
theorem dX7_set_54 : decode cX7_set 54 = .ok (.bipush 23, 2) := by decide +kernel
theorem dX7_set_56 : decode cX7_set 56 = .ok (.invokestatic 62, 3) := by decide +kernel
theorem dX7_set_59 : decode cX7_set 59 = .ok (.ifCond .eq 12, 3) := by decide +kernel
theorem dX7_set_62 : decode cX7_set 62 = .ok (.aload 4, 2) := by decide +kernel
theorem dX7_set_64 : decode cX7_set 64 = .ok (.iload_n 3, 1) := by decide +kernel
theorem dX7_set_65 : decode cX7_set 65 = .ok (.invokevirtual 119, 3) := by decide +kernel
theorem dX7_set_68 : decode cX7_set 68 = .ok (.goto 5, 3) := by decide +kernel
theorem dX7_set_71 : decode cX7_set 71 = .ok (.ldc 66, 2) := by decide +kernel
theorem dX7_set_73 : decode cX7_set 73 = .ok (.ireturn, 1) := by decide +kernel
theorem dX7_set_74 : decode cX7_set 74 = .ok (.iload_n 3, 1) := by decide +kernel
theorem dX7_set_75 : decode cX7_set 75 = .ok (.iconst 0, 1) := by decide +kernel
theorem dX7_set_76 : decode cX7_set 76 = .ok (.bipush 99, 2) := by decide +kernel
theorem dX7_set_78 : decode cX7_set 78 = .ok (.invokestatic 62, 3) := by decide +kernel
theorem dX7_set_81 : decode cX7_set 81 = .ok (.ifCond .eq 12, 3) := by decide +kernel
theorem dX7_set_84 : decode cX7_set 84 = .ok (.aload 4, 2) := by decide +kernel
theorem dX7_set_86 : decode cX7_set 86 = .ok (.iload_n 3, 1) := by decide +kernel
theorem dX7_set_87 : decode cX7_set 87 = .ok (.invokevirtual 122, 3) := by decide +kernel
theorem dX7_set_90 : decode cX7_set 90 = .ok (.goto 5, 3) := by decide +kernel
theorem dX7_set_93 : decode cX7_set 93 = .ok (.ldc 66, 2) := by decide +kernel
theorem dX7_set_95 : decode cX7_set 95 = .ok (.ireturn, 1) := by decide +kernel
theorem dX7_set_96 : decode cX7_set 96 = .ok (.iload_n 3, 1) := by decide +kernel
theorem dX7_set_97 : decode cX7_set 97 = .ok (.sipush (-9999), 3) := by decide +kernel
theorem dX7_set_100 : decode cX7_set 100 = .ok (.sipush 9999, 3) := by decide +kernel
theorem dX7_set_103 : decode cX7_set 103 = .ok (.invokestatic 62, 3) := by decide +kernel
theorem dX7_set_106 : decode cX7_set 106 = .ok (.ifCond .eq 12, 3) := by decide +kernel
theorem dX7_set_109 : decode cX7_set 109 = .ok (.aload 4, 2) := by decide +kernel
theorem dX7_set_111 : decode cX7_set 111 = .ok (.iload_n 3, 1) := by decide +kernel
theorem dX7_set_112 : decode cX7_set 112 = .ok (.invokevirtual 125, 3) := by decide +kernel
theorem dX7_set_115 : decode cX7_set 115 = .ok (.goto 5, 3) := by decide +kernel
theorem dX7_set_118 : decode cX7_set 118 = .ok (.ldc 66, 2) := by decide +kernel
theorem dX7_set_120 : decode cX7_set 120 = .ok (.ireturn, 1) := by decide +kernel
theorem dX7_set_121 : decode cX7_set 121 = .ok (.ldc 66, 2) := by decide +kernel
theorem dX7_set_123 : decode cX7_set 123 = .ok (.ireturn, 1) := by decide +kernel
theorem dX7_vow_0 : decode cX7_vow 0 = .ok (.aload_n 0, 1) := by decide +kernel
theorem dX7_vow_1 : decode cX7_vow 1 = .ok (.getfield 21, 3) := by decide +kernel
theorem dX7_vow_4 : decode cX7_vow 4 = .ok (.iload_n 1, 1) := by decide +kernel
theorem dX7_vow_5 : decode cX7_vow 5 = .ok (.invokevirtual 76, 3) := by decide +kernel
theorem dX7_vow_8 : decode cX7_vow 8 = .ok (.ifCond .eq 28, 3) := by decide +kernel
theorem dX7_vow_11 : decode cX7_vow 11 = .ok (.aload_n 0, 1) := by decide +kernel
theorem dX7_vow_12 : decode cX7_vow 12 = .ok (.getfield 21, 3) := by decide +kernel
theorem dX7_vow_15 : decode cX7_vow 15 = .ok (.iload_n 2, 1) := by decide +kernel
theorem dX7_vow_16 : decode cX7_vow 16 = .ok (.invokevirtual 76, 3) := by decide +kernel
theorem dX7_vow_19 : decode cX7_vow 19 = .ok (.ifCond .eq 17, 3) := by decide +kernel
theorem dX7_vow_22 : decode cX7_vow 22 = .ok (.iload_n 1, 1) := by decide +kernel
theorem dX7_vow_23 : decode cX7_vow 23 = .ok (.iload_n 2, 1) := by decide +kernel
theorem dX7_vow_24 : decode cX7_vow 24 = .ok (.if_icmp .eq 12, 3) := by decide +kernel
theorem dX7_vow_27 : decode cX7_vow 27 = .ok (.iload_n 3, 1) := by decide +kernel
theorem dX7_vow_28 : decode cX7_vow 28 = .ok (.iconst 0, 1) := by decide +kernel
theorem dX7_vow_29 : decode cX7_vow 29 = .ok (.iconst 2, 1) := by decide +kernel
theorem dX7_vow_30 : decode cX7_vow 30 = .ok (.invokestatic 62, 3) := by decide +kernel
theorem dX7_vow_33 : decode cX7_vow 33 = .ok (.ifCond .ne 6, 3) := by decide +kernel
theorem dX7_vow_36 : decode cX7_vow 36 = .ok (.ldc 66, 2) := by decide +kernel
theorem dX7_vow_38 : decode cX7_vow 38 = .ok (.ireturn, 1) := by decide +kernel
theorem dX7_vow_39 : decode cX7_vow 39 = .ok (.aload_n 0, 1) := by decide +kernel
theorem dX7_vow_40 : decode cX7_vow 40 = .ok (.getfield 21, 3) := by decide +kernel
theorem dX7_vow_43 : decode cX7_vow 43 = .ok (.getfield 80, 3) := by decide +kernel
theorem dX7_vow_46 : decode cX7_vow 46 = .ok (.iload_n 1, 1) := by decide +kernel
theorem dX7_vow_47 : decode cX7_vow 47 = .ok (.aaload, 1) := by decide +kernel
theorem dX7_vow_48 : decode cX7_vow 48 = .ok (.astore 4, 2) := by decide +kernel
theorem dX7_vow_50 : decode cX7_vow 50 = .ok (.aload 4, 2) := by decide +kernel
theorem dX7_vow_52 : decode cX7_vow 52 = .ok (.getfield 84, 3) := by decide +kernel
theorem dX7_vow_55 : decode cX7_vow 55 = .ok (.iconst 5, 1) := by decide +kernel
theorem dX7_vow_56 : decode cX7_vow 56 = .ok (.if_icmp .ne 6, 3) := by decide +kernel
theorem dX7_vow_59 : decode cX7_vow 59 = .ok (.ldc 128, 2) := by decide +kernel
theorem dX7_vow_61 : decode cX7_vow 61 = .ok (.ireturn, 1) := by decide +kernel
theorem dX7_vow_62 : decode cX7_vow 62 = .ok (.aload 4, 2) := by decide +kernel
theorem dX7_vow_64 : decode cX7_vow 64 = .ok (.getfield 129, 3) := by decide +kernel
theorem dX7_vow_67 : decode cX7_vow 67 = .ok (.aload_n 0, 1) := by decide +kernel
theorem dX7_vow_68 : decode cX7_vow 68 = .ok (.getfield 21, 3) := by decide +kernel
theorem dX7_vow_71 : decode cX7_vow 71 = .ok (.getfield 132, 3) := by decide +kernel
theorem dX7_vow_74 : decode cX7_vow 74 = .ok (.if_icmp .ne 14, 3) := by decide +kernel
theorem dX7_vow_77 : decode cX7_vow 77 = .ok (.aload_n 0, 1) := by decide +kernel
theorem dX7_vow_78 : decode cX7_vow 78 = .ok (.getfield 21, 3) := by decide +kernel
theorem dX7_vow_81 : decode cX7_vow 81 = .ok (.iload_n 1, 1) := by decide +kernel
theorem dX7_vow_82 : decode cX7_vow 82 = .ok (.invokevirtual 135, 3) := by decide +kernel
theorem dX7_vow_85 : decode cX7_vow 85 = .ok (.ldc 139, 2) := by decide +kernel
theorem dX7_vow_87 : decode cX7_vow 87 = .ok (.ireturn, 1) := by decide +kernel
theorem dX7_vow_88 : decode cX7_vow 88 = .ok (.aload_n 0, 1) := by decide +kernel
theorem dX7_vow_89 : decode cX7_vow 89 = .ok (.getfield 21, 3) := by decide +kernel
theorem dX7_vow_92 : decode cX7_vow 92 = .ok (.getfield 140, 3) := by decide +kernel
theorem dX7_vow_95 : decode cX7_vow 95 = .ok (.bipush 16, 2) := by decide +kernel
theorem dX7_vow_97 : decode cX7_vow 97 = .ok (.if_icmp .lt 6, 3) := by decide +kernel
theorem dX7_vow_100 : decode cX7_vow 100 = .ok (.ldc 71, 2) := by decide +kernel
theorem dX7_vow_102 : decode cX7_vow 102 = .ok (.ireturn, 1) := by decide +kernel
theorem dX7_vow_103 : decode cX7_vow 103 = .ok (.aload 4, 2) := by decide +kernel
theorem dX7_vow_105 : decode cX7_vow 105 = .ok (.aload_n 0, 1) := by decide +kernel
theorem dX7_vow_106 : decode cX7_vow 106 = .ok (.getfield 21, 3) := by decide +kernel
theorem dX7_vow_109 : decode cX7_vow 109 = .ok (.getfield 132, 3) := by decide +kernel
theorem dX7_vow_112 : decode cX7_vow 112 = .ok (.putfield 129, 3) := by decide +kernel
theorem dX7_vow_115 : decode cX7_vow 115 = .ok (.aload_n 0, 1) := by decide +kernel
theorem dX7_vow_116 : decode cX7_vow 116 = .ok (.getfield 21, 3) := by decide +kernel
theorem dX7_vow_119 : decode cX7_vow 119 = .ok (.iload_n 1, 1) := by decide +kernel
theorem dX7_vow_120 : decode cX7_vow 120 = .ok (.iload_n 2, 1) := by decide +kernel
theorem dX7_vow_121 : decode cX7_vow 121 = .ok (.iload_n 3, 1) := by decide +kernel
theorem dX7_vow_122 : decode cX7_vow 122 = .ok (.invokevirtual 143, 3) := by decide +kernel
theorem dX7_vow_125 : decode cX7_vow 125 = .ok (.aload_n 0, 1) := by decide +kernel
theorem dX7_vow_126 : decode cX7_vow 126 = .ok (.getfield 21, 3) := by decide +kernel
theorem dX7_vow_129 : decode cX7_vow 129 = .ok (.getfield 140, 3) := by decide +kernel
theorem dX7_vow_132 : decode cX7_vow 132 = .ok (.iconst 1, 1) := by decide +kernel
theorem dX7_vow_133 : decode cX7_vow 133 = .ok (.isub, 1) := by decide +kernel
theorem dX7_vow_134 : decode cX7_vow 134 = .ok (.ireturn, 1) := by decide +kernel
theorem dX7_vowOf_0 : decode cX7_vowOf 0 = .ok (.aload_n 0, 1) := by decide +kernel
theorem dX7_vowOf_1 : decode cX7_vowOf 1 = .ok (.getfield 21, 3) := by decide +kernel
theorem dX7_vowOf_4 : decode cX7_vowOf 4 = .ok (.iload_n 1, 1) := by decide +kernel
theorem dX7_vowOf_5 : decode cX7_vowOf 5 = .ok (.invokevirtual 146, 3) := by decide +kernel
theorem dX7_vowOf_8 : decode cX7_vowOf 8 = .ok (.ifCond .ne 6, 3) := by decide +kernel
theorem dX7_vowOf_11 : decode cX7_vowOf 11 = .ok (.ldc 66, 2) := by decide +kernel
theorem dX7_vowOf_13 : decode cX7_vowOf 13 = .ok (.ireturn, 1) := by decide +kernel
theorem dX7_vowOf_14 : decode cX7_vowOf 14 = .ok (.iload_n 2, 1) := by decide +kernel
theorem dX7_vowOf_15 : decode cX7_vowOf 15 = .ok (.tableswitch 68 0 3 #[29, 39, 49, 59], 29) := by decide +kernel
theorem dX7_vowOf_44 : decode cX7_vowOf 44 = .ok (.aload_n 0, 1) := by decide +kernel
theorem dX7_vowOf_45 : decode cX7_vowOf 45 = .ok (.getfield 21, 3) := by decide +kernel
theorem dX7_vowOf_48 : decode cX7_vowOf 48 = .ok (.getfield 149, 3) := by decide +kernel
theorem dX7_vowOf_51 : decode cX7_vowOf 51 = .ok (.iload_n 1, 1) := by decide +kernel
theorem dX7_vowOf_52 : decode cX7_vowOf 52 = .ok (.iaload, 1) := by decide +kernel
theorem dX7_vowOf_53 : decode cX7_vowOf 53 = .ok (.ireturn, 1) := by decide +kernel
theorem dX7_vowOf_54 : decode cX7_vowOf 54 = .ok (.aload_n 0, 1) := by decide +kernel
theorem dX7_vowOf_55 : decode cX7_vowOf 55 = .ok (.getfield 21, 3) := by decide +kernel
theorem dX7_vowOf_58 : decode cX7_vowOf 58 = .ok (.getfield 152, 3) := by decide +kernel
theorem dX7_vowOf_61 : decode cX7_vowOf 61 = .ok (.iload_n 1, 1) := by decide +kernel
theorem dX7_vowOf_62 : decode cX7_vowOf 62 = .ok (.iaload, 1) := by decide +kernel
theorem dX7_vowOf_63 : decode cX7_vowOf 63 = .ok (.ireturn, 1) := by decide +kernel
theorem dX7_vowOf_64 : decode cX7_vowOf 64 = .ok (.aload_n 0, 1) := by decide +kernel
theorem dX7_vowOf_65 : decode cX7_vowOf 65 = .ok (.getfield 21, 3) := by decide +kernel
theorem dX7_vowOf_68 : decode cX7_vowOf 68 = .ok (.getfield 155, 3) := by decide +kernel
theorem dX7_vowOf_71 : decode cX7_vowOf 71 = .ok (.iload_n 1, 1) := by decide +kernel
theorem dX7_vowOf_72 : decode cX7_vowOf 72 = .ok (.iaload, 1) := by decide +kernel
theorem dX7_vowOf_73 : decode cX7_vowOf 73 = .ok (.ireturn, 1) := by decide +kernel
theorem dX7_vowOf_74 : decode cX7_vowOf 74 = .ok (.aload_n 0, 1) := by decide +kernel
theorem dX7_vowOf_75 : decode cX7_vowOf 75 = .ok (.getfield 21, 3) := by decide +kernel
theorem dX7_vowOf_78 : decode cX7_vowOf 78 = .ok (.iload_n 1, 1) := by decide +kernel
theorem dX7_vowOf_79 : decode cX7_vowOf 79 = .ok (.invokevirtual 158, 3) := by decide +kernel
theorem dX7_vowOf_82 : decode cX7_vowOf 82 = .ok (.ireturn, 1) := by decide +kernel
theorem dX7_vowOf_83 : decode cX7_vowOf 83 = .ok (.ldc 66, 2) := by decide +kernel
theorem dX7_vowOf_85 : decode cX7_vowOf 85 = .ok (.ireturn, 1) := by decide +kernel
theorem dX7_breaks_0 : decode cX7_breaks 0 = .ok (.aload_n 0, 1) := by decide +kernel
theorem dX7_breaks_1 : decode cX7_breaks 1 = .ok (.getfield 21, 3) := by decide +kernel
theorem dX7_breaks_4 : decode cX7_breaks 4 = .ok (.iload_n 1, 1) := by decide +kernel
theorem dX7_breaks_5 : decode cX7_breaks 5 = .ok (.invokevirtual 146, 3) := by decide +kernel
theorem dX7_breaks_8 : decode cX7_breaks 8 = .ok (.ifCond .ne 6, 3) := by decide +kernel
theorem dX7_breaks_11 : decode cX7_breaks 11 = .ok (.ldc 66, 2) := by decide +kernel
theorem dX7_breaks_13 : decode cX7_breaks 13 = .ok (.ireturn, 1) := by decide +kernel
theorem dX7_breaks_14 : decode cX7_breaks 14 = .ok (.aload_n 0, 1) := by decide +kernel
theorem dX7_breaks_15 : decode cX7_breaks 15 = .ok (.getfield 21, 3) := by decide +kernel
theorem dX7_breaks_18 : decode cX7_breaks 18 = .ok (.iload_n 1, 1) := by decide +kernel
theorem dX7_breaks_19 : decode cX7_breaks 19 = .ok (.invokevirtual 161, 3) := by decide +kernel
theorem dX7_breaks_22 : decode cX7_breaks 22 = .ok (.aload_n 0, 1) := by decide +kernel
theorem dX7_breaks_23 : decode cX7_breaks 23 = .ok (.getfield 21, 3) := by decide +kernel
theorem dX7_breaks_26 : decode cX7_breaks 26 = .ok (.getfield 140, 3) := by decide +kernel
theorem dX7_breaks_29 : decode cX7_breaks 29 = .ok (.ireturn, 1) := by decide +kernel
theorem dX7_eclipse_0 : decode cX7_eclipse 0 = .ok (.aload_n 0, 1) := by decide +kernel
theorem dX7_eclipse_1 : decode cX7_eclipse 1 = .ok (.getfield 21, 3) := by decide +kernel
theorem dX7_eclipse_4 : decode cX7_eclipse 4 = .ok (.getfield 140, 3) := by decide +kernel
theorem dX7_eclipse_7 : decode cX7_eclipse 7 = .ok (.istore_n 1, 1) := by decide +kernel
theorem dX7_eclipse_8 : decode cX7_eclipse 8 = .ok (.aload_n 0, 1) := by decide +kernel
theorem dX7_eclipse_9 : decode cX7_eclipse 9 = .ok (.getfield 21, 3) := by decide +kernel
theorem dX7_eclipse_12 : decode cX7_eclipse 12 = .ok (.dup, 1) := by decide +kernel
theorem dX7_eclipse_13 : decode cX7_eclipse 13 = .ok (.getfield 164, 3) := by decide +kernel
theorem dX7_eclipse_16 : decode cX7_eclipse 16 = .ok (.iload_n 1, 1) := by decide +kernel
theorem dX7_eclipse_17 : decode cX7_eclipse 17 = .ok (.iadd, 1) := by decide +kernel
theorem dX7_eclipse_18 : decode cX7_eclipse 18 = .ok (.putfield 164, 3) := by decide +kernel
theorem dX7_eclipse_21 : decode cX7_eclipse 21 = .ok (.aload_n 0, 1) := by decide +kernel
theorem dX7_eclipse_22 : decode cX7_eclipse 22 = .ok (.getfield 21, 3) := by decide +kernel
theorem dX7_eclipse_25 : decode cX7_eclipse 25 = .ok (.iconst 0, 1) := by decide +kernel
theorem dX7_eclipse_26 : decode cX7_eclipse 26 = .ok (.putfield 140, 3) := by decide +kernel
theorem dX7_eclipse_29 : decode cX7_eclipse 29 = .ok (.iload_n 1, 1) := by decide +kernel
theorem dX7_eclipse_30 : decode cX7_eclipse 30 = .ok (.ireturn, 1) := by decide +kernel
theorem dX7_deal_0 : decode cX7_deal 0 = .ok (.iload_n 1, 1) := by decide +kernel
theorem dX7_deal_1 : decode cX7_deal 1 = .ok (.iconst 1, 1) := by decide +kernel
theorem dX7_deal_2 : decode cX7_deal 2 = .ok (.bipush 10, 2) := by decide +kernel
theorem dX7_deal_4 : decode cX7_deal 4 = .ok (.invokestatic 62, 3) := by decide +kernel
theorem dX7_deal_7 : decode cX7_deal 7 = .ok (.ifCond .ne 6, 3) := by decide +kernel
theorem dX7_deal_10 : decode cX7_deal 10 = .ok (.ldc 66, 2) := by decide +kernel
theorem dX7_deal_12 : decode cX7_deal 12 = .ok (.ireturn, 1) := by decide +kernel
theorem dX7_deal_13 : decode cX7_deal 13 = .ok (.iload_n 1, 1) := by decide +kernel
theorem dX7_deal_14 : decode cX7_deal 14 = .ok (.bipush 10, 2) := by decide +kernel
theorem dX7_deal_16 : decode cX7_deal 16 = .ok (.aload_n 0, 1) := by decide +kernel
theorem dX7_deal_17 : decode cX7_deal 17 = .ok (.getfield 21, 3) := by decide +kernel
theorem dX7_deal_20 : decode cX7_deal 20 = .ok (.getfield 67, 3) := by decide +kernel
theorem dX7_deal_23 : decode cX7_deal 23 = .ok (.isub, 1) := by decide +kernel
theorem dX7_deal_24 : decode cX7_deal 24 = .ok (.invokestatic 167, 3) := by decide +kernel
theorem dX7_deal_27 : decode cX7_deal 27 = .ok (.istore_n 2, 1) := by decide +kernel
theorem dX7_deal_28 : decode cX7_deal 28 = .ok (.iconst 0, 1) := by decide +kernel
theorem dX7_deal_29 : decode cX7_deal 29 = .ok (.istore_n 3, 1) := by decide +kernel
theorem dX7_deal_30 : decode cX7_deal 30 = .ok (.iload_n 3, 1) := by decide +kernel
theorem dX7_deal_31 : decode cX7_deal 31 = .ok (.iload_n 2, 1) := by decide +kernel
theorem dX7_deal_32 : decode cX7_deal 32 = .ok (.if_icmp .ge 16, 3) := by decide +kernel
theorem dX7_deal_35 : decode cX7_deal 35 = .ok (.aload_n 0, 1) := by decide +kernel
theorem dX7_deal_36 : decode cX7_deal 36 = .ok (.getfield 21, 3) := by decide +kernel
theorem dX7_deal_39 : decode cX7_deal 39 = .ok (.invokevirtual 173, 3) := by decide +kernel
theorem dX7_deal_42 : decode cX7_deal 42 = .ok (.iinc 3 1, 3) := by decide +kernel
theorem dX7_deal_45 : decode cX7_deal 45 = .ok (.goto (-15), 3) := by decide +kernel
theorem dX7_deal_48 : decode cX7_deal 48 = .ok (.iload_n 2, 1) := by decide +kernel
theorem dX7_deal_49 : decode cX7_deal 49 = .ok (.ireturn, 1) := by decide +kernel
theorem dX7_seed_0 : decode cX7_seed 0 = .ok (.aload_n 0, 1) := by decide +kernel
theorem dX7_seed_1 : decode cX7_seed 1 = .ok (.getfield 21, 3) := by decide +kernel
theorem dX7_seed_4 : decode cX7_seed 4 = .ok (.getfield 176, 3) := by decide +kernel
theorem dX7_seed_7 : decode cX7_seed 7 = .ok (.istore_n 2, 1) := by decide +kernel
theorem dX7_seed_8 : decode cX7_seed 8 = .ok (.aload_n 0, 1) := by decide +kernel
theorem dX7_seed_9 : decode cX7_seed 9 = .ok (.getfield 21, 3) := by decide +kernel
theorem dX7_seed_12 : decode cX7_seed 12 = .ok (.iload_n 1, 1) := by decide +kernel
theorem dX7_seed_13 : decode cX7_seed 13 = .ok (.putfield 176, 3) := by decide +kernel
theorem dX7_seed_16 : decode cX7_seed 16 = .ok (.iload_n 2, 1) := by decide +kernel
theorem dX7_seed_17 : decode cX7_seed 17 = .ok (.ireturn, 1) := by decide +kernel
theorem dX7_hours_0 : decode cX7_hours 0 = .ok (.iload_n 1, 1) := by decide +kernel
theorem dX7_hours_1 : decode cX7_hours 1 = .ok (.iconst 1, 1) := by decide +kernel
theorem dX7_hours_2 : decode cX7_hours 2 = .ok (.bipush 100, 2) := by decide +kernel
theorem dX7_hours_4 : decode cX7_hours 4 = .ok (.invokestatic 62, 3) := by decide +kernel
theorem dX7_hours_7 : decode cX7_hours 7 = .ok (.ifCond .ne 6, 3) := by decide +kernel
theorem dX7_hours_10 : decode cX7_hours 10 = .ok (.ldc 66, 2) := by decide +kernel
theorem dX7_hours_12 : decode cX7_hours 12 = .ok (.ireturn, 1) := by decide +kernel
theorem dX7_hours_13 : decode cX7_hours 13 = .ok (.aload_n 0, 1) := by decide +kernel
theorem dX7_hours_14 : decode cX7_hours 14 = .ok (.getfield 21, 3) := by decide +kernel
theorem dX7_hours_17 : decode cX7_hours 17 = .ok (.getfield 164, 3) := by decide +kernel
theorem dX7_hours_20 : decode cX7_hours 20 = .ok (.istore_n 2, 1) := by decide +kernel
theorem dX7_hours_21 : decode cX7_hours 21 = .ok (.aload_n 0, 1) := by decide +kernel
theorem dX7_hours_22 : decode cX7_hours 22 = .ok (.getfield 21, 3) := by decide +kernel
theorem dX7_hours_25 : decode cX7_hours 25 = .ok (.iload_n 1, 1) := by decide +kernel
theorem dX7_hours_26 : decode cX7_hours 26 = .ok (.sipush 9999, 3) := by decide +kernel
theorem dX7_hours_29 : decode cX7_hours 29 = .ok (.aload_n 0, 1) := by decide +kernel
theorem dX7_hours_30 : decode cX7_hours 30 = .ok (.getfield 21, 3) := by decide +kernel
theorem dX7_hours_33 : decode cX7_hours 33 = .ok (.getfield 132, 3) := by decide +kernel
theorem dX7_hours_36 : decode cX7_hours 36 = .ok (.isub, 1) := by decide +kernel
theorem dX7_hours_37 : decode cX7_hours 37 = .ok (.invokestatic 167, 3) := by decide +kernel
theorem dX7_hours_40 : decode cX7_hours 40 = .ok (.invokevirtual 179, 3) := by decide +kernel
theorem dX7_hours_43 : decode cX7_hours 43 = .ok (.aload_n 0, 1) := by decide +kernel
theorem dX7_hours_44 : decode cX7_hours 44 = .ok (.getfield 21, 3) := by decide +kernel
theorem dX7_hours_47 : decode cX7_hours 47 = .ok (.getfield 164, 3) := by decide +kernel
theorem dX7_hours_50 : decode cX7_hours 50 = .ok (.iload_n 2, 1) := by decide +kernel
theorem dX7_hours_51 : decode cX7_hours 51 = .ok (.isub, 1) := by decide +kernel
theorem dX7_hours_52 : decode cX7_hours 52 = .ok (.ireturn, 1) := by decide +kernel
theorem dX7_land_0 : decode cX7_land 0 = .ok (.iload_n 1, 1) := by decide +kernel
theorem dX7_land_1 : decode cX7_land 1 = .ok (.tableswitch 87 0 5 #[39, 47, 55, 63, 71, 79], 39) := by decide +kernel
theorem dX7_land_40 : decode cX7_land 40 = .ok (.aload_n 0, 1) := by decide +kernel
theorem dX7_land_41 : decode cX7_land 41 = .ok (.getfield 21, 3) := by decide +kernel
theorem dX7_land_44 : decode cX7_land 44 = .ok (.getfield 140, 3) := by decide +kernel
theorem dX7_land_47 : decode cX7_land 47 = .ok (.ireturn, 1) := by decide +kernel
theorem dX7_land_48 : decode cX7_land 48 = .ok (.aload_n 0, 1) := by decide +kernel
theorem dX7_land_49 : decode cX7_land 49 = .ok (.getfield 21, 3) := by decide +kernel
theorem dX7_land_52 : decode cX7_land 52 = .ok (.getfield 182, 3) := by decide +kernel
theorem dX7_land_55 : decode cX7_land 55 = .ok (.ireturn, 1) := by decide +kernel
theorem dX7_land_56 : decode cX7_land 56 = .ok (.aload_n 0, 1) := by decide +kernel
theorem dX7_land_57 : decode cX7_land 57 = .ok (.getfield 21, 3) := by decide +kernel
theorem dX7_land_60 : decode cX7_land 60 = .ok (.getfield 164, 3) := by decide +kernel
theorem dX7_land_63 : decode cX7_land 63 = .ok (.ireturn, 1) := by decide +kernel
theorem dX7_land_64 : decode cX7_land 64 = .ok (.aload_n 0, 1) := by decide +kernel
theorem dX7_land_65 : decode cX7_land 65 = .ok (.getfield 21, 3) := by decide +kernel
theorem dX7_land_68 : decode cX7_land 68 = .ok (.invokevirtual 185, 3) := by decide +kernel
theorem dX7_land_71 : decode cX7_land 71 = .ok (.ireturn, 1) := by decide +kernel
theorem dX7_land_72 : decode cX7_land 72 = .ok (.aload_n 0, 1) := by decide +kernel
theorem dX7_land_73 : decode cX7_land 73 = .ok (.getfield 21, 3) := by decide +kernel
theorem dX7_land_76 : decode cX7_land 76 = .ok (.invokevirtual 188, 3) := by decide +kernel
theorem dX7_land_79 : decode cX7_land 79 = .ok (.ireturn, 1) := by decide +kernel
theorem dX7_land_80 : decode cX7_land 80 = .ok (.aload_n 0, 1) := by decide +kernel
theorem dX7_land_81 : decode cX7_land 81 = .ok (.getfield 21, 3) := by decide +kernel
theorem dX7_land_84 : decode cX7_land 84 = .ok (.invokevirtual 191, 3) := by decide +kernel
theorem dX7_land_87 : decode cX7_land 87 = .ok (.ireturn, 1) := by decide +kernel
theorem dX7_land_88 : decode cX7_land 88 = .ok (.ldc 66, 2) := by decide +kernel
theorem dX7_land_90 : decode cX7_land 90 = .ok (.ireturn, 1) := by decide +kernel
theorem dX7_reaches_0 : decode cX7_reaches 0 = .ok (.aload_n 0, 1) := by decide +kernel
theorem dX7_reaches_1 : decode cX7_reaches 1 = .ok (.getfield 21, 3) := by decide +kernel
theorem dX7_reaches_4 : decode cX7_reaches 4 = .ok (.iload_n 1, 1) := by decide +kernel
theorem dX7_reaches_5 : decode cX7_reaches 5 = .ok (.invokevirtual 76, 3) := by decide +kernel
theorem dX7_reaches_8 : decode cX7_reaches 8 = .ok (.ifCond .eq 14, 3) := by decide +kernel
theorem dX7_reaches_11 : decode cX7_reaches 11 = .ok (.aload_n 0, 1) := by decide +kernel
theorem dX7_reaches_12 : decode cX7_reaches 12 = .ok (.getfield 21, 3) := by decide +kernel
theorem dX7_reaches_15 : decode cX7_reaches 15 = .ok (.iload_n 2, 1) := by decide +kernel
theorem dX7_reaches_16 : decode cX7_reaches 16 = .ok (.invokevirtual 76, 3) := by decide +kernel
theorem dX7_reaches_19 : decode cX7_reaches 19 = .ok (.ifCond .ne 6, 3) := by decide +kernel
theorem dX7_reaches_22 : decode cX7_reaches 22 = .ok (.ldc 66, 2) := by decide +kernel
theorem dX7_reaches_24 : decode cX7_reaches 24 = .ok (.ireturn, 1) := by decide +kernel
theorem dX7_reaches_25 : decode cX7_reaches 25 = .ok (.aload_n 0, 1) := by decide +kernel
theorem dX7_reaches_26 : decode cX7_reaches 26 = .ok (.getfield 21, 3) := by decide +kernel
theorem dX7_reaches_29 : decode cX7_reaches 29 = .ok (.iload_n 1, 1) := by decide +kernel
theorem dX7_reaches_30 : decode cX7_reaches 30 = .ok (.iload_n 2, 1) := by decide +kernel
theorem dX7_reaches_31 : decode cX7_reaches 31 = .ok (.invokevirtual 194, 3) := by decide +kernel
theorem dX7_reaches_34 : decode cX7_reaches 34 = .ok (.ireturn, 1) := by decide +kernel
theorem dX7_behind_0 : decode cX7_behind 0 = .ok (.iload_n 1, 1) := by decide +kernel
theorem dX7_behind_1 : decode cX7_behind 1 = .ok (.iconst 0, 1) := by decide +kernel
theorem dX7_behind_2 : decode cX7_behind 2 = .ok (.bipush 100, 2) := by decide +kernel
theorem dX7_behind_4 : decode cX7_behind 4 = .ok (.invokestatic 62, 3) := by decide +kernel
theorem dX7_behind_7 : decode cX7_behind 7 = .ok (.ifCond .eq 20, 3) := by decide +kernel
theorem dX7_behind_10 : decode cX7_behind 10 = .ok (.iload_n 2, 1) := by decide +kernel
theorem dX7_behind_11 : decode cX7_behind 11 = .ok (.iconst 0, 1) := by decide +kernel
theorem dX7_behind_12 : decode cX7_behind 12 = .ok (.iconst 2, 1) := by decide +kernel
theorem dX7_behind_13 : decode cX7_behind 13 = .ok (.aload_n 0, 1) := by decide +kernel
theorem dX7_behind_14 : decode cX7_behind 14 = .ok (.getfield 21, 3) := by decide +kernel
theorem dX7_behind_17 : decode cX7_behind 17 = .ok (.getfield 67, 3) := by decide +kernel
theorem dX7_behind_20 : decode cX7_behind 20 = .ok (.iadd, 1) := by decide +kernel
theorem dX7_behind_21 : decode cX7_behind 21 = .ok (.invokestatic 62, 3) := by decide +kernel
theorem dX7_behind_24 : decode cX7_behind 24 = .ok (.ifCond .ne 6, 3) := by decide +kernel
theorem dX7_behind_27 : decode cX7_behind 27 = .ok (.ldc 66, 2) := by decide +kernel
theorem dX7_behind_29 : decode cX7_behind 29 = .ok (.ireturn, 1) := by decide +kernel
theorem dX7_behind_30 : decode cX7_behind 30 = .ok (.aload_n 0, 1) := by decide +kernel
theorem dX7_behind_31 : decode cX7_behind 31 = .ok (.getfield 28, 3) := by decide +kernel
theorem dX7_behind_34 : decode cX7_behind 34 = .ok (.aload_n 0, 1) := by decide +kernel
theorem dX7_behind_35 : decode cX7_behind 35 = .ok (.getfield 21, 3) := by decide +kernel
theorem dX7_behind_38 : decode cX7_behind 38 = .ok (.invokevirtual 197, 3) := by decide +kernel
theorem dX7_behind_41 : decode cX7_behind 41 = .ok (.aload_n 0, 1) := by decide +kernel
theorem dX7_behind_42 : decode cX7_behind 42 = .ok (.getfield 28, 3) := by decide +kernel
theorem dX7_behind_45 : decode cX7_behind 45 = .ok (.iload_n 1, 1) := by decide +kernel
theorem dX7_behind_46 : decode cX7_behind 46 = .ok (.invokevirtual 179, 3) := by decide +kernel
theorem dX7_behind_49 : decode cX7_behind 49 = .ok (.iload_n 2, 1) := by decide +kernel
theorem dX7_behind_50 : decode cX7_behind 50 = .ok (.tableswitch 50 0 2 #[26, 34, 42], 26) := by decide +kernel
theorem dX7_behind_76 : decode cX7_behind 76 = .ok (.aload_n 0, 1) := by decide +kernel
theorem dX7_behind_77 : decode cX7_behind 77 = .ok (.getfield 28, 3) := by decide +kernel
theorem dX7_behind_80 : decode cX7_behind 80 = .ok (.getfield 140, 3) := by decide +kernel
theorem dX7_behind_83 : decode cX7_behind 83 = .ok (.ireturn, 1) := by decide +kernel
theorem dX7_behind_84 : decode cX7_behind 84 = .ok (.aload_n 0, 1) := by decide +kernel
theorem dX7_behind_85 : decode cX7_behind 85 = .ok (.getfield 28, 3) := by decide +kernel
theorem dX7_behind_88 : decode cX7_behind 88 = .ok (.getfield 182, 3) := by decide +kernel
theorem dX7_behind_91 : decode cX7_behind 91 = .ok (.ireturn, 1) := by decide +kernel
theorem dX7_behind_92 : decode cX7_behind 92 = .ok (.aload_n 0, 1) := by decide +kernel
theorem dX7_behind_93 : decode cX7_behind 93 = .ok (.getfield 28, 3) := by decide +kernel
theorem dX7_behind_96 : decode cX7_behind 96 = .ok (.getfield 164, 3) := by decide +kernel
theorem dX7_behind_99 : decode cX7_behind 99 = .ok (.ireturn, 1) := by decide +kernel
theorem dX7_behind_100 : decode cX7_behind 100 = .ok (.aload_n 0, 1) := by decide +kernel
theorem dX7_behind_101 : decode cX7_behind 101 = .ok (.getfield 28, 3) := by decide +kernel
theorem dX7_behind_104 : decode cX7_behind 104 = .ok (.getfield 80, 3) := by decide +kernel
theorem dX7_behind_107 : decode cX7_behind 107 = .ok (.iload_n 2, 1) := by decide +kernel
theorem dX7_behind_108 : decode cX7_behind 108 = .ok (.iconst 3, 1) := by decide +kernel
theorem dX7_behind_109 : decode cX7_behind 109 = .ok (.isub, 1) := by decide +kernel
theorem dX7_behind_110 : decode cX7_behind 110 = .ok (.aaload, 1) := by decide +kernel
theorem dX7_behind_111 : decode cX7_behind 111 = .ok (.getfield 95, 3) := by decide +kernel
theorem dX7_behind_114 : decode cX7_behind 114 = .ok (.ireturn, 1) := by decide +kernel
theorem dX7_free_0 : decode cX7_free 0 = .ok (.aload_n 0, 1) := by decide +kernel
theorem dX7_free_1 : decode cX7_free 1 = .ok (.getfield 28, 3) := by decide +kernel
theorem dX7_free_4 : decode cX7_free 4 = .ok (.aload_n 0, 1) := by decide +kernel
theorem dX7_free_5 : decode cX7_free 5 = .ok (.getfield 21, 3) := by decide +kernel
theorem dX7_free_8 : decode cX7_free 8 = .ok (.invokevirtual 197, 3) := by decide +kernel
theorem dX7_free_11 : decode cX7_free 11 = .ok (.iconst 0, 1) := by decide +kernel
theorem dX7_free_12 : decode cX7_free 12 = .ok (.istore_n 1, 1) := by decide +kernel
theorem dX7_free_13 : decode cX7_free 13 = .ok (.iload_n 1, 1) := by decide +kernel
theorem dX7_free_14 : decode cX7_free 14 = .ok (.sipush 300, 3) := by decide +kernel
theorem dX7_free_17 : decode cX7_free 17 = .ok (.if_icmp .gt 28, 3) := by decide +kernel
theorem dX7_free_20 : decode cX7_free 20 = .ok (.aload_n 0, 1) := by decide +kernel
theorem dX7_free_21 : decode cX7_free 21 = .ok (.getfield 28, 3) := by decide +kernel
theorem dX7_free_24 : decode cX7_free 24 = .ok (.getfield 140, 3) := by decide +kernel
theorem dX7_free_27 : decode cX7_free 27 = .ok (.ifCond .ne 5, 3) := by decide +kernel
theorem dX7_free_30 : decode cX7_free 30 = .ok (.iload_n 1, 1) := by decide +kernel
theorem dX7_free_31 : decode cX7_free 31 = .ok (.ireturn, 1) := by decide +kernel
theorem dX7_free_32 : decode cX7_free 32 = .ok (.aload_n 0, 1) := by decide +kernel
theorem dX7_free_33 : decode cX7_free 33 = .ok (.getfield 28, 3) := by decide +kernel
theorem dX7_free_36 : decode cX7_free 36 = .ok (.invokevirtual 201, 3) := by decide +kernel
theorem dX7_free_39 : decode cX7_free 39 = .ok (.iinc 1 1, 3) := by decide +kernel
theorem dX7_free_42 : decode cX7_free 42 = .ok (.goto (-29), 3) := by decide +kernel
theorem dX7_free_45 : decode cX7_free 45 = .ok (.ldc 139, 2) := by decide +kernel
theorem dX7_free_47 : decode cX7_free 47 = .ok (.ireturn, 1) := by decide +kernel
theorem dX7_sworn_0 : decode cX7_sworn 0 = .ok (.iload_n 1, 1) := by decide +kernel
theorem dX7_sworn_1 : decode cX7_sworn 1 = .ok (.iconst 1, 1) := by decide +kernel
theorem dX7_sworn_2 : decode cX7_sworn 2 = .ok (.bipush 40, 2) := by decide +kernel
theorem dX7_sworn_4 : decode cX7_sworn 4 = .ok (.invokestatic 62, 3) := by decide +kernel
theorem dX7_sworn_7 : decode cX7_sworn 7 = .ok (.ifCond .eq 12, 3) := by decide +kernel
theorem dX7_sworn_10 : decode cX7_sworn 10 = .ok (.iload_n 2, 1) := by decide +kernel
theorem dX7_sworn_11 : decode cX7_sworn 11 = .ok (.iconst 0, 1) := by decide +kernel
theorem dX7_sworn_12 : decode cX7_sworn 12 = .ok (.iconst 1, 1) := by decide +kernel
theorem dX7_sworn_13 : decode cX7_sworn 13 = .ok (.invokestatic 62, 3) := by decide +kernel
theorem dX7_sworn_16 : decode cX7_sworn 16 = .ok (.ifCond .ne 6, 3) := by decide +kernel
theorem dX7_sworn_19 : decode cX7_sworn 19 = .ok (.ldc 66, 2) := by decide +kernel
theorem dX7_sworn_21 : decode cX7_sworn 21 = .ok (.ireturn, 1) := by decide +kernel
theorem dX7_sworn_22 : decode cX7_sworn 22 = .ok (.aload_n 0, 1) := by decide +kernel
theorem dX7_sworn_23 : decode cX7_sworn 23 = .ok (.getfield 21, 3) := by decide +kernel
theorem dX7_sworn_26 : decode cX7_sworn 26 = .ok (.getfield 67, 3) := by decide +kernel
theorem dX7_sworn_29 : decode cX7_sworn 29 = .ok (.iconst 2, 1) := by decide +kernel
theorem dX7_sworn_30 : decode cX7_sworn 30 = .ok (.if_icmp .ge 6, 3) := by decide +kernel
theorem dX7_sworn_33 : decode cX7_sworn 33 = .ok (.ldc 139, 2) := by decide +kernel
theorem dX7_sworn_35 : decode cX7_sworn 35 = .ok (.ireturn, 1) := by decide +kernel
theorem dX7_sworn_36 : decode cX7_sworn 36 = .ok (.iconst (-1), 1) := by decide +kernel
theorem dX7_sworn_37 : decode cX7_sworn 37 = .ok (.istore_n 3, 1) := by decide +kernel
theorem dX7_sworn_38 : decode cX7_sworn 38 = .ok (.iconst (-1), 1) := by decide +kernel
theorem dX7_sworn_39 : decode cX7_sworn 39 = .ok (.istore 4, 2) := by decide +kernel
theorem dX7_sworn_41 : decode cX7_sworn 41 = .ok (.iconst 0, 1) := by decide +kernel
theorem dX7_sworn_42 : decode cX7_sworn 42 = .ok (.istore 5, 2) := by decide +kernel
theorem dX7_sworn_44 : decode cX7_sworn 44 = .ok (.iload 5, 2) := by decide +kernel
theorem dX7_sworn_46 : decode cX7_sworn 46 = .ok (.aload_n 0, 1) := by decide +kernel
theorem dX7_sworn_47 : decode cX7_sworn 47 = .ok (.getfield 21, 3) := by decide +kernel
theorem dX7_sworn_50 : decode cX7_sworn 50 = .ok (.getfield 67, 3) := by decide +kernel
theorem dX7_sworn_53 : decode cX7_sworn 53 = .ok (.if_icmp .ge 82, 3) := by decide +kernel
theorem dX7_sworn_56 : decode cX7_sworn 56 = .ok (.iload 5, 2) := by decide +kernel
theorem dX7_sworn_58 : decode cX7_sworn 58 = .ok (.ifCond .ne 7, 3) := by decide +kernel
theorem dX7_sworn_61 : decode cX7_sworn 61 = .ok (.iconst 1, 1) := by decide +kernel
theorem dX7_sworn_62 : decode cX7_sworn 62 = .ok (.goto 4, 3) := by decide +kernel
theorem dX7_sworn_65 : decode cX7_sworn 65 = .ok (.iconst 0, 1) := by decide +kernel
theorem dX7_sworn_66 : decode cX7_sworn 66 = .ok (.istore 6, 2) := by decide +kernel
theorem dX7_sworn_68 : decode cX7_sworn 68 = .ok (.aload_n 0, 1) := by decide +kernel
theorem dX7_sworn_69 : decode cX7_sworn 69 = .ok (.getfield 28, 3) := by decide +kernel
theorem dX7_sworn_72 : decode cX7_sworn 72 = .ok (.aload_n 0, 1) := by decide +kernel
theorem dX7_sworn_73 : decode cX7_sworn 73 = .ok (.getfield 21, 3) := by decide +kernel
theorem dX7_sworn_76 : decode cX7_sworn 76 = .ok (.invokevirtual 197, 3) := by decide +kernel
theorem dX7_sworn_79 : decode cX7_sworn 79 = .ok (.aload_n 0, 1) := by decide +kernel
theorem dX7_sworn_80 : decode cX7_sworn 80 = .ok (.getfield 28, 3) := by decide +kernel
theorem dX7_sworn_83 : decode cX7_sworn 83 = .ok (.iload 5, 2) := by decide +kernel
theorem dX7_sworn_85 : decode cX7_sworn 85 = .ok (.iload 6, 2) := by decide +kernel
theorem dX7_sworn_87 : decode cX7_sworn 87 = .ok (.iconst 0, 1) := by decide +kernel
theorem dX7_sworn_88 : decode cX7_sworn 88 = .ok (.invokevirtual 143, 3) := by decide +kernel
theorem dX7_sworn_91 : decode cX7_sworn 91 = .ok (.aload_n 0, 1) := by decide +kernel
theorem dX7_sworn_92 : decode cX7_sworn 92 = .ok (.getfield 28, 3) := by decide +kernel
theorem dX7_sworn_95 : decode cX7_sworn 95 = .ok (.iload_n 1, 1) := by decide +kernel
theorem dX7_sworn_96 : decode cX7_sworn 96 = .ok (.invokevirtual 179, 3) := by decide +kernel
theorem dX7_sworn_99 : decode cX7_sworn 99 = .ok (.aload_n 0, 1) := by decide +kernel
theorem dX7_sworn_100 : decode cX7_sworn 100 = .ok (.getfield 28, 3) := by decide +kernel
theorem dX7_sworn_103 : decode cX7_sworn 103 = .ok (.getfield 140, 3) := by decide +kernel
theorem dX7_sworn_106 : decode cX7_sworn 106 = .ok (.iload 4, 2) := by decide +kernel
theorem dX7_sworn_108 : decode cX7_sworn 108 = .ok (.if_icmp .le 21, 3) := by decide +kernel
theorem dX7_sworn_111 : decode cX7_sworn 111 = .ok (.aload_n 0, 1) := by decide +kernel
theorem dX7_sworn_112 : decode cX7_sworn 112 = .ok (.getfield 28, 3) := by decide +kernel
theorem dX7_sworn_115 : decode cX7_sworn 115 = .ok (.getfield 140, 3) := by decide +kernel
theorem dX7_sworn_118 : decode cX7_sworn 118 = .ok (.istore 4, 2) := by decide +kernel
theorem dX7_sworn_120 : decode cX7_sworn 120 = .ok (.bipush 10, 2) := by decide +kernel
theorem dX7_sworn_122 : decode cX7_sworn 122 = .ok (.iload 5, 2) := by decide +kernel
theorem dX7_sworn_124 : decode cX7_sworn 124 = .ok (.imul, 1) := by decide +kernel
theorem dX7_sworn_125 : decode cX7_sworn 125 = .ok (.iload 6, 2) := by decide +kernel
theorem dX7_sworn_127 : decode cX7_sworn 127 = .ok (.iadd, 1) := by decide +kernel
theorem dX7_sworn_128 : decode cX7_sworn 128 = .ok (.istore_n 3, 1) := by decide +kernel
theorem dX7_sworn_129 : decode cX7_sworn 129 = .ok (.iinc 5 1, 3) := by decide +kernel
theorem dX7_sworn_132 : decode cX7_sworn 132 = .ok (.goto (-88), 3) := by decide +kernel
theorem dX7_sworn_135 : decode cX7_sworn 135 = .ok (.iload_n 2, 1) := by decide +kernel
theorem dX7_sworn_136 : decode cX7_sworn 136 = .ok (.ifCond .ne 7, 3) := by decide +kernel
theorem dX7_sworn_139 : decode cX7_sworn 139 = .ok (.iload_n 3, 1) := by decide +kernel
theorem dX7_sworn_140 : decode cX7_sworn 140 = .ok (.goto 5, 3) := by decide +kernel
theorem dX7_sworn_143 : decode cX7_sworn 143 = .ok (.iload 4, 2) := by decide +kernel
theorem dX7_sworn_145 : decode cX7_sworn 145 = .ok (.ireturn, 1) := by decide +kernel
theorem dX7_trust_0 : decode cX7_trust 0 = .ok (.iload_n 1, 1) := by decide +kernel
theorem dX7_trust_1 : decode cX7_trust 1 = .ok (.iconst 1, 1) := by decide +kernel
theorem dX7_trust_2 : decode cX7_trust 2 = .ok (.bipush 60, 2) := by decide +kernel
theorem dX7_trust_4 : decode cX7_trust 4 = .ok (.invokestatic 62, 3) := by decide +kernel
theorem dX7_trust_7 : decode cX7_trust 7 = .ok (.ifCond .eq 12, 3) := by decide +kernel
theorem dX7_trust_10 : decode cX7_trust 10 = .ok (.iload_n 2, 1) := by decide +kernel
theorem dX7_trust_11 : decode cX7_trust 11 = .ok (.iconst 0, 1) := by decide +kernel
theorem dX7_trust_12 : decode cX7_trust 12 = .ok (.iconst 1, 1) := by decide +kernel
theorem dX7_trust_13 : decode cX7_trust 13 = .ok (.invokestatic 62, 3) := by decide +kernel
theorem dX7_trust_16 : decode cX7_trust 16 = .ok (.ifCond .ne 6, 3) := by decide +kernel
theorem dX7_trust_19 : decode cX7_trust 19 = .ok (.ldc 66, 2) := by decide +kernel
theorem dX7_trust_21 : decode cX7_trust 21 = .ok (.ireturn, 1) := by decide +kernel
theorem dX7_trust_22 : decode cX7_trust 22 = .ok (.ldc 139, 2) := by decide +kernel
theorem dX7_trust_24 : decode cX7_trust 24 = .ok (.istore_n 3, 1) := by decide +kernel
theorem dX7_trust_25 : decode cX7_trust 25 = .ok (.iconst (-1), 1) := by decide +kernel
theorem dX7_trust_26 : decode cX7_trust 26 = .ok (.istore 4, 2) := by decide +kernel
theorem dX7_trust_28 : decode cX7_trust 28 = .ok (.iconst 0, 1) := by decide +kernel
theorem dX7_trust_29 : decode cX7_trust 29 = .ok (.istore 5, 2) := by decide +kernel
theorem dX7_trust_31 : decode cX7_trust 31 = .ok (.iload 5, 2) := by decide +kernel
theorem dX7_trust_33 : decode cX7_trust 33 = .ok (.aload_n 0, 1) := by decide +kernel
theorem dX7_trust_34 : decode cX7_trust 34 = .ok (.getfield 21, 3) := by decide +kernel
theorem dX7_trust_37 : decode cX7_trust 37 = .ok (.getfield 67, 3) := by decide +kernel
theorem dX7_trust_40 : decode cX7_trust 40 = .ok (.if_icmp .ge 67, 3) := by decide +kernel
theorem dX7_trust_43 : decode cX7_trust 43 = .ok (.aload_n 0, 1) := by decide +kernel
theorem dX7_trust_44 : decode cX7_trust 44 = .ok (.getfield 28, 3) := by decide +kernel
theorem dX7_trust_47 : decode cX7_trust 47 = .ok (.aload_n 0, 1) := by decide +kernel
theorem dX7_trust_48 : decode cX7_trust 48 = .ok (.getfield 21, 3) := by decide +kernel
theorem dX7_trust_51 : decode cX7_trust 51 = .ok (.invokevirtual 197, 3) := by decide +kernel
theorem dX7_trust_54 : decode cX7_trust 54 = .ok (.aload_n 0, 1) := by decide +kernel
theorem dX7_trust_55 : decode cX7_trust 55 = .ok (.getfield 28, 3) := by decide +kernel
theorem dX7_trust_58 : decode cX7_trust 58 = .ok (.getfield 80, 3) := by decide +kernel
theorem dX7_trust_61 : decode cX7_trust 61 = .ok (.iload 5, 2) := by decide +kernel
theorem dX7_trust_63 : decode cX7_trust 63 = .ok (.aaload, 1) := by decide +kernel
theorem dX7_trust_64 : decode cX7_trust 64 = .ok (.bipush 99, 2) := by decide +kernel
theorem dX7_trust_66 : decode cX7_trust 66 = .ok (.putfield 92, 3) := by decide +kernel
theorem dX7_trust_69 : decode cX7_trust 69 = .ok (.aload_n 0, 1) := by decide +kernel
theorem dX7_trust_70 : decode cX7_trust 70 = .ok (.getfield 28, 3) := by decide +kernel
theorem dX7_trust_73 : decode cX7_trust 73 = .ok (.iload_n 1, 1) := by decide +kernel
theorem dX7_trust_74 : decode cX7_trust 74 = .ok (.invokevirtual 179, 3) := by decide +kernel
theorem dX7_trust_77 : decode cX7_trust 77 = .ok (.aload_n 0, 1) := by decide +kernel
theorem dX7_trust_78 : decode cX7_trust 78 = .ok (.getfield 28, 3) := by decide +kernel
theorem dX7_trust_81 : decode cX7_trust 81 = .ok (.getfield 140, 3) := by decide +kernel
theorem dX7_trust_84 : decode cX7_trust 84 = .ok (.iload 4, 2) := by decide +kernel
theorem dX7_trust_86 : decode cX7_trust 86 = .ok (.if_icmp .le 15, 3) := by decide +kernel
theorem dX7_trust_89 : decode cX7_trust 89 = .ok (.aload_n 0, 1) := by decide +kernel
theorem dX7_trust_90 : decode cX7_trust 90 = .ok (.getfield 28, 3) := by decide +kernel
theorem dX7_trust_93 : decode cX7_trust 93 = .ok (.getfield 140, 3) := by decide +kernel
theorem dX7_trust_96 : decode cX7_trust 96 = .ok (.istore 4, 2) := by decide +kernel
theorem dX7_trust_98 : decode cX7_trust 98 = .ok (.iload 5, 2) := by decide +kernel
theorem dX7_trust_100 : decode cX7_trust 100 = .ok (.istore_n 3, 1) := by decide +kernel
theorem dX7_trust_101 : decode cX7_trust 101 = .ok (.iinc 5 1, 3) := by decide +kernel
theorem dX7_trust_104 : decode cX7_trust 104 = .ok (.goto (-73), 3) := by decide +kernel
theorem dX7_trust_107 : decode cX7_trust 107 = .ok (.iload_n 2, 1) := by decide +kernel
theorem dX7_trust_108 : decode cX7_trust 108 = .ok (.ifCond .eq 9, 3) := by decide +kernel
theorem dX7_trust_111 : decode cX7_trust 111 = .ok (.iload_n 3, 1) := by decide +kernel
theorem dX7_trust_112 : decode cX7_trust 112 = .ok (.ldc 139, 2) := by decide +kernel
theorem dX7_trust_114 : decode cX7_trust 114 = .ok (.if_icmp .ne 7, 3) := by decide +kernel
theorem dX7_trust_117 : decode cX7_trust 117 = .ok (.iload_n 3, 1) := by decide +kernel
theorem dX7_trust_118 : decode cX7_trust 118 = .ok (.goto 5, 3) := by decide +kernel
theorem dX7_trust_121 : decode cX7_trust 121 = .ok (.iload 4, 2) := by decide +kernel
theorem dX7_trust_123 : decode cX7_trust 123 = .ok (.ireturn, 1) := by decide +kernel
theorem dX7_debtor_0 : decode cX7_debtor 0 = .ok (.iload_n 1, 1) := by decide +kernel
theorem dX7_debtor_1 : decode cX7_debtor 1 = .ok (.iconst 1, 1) := by decide +kernel
theorem dX7_debtor_2 : decode cX7_debtor 2 = .ok (.bipush 60, 2) := by decide +kernel
theorem dX7_debtor_4 : decode cX7_debtor 4 = .ok (.invokestatic 62, 3) := by decide +kernel
theorem dX7_debtor_7 : decode cX7_debtor 7 = .ok (.ifCond .eq 12, 3) := by decide +kernel
theorem dX7_debtor_10 : decode cX7_debtor 10 = .ok (.iload_n 2, 1) := by decide +kernel
theorem dX7_debtor_11 : decode cX7_debtor 11 = .ok (.iconst 0, 1) := by decide +kernel
theorem dX7_debtor_12 : decode cX7_debtor 12 = .ok (.iconst 1, 1) := by decide +kernel
theorem dX7_debtor_13 : decode cX7_debtor 13 = .ok (.invokestatic 62, 3) := by decide +kernel
theorem dX7_debtor_16 : decode cX7_debtor 16 = .ok (.ifCond .ne 6, 3) := by decide +kernel
theorem dX7_debtor_19 : decode cX7_debtor 19 = .ok (.ldc 66, 2) := by decide +kernel
theorem dX7_debtor_21 : decode cX7_debtor 21 = .ok (.ireturn, 1) := by decide +kernel
theorem dX7_debtor_22 : decode cX7_debtor 22 = .ok (.aload_n 0, 1) := by decide +kernel
theorem dX7_debtor_23 : decode cX7_debtor 23 = .ok (.getfield 28, 3) := by decide +kernel
theorem dX7_debtor_26 : decode cX7_debtor 26 = .ok (.aload_n 0, 1) := by decide +kernel
theorem dX7_debtor_27 : decode cX7_debtor 27 = .ok (.getfield 21, 3) := by decide +kernel
theorem dX7_debtor_30 : decode cX7_debtor 30 = .ok (.invokevirtual 197, 3) := by decide +kernel
theorem dX7_debtor_33 : decode cX7_debtor 33 = .ok (.aload_n 0, 1) := by decide +kernel
theorem dX7_debtor_34 : decode cX7_debtor 34 = .ok (.getfield 28, 3) := by decide +kernel
theorem dX7_debtor_37 : decode cX7_debtor 37 = .ok (.iload_n 1, 1) := by decide +kernel
theorem dX7_debtor_38 : decode cX7_debtor 38 = .ok (.invokevirtual 179, 3) := by decide +kernel
theorem dX7_debtor_41 : decode cX7_debtor 41 = .ok (.ldc 139, 2) := by decide +kernel
theorem dX7_debtor_43 : decode cX7_debtor 43 = .ok (.istore_n 3, 1) := by decide +kernel
theorem dX7_debtor_44 : decode cX7_debtor 44 = .ok (.iconst 0, 1) := by decide +kernel
theorem dX7_debtor_45 : decode cX7_debtor 45 = .ok (.istore 4, 2) := by decide +kernel
theorem dX7_debtor_47 : decode cX7_debtor 47 = .ok (.iconst 0, 1) := by decide +kernel
theorem dX7_debtor_48 : decode cX7_debtor 48 = .ok (.istore 5, 2) := by decide +kernel
theorem dX7_debtor_50 : decode cX7_debtor 50 = .ok (.iload 5, 2) := by decide +kernel
theorem dX7_debtor_52 : decode cX7_debtor 52 = .ok (.aload_n 0, 1) := by decide +kernel
theorem dX7_debtor_53 : decode cX7_debtor 53 = .ok (.getfield 21, 3) := by decide +kernel
theorem dX7_debtor_56 : decode cX7_debtor 56 = .ok (.getfield 67, 3) := by decide +kernel
theorem dX7_debtor_59 : decode cX7_debtor 59 = .ok (.if_icmp .ge 58, 3) := by decide +kernel
theorem dX7_debtor_62 : decode cX7_debtor 62 = .ok (.aload_n 0, 1) := by decide +kernel
theorem dX7_debtor_63 : decode cX7_debtor 63 = .ok (.getfield 21, 3) := by decide +kernel
theorem dX7_debtor_66 : decode cX7_debtor 66 = .ok (.getfield 80, 3) := by decide +kernel
theorem dX7_debtor_69 : decode cX7_debtor 69 = .ok (.iload 5, 2) := by decide +kernel
theorem dX7_debtor_71 : decode cX7_debtor 71 = .ok (.aaload, 1) := by decide +kernel
theorem dX7_debtor_72 : decode cX7_debtor 72 = .ok (.getfield 95, 3) := by decide +kernel
theorem dX7_debtor_75 : decode cX7_debtor 75 = .ok (.aload_n 0, 1) := by decide +kernel
theorem dX7_debtor_76 : decode cX7_debtor 76 = .ok (.getfield 28, 3) := by decide +kernel
theorem dX7_debtor_79 : decode cX7_debtor 79 = .ok (.getfield 80, 3) := by decide +kernel
theorem dX7_debtor_82 : decode cX7_debtor 82 = .ok (.iload 5, 2) := by decide +kernel
theorem dX7_debtor_84 : decode cX7_debtor 84 = .ok (.aaload, 1) := by decide +kernel
theorem dX7_debtor_85 : decode cX7_debtor 85 = .ok (.getfield 95, 3) := by decide +kernel
theorem dX7_debtor_88 : decode cX7_debtor 88 = .ok (.isub, 1) := by decide +kernel
theorem dX7_debtor_89 : decode cX7_debtor 89 = .ok (.istore 6, 2) := by decide +kernel
theorem dX7_debtor_91 : decode cX7_debtor 91 = .ok (.iload_n 3, 1) := by decide +kernel
theorem dX7_debtor_92 : decode cX7_debtor 92 = .ok (.ldc 139, 2) := by decide +kernel
theorem dX7_debtor_94 : decode cX7_debtor 94 = .ok (.if_icmp .eq 10, 3) := by decide +kernel
theorem dX7_debtor_97 : decode cX7_debtor 97 = .ok (.iload 6, 2) := by decide +kernel
theorem dX7_debtor_99 : decode cX7_debtor 99 = .ok (.iload 4, 2) := by decide +kernel
theorem dX7_debtor_101 : decode cX7_debtor 101 = .ok (.if_icmp .le 10, 3) := by decide +kernel
theorem dX7_debtor_104 : decode cX7_debtor 104 = .ok (.iload 6, 2) := by decide +kernel
theorem dX7_debtor_106 : decode cX7_debtor 106 = .ok (.istore 4, 2) := by decide +kernel
theorem dX7_debtor_108 : decode cX7_debtor 108 = .ok (.iload 5, 2) := by decide +kernel
theorem dX7_debtor_110 : decode cX7_debtor 110 = .ok (.istore_n 3, 1) := by decide +kernel
theorem dX7_debtor_111 : decode cX7_debtor 111 = .ok (.iinc 5 1, 3) := by decide +kernel
theorem dX7_debtor_114 : decode cX7_debtor 114 = .ok (.goto (-64), 3) := by decide +kernel
theorem dX7_debtor_117 : decode cX7_debtor 117 = .ok (.iload_n 2, 1) := by decide +kernel
theorem dX7_debtor_118 : decode cX7_debtor 118 = .ok (.ifCond .eq 9, 3) := by decide +kernel
theorem dX7_debtor_121 : decode cX7_debtor 121 = .ok (.iload_n 3, 1) := by decide +kernel
theorem dX7_debtor_122 : decode cX7_debtor 122 = .ok (.ldc 139, 2) := by decide +kernel
theorem dX7_debtor_124 : decode cX7_debtor 124 = .ok (.if_icmp .ne 7, 3) := by decide +kernel
theorem dX7_debtor_127 : decode cX7_debtor 127 = .ok (.iload_n 3, 1) := by decide +kernel
theorem dX7_debtor_128 : decode cX7_debtor 128 = .ok (.goto 5, 3) := by decide +kernel
theorem dX7_debtor_131 : decode cX7_debtor 131 = .ok (.iload 4, 2) := by decide +kernel
theorem dX7_debtor_133 : decode cX7_debtor 133 = .ok (.ireturn, 1) := by decide +kernel
theorem dX7_clock_0 : decode cX7_clock 0 = .ok (.iload_n 1, 1) := by decide +kernel
theorem dX7_clock_1 : decode cX7_clock 1 = .ok (.iconst 0, 1) := by decide +kernel
theorem dX7_clock_2 : decode cX7_clock 2 = .ok (.iconst 3, 1) := by decide +kernel
theorem dX7_clock_3 : decode cX7_clock 3 = .ok (.invokestatic 62, 3) := by decide +kernel
theorem dX7_clock_6 : decode cX7_clock 6 = .ok (.ifCond .eq 23, 3) := by decide +kernel
theorem dX7_clock_9 : decode cX7_clock 9 = .ok (.aload_n 0, 1) := by decide +kernel
theorem dX7_clock_10 : decode cX7_clock 10 = .ok (.getfield 21, 3) := by decide +kernel
theorem dX7_clock_13 : decode cX7_clock 13 = .ok (.iload_n 2, 1) := by decide +kernel
theorem dX7_clock_14 : decode cX7_clock 14 = .ok (.invokevirtual 76, 3) := by decide +kernel
theorem dX7_clock_17 : decode cX7_clock 17 = .ok (.ifCond .eq 12, 3) := by decide +kernel
theorem dX7_clock_20 : decode cX7_clock 20 = .ok (.iload_n 3, 1) := by decide +kernel
theorem dX7_clock_21 : decode cX7_clock 21 = .ok (.iconst 0, 1) := by decide +kernel
theorem dX7_clock_22 : decode cX7_clock 22 = .ok (.iconst 1, 1) := by decide +kernel
theorem dX7_clock_23 : decode cX7_clock 23 = .ok (.invokestatic 62, 3) := by decide +kernel
theorem dX7_clock_26 : decode cX7_clock 26 = .ok (.ifCond .ne 6, 3) := by decide +kernel
theorem dX7_clock_29 : decode cX7_clock 29 = .ok (.ldc 66, 2) := by decide +kernel
theorem dX7_clock_31 : decode cX7_clock 31 = .ok (.ireturn, 1) := by decide +kernel
theorem dX7_clock_32 : decode cX7_clock 32 = .ok (.aload_n 0, 1) := by decide +kernel
theorem dX7_clock_33 : decode cX7_clock 33 = .ok (.getfield 50, 3) := by decide +kernel
theorem dX7_clock_36 : decode cX7_clock 36 = .ok (.iload_n 1, 1) := by decide +kernel
theorem dX7_clock_37 : decode cX7_clock 37 = .ok (.aaload, 1) := by decide +kernel
theorem dX7_clock_38 : decode cX7_clock 38 = .ok (.invokevirtual 204, 3) := by decide +kernel
theorem dX7_clock_41 : decode cX7_clock 41 = .ok (.ifCond .eq 6, 3) := by decide +kernel
theorem dX7_clock_44 : decode cX7_clock 44 = .ok (.ldc 208, 2) := by decide +kernel
theorem dX7_clock_46 : decode cX7_clock 46 = .ok (.ireturn, 1) := by decide +kernel
theorem dX7_clock_47 : decode cX7_clock 47 = .ok (.iconst 0, 1) := by decide +kernel
theorem dX7_clock_48 : decode cX7_clock 48 = .ok (.istore 4, 2) := by decide +kernel
theorem dX7_clock_50 : decode cX7_clock 50 = .ok (.aload_n 0, 1) := by decide +kernel
theorem dX7_clock_51 : decode cX7_clock 51 = .ok (.aload_n 0, 1) := by decide +kernel
theorem dX7_clock_52 : decode cX7_clock 52 = .ok (.getfield 50, 3) := by decide +kernel
theorem dX7_clock_55 : decode cX7_clock 55 = .ok (.iload_n 1, 1) := by decide +kernel
theorem dX7_clock_56 : decode cX7_clock 56 = .ok (.aaload, 1) := by decide +kernel
theorem dX7_clock_57 : decode cX7_clock 57 = .ok (.iload_n 2, 1) := by decide +kernel
theorem dX7_clock_58 : decode cX7_clock 58 = .ok (.iconst 0, 1) := by decide +kernel
theorem dX7_clock_59 : decode cX7_clock 59 = .ok (.invokevirtual 209, 3) := by decide +kernel
theorem dX7_clock_62 : decode cX7_clock 62 = .ok (.istore 5, 2) := by decide +kernel
theorem dX7_clock_64 : decode cX7_clock 64 = .ok (.iconst 1, 1) := by decide +kernel
theorem dX7_clock_65 : decode cX7_clock 65 = .ok (.istore 6, 2) := by decide +kernel
theorem dX7_clock_67 : decode cX7_clock 67 = .ok (.iload 6, 2) := by decide +kernel
theorem dX7_clock_69 : decode cX7_clock 69 = .ok (.bipush 24, 2) := by decide +kernel
theorem dX7_clock_71 : decode cX7_clock 71 = .ok (.if_icmp .ge 39, 3) := by decide +kernel
theorem dX7_clock_74 : decode cX7_clock 74 = .ok (.aload_n 0, 1) := by decide +kernel
theorem dX7_clock_75 : decode cX7_clock 75 = .ok (.aload_n 0, 1) := by decide +kernel
theorem dX7_clock_76 : decode cX7_clock 76 = .ok (.getfield 50, 3) := by decide +kernel
theorem dX7_clock_79 : decode cX7_clock 79 = .ok (.iload_n 1, 1) := by decide +kernel
theorem dX7_clock_80 : decode cX7_clock 80 = .ok (.aaload, 1) := by decide +kernel
theorem dX7_clock_81 : decode cX7_clock 81 = .ok (.iload_n 2, 1) := by decide +kernel
theorem dX7_clock_82 : decode cX7_clock 82 = .ok (.iload 6, 2) := by decide +kernel
theorem dX7_clock_84 : decode cX7_clock 84 = .ok (.invokevirtual 209, 3) := by decide +kernel
theorem dX7_clock_87 : decode cX7_clock 87 = .ok (.istore 7, 2) := by decide +kernel
theorem dX7_clock_89 : decode cX7_clock 89 = .ok (.iload 7, 2) := by decide +kernel
theorem dX7_clock_91 : decode cX7_clock 91 = .ok (.iload 5, 2) := by decide +kernel
theorem dX7_clock_93 : decode cX7_clock 93 = .ok (.if_icmp .ge 11, 3) := by decide +kernel
theorem dX7_clock_96 : decode cX7_clock 96 = .ok (.iload 7, 2) := by decide +kernel
theorem dX7_clock_98 : decode cX7_clock 98 = .ok (.istore 5, 2) := by decide +kernel
theorem dX7_clock_100 : decode cX7_clock 100 = .ok (.iload 6, 2) := by decide +kernel
theorem dX7_clock_102 : decode cX7_clock 102 = .ok (.istore 4, 2) := by decide +kernel
theorem dX7_clock_104 : decode cX7_clock 104 = .ok (.iinc 6 1, 3) := by decide +kernel
theorem dX7_clock_107 : decode cX7_clock 107 = .ok (.goto (-40), 3) := by decide +kernel
theorem dX7_clock_110 : decode cX7_clock 110 = .ok (.iload_n 3, 1) := by decide +kernel
theorem dX7_clock_111 : decode cX7_clock 111 = .ok (.ifCond .ne 8, 3) := by decide +kernel
theorem dX7_clock_114 : decode cX7_clock 114 = .ok (.iload 4, 2) := by decide +kernel
theorem dX7_clock_116 : decode cX7_clock 116 = .ok (.goto 5, 3) := by decide +kernel
theorem dX7_clock_119 : decode cX7_clock 119 = .ok (.iload 5, 2) := by decide +kernel
theorem dX7_clock_121 : decode cX7_clock 121 = .ok (.ireturn, 1) := by decide +kernel
theorem dX7_differencesWithEast_0 : decode cX7_differencesWithEast 0 = .ok (.aload_n 0, 1) := by decide +kernel
theorem dX7_differencesWithEast_1 : decode cX7_differencesWithEast 1 = .ok (.getfield 28, 3) := by decide +kernel
theorem dX7_differencesWithEast_4 : decode cX7_differencesWithEast 4 = .ok (.aload_n 0, 1) := by decide +kernel
theorem dX7_differencesWithEast_5 : decode cX7_differencesWithEast 5 = .ok (.getfield 21, 3) := by decide +kernel
theorem dX7_differencesWithEast_8 : decode cX7_differencesWithEast 8 = .ok (.invokevirtual 197, 3) := by decide +kernel
theorem dX7_differencesWithEast_11 : decode cX7_differencesWithEast 11 = .ok (.aload_n 0, 1) := by decide +kernel
theorem dX7_differencesWithEast_12 : decode cX7_differencesWithEast 12 = .ok (.getfield 28, 3) := by decide +kernel
theorem dX7_differencesWithEast_15 : decode cX7_differencesWithEast 15 = .ok (.getfield 80, 3) := by decide +kernel
theorem dX7_differencesWithEast_18 : decode cX7_differencesWithEast 18 = .ok (.iload_n 2, 1) := by decide +kernel
theorem dX7_differencesWithEast_19 : decode cX7_differencesWithEast 19 = .ok (.aaload, 1) := by decide +kernel
theorem dX7_differencesWithEast_20 : decode cX7_differencesWithEast 20 = .ok (.iload_n 3, 1) := by decide +kernel
theorem dX7_differencesWithEast_21 : decode cX7_differencesWithEast 21 = .ok (.putfield 89, 3) := by decide +kernel
theorem dX7_differencesWithEast_24 : decode cX7_differencesWithEast 24 = .ok (.iconst 0, 1) := by decide +kernel
theorem dX7_differencesWithEast_25 : decode cX7_differencesWithEast 25 = .ok (.istore 4, 2) := by decide +kernel
theorem dX7_differencesWithEast_27 : decode cX7_differencesWithEast 27 = .ok (.iconst 0, 1) := by decide +kernel
theorem dX7_differencesWithEast_28 : decode cX7_differencesWithEast 28 = .ok (.istore 5, 2) := by decide +kernel
theorem dX7_differencesWithEast_30 : decode cX7_differencesWithEast 30 = .ok (.iload 5, 2) := by decide +kernel
theorem dX7_differencesWithEast_32 : decode cX7_differencesWithEast 32 = .ok (.aload_n 1, 1) := by decide +kernel
theorem dX7_differencesWithEast_33 : decode cX7_differencesWithEast 33 = .ok (.getfield 213, 3) := by decide +kernel
theorem dX7_differencesWithEast_36 : decode cX7_differencesWithEast 36 = .ok (.if_icmp .ge 49, 3) := by decide +kernel
theorem dX7_differencesWithEast_39 : decode cX7_differencesWithEast 39 = .ok (.aload_n 1, 1) := by decide +kernel
theorem dX7_differencesWithEast_40 : decode cX7_differencesWithEast 40 = .ok (.iload 5, 2) := by decide +kernel
theorem dX7_differencesWithEast_42 : decode cX7_differencesWithEast 42 = .ok (.invokevirtual 216, 3) := by decide +kernel
theorem dX7_differencesWithEast_45 : decode cX7_differencesWithEast 45 = .ok (.ifCond .eq 27, 3) := by decide +kernel
theorem dX7_differencesWithEast_48 : decode cX7_differencesWithEast 48 = .ok (.iload 4, 2) := by decide +kernel
theorem dX7_differencesWithEast_50 : decode cX7_differencesWithEast 50 = .ok (.aload_n 0, 1) := by decide +kernel
theorem dX7_differencesWithEast_51 : decode cX7_differencesWithEast 51 = .ok (.getfield 28, 3) := by decide +kernel
theorem dX7_differencesWithEast_54 : decode cX7_differencesWithEast 54 = .ok (.iload_n 2, 1) := by decide +kernel
theorem dX7_differencesWithEast_55 : decode cX7_differencesWithEast 55 = .ok (.invokevirtual 98, 3) := by decide +kernel
theorem dX7_differencesWithEast_58 : decode cX7_differencesWithEast 58 = .ok (.aload_n 1, 1) := by decide +kernel
theorem dX7_differencesWithEast_59 : decode cX7_differencesWithEast 59 = .ok (.getfield 219, 3) := by decide +kernel
theorem dX7_differencesWithEast_62 : decode cX7_differencesWithEast 62 = .ok (.iload 5, 2) := by decide +kernel
theorem dX7_differencesWithEast_64 : decode cX7_differencesWithEast 64 = .ok (.iaload, 1) := by decide +kernel
theorem dX7_differencesWithEast_65 : decode cX7_differencesWithEast 65 = .ok (.isub, 1) := by decide +kernel
theorem dX7_differencesWithEast_66 : decode cX7_differencesWithEast 66 = .ok (.invokestatic 222, 3) := by decide +kernel
theorem dX7_differencesWithEast_69 : decode cX7_differencesWithEast 69 = .ok (.iadd, 1) := by decide +kernel
theorem dX7_differencesWithEast_70 : decode cX7_differencesWithEast 70 = .ok (.istore 4, 2) := by decide +kernel
theorem dX7_differencesWithEast_72 : decode cX7_differencesWithEast 72 = .ok (.aload_n 0, 1) := by decide +kernel
theorem dX7_differencesWithEast_73 : decode cX7_differencesWithEast 73 = .ok (.getfield 28, 3) := by decide +kernel
theorem dX7_differencesWithEast_76 : decode cX7_differencesWithEast 76 = .ok (.invokevirtual 201, 3) := by decide +kernel
theorem dX7_differencesWithEast_79 : decode cX7_differencesWithEast 79 = .ok (.iinc 5 1, 3) := by decide +kernel
theorem dX7_differencesWithEast_82 : decode cX7_differencesWithEast 82 = .ok (.goto (-52), 3) := by decide +kernel
theorem dX7_differencesWithEast_85 : decode cX7_differencesWithEast 85 = .ok (.iload 4, 2) := by decide +kernel
theorem dX7_differencesWithEast_87 : decode cX7_differencesWithEast 87 = .ok (.ireturn, 1) := by decide +kernel
theorem dX7_fee_0 : decode cX7_fee 0 = .ok (.aload_n 0, 1) := by decide +kernel
theorem dX7_fee_1 : decode cX7_fee 1 = .ok (.getfield 21, 3) := by decide +kernel
theorem dX7_fee_4 : decode cX7_fee 4 = .ok (.getfield 225, 3) := by decide +kernel
theorem dX7_fee_7 : decode cX7_fee 7 = .ok (.iconst 1, 1) := by decide +kernel
theorem dX7_fee_8 : decode cX7_fee 8 = .ok (.iaload, 1) := by decide +kernel
theorem dX7_fee_9 : decode cX7_fee 9 = .ok (.istore_n 1, 1) := by decide +kernel
theorem dX7_fee_10 : decode cX7_fee 10 = .ok (.iload_n 1, 1) := by decide +kernel
theorem dX7_fee_11 : decode cX7_fee 11 = .ok (.ifCond .ge 13, 3) := by decide +kernel
theorem dX7_fee_14 : decode cX7_fee 14 = .ok (.aload_n 0, 1) := by decide +kernel
theorem dX7_fee_15 : decode cX7_fee 15 = .ok (.getfield 21, 3) := by decide +kernel
theorem dX7_fee_18 : decode cX7_fee 18 = .ok (.getfield 164, 3) := by decide +kernel
theorem dX7_fee_21 : decode cX7_fee 21 = .ok (.goto 26, 3) := by decide +kernel
theorem dX7_fee_24 : decode cX7_fee 24 = .ok (.aload_n 0, 1) := by decide +kernel
theorem dX7_fee_25 : decode cX7_fee 25 = .ok (.getfield 10, 3) := by decide +kernel
theorem dX7_fee_28 : decode cX7_fee 28 = .ok (.iload_n 1, 1) := by decide +kernel
theorem dX7_fee_29 : decode cX7_fee 29 = .ok (.aload_n 0, 1) := by decide +kernel
theorem dX7_fee_30 : decode cX7_fee 30 = .ok (.getfield 21, 3) := by decide +kernel
theorem dX7_fee_33 : decode cX7_fee 33 = .ok (.getfield 182, 3) := by decide +kernel
theorem dX7_fee_36 : decode cX7_fee 36 = .ok (.aload_n 0, 1) := by decide +kernel
theorem dX7_fee_37 : decode cX7_fee 37 = .ok (.getfield 21, 3) := by decide +kernel
theorem dX7_fee_40 : decode cX7_fee 40 = .ok (.getfield 164, 3) := by decide +kernel
theorem dX7_fee_43 : decode cX7_fee 43 = .ok (.iconst 0, 1) := by decide +kernel
theorem dX7_fee_44 : decode cX7_fee 44 = .ok (.invokevirtual 228, 3) := by decide +kernel
theorem dX7_fee_47 : decode cX7_fee 47 = .ok (.ireturn, 1) := by decide +kernel
theorem dX7_fine_0 : decode cX7_fine 0 = .ok (.aload_n 0, 1) := by decide +kernel
theorem dX7_fine_1 : decode cX7_fine 1 = .ok (.getfield 21, 3) := by decide +kernel
theorem dX7_fine_4 : decode cX7_fine 4 = .ok (.iload_n 1, 1) := by decide +kernel
theorem dX7_fine_5 : decode cX7_fine 5 = .ok (.invokevirtual 76, 3) := by decide +kernel
theorem dX7_fine_8 : decode cX7_fine 8 = .ok (.ifCond .ne 6, 3) := by decide +kernel
theorem dX7_fine_11 : decode cX7_fine 11 = .ok (.ldc 66, 2) := by decide +kernel
theorem dX7_fine_13 : decode cX7_fine 13 = .ok (.ireturn, 1) := by decide +kernel
theorem dX7_fine_14 : decode cX7_fine 14 = .ok (.aload_n 0, 1) := by decide +kernel
theorem dX7_fine_15 : decode cX7_fine 15 = .ok (.getfield 21, 3) := by decide +kernel
theorem dX7_fine_18 : decode cX7_fine 18 = .ok (.getfield 80, 3) := by decide +kernel
theorem dX7_fine_21 : decode cX7_fine 21 = .ok (.iload_n 1, 1) := by decide +kernel
theorem dX7_fine_22 : decode cX7_fine 22 = .ok (.aaload, 1) := by decide +kernel
theorem dX7_fine_23 : decode cX7_fine 23 = .ok (.astore_n 2, 1) := by decide +kernel
theorem dX7_fine_24 : decode cX7_fine 24 = .ok (.aload_n 0, 1) := by decide +kernel
theorem dX7_fine_25 : decode cX7_fine 25 = .ok (.getfield 21, 3) := by decide +kernel
theorem dX7_fine_28 : decode cX7_fine 28 = .ok (.getfield 225, 3) := by decide +kernel
theorem dX7_fine_31 : decode cX7_fine 31 = .ok (.iconst 2, 1) := by decide +kernel
theorem dX7_fine_32 : decode cX7_fine 32 = .ok (.iaload, 1) := by decide +kernel
theorem dX7_fine_33 : decode cX7_fine 33 = .ok (.istore_n 3, 1) := by decide +kernel
theorem dX7_fine_34 : decode cX7_fine 34 = .ok (.iload_n 3, 1) := by decide +kernel
theorem dX7_fine_35 : decode cX7_fine 35 = .ok (.ifCond .ge 10, 3) := by decide +kernel
theorem dX7_fine_38 : decode cX7_fine 38 = .ok (.aload_n 2, 1) := by decide +kernel
theorem dX7_fine_39 : decode cX7_fine 39 = .ok (.getfield 95, 3) := by decide +kernel
theorem dX7_fine_42 : decode cX7_fine 42 = .ok (.goto 20, 3) := by decide +kernel
theorem dX7_fine_45 : decode cX7_fine 45 = .ok (.aload_n 0, 1) := by decide +kernel
theorem dX7_fine_46 : decode cX7_fine 46 = .ok (.getfield 10, 3) := by decide +kernel
theorem dX7_fine_49 : decode cX7_fine 49 = .ok (.iload_n 3, 1) := by decide +kernel
theorem dX7_fine_50 : decode cX7_fine 50 = .ok (.aload_n 2, 1) := by decide +kernel
theorem dX7_fine_51 : decode cX7_fine 51 = .ok (.getfield 95, 3) := by decide +kernel
theorem dX7_fine_54 : decode cX7_fine 54 = .ok (.aload_n 2, 1) := by decide +kernel
theorem dX7_fine_55 : decode cX7_fine 55 = .ok (.getfield 89, 3) := by decide +kernel
theorem dX7_fine_58 : decode cX7_fine 58 = .ok (.iconst 0, 1) := by decide +kernel
theorem dX7_fine_59 : decode cX7_fine 59 = .ok (.invokevirtual 228, 3) := by decide +kernel
theorem dX7_fine_62 : decode cX7_fine 62 = .ok (.ireturn, 1) := by decide +kernel
theorem dX7_feed_0 : decode cX7_feed 0 = .ok (.aload_n 0, 1) := by decide +kernel
theorem dX7_feed_1 : decode cX7_feed 1 = .ok (.getfield 232, 3) := by decide +kernel
theorem dX7_feed_4 : decode cX7_feed 4 = .ok (.bipush 84, 2) := by decide +kernel
theorem dX7_feed_6 : decode cX7_feed 6 = .ok (.if_icmp .le 6, 3) := by decide +kernel
theorem dX7_feed_9 : decode cX7_feed 9 = .ok (.ldc 71, 2) := by decide +kernel
theorem dX7_feed_11 : decode cX7_feed 11 = .ok (.ireturn, 1) := by decide +kernel
theorem dX7_feed_12 : decode cX7_feed 12 = .ok (.aload_n 0, 1) := by decide +kernel
theorem dX7_feed_13 : decode cX7_feed 13 = .ok (.iload_n 1, 1) := by decide +kernel
theorem dX7_feed_14 : decode cX7_feed 14 = .ok (.invokevirtual 235, 3) := by decide +kernel
theorem dX7_feed_17 : decode cX7_feed 17 = .ok (.aload_n 0, 1) := by decide +kernel
theorem dX7_feed_18 : decode cX7_feed 18 = .ok (.iload_n 2, 1) := by decide +kernel
theorem dX7_feed_19 : decode cX7_feed 19 = .ok (.invokevirtual 235, 3) := by decide +kernel
theorem dX7_feed_22 : decode cX7_feed 22 = .ok (.aload_n 0, 1) := by decide +kernel
theorem dX7_feed_23 : decode cX7_feed 23 = .ok (.iload_n 3, 1) := by decide +kernel
theorem dX7_feed_24 : decode cX7_feed 24 = .ok (.invokevirtual 235, 3) := by decide +kernel
theorem dX7_feed_27 : decode cX7_feed 27 = .ok (.aload_n 0, 1) := by decide +kernel
theorem dX7_feed_28 : decode cX7_feed 28 = .ok (.getfield 232, 3) := by decide +kernel
theorem dX7_feed_31 : decode cX7_feed 31 = .ok (.ireturn, 1) := by decide +kernel
theorem dX7_putBytes_0 : decode cX7_putBytes 0 = .ok (.bipush 24, 2) := by decide +kernel
theorem dX7_putBytes_2 : decode cX7_putBytes 2 = .ok (.istore_n 2, 1) := by decide +kernel
theorem dX7_putBytes_3 : decode cX7_putBytes 3 = .ok (.iload_n 2, 1) := by decide +kernel
theorem dX7_putBytes_4 : decode cX7_putBytes 4 = .ok (.ifCond .lt 32, 3) := by decide +kernel
theorem dX7_putBytes_7 : decode cX7_putBytes 7 = .ok (.aload_n 0, 1) := by decide +kernel
theorem dX7_putBytes_8 : decode cX7_putBytes 8 = .ok (.getfield 31, 3) := by decide +kernel
theorem dX7_putBytes_11 : decode cX7_putBytes 11 = .ok (.aload_n 0, 1) := by decide +kernel
theorem dX7_putBytes_12 : decode cX7_putBytes 12 = .ok (.getfield 232, 3) := by decide +kernel
theorem dX7_putBytes_15 : decode cX7_putBytes 15 = .ok (.iload_n 1, 1) := by decide +kernel
theorem dX7_putBytes_16 : decode cX7_putBytes 16 = .ok (.iload_n 2, 1) := by decide +kernel
theorem dX7_putBytes_17 : decode cX7_putBytes 17 = .ok (.ishr, 1) := by decide +kernel
theorem dX7_putBytes_18 : decode cX7_putBytes 18 = .ok (.i2b, 1) := by decide +kernel
theorem dX7_putBytes_19 : decode cX7_putBytes 19 = .ok (.bastore, 1) := by decide +kernel
theorem dX7_putBytes_20 : decode cX7_putBytes 20 = .ok (.aload_n 0, 1) := by decide +kernel
theorem dX7_putBytes_21 : decode cX7_putBytes 21 = .ok (.dup, 1) := by decide +kernel
theorem dX7_putBytes_22 : decode cX7_putBytes 22 = .ok (.getfield 232, 3) := by decide +kernel
theorem dX7_putBytes_25 : decode cX7_putBytes 25 = .ok (.iconst 1, 1) := by decide +kernel
theorem dX7_putBytes_26 : decode cX7_putBytes 26 = .ok (.iadd, 1) := by decide +kernel
theorem dX7_putBytes_27 : decode cX7_putBytes 27 = .ok (.putfield 232, 3) := by decide +kernel
theorem dX7_putBytes_30 : decode cX7_putBytes 30 = .ok (.iinc 2 (-8), 3) := by decide +kernel
theorem dX7_putBytes_33 : decode cX7_putBytes 33 = .ok (.goto (-30), 3) := by decide +kernel
theorem dX7_putBytes_36 : decode cX7_putBytes 36 = .ok (.return_, 1) := by decide +kernel
theorem dX7_trim_0 : decode cX7_trim 0 = .ok (.iload_n 1, 1) := by decide +kernel
theorem dX7_trim_1 : decode cX7_trim 1 = .ok (.iconst 0, 1) := by decide +kernel
theorem dX7_trim_2 : decode cX7_trim 2 = .ok (.aload_n 0, 1) := by decide +kernel
theorem dX7_trim_3 : decode cX7_trim 3 = .ok (.getfield 232, 3) := by decide +kernel
theorem dX7_trim_6 : decode cX7_trim 6 = .ok (.invokestatic 62, 3) := by decide +kernel
theorem dX7_trim_9 : decode cX7_trim 9 = .ok (.ifCond .ne 6, 3) := by decide +kernel
theorem dX7_trim_12 : decode cX7_trim 12 = .ok (.ldc 66, 2) := by decide +kernel
theorem dX7_trim_14 : decode cX7_trim 14 = .ok (.ireturn, 1) := by decide +kernel
theorem dX7_trim_15 : decode cX7_trim 15 = .ok (.aload_n 0, 1) := by decide +kernel
theorem dX7_trim_16 : decode cX7_trim 16 = .ok (.iload_n 1, 1) := by decide +kernel
theorem dX7_trim_17 : decode cX7_trim 17 = .ok (.putfield 232, 3) := by decide +kernel
theorem dX7_trim_20 : decode cX7_trim 20 = .ok (.iload_n 1, 1) := by decide +kernel
theorem dX7_trim_21 : decode cX7_trim 21 = .ok (.ireturn, 1) := by decide +kernel
theorem dX7_text_0 : decode cX7_text 0 = .ok (.aload_n 0, 1) := by decide +kernel
theorem dX7_text_1 : decode cX7_text 1 = .ok (.getfield 21, 3) := by decide +kernel
theorem dX7_text_4 : decode cX7_text 4 = .ok (.getfield 238, 3) := by decide +kernel
theorem dX7_text_7 : decode cX7_text 7 = .ok (.istore_n 1, 1) := by decide +kernel
theorem dX7_text_8 : decode cX7_text 8 = .ok (.aload_n 0, 1) := by decide +kernel
theorem dX7_text_9 : decode cX7_text 9 = .ok (.getfield 10, 3) := by decide +kernel
theorem dX7_text_12 : decode cX7_text 12 = .ok (.getfield 241, 3) := by decide +kernel
theorem dX7_text_15 : decode cX7_text 15 = .ok (.iload_n 1, 1) := by decide +kernel
theorem dX7_text_16 : decode cX7_text 16 = .ok (.aaload, 1) := by decide +kernel
theorem dX7_text_17 : decode cX7_text 17 = .ok (.astore_n 2, 1) := by decide +kernel
theorem dX7_text_18 : decode cX7_text 18 = .ok (.aload_n 0, 1) := by decide +kernel
theorem dX7_text_19 : decode cX7_text 19 = .ok (.getfield 40, 3) := by decide +kernel
theorem dX7_text_22 : decode cX7_text 22 = .ok (.aload_n 0, 1) := by decide +kernel
theorem dX7_text_23 : decode cX7_text 23 = .ok (.getfield 232, 3) := by decide +kernel
theorem dX7_text_26 : decode cX7_text 26 = .ok (.aload_n 2, 1) := by decide +kernel
theorem dX7_text_27 : decode cX7_text 27 = .ok (.invokevirtual 245, 3) := by decide +kernel
theorem dX7_text_30 : decode cX7_text 30 = .ok (.istore_n 3, 1) := by decide +kernel
theorem dX7_text_31 : decode cX7_text 31 = .ok (.aload_n 0, 1) := by decide +kernel
theorem dX7_text_32 : decode cX7_text 32 = .ok (.iconst 0, 1) := by decide +kernel
theorem dX7_text_33 : decode cX7_text 33 = .ok (.putfield 232, 3) := by decide +kernel
theorem dX7_text_36 : decode cX7_text 36 = .ok (.iload_n 3, 1) := by decide +kernel
theorem dX7_text_37 : decode cX7_text 37 = .ok (.ifCond .ne 14, 3) := by decide +kernel
theorem dX7_text_40 : decode cX7_text 40 = .ok (.bipush (-100), 2) := by decide +kernel
theorem dX7_text_42 : decode cX7_text 42 = .ok (.aload_n 0, 1) := by decide +kernel
theorem dX7_text_43 : decode cX7_text 43 = .ok (.getfield 40, 3) := by decide +kernel
theorem dX7_text_46 : decode cX7_text 46 = .ok (.getfield 249, 3) := by decide +kernel
theorem dX7_text_49 : decode cX7_text 49 = .ok (.isub, 1) := by decide +kernel
theorem dX7_text_50 : decode cX7_text 50 = .ok (.ireturn, 1) := by decide +kernel
theorem dX7_text_51 : decode cX7_text 51 = .ok (.iload_n 1, 1) := by decide +kernel
theorem dX7_text_52 : decode cX7_text 52 = .ok (.bipush 14, 2) := by decide +kernel
theorem dX7_text_54 : decode cX7_text 54 = .ok (.if_icmp .lt 6, 3) := by decide +kernel
theorem dX7_text_57 : decode cX7_text 57 = .ok (.ldc 71, 2) := by decide +kernel
theorem dX7_text_59 : decode cX7_text 59 = .ok (.ireturn, 1) := by decide +kernel
theorem dX7_text_60 : decode cX7_text 60 = .ok (.aload_n 0, 1) := by decide +kernel
theorem dX7_text_61 : decode cX7_text 61 = .ok (.getfield 21, 3) := by decide +kernel
theorem dX7_text_64 : decode cX7_text 64 = .ok (.dup, 1) := by decide +kernel
theorem dX7_text_65 : decode cX7_text 65 = .ok (.getfield 238, 3) := by decide +kernel
theorem dX7_text_68 : decode cX7_text 68 = .ok (.iconst 1, 1) := by decide +kernel
theorem dX7_text_69 : decode cX7_text 69 = .ok (.iadd, 1) := by decide +kernel
theorem dX7_text_70 : decode cX7_text 70 = .ok (.putfield 238, 3) := by decide +kernel
theorem dX7_text_73 : decode cX7_text 73 = .ok (.aload_n 0, 1) := by decide +kernel
theorem dX7_text_74 : decode cX7_text 74 = .ok (.getfield 21, 3) := by decide +kernel
theorem dX7_text_77 : decode cX7_text 77 = .ok (.getfield 225, 3) := by decide +kernel
theorem dX7_text_80 : decode cX7_text 80 = .ok (.aload_n 2, 1) := by decide +kernel
theorem dX7_text_81 : decode cX7_text 81 = .ok (.getfield 252, 3) := by decide +kernel
theorem dX7_text_84 : decode cX7_text 84 = .ok (.iload_n 1, 1) := by decide +kernel
theorem dX7_text_85 : decode cX7_text 85 = .ok (.iastore, 1) := by decide +kernel
theorem dX7_text_86 : decode cX7_text 86 = .ok (.iload_n 1, 1) := by decide +kernel
theorem dX7_text_87 : decode cX7_text 87 = .ok (.ireturn, 1) := by decide +kernel
theorem dX7_textTold_0 : decode cX7_textTold 0 = .ok (.iload_n 1, 1) := by decide +kernel
theorem dX7_textTold_1 : decode cX7_textTold 1 = .ok (.iconst 0, 1) := by decide +kernel
theorem dX7_textTold_2 : decode cX7_textTold 2 = .ok (.aload_n 0, 1) := by decide +kernel
theorem dX7_textTold_3 : decode cX7_textTold 3 = .ok (.getfield 21, 3) := by decide +kernel
theorem dX7_textTold_6 : decode cX7_textTold 6 = .ok (.getfield 238, 3) := by decide +kernel
theorem dX7_textTold_9 : decode cX7_textTold 9 = .ok (.iconst 1, 1) := by decide +kernel
theorem dX7_textTold_10 : decode cX7_textTold 10 = .ok (.isub, 1) := by decide +kernel
theorem dX7_textTold_11 : decode cX7_textTold 11 = .ok (.invokestatic 62, 3) := by decide +kernel
theorem dX7_textTold_14 : decode cX7_textTold 14 = .ok (.ifCond .ne 6, 3) := by decide +kernel
theorem dX7_textTold_17 : decode cX7_textTold 17 = .ok (.ldc 66, 2) := by decide +kernel
theorem dX7_textTold_19 : decode cX7_textTold 19 = .ok (.ireturn, 1) := by decide +kernel
theorem dX7_textTold_20 : decode cX7_textTold 20 = .ok (.iload_n 2, 1) := by decide +kernel
theorem dX7_textTold_21 : decode cX7_textTold 21 = .ok (.lookupswitch 53 #[(0, 27), (1, 40)], 27) := by decide +kernel
theorem dX7_textTold_48 : decode cX7_textTold 48 = .ok (.aload_n 0, 1) := by decide +kernel
theorem dX7_textTold_49 : decode cX7_textTold 49 = .ok (.getfield 10, 3) := by decide +kernel
theorem dX7_textTold_52 : decode cX7_textTold 52 = .ok (.getfield 241, 3) := by decide +kernel
theorem dX7_textTold_55 : decode cX7_textTold 55 = .ok (.iload_n 1, 1) := by decide +kernel
theorem dX7_textTold_56 : decode cX7_textTold 56 = .ok (.aaload, 1) := by decide +kernel
theorem dX7_textTold_57 : decode cX7_textTold 57 = .ok (.getfield 252, 3) := by decide +kernel
theorem dX7_textTold_60 : decode cX7_textTold 60 = .ok (.ireturn, 1) := by decide +kernel
theorem dX7_textTold_61 : decode cX7_textTold 61 = .ok (.aload_n 0, 1) := by decide +kernel
theorem dX7_textTold_62 : decode cX7_textTold 62 = .ok (.getfield 10, 3) := by decide +kernel
theorem dX7_textTold_65 : decode cX7_textTold 65 = .ok (.getfield 241, 3) := by decide +kernel
theorem dX7_textTold_68 : decode cX7_textTold 68 = .ok (.iload_n 1, 1) := by decide +kernel
theorem dX7_textTold_69 : decode cX7_textTold 69 = .ok (.aaload, 1) := by decide +kernel
theorem dX7_textTold_70 : decode cX7_textTold 70 = .ok (.getfield 257, 3) := by decide +kernel
theorem dX7_textTold_73 : decode cX7_textTold 73 = .ok (.ireturn, 1) := by decide +kernel
theorem dX7_textTold_74 : decode cX7_textTold 74 = .ok (.ldc 66, 2) := by decide +kernel
theorem dX7_textTold_76 : decode cX7_textTold 76 = .ok (.ireturn, 1) := by decide +kernel
theorem dX7_why_0 : decode cX7_why 0 = .ok (.iload_n 1, 1) := by decide +kernel
theorem dX7_why_1 : decode cX7_why 1 = .ok (.iconst 0, 1) := by decide +kernel
theorem dX7_why_2 : decode cX7_why 2 = .ok (.iconst 2, 1) := by decide +kernel
theorem dX7_why_3 : decode cX7_why 3 = .ok (.invokestatic 62, 3) := by decide +kernel
theorem dX7_why_6 : decode cX7_why 6 = .ok (.ifCond .ne 6, 3) := by decide +kernel
theorem dX7_why_9 : decode cX7_why 9 = .ok (.ldc 66, 2) := by decide +kernel
theorem dX7_why_11 : decode cX7_why 11 = .ok (.ireturn, 1) := by decide +kernel
theorem dX7_why_12 : decode cX7_why 12 = .ok (.aload_n 0, 1) := by decide +kernel
theorem dX7_why_13 : decode cX7_why 13 = .ok (.getfield 21, 3) := by decide +kernel
theorem dX7_why_16 : decode cX7_why 16 = .ok (.getfield 225, 3) := by decide +kernel
theorem dX7_why_19 : decode cX7_why 19 = .ok (.iload_n 1, 1) := by decide +kernel
theorem dX7_why_20 : decode cX7_why 20 = .ok (.iaload, 1) := by decide +kernel
theorem dX7_why_21 : decode cX7_why 21 = .ok (.ifCond .ge 8, 3) := by decide +kernel
theorem dX7_why_24 : decode cX7_why 24 = .ok (.ldc 139, 2) := by decide +kernel
theorem dX7_why_26 : decode cX7_why 26 = .ok (.goto 12, 3) := by decide +kernel
theorem dX7_why_29 : decode cX7_why 29 = .ok (.aload_n 0, 1) := by decide +kernel
theorem dX7_why_30 : decode cX7_why 30 = .ok (.getfield 21, 3) := by decide +kernel
theorem dX7_why_33 : decode cX7_why 33 = .ok (.getfield 225, 3) := by decide +kernel
theorem dX7_why_36 : decode cX7_why 36 = .ok (.iload_n 1, 1) := by decide +kernel
theorem dX7_why_37 : decode cX7_why 37 = .ok (.iaload, 1) := by decide +kernel
theorem dX7_why_38 : decode cX7_why 38 = .ok (.ireturn, 1) := by decide +kernel
theorem dX7_sheet_0 : decode cX7_sheet 0 = .ok (.iload_n 1, 1) := by decide +kernel
theorem dX7_sheet_1 : decode cX7_sheet 1 = .ok (.iconst 0, 1) := by decide +kernel
theorem dX7_sheet_2 : decode cX7_sheet 2 = .ok (.iconst 3, 1) := by decide +kernel
theorem dX7_sheet_3 : decode cX7_sheet 3 = .ok (.invokestatic 62, 3) := by decide +kernel
theorem dX7_sheet_6 : decode cX7_sheet 6 = .ok (.ifCond .eq 12, 3) := by decide +kernel
theorem dX7_sheet_9 : decode cX7_sheet 9 = .ok (.iload_n 2, 1) := by decide +kernel
theorem dX7_sheet_10 : decode cX7_sheet 10 = .ok (.iconst (-1), 1) := by decide +kernel
theorem dX7_sheet_11 : decode cX7_sheet 11 = .ok (.iconst 1, 1) := by decide +kernel
theorem dX7_sheet_12 : decode cX7_sheet 12 = .ok (.invokestatic 62, 3) := by decide +kernel
theorem dX7_sheet_15 : decode cX7_sheet 15 = .ok (.ifCond .ne 6, 3) := by decide +kernel
theorem dX7_sheet_18 : decode cX7_sheet 18 = .ok (.ldc 66, 2) := by decide +kernel
theorem dX7_sheet_20 : decode cX7_sheet 20 = .ok (.ireturn, 1) := by decide +kernel
theorem dX7_sheet_21 : decode cX7_sheet 21 = .ok (.iload_n 2, 1) := by decide +kernel
theorem dX7_sheet_22 : decode cX7_sheet 22 = .ok (.iconst (-1), 1) := by decide +kernel
theorem dX7_sheet_23 : decode cX7_sheet 23 = .ok (.if_icmp .ne 16, 3) := by decide +kernel
theorem dX7_sheet_26 : decode cX7_sheet 26 = .ok (.aload_n 0, 1) := by decide +kernel
theorem dX7_sheet_27 : decode cX7_sheet 27 = .ok (.getfield 50, 3) := by decide +kernel
theorem dX7_sheet_30 : decode cX7_sheet 30 = .ok (.iload_n 1, 1) := by decide +kernel
theorem dX7_sheet_31 : decode cX7_sheet 31 = .ok (.aaload, 1) := by decide +kernel
theorem dX7_sheet_32 : decode cX7_sheet 32 = .ok (.iconst (-1), 1) := by decide +kernel
theorem dX7_sheet_33 : decode cX7_sheet 33 = .ok (.iconst 0, 1) := by decide +kernel
theorem dX7_sheet_34 : decode cX7_sheet 34 = .ok (.invokevirtual 260, 3) := by decide +kernel
theorem dX7_sheet_37 : decode cX7_sheet 37 = .ok (.iconst 0, 1) := by decide +kernel
theorem dX7_sheet_38 : decode cX7_sheet 38 = .ok (.ireturn, 1) := by decide +kernel
theorem dX7_sheet_39 : decode cX7_sheet 39 = .ok (.iload_n 3, 1) := by decide +kernel
theorem dX7_sheet_40 : decode cX7_sheet 40 = .ok (.bipush 24, 2) := by decide +kernel
theorem dX7_sheet_42 : decode cX7_sheet 42 = .ok (.if_icmp .le 6, 3) := by decide +kernel
theorem dX7_sheet_45 : decode cX7_sheet 45 = .ok (.ldc 66, 2) := by decide +kernel
theorem dX7_sheet_47 : decode cX7_sheet 47 = .ok (.ireturn, 1) := by decide +kernel
theorem dX7_sheet_48 : decode cX7_sheet 48 = .ok (.iload_n 3, 1) := by decide +kernel
theorem dX7_sheet_49 : decode cX7_sheet 49 = .ok (.ifCond .ge 7, 3) := by decide +kernel
theorem dX7_sheet_52 : decode cX7_sheet 52 = .ok (.ldc_w 264, 3) := by decide +kernel
theorem dX7_sheet_55 : decode cX7_sheet 55 = .ok (.ireturn, 1) := by decide +kernel
theorem dX7_sheet_56 : decode cX7_sheet 56 = .ok (.aload_n 0, 1) := by decide +kernel
theorem dX7_sheet_57 : decode cX7_sheet 57 = .ok (.getfield 50, 3) := by decide +kernel
theorem dX7_sheet_60 : decode cX7_sheet 60 = .ok (.iload_n 1, 1) := by decide +kernel
theorem dX7_sheet_61 : decode cX7_sheet 61 = .ok (.aaload, 1) := by decide +kernel
theorem dX7_sheet_62 : decode cX7_sheet 62 = .ok (.iload_n 2, 1) := by decide +kernel
theorem dX7_sheet_63 : decode cX7_sheet 63 = .ok (.iload_n 3, 1) := by decide +kernel
theorem dX7_sheet_64 : decode cX7_sheet 64 = .ok (.invokevirtual 260, 3) := by decide +kernel
theorem dX7_sheet_67 : decode cX7_sheet 67 = .ok (.iload_n 3, 1) := by decide +kernel
theorem dX7_sheet_68 : decode cX7_sheet 68 = .ok (.ireturn, 1) := by decide +kernel
theorem dX7_mark_0 : decode cX7_mark 0 = .ok (.iload_n 1, 1) := by decide +kernel
theorem dX7_mark_1 : decode cX7_mark 1 = .ok (.iconst 0, 1) := by decide +kernel
theorem dX7_mark_2 : decode cX7_mark 2 = .ok (.iconst 3, 1) := by decide +kernel
theorem dX7_mark_3 : decode cX7_mark 3 = .ok (.invokestatic 62, 3) := by decide +kernel
theorem dX7_mark_6 : decode cX7_mark 6 = .ok (.ifCond .ne 6, 3) := by decide +kernel
theorem dX7_mark_9 : decode cX7_mark 9 = .ok (.ldc 66, 2) := by decide +kernel
theorem dX7_mark_11 : decode cX7_mark 11 = .ok (.ireturn, 1) := by decide +kernel
theorem dX7_mark_12 : decode cX7_mark 12 = .ok (.aload_n 0, 1) := by decide +kernel
theorem dX7_mark_13 : decode cX7_mark 13 = .ok (.getfield 50, 3) := by decide +kernel
theorem dX7_mark_16 : decode cX7_mark 16 = .ok (.iload_n 1, 1) := by decide +kernel
theorem dX7_mark_17 : decode cX7_mark 17 = .ok (.aaload, 1) := by decide +kernel
theorem dX7_mark_18 : decode cX7_mark 18 = .ok (.astore 4, 2) := by decide +kernel
theorem dX7_mark_20 : decode cX7_mark 20 = .ok (.aload 4, 2) := by decide +kernel
theorem dX7_mark_22 : decode cX7_mark 22 = .ok (.invokevirtual 204, 3) := by decide +kernel
theorem dX7_mark_25 : decode cX7_mark 25 = .ok (.ifCond .eq 6, 3) := by decide +kernel
theorem dX7_mark_28 : decode cX7_mark 28 = .ok (.ldc 208, 2) := by decide +kernel
theorem dX7_mark_30 : decode cX7_mark 30 = .ok (.ireturn, 1) := by decide +kernel
theorem dX7_mark_31 : decode cX7_mark 31 = .ok (.aload 4, 2) := by decide +kernel
theorem dX7_mark_33 : decode cX7_mark 33 = .ok (.iload_n 2, 1) := by decide +kernel
theorem dX7_mark_34 : decode cX7_mark 34 = .ok (.invokevirtual 265, 3) := by decide +kernel
theorem dX7_mark_37 : decode cX7_mark 37 = .ok (.ifCond .ne 7, 3) := by decide +kernel
theorem dX7_mark_40 : decode cX7_mark 40 = .ok (.ldc_w 268, 3) := by decide +kernel
theorem dX7_mark_43 : decode cX7_mark 43 = .ok (.ireturn, 1) := by decide +kernel
theorem dX7_mark_44 : decode cX7_mark 44 = .ok (.aload 4, 2) := by decide +kernel
theorem dX7_mark_46 : decode cX7_mark 46 = .ok (.getfield 269, 3) := by decide +kernel
theorem dX7_mark_49 : decode cX7_mark 49 = .ok (.ifCond .ne 23, 3) := by decide +kernel
theorem dX7_mark_52 : decode cX7_mark 52 = .ok (.iload_n 3, 1) := by decide +kernel
theorem dX7_mark_53 : decode cX7_mark 53 = .ok (.ldc 139, 2) := by decide +kernel
theorem dX7_mark_55 : decode cX7_mark 55 = .ok (.if_icmp .ne 6, 3) := by decide +kernel
theorem dX7_mark_58 : decode cX7_mark 58 = .ok (.ldc 118, 2) := by decide +kernel
theorem dX7_mark_60 : decode cX7_mark 60 = .ok (.ireturn, 1) := by decide +kernel
theorem dX7_mark_61 : decode cX7_mark 61 = .ok (.aload 4, 2) := by decide +kernel
theorem dX7_mark_63 : decode cX7_mark 63 = .ok (.getfield 219, 3) := by decide +kernel
theorem dX7_mark_66 : decode cX7_mark 66 = .ok (.iload_n 2, 1) := by decide +kernel
theorem dX7_mark_67 : decode cX7_mark 67 = .ok (.iload_n 3, 1) := by decide +kernel
theorem dX7_mark_68 : decode cX7_mark 68 = .ok (.i2s, 1) := by decide +kernel
theorem dX7_mark_69 : decode cX7_mark 69 = .ok (.iastore, 1) := by decide +kernel
theorem dX7_mark_70 : decode cX7_mark 70 = .ok (.iconst 1, 1) := by decide +kernel
theorem dX7_mark_71 : decode cX7_mark 71 = .ok (.ireturn, 1) := by decide +kernel
theorem dX7_mark_72 : decode cX7_mark 72 = .ok (.iload_n 3, 1) := by decide +kernel
theorem dX7_mark_73 : decode cX7_mark 73 = .ok (.ldc 139, 2) := by decide +kernel
theorem dX7_mark_75 : decode cX7_mark 75 = .ok (.if_icmp .eq 19, 3) := by decide +kernel
theorem dX7_mark_78 : decode cX7_mark 78 = .ok (.iload_n 3, 1) := by decide +kernel
theorem dX7_mark_79 : decode cX7_mark 79 = .ok (.ldc_w 272, 3) := by decide +kernel
theorem dX7_mark_82 : decode cX7_mark 82 = .ok (.ldc_w 273, 3) := by decide +kernel
theorem dX7_mark_85 : decode cX7_mark 85 = .ok (.invokestatic 62, 3) := by decide +kernel
theorem dX7_mark_88 : decode cX7_mark 88 = .ok (.ifCond .ne 6, 3) := by decide +kernel
theorem dX7_mark_91 : decode cX7_mark 91 = .ok (.ldc 66, 2) := by decide +kernel
theorem dX7_mark_93 : decode cX7_mark 93 = .ok (.ireturn, 1) := by decide +kernel
theorem dX7_mark_94 : decode cX7_mark 94 = .ok (.aload 4, 2) := by decide +kernel
theorem dX7_mark_96 : decode cX7_mark 96 = .ok (.getfield 219, 3) := by decide +kernel
theorem dX7_mark_99 : decode cX7_mark 99 = .ok (.iload_n 2, 1) := by decide +kernel
theorem dX7_mark_100 : decode cX7_mark 100 = .ok (.iload_n 3, 1) := by decide +kernel
theorem dX7_mark_101 : decode cX7_mark 101 = .ok (.iastore, 1) := by decide +kernel
theorem dX7_mark_102 : decode cX7_mark 102 = .ok (.iconst 1, 1) := by decide +kernel
theorem dX7_mark_103 : decode cX7_mark 103 = .ok (.ireturn, 1) := by decide +kernel
theorem dX7_pour_0 : decode cX7_pour 0 = .ok (.iload_n 1, 1) := by decide +kernel
theorem dX7_pour_1 : decode cX7_pour 1 = .ok (.iconst 0, 1) := by decide +kernel
theorem dX7_pour_2 : decode cX7_pour 2 = .ok (.iconst 3, 1) := by decide +kernel
theorem dX7_pour_3 : decode cX7_pour 3 = .ok (.invokestatic 62, 3) := by decide +kernel
theorem dX7_pour_6 : decode cX7_pour 6 = .ok (.ifCond .ne 6, 3) := by decide +kernel
theorem dX7_pour_9 : decode cX7_pour 9 = .ok (.ldc 66, 2) := by decide +kernel
theorem dX7_pour_11 : decode cX7_pour 11 = .ok (.ireturn, 1) := by decide +kernel
theorem dX7_pour_12 : decode cX7_pour 12 = .ok (.aload_n 0, 1) := by decide +kernel
theorem dX7_pour_13 : decode cX7_pour 13 = .ok (.getfield 50, 3) := by decide +kernel
theorem dX7_pour_16 : decode cX7_pour 16 = .ok (.iload_n 1, 1) := by decide +kernel
theorem dX7_pour_17 : decode cX7_pour 17 = .ok (.aaload, 1) := by decide +kernel
theorem dX7_pour_18 : decode cX7_pour 18 = .ok (.astore_n 2, 1) := by decide +kernel
theorem dX7_pour_19 : decode cX7_pour 19 = .ok (.aload_n 2, 1) := by decide +kernel
theorem dX7_pour_20 : decode cX7_pour 20 = .ok (.invokevirtual 204, 3) := by decide +kernel
theorem dX7_pour_23 : decode cX7_pour 23 = .ok (.ifCond .eq 6, 3) := by decide +kernel
theorem dX7_pour_26 : decode cX7_pour 26 = .ok (.ldc 208, 2) := by decide +kernel
theorem dX7_pour_28 : decode cX7_pour 28 = .ok (.ireturn, 1) := by decide +kernel
theorem dX7_pour_29 : decode cX7_pour 29 = .ok (.iconst 0, 1) := by decide +kernel
theorem dX7_pour_30 : decode cX7_pour 30 = .ok (.istore_n 3, 1) := by decide +kernel
theorem dX7_pour_31 : decode cX7_pour 31 = .ok (.aload_n 2, 1) := by decide +kernel
theorem dX7_pour_32 : decode cX7_pour 32 = .ok (.getfield 213, 3) := by decide +kernel
theorem dX7_pour_35 : decode cX7_pour 35 = .ok (.aload_n 0, 1) := by decide +kernel
theorem dX7_pour_36 : decode cX7_pour 36 = .ok (.getfield 21, 3) := by decide +kernel
theorem dX7_pour_39 : decode cX7_pour 39 = .ok (.getfield 67, 3) := by decide +kernel
theorem dX7_pour_42 : decode cX7_pour 42 = .ok (.invokestatic 167, 3) := by decide +kernel
theorem dX7_pour_45 : decode cX7_pour 45 = .ok (.istore 4, 2) := by decide +kernel
theorem dX7_pour_47 : decode cX7_pour 47 = .ok (.iconst 0, 1) := by decide +kernel
theorem dX7_pour_48 : decode cX7_pour 48 = .ok (.istore 5, 2) := by decide +kernel
theorem dX7_pour_50 : decode cX7_pour 50 = .ok (.iload 5, 2) := by decide +kernel
theorem dX7_pour_52 : decode cX7_pour 52 = .ok (.iload 4, 2) := by decide +kernel
theorem dX7_pour_54 : decode cX7_pour 54 = .ok (.if_icmp .ge 56, 3) := by decide +kernel
theorem dX7_pour_57 : decode cX7_pour 57 = .ok (.aload_n 2, 1) := by decide +kernel
theorem dX7_pour_58 : decode cX7_pour 58 = .ok (.iload 5, 2) := by decide +kernel
theorem dX7_pour_60 : decode cX7_pour 60 = .ok (.invokevirtual 216, 3) := by decide +kernel
theorem dX7_pour_63 : decode cX7_pour 63 = .ok (.ifCond .eq 41, 3) := by decide +kernel
theorem dX7_pour_66 : decode cX7_pour 66 = .ok (.aload_n 2, 1) := by decide +kernel
theorem dX7_pour_67 : decode cX7_pour 67 = .ok (.getfield 219, 3) := by decide +kernel
theorem dX7_pour_70 : decode cX7_pour 70 = .ok (.iload 5, 2) := by decide +kernel
theorem dX7_pour_72 : decode cX7_pour 72 = .ok (.iaload, 1) := by decide +kernel
theorem dX7_pour_73 : decode cX7_pour 73 = .ok (.iconst 0, 1) := by decide +kernel
theorem dX7_pour_74 : decode cX7_pour 74 = .ok (.bipush 99, 2) := by decide +kernel
theorem dX7_pour_76 : decode cX7_pour 76 = .ok (.invokestatic 274, 3) := by decide +kernel
theorem dX7_pour_79 : decode cX7_pour 79 = .ok (.istore 6, 2) := by decide +kernel
theorem dX7_pour_81 : decode cX7_pour 81 = .ok (.aload_n 0, 1) := by decide +kernel
theorem dX7_pour_82 : decode cX7_pour 82 = .ok (.getfield 21, 3) := by decide +kernel
theorem dX7_pour_85 : decode cX7_pour 85 = .ok (.getfield 80, 3) := by decide +kernel
theorem dX7_pour_88 : decode cX7_pour 88 = .ok (.iload 5, 2) := by decide +kernel
theorem dX7_pour_90 : decode cX7_pour 90 = .ok (.aaload, 1) := by decide +kernel
theorem dX7_pour_91 : decode cX7_pour 91 = .ok (.iload 6, 2) := by decide +kernel
theorem dX7_pour_93 : decode cX7_pour 93 = .ok (.invokevirtual 122, 3) := by decide +kernel
theorem dX7_pour_96 : decode cX7_pour 96 = .ok (.iload 6, 2) := by decide +kernel
theorem dX7_pour_98 : decode cX7_pour 98 = .ok (.if_icmp .eq 6, 3) := by decide +kernel
theorem dX7_pour_101 : decode cX7_pour 101 = .ok (.iinc 3 1, 3) := by decide +kernel
theorem dX7_pour_104 : decode cX7_pour 104 = .ok (.iinc 5 1, 3) := by decide +kernel
theorem dX7_pour_107 : decode cX7_pour 107 = .ok (.goto (-57), 3) := by decide +kernel
theorem dX7_pour_110 : decode cX7_pour 110 = .ok (.iload_n 3, 1) := by decide +kernel
theorem dX7_pour_111 : decode cX7_pour 111 = .ok (.ireturn, 1) := by decide +kernel
theorem dX7_reads_0 : decode cX7_reads 0 = .ok (.iload_n 1, 1) := by decide +kernel
theorem dX7_reads_1 : decode cX7_reads 1 = .ok (.iconst 0, 1) := by decide +kernel
theorem dX7_reads_2 : decode cX7_reads 2 = .ok (.iconst 3, 1) := by decide +kernel
theorem dX7_reads_3 : decode cX7_reads 3 = .ok (.invokestatic 62, 3) := by decide +kernel
theorem dX7_reads_6 : decode cX7_reads 6 = .ok (.ifCond .ne 6, 3) := by decide +kernel
theorem dX7_reads_9 : decode cX7_reads 9 = .ok (.ldc 66, 2) := by decide +kernel
theorem dX7_reads_11 : decode cX7_reads 11 = .ok (.ireturn, 1) := by decide +kernel
theorem dX7_reads_12 : decode cX7_reads 12 = .ok (.aload_n 0, 1) := by decide +kernel
theorem dX7_reads_13 : decode cX7_reads 13 = .ok (.getfield 50, 3) := by decide +kernel
theorem dX7_reads_16 : decode cX7_reads 16 = .ok (.iload_n 1, 1) := by decide +kernel
theorem dX7_reads_17 : decode cX7_reads 17 = .ok (.aaload, 1) := by decide +kernel
theorem dX7_reads_18 : decode cX7_reads 18 = .ok (.astore_n 2, 1) := by decide +kernel
theorem dX7_reads_19 : decode cX7_reads 19 = .ok (.aload_n 2, 1) := by decide +kernel
theorem dX7_reads_20 : decode cX7_reads 20 = .ok (.invokevirtual 204, 3) := by decide +kernel
theorem dX7_reads_23 : decode cX7_reads 23 = .ok (.ifCond .eq 6, 3) := by decide +kernel
theorem dX7_reads_26 : decode cX7_reads 26 = .ok (.ldc 208, 2) := by decide +kernel
theorem dX7_reads_28 : decode cX7_reads 28 = .ok (.ireturn, 1) := by decide +kernel
theorem dX7_reads_29 : decode cX7_reads 29 = .ok (.iconst 0, 1) := by decide +kernel
theorem dX7_reads_30 : decode cX7_reads 30 = .ok (.istore_n 3, 1) := by decide +kernel
theorem dX7_reads_31 : decode cX7_reads 31 = .ok (.iload_n 3, 1) := by decide +kernel
theorem dX7_reads_32 : decode cX7_reads 32 = .ok (.aload_n 2, 1) := by decide +kernel
theorem dX7_reads_33 : decode cX7_reads 33 = .ok (.getfield 213, 3) := by decide +kernel
theorem dX7_reads_36 : decode cX7_reads 36 = .ok (.if_icmp .ge 51, 3) := by decide +kernel
theorem dX7_reads_39 : decode cX7_reads 39 = .ok (.aload_n 2, 1) := by decide +kernel
theorem dX7_reads_40 : decode cX7_reads 40 = .ok (.iload_n 3, 1) := by decide +kernel
theorem dX7_reads_41 : decode cX7_reads 41 = .ok (.invokevirtual 216, 3) := by decide +kernel
theorem dX7_reads_44 : decode cX7_reads 44 = .ok (.ifCond .eq 37, 3) := by decide +kernel
theorem dX7_reads_47 : decode cX7_reads 47 = .ok (.aload_n 0, 1) := by decide +kernel
theorem dX7_reads_48 : decode cX7_reads 48 = .ok (.getfield 21, 3) := by decide +kernel
theorem dX7_reads_51 : decode cX7_reads 51 = .ok (.iload_n 3, 1) := by decide +kernel
theorem dX7_reads_52 : decode cX7_reads 52 = .ok (.invokevirtual 76, 3) := by decide +kernel
theorem dX7_reads_55 : decode cX7_reads 55 = .ok (.ifCond .eq 24, 3) := by decide +kernel
theorem dX7_reads_58 : decode cX7_reads 58 = .ok (.aload_n 2, 1) := by decide +kernel
theorem dX7_reads_59 : decode cX7_reads 59 = .ok (.getfield 219, 3) := by decide +kernel
theorem dX7_reads_62 : decode cX7_reads 62 = .ok (.iload_n 3, 1) := by decide +kernel
theorem dX7_reads_63 : decode cX7_reads 63 = .ok (.iaload, 1) := by decide +kernel
theorem dX7_reads_64 : decode cX7_reads 64 = .ok (.aload_n 0, 1) := by decide +kernel
theorem dX7_reads_65 : decode cX7_reads 65 = .ok (.getfield 21, 3) := by decide +kernel
theorem dX7_reads_68 : decode cX7_reads 68 = .ok (.getfield 80, 3) := by decide +kernel
theorem dX7_reads_71 : decode cX7_reads 71 = .ok (.iload_n 3, 1) := by decide +kernel
theorem dX7_reads_72 : decode cX7_reads 72 = .ok (.aaload, 1) := by decide +kernel
theorem dX7_reads_73 : decode cX7_reads 73 = .ok (.invokevirtual 105, 3) := by decide +kernel
theorem dX7_reads_76 : decode cX7_reads 76 = .ok (.if_icmp .eq 5, 3) := by decide +kernel
theorem dX7_reads_79 : decode cX7_reads 79 = .ok (.iload_n 3, 1) := by decide +kernel
theorem dX7_reads_80 : decode cX7_reads 80 = .ok (.ireturn, 1) := by decide +kernel
theorem dX7_reads_81 : decode cX7_reads 81 = .ok (.iinc 3 1, 3) := by decide +kernel
theorem dX7_reads_84 : decode cX7_reads 84 = .ok (.goto (-53), 3) := by decide +kernel
theorem dX7_reads_87 : decode cX7_reads 87 = .ok (.ldc 139, 2) := by decide +kernel
theorem dX7_reads_89 : decode cX7_reads 89 = .ok (.ireturn, 1) := by decide +kernel
theorem dX7_copy_0 : decode cX7_copy 0 = .ok (.iload_n 1, 1) := by decide +kernel
theorem dX7_copy_1 : decode cX7_copy 1 = .ok (.iconst 0, 1) := by decide +kernel
theorem dX7_copy_2 : decode cX7_copy 2 = .ok (.iconst 3, 1) := by decide +kernel
theorem dX7_copy_3 : decode cX7_copy 3 = .ok (.invokestatic 62, 3) := by decide +kernel
theorem dX7_copy_6 : decode cX7_copy 6 = .ok (.ifCond .eq 12, 3) := by decide +kernel
theorem dX7_copy_9 : decode cX7_copy 9 = .ok (.iload_n 3, 1) := by decide +kernel
theorem dX7_copy_10 : decode cX7_copy 10 = .ok (.iconst 0, 1) := by decide +kernel
theorem dX7_copy_11 : decode cX7_copy 11 = .ok (.iconst 3, 1) := by decide +kernel
theorem dX7_copy_12 : decode cX7_copy 12 = .ok (.invokestatic 62, 3) := by decide +kernel
theorem dX7_copy_15 : decode cX7_copy 15 = .ok (.ifCond .ne 6, 3) := by decide +kernel
theorem dX7_copy_18 : decode cX7_copy 18 = .ok (.ldc 66, 2) := by decide +kernel
theorem dX7_copy_20 : decode cX7_copy 20 = .ok (.ireturn, 1) := by decide +kernel
theorem dX7_copy_21 : decode cX7_copy 21 = .ok (.aload_n 0, 1) := by decide +kernel
theorem dX7_copy_22 : decode cX7_copy 22 = .ok (.getfield 50, 3) := by decide +kernel
theorem dX7_copy_25 : decode cX7_copy 25 = .ok (.iload_n 1, 1) := by decide +kernel
theorem dX7_copy_26 : decode cX7_copy 26 = .ok (.aaload, 1) := by decide +kernel
theorem dX7_copy_27 : decode cX7_copy 27 = .ok (.astore 6, 2) := by decide +kernel
theorem dX7_copy_29 : decode cX7_copy 29 = .ok (.aload_n 0, 1) := by decide +kernel
theorem dX7_copy_30 : decode cX7_copy 30 = .ok (.getfield 50, 3) := by decide +kernel
theorem dX7_copy_33 : decode cX7_copy 33 = .ok (.iload_n 3, 1) := by decide +kernel
theorem dX7_copy_34 : decode cX7_copy 34 = .ok (.aaload, 1) := by decide +kernel
theorem dX7_copy_35 : decode cX7_copy 35 = .ok (.astore 7, 2) := by decide +kernel
theorem dX7_copy_37 : decode cX7_copy 37 = .ok (.aload 6, 2) := by decide +kernel
theorem dX7_copy_39 : decode cX7_copy 39 = .ok (.invokevirtual 204, 3) := by decide +kernel
theorem dX7_copy_42 : decode cX7_copy 42 = .ok (.ifCond .ne 11, 3) := by decide +kernel
theorem dX7_copy_45 : decode cX7_copy 45 = .ok (.aload 7, 2) := by decide +kernel
theorem dX7_copy_47 : decode cX7_copy 47 = .ok (.invokevirtual 204, 3) := by decide +kernel
theorem dX7_copy_50 : decode cX7_copy 50 = .ok (.ifCond .eq 6, 3) := by decide +kernel
theorem dX7_copy_53 : decode cX7_copy 53 = .ok (.ldc 208, 2) := by decide +kernel
theorem dX7_copy_55 : decode cX7_copy 55 = .ok (.ireturn, 1) := by decide +kernel
theorem dX7_copy_56 : decode cX7_copy 56 = .ok (.aload 6, 2) := by decide +kernel
theorem dX7_copy_58 : decode cX7_copy 58 = .ok (.getfield 269, 3) := by decide +kernel
theorem dX7_copy_61 : decode cX7_copy 61 = .ok (.aload 7, 2) := by decide +kernel
theorem dX7_copy_63 : decode cX7_copy 63 = .ok (.getfield 269, 3) := by decide +kernel
theorem dX7_copy_66 : decode cX7_copy 66 = .ok (.if_icmp .eq 6, 3) := by decide +kernel
theorem dX7_copy_69 : decode cX7_copy 69 = .ok (.ldc 118, 2) := by decide +kernel
theorem dX7_copy_71 : decode cX7_copy 71 = .ok (.ireturn, 1) := by decide +kernel
theorem dX7_copy_72 : decode cX7_copy 72 = .ok (.aload 6, 2) := by decide +kernel
theorem dX7_copy_74 : decode cX7_copy 74 = .ok (.iload_n 2, 1) := by decide +kernel
theorem dX7_copy_75 : decode cX7_copy 75 = .ok (.iload 5, 2) := by decide +kernel
theorem dX7_copy_77 : decode cX7_copy 77 = .ok (.invokevirtual 278, 3) := by decide +kernel
theorem dX7_copy_80 : decode cX7_copy 80 = .ok (.ifCond .eq 15, 3) := by decide +kernel
theorem dX7_copy_83 : decode cX7_copy 83 = .ok (.aload 7, 2) := by decide +kernel
theorem dX7_copy_85 : decode cX7_copy 85 = .ok (.iload 4, 2) := by decide +kernel
theorem dX7_copy_87 : decode cX7_copy 87 = .ok (.iload 5, 2) := by decide +kernel
theorem dX7_copy_89 : decode cX7_copy 89 = .ok (.invokevirtual 278, 3) := by decide +kernel
theorem dX7_copy_92 : decode cX7_copy 92 = .ok (.ifCond .ne 7, 3) := by decide +kernel
theorem dX7_copy_95 : decode cX7_copy 95 = .ok (.ldc_w 268, 3) := by decide +kernel
theorem dX7_copy_98 : decode cX7_copy 98 = .ok (.ireturn, 1) := by decide +kernel
theorem dX7_copy_99 : decode cX7_copy 99 = .ok (.aload 6, 2) := by decide +kernel
theorem dX7_copy_101 : decode cX7_copy 101 = .ok (.getfield 219, 3) := by decide +kernel
theorem dX7_copy_104 : decode cX7_copy 104 = .ok (.iload_n 2, 1) := by decide +kernel
theorem dX7_copy_105 : decode cX7_copy 105 = .ok (.aload 7, 2) := by decide +kernel
theorem dX7_copy_107 : decode cX7_copy 107 = .ok (.getfield 219, 3) := by decide +kernel
theorem dX7_copy_110 : decode cX7_copy 110 = .ok (.iload 4, 2) := by decide +kernel
theorem dX7_copy_112 : decode cX7_copy 112 = .ok (.iload 5, 2) := by decide +kernel
theorem dX7_copy_114 : decode cX7_copy 114 = .ok (.invokestatic 282, 3) := by decide +kernel
theorem dX7_copy_117 : decode cX7_copy 117 = .ok (.iload 5, 2) := by decide +kernel
theorem dX7_copy_119 : decode cX7_copy 119 = .ok (.ireturn, 1) := by decide +kernel
theorem dX7_lay_0 : decode cX7_lay 0 = .ok (.iload_n 1, 1) := by decide +kernel
theorem dX7_lay_1 : decode cX7_lay 1 = .ok (.iconst 0, 1) := by decide +kernel
theorem dX7_lay_2 : decode cX7_lay 2 = .ok (.iconst 4, 1) := by decide +kernel
theorem dX7_lay_3 : decode cX7_lay 3 = .ok (.invokestatic 62, 3) := by decide +kernel
theorem dX7_lay_6 : decode cX7_lay 6 = .ok (.ifCond .eq 12, 3) := by decide +kernel
theorem dX7_lay_9 : decode cX7_lay 9 = .ok (.iload_n 2, 1) := by decide +kernel
theorem dX7_lay_10 : decode cX7_lay 10 = .ok (.iconst 0, 1) := by decide +kernel
theorem dX7_lay_11 : decode cX7_lay 11 = .ok (.iconst 3, 1) := by decide +kernel
theorem dX7_lay_12 : decode cX7_lay 12 = .ok (.invokestatic 62, 3) := by decide +kernel
theorem dX7_lay_15 : decode cX7_lay 15 = .ok (.ifCond .ne 6, 3) := by decide +kernel
theorem dX7_lay_18 : decode cX7_lay 18 = .ok (.ldc 66, 2) := by decide +kernel
theorem dX7_lay_20 : decode cX7_lay 20 = .ok (.ireturn, 1) := by decide +kernel
theorem dX7_lay_21 : decode cX7_lay 21 = .ok (.iload_n 2, 1) := by decide +kernel
theorem dX7_lay_22 : decode cX7_lay 22 = .ok (.iconst 1, 1) := by decide +kernel
theorem dX7_lay_23 : decode cX7_lay 23 = .ok (.if_icmp .ne 17, 3) := by decide +kernel
theorem dX7_lay_26 : decode cX7_lay 26 = .ok (.aload_n 0, 1) := by decide +kernel
theorem dX7_lay_27 : decode cX7_lay 27 = .ok (.getfield 21, 3) := by decide +kernel
theorem dX7_lay_30 : decode cX7_lay 30 = .ok (.iload_n 3, 1) := by decide +kernel
theorem dX7_lay_31 : decode cX7_lay 31 = .ok (.invokevirtual 76, 3) := by decide +kernel
theorem dX7_lay_34 : decode cX7_lay 34 = .ok (.ifCond .ne 6, 3) := by decide +kernel
theorem dX7_lay_37 : decode cX7_lay 37 = .ok (.ldc 66, 2) := by decide +kernel
theorem dX7_lay_39 : decode cX7_lay 39 = .ok (.ireturn, 1) := by decide +kernel
theorem dX7_lay_40 : decode cX7_lay 40 = .ok (.iload_n 2, 1) := by decide +kernel
theorem dX7_lay_41 : decode cX7_lay 41 = .ok (.iconst 2, 1) := by decide +kernel
theorem dX7_lay_42 : decode cX7_lay 42 = .ok (.if_icmp .ne 15, 3) := by decide +kernel
theorem dX7_lay_45 : decode cX7_lay 45 = .ok (.iload_n 3, 1) := by decide +kernel
theorem dX7_lay_46 : decode cX7_lay 46 = .ok (.iconst 0, 1) := by decide +kernel
theorem dX7_lay_47 : decode cX7_lay 47 = .ok (.iconst 3, 1) := by decide +kernel
theorem dX7_lay_48 : decode cX7_lay 48 = .ok (.invokestatic 62, 3) := by decide +kernel
theorem dX7_lay_51 : decode cX7_lay 51 = .ok (.ifCond .ne 6, 3) := by decide +kernel
theorem dX7_lay_54 : decode cX7_lay 54 = .ok (.ldc 66, 2) := by decide +kernel
theorem dX7_lay_56 : decode cX7_lay 56 = .ok (.ireturn, 1) := by decide +kernel
theorem dX7_lay_57 : decode cX7_lay 57 = .ok (.iload_n 2, 1) := by decide +kernel
theorem dX7_lay_58 : decode cX7_lay 58 = .ok (.iconst 2, 1) := by decide +kernel
theorem dX7_lay_59 : decode cX7_lay 59 = .ok (.if_icmp .ne 18, 3) := by decide +kernel
theorem dX7_lay_62 : decode cX7_lay 62 = .ok (.aload_n 0, 1) := by decide +kernel
theorem dX7_lay_63 : decode cX7_lay 63 = .ok (.getfield 50, 3) := by decide +kernel
theorem dX7_lay_66 : decode cX7_lay 66 = .ok (.iload_n 3, 1) := by decide +kernel
theorem dX7_lay_67 : decode cX7_lay 67 = .ok (.aaload, 1) := by decide +kernel
theorem dX7_lay_68 : decode cX7_lay 68 = .ok (.invokevirtual 204, 3) := by decide +kernel
theorem dX7_lay_71 : decode cX7_lay 71 = .ok (.ifCond .eq 6, 3) := by decide +kernel
theorem dX7_lay_74 : decode cX7_lay 74 = .ok (.ldc 208, 2) := by decide +kernel
theorem dX7_lay_76 : decode cX7_lay 76 = .ok (.ireturn, 1) := by decide +kernel
theorem dX7_lay_77 : decode cX7_lay 77 = .ok (.aload_n 0, 1) := by decide +kernel
theorem dX7_lay_78 : decode cX7_lay 78 = .ok (.getfield 57, 3) := by decide +kernel
theorem dX7_lay_81 : decode cX7_lay 81 = .ok (.iload_n 1, 1) := by decide +kernel
theorem dX7_lay_82 : decode cX7_lay 82 = .ok (.aaload, 1) := by decide +kernel
theorem dX7_lay_83 : decode cX7_lay 83 = .ok (.astore 4, 2) := by decide +kernel
theorem dX7_lay_85 : decode cX7_lay 85 = .ok (.aload 4, 2) := by decide +kernel
theorem dX7_lay_87 : decode cX7_lay 87 = .ok (.getfield 288, 3) := by decide +kernel
theorem dX7_lay_90 : decode cX7_lay 90 = .ok (.istore 5, 2) := by decide +kernel
theorem dX7_lay_92 : decode cX7_lay 92 = .ok (.aload 4, 2) := by decide +kernel
theorem dX7_lay_94 : decode cX7_lay 94 = .ok (.iload_n 2, 1) := by decide +kernel
theorem dX7_lay_95 : decode cX7_lay 95 = .ok (.putfield 288, 3) := by decide +kernel
theorem dX7_lay_98 : decode cX7_lay 98 = .ok (.iload_n 2, 1) := by decide +kernel
theorem dX7_lay_99 : decode cX7_lay 99 = .ok (.tableswitch 71 1 3 #[25, 45, 62], 25) := by decide +kernel
theorem dX7_lay_124 : decode cX7_lay 124 = .ok (.aload 4, 2) := by decide +kernel
theorem dX7_lay_126 : decode cX7_lay 126 = .ok (.getfield 291, 3) := by decide +kernel
theorem dX7_lay_129 : decode cX7_lay 129 = .ok (.aload_n 0, 1) := by decide +kernel
theorem dX7_lay_130 : decode cX7_lay 130 = .ok (.getfield 21, 3) := by decide +kernel
theorem dX7_lay_133 : decode cX7_lay 133 = .ok (.getfield 80, 3) := by decide +kernel
theorem dX7_lay_136 : decode cX7_lay 136 = .ok (.iload_n 3, 1) := by decide +kernel
theorem dX7_lay_137 : decode cX7_lay 137 = .ok (.aaload, 1) := by decide +kernel
theorem dX7_lay_138 : decode cX7_lay 138 = .ok (.invokevirtual 295, 3) := by decide +kernel
theorem dX7_lay_141 : decode cX7_lay 141 = .ok (.goto 29, 3) := by decide +kernel
theorem dX7_lay_144 : decode cX7_lay 144 = .ok (.aload 4, 2) := by decide +kernel
theorem dX7_lay_146 : decode cX7_lay 146 = .ok (.getfield 298, 3) := by decide +kernel
theorem dX7_lay_149 : decode cX7_lay 149 = .ok (.aload_n 0, 1) := by decide +kernel
theorem dX7_lay_150 : decode cX7_lay 150 = .ok (.getfield 50, 3) := by decide +kernel
theorem dX7_lay_153 : decode cX7_lay 153 = .ok (.iload_n 3, 1) := by decide +kernel
theorem dX7_lay_154 : decode cX7_lay 154 = .ok (.aaload, 1) := by decide +kernel
theorem dX7_lay_155 : decode cX7_lay 155 = .ok (.invokevirtual 302, 3) := by decide +kernel
theorem dX7_lay_158 : decode cX7_lay 158 = .ok (.goto 12, 3) := by decide +kernel
theorem dX7_lay_161 : decode cX7_lay 161 = .ok (.aload 4, 2) := by decide +kernel
theorem dX7_lay_163 : decode cX7_lay 163 = .ok (.iload_n 3, 1) := by decide +kernel
theorem dX7_lay_164 : decode cX7_lay 164 = .ok (.putfield 305, 3) := by decide +kernel
theorem dX7_lay_167 : decode cX7_lay 167 = .ok (.goto 3, 3) := by decide +kernel
theorem dX7_lay_170 : decode cX7_lay 170 = .ok (.iload 5, 2) := by decide +kernel
theorem dX7_lay_172 : decode cX7_lay 172 = .ok (.ireturn, 1) := by decide +kernel
theorem dX7_ask_0 : decode cX7_ask 0 = .ok (.iload_n 1, 1) := by decide +kernel
theorem dX7_ask_1 : decode cX7_ask 1 = .ok (.iconst 0, 1) := by decide +kernel
theorem dX7_ask_2 : decode cX7_ask 2 = .ok (.iconst 4, 1) := by decide +kernel
theorem dX7_ask_3 : decode cX7_ask 3 = .ok (.invokestatic 62, 3) := by decide +kernel
theorem dX7_ask_6 : decode cX7_ask 6 = .ok (.ifCond .eq 12, 3) := by decide +kernel
theorem dX7_ask_9 : decode cX7_ask 9 = .ok (.iload_n 2, 1) := by decide +kernel
theorem dX7_ask_10 : decode cX7_ask 10 = .ok (.iconst 0, 1) := by decide +kernel
theorem dX7_ask_11 : decode cX7_ask 11 = .ok (.iconst 5, 1) := by decide +kernel
theorem dX7_ask_12 : decode cX7_ask 12 = .ok (.invokestatic 62, 3) := by decide +kernel
theorem dX7_ask_15 : decode cX7_ask 15 = .ok (.ifCond .ne 6, 3) := by decide +kernel
theorem dX7_ask_18 : decode cX7_ask 18 = .ok (.ldc 66, 2) := by decide +kernel
theorem dX7_ask_20 : decode cX7_ask 20 = .ok (.ireturn, 1) := by decide +kernel
theorem dX7_ask_21 : decode cX7_ask 21 = .ok (.aload_n 0, 1) := by decide +kernel
theorem dX7_ask_22 : decode cX7_ask 22 = .ok (.getfield 57, 3) := by decide +kernel
theorem dX7_ask_25 : decode cX7_ask 25 = .ok (.iload_n 1, 1) := by decide +kernel
theorem dX7_ask_26 : decode cX7_ask 26 = .ok (.aaload, 1) := by decide +kernel
theorem dX7_ask_27 : decode cX7_ask 27 = .ok (.astore_n 3, 1) := by decide +kernel
theorem dX7_ask_28 : decode cX7_ask 28 = .ok (.aload_n 3, 1) := by decide +kernel
theorem dX7_ask_29 : decode cX7_ask 29 = .ok (.getfield 288, 3) := by decide +kernel
theorem dX7_ask_32 : decode cX7_ask 32 = .ok (.ifCond .ne 6, 3) := by decide +kernel
theorem dX7_ask_35 : decode cX7_ask 35 = .ok (.ldc 208, 2) := by decide +kernel
theorem dX7_ask_37 : decode cX7_ask 37 = .ok (.ireturn, 1) := by decide +kernel
theorem dX7_ask_38 : decode cX7_ask 38 = .ok (.aload_n 3, 1) := by decide +kernel
theorem dX7_ask_39 : decode cX7_ask 39 = .ok (.getfield 288, 3) := by decide +kernel
theorem dX7_ask_42 : decode cX7_ask 42 = .ok (.iconst 1, 1) := by decide +kernel
theorem dX7_ask_43 : decode cX7_ask 43 = .ok (.if_icmp .ne 14, 3) := by decide +kernel
theorem dX7_ask_46 : decode cX7_ask 46 = .ok (.aload_n 3, 1) := by decide +kernel
theorem dX7_ask_47 : decode cX7_ask 47 = .ok (.getfield 291, 3) := by decide +kernel
theorem dX7_ask_50 : decode cX7_ask 50 = .ok (.iload_n 2, 1) := by decide +kernel
theorem dX7_ask_51 : decode cX7_ask 51 = .ok (.invokevirtual 115, 3) := by decide +kernel
theorem dX7_ask_54 : decode cX7_ask 54 = .ok (.ifCond .ne 6, 3) := by decide +kernel
theorem dX7_ask_57 : decode cX7_ask 57 = .ok (.ldc 118, 2) := by decide +kernel
theorem dX7_ask_59 : decode cX7_ask 59 = .ok (.ireturn, 1) := by decide +kernel
theorem dX7_ask_60 : decode cX7_ask 60 = .ok (.aload_n 3, 1) := by decide +kernel
theorem dX7_ask_61 : decode cX7_ask 61 = .ok (.getfield 291, 3) := by decide +kernel
theorem dX7_ask_64 : decode cX7_ask 64 = .ok (.invokevirtual 112, 3) := by decide +kernel
theorem dX7_ask_67 : decode cX7_ask 67 = .ok (.ireturn, 1) := by decide +kernel
theorem dX7_item_0 : decode cX7_item 0 = .ok (.iload_n 1, 1) := by decide +kernel
theorem dX7_item_1 : decode cX7_item 1 = .ok (.iconst 0, 1) := by decide +kernel
theorem dX7_item_2 : decode cX7_item 2 = .ok (.iconst 4, 1) := by decide +kernel
theorem dX7_item_3 : decode cX7_item 3 = .ok (.invokestatic 62, 3) := by decide +kernel
theorem dX7_item_6 : decode cX7_item 6 = .ok (.ifCond .ne 6, 3) := by decide +kernel
theorem dX7_item_9 : decode cX7_item 9 = .ok (.ldc 66, 2) := by decide +kernel
theorem dX7_item_11 : decode cX7_item 11 = .ok (.ireturn, 1) := by decide +kernel
theorem dX7_item_12 : decode cX7_item 12 = .ok (.aload_n 0, 1) := by decide +kernel
theorem dX7_item_13 : decode cX7_item 13 = .ok (.getfield 57, 3) := by decide +kernel
theorem dX7_item_16 : decode cX7_item 16 = .ok (.iload_n 1, 1) := by decide +kernel
theorem dX7_item_17 : decode cX7_item 17 = .ok (.aaload, 1) := by decide +kernel
theorem dX7_item_18 : decode cX7_item 18 = .ok (.astore_n 3, 1) := by decide +kernel
theorem dX7_item_19 : decode cX7_item 19 = .ok (.aload_n 3, 1) := by decide +kernel
theorem dX7_item_20 : decode cX7_item 20 = .ok (.getfield 288, 3) := by decide +kernel
theorem dX7_item_23 : decode cX7_item 23 = .ok (.ifCond .ne 6, 3) := by decide +kernel
theorem dX7_item_26 : decode cX7_item 26 = .ok (.ldc 208, 2) := by decide +kernel
theorem dX7_item_28 : decode cX7_item 28 = .ok (.ireturn, 1) := by decide +kernel
theorem dX7_item_29 : decode cX7_item 29 = .ok (.aload_n 3, 1) := by decide +kernel
theorem dX7_item_30 : decode cX7_item 30 = .ok (.getfield 288, 3) := by decide +kernel
theorem dX7_item_33 : decode cX7_item 33 = .ok (.iconst 2, 1) := by decide +kernel
theorem dX7_item_34 : decode cX7_item 34 = .ok (.if_icmp .eq 6, 3) := by decide +kernel
theorem dX7_item_37 : decode cX7_item 37 = .ok (.ldc 118, 2) := by decide +kernel
theorem dX7_item_39 : decode cX7_item 39 = .ok (.ireturn, 1) := by decide +kernel
theorem dX7_item_40 : decode cX7_item 40 = .ok (.aload_n 3, 1) := by decide +kernel
theorem dX7_item_41 : decode cX7_item 41 = .ok (.getfield 298, 3) := by decide +kernel
theorem dX7_item_44 : decode cX7_item 44 = .ok (.iload_n 2, 1) := by decide +kernel
theorem dX7_item_45 : decode cX7_item 45 = .ok (.invokevirtual 265, 3) := by decide +kernel
theorem dX7_item_48 : decode cX7_item 48 = .ok (.ifCond .ne 7, 3) := by decide +kernel
theorem dX7_item_51 : decode cX7_item 51 = .ok (.ldc_w 268, 3) := by decide +kernel
theorem dX7_item_54 : decode cX7_item 54 = .ok (.ireturn, 1) := by decide +kernel
theorem dX7_item_55 : decode cX7_item 55 = .ok (.aload_n 3, 1) := by decide +kernel
theorem dX7_item_56 : decode cX7_item 56 = .ok (.getfield 298, 3) := by decide +kernel
theorem dX7_item_59 : decode cX7_item 59 = .ok (.iload_n 2, 1) := by decide +kernel
theorem dX7_item_60 : decode cX7_item 60 = .ok (.invokevirtual 216, 3) := by decide +kernel
theorem dX7_item_63 : decode cX7_item 63 = .ok (.ifCond .eq 15, 3) := by decide +kernel
theorem dX7_item_66 : decode cX7_item 66 = .ok (.aload_n 3, 1) := by decide +kernel
theorem dX7_item_67 : decode cX7_item 67 = .ok (.getfield 298, 3) := by decide +kernel
theorem dX7_item_70 : decode cX7_item 70 = .ok (.getfield 219, 3) := by decide +kernel
theorem dX7_item_73 : decode cX7_item 73 = .ok (.iload_n 2, 1) := by decide +kernel
theorem dX7_item_74 : decode cX7_item 74 = .ok (.iaload, 1) := by decide +kernel
theorem dX7_item_75 : decode cX7_item 75 = .ok (.goto 5, 3) := by decide +kernel
theorem dX7_item_78 : decode cX7_item 78 = .ok (.ldc 118, 2) := by decide +kernel
theorem dX7_item_80 : decode cX7_item 80 = .ok (.ireturn, 1) := by decide +kernel
theorem dX7_rest_0 : decode cX7_rest 0 = .ok (.iload_n 1, 1) := by decide +kernel
theorem dX7_rest_1 : decode cX7_rest 1 = .ok (.iconst 0, 1) := by decide +kernel
theorem dX7_rest_2 : decode cX7_rest 2 = .ok (.iconst 4, 1) := by decide +kernel
theorem dX7_rest_3 : decode cX7_rest 3 = .ok (.invokestatic 62, 3) := by decide +kernel
theorem dX7_rest_6 : decode cX7_rest 6 = .ok (.ifCond .ne 6, 3) := by decide +kernel
theorem dX7_rest_9 : decode cX7_rest 9 = .ok (.ldc 66, 2) := by decide +kernel
theorem dX7_rest_11 : decode cX7_rest 11 = .ok (.ireturn, 1) := by decide +kernel
theorem dX7_rest_12 : decode cX7_rest 12 = .ok (.aload_n 0, 1) := by decide +kernel
theorem dX7_rest_13 : decode cX7_rest 13 = .ok (.getfield 57, 3) := by decide +kernel
theorem dX7_rest_16 : decode cX7_rest 16 = .ok (.iload_n 1, 1) := by decide +kernel
theorem dX7_rest_17 : decode cX7_rest 17 = .ok (.aaload, 1) := by decide +kernel
theorem dX7_rest_18 : decode cX7_rest 18 = .ok (.astore_n 3, 1) := by decide +kernel
theorem dX7_rest_19 : decode cX7_rest 19 = .ok (.aload_n 3, 1) := by decide +kernel
theorem dX7_rest_20 : decode cX7_rest 20 = .ok (.getfield 288, 3) := by decide +kernel
theorem dX7_rest_23 : decode cX7_rest 23 = .ok (.ifCond .ne 6, 3) := by decide +kernel
theorem dX7_rest_26 : decode cX7_rest 26 = .ok (.ldc 208, 2) := by decide +kernel
theorem dX7_rest_28 : decode cX7_rest 28 = .ok (.ireturn, 1) := by decide +kernel
theorem dX7_rest_29 : decode cX7_rest 29 = .ok (.aload_n 3, 1) := by decide +kernel
theorem dX7_rest_30 : decode cX7_rest 30 = .ok (.getfield 288, 3) := by decide +kernel
theorem dX7_rest_33 : decode cX7_rest 33 = .ok (.iconst 3, 1) := by decide +kernel
theorem dX7_rest_34 : decode cX7_rest 34 = .ok (.if_icmp .eq 6, 3) := by decide +kernel
theorem dX7_rest_37 : decode cX7_rest 37 = .ok (.ldc 118, 2) := by decide +kernel
theorem dX7_rest_39 : decode cX7_rest 39 = .ok (.ireturn, 1) := by decide +kernel
theorem dX7_rest_40 : decode cX7_rest 40 = .ok (.iload_n 2, 1) := by decide +kernel
theorem dX7_rest_41 : decode cX7_rest 41 = .ok (.ifCond .ne 8, 3) := by decide +kernel
theorem dX7_rest_44 : decode cX7_rest 44 = .ok (.ldc 128, 2) := by decide +kernel
theorem dX7_rest_46 : decode cX7_rest 46 = .ok (.goto 9, 3) := by decide +kernel
theorem dX7_rest_49 : decode cX7_rest 49 = .ok (.aload_n 3, 1) := by decide +kernel
theorem dX7_rest_50 : decode cX7_rest 50 = .ok (.getfield 305, 3) := by decide +kernel
theorem dX7_rest_53 : decode cX7_rest 53 = .ok (.iload_n 2, 1) := by decide +kernel
theorem dX7_rest_54 : decode cX7_rest 54 = .ok (.irem, 1) := by decide +kernel
theorem dX7_rest_55 : decode cX7_rest 55 = .ok (.ireturn, 1) := by decide +kernel
theorem dX7_tell_0 : decode cX7_tell 0 = .ok (.aload_n 0, 1) := by decide +kernel
theorem dX7_tell_1 : decode cX7_tell 1 = .ok (.getfield 308, 3) := by decide +kernel
theorem dX7_tell_4 : decode cX7_tell 4 = .ok (.bipush 60, 2) := by decide +kernel
theorem dX7_tell_6 : decode cX7_tell 6 = .ok (.if_icmp .lt 6, 3) := by decide +kernel
theorem dX7_tell_9 : decode cX7_tell 9 = .ok (.ldc 71, 2) := by decide +kernel
theorem dX7_tell_11 : decode cX7_tell 11 = .ok (.ireturn, 1) := by decide +kernel
theorem dX7_tell_12 : decode cX7_tell 12 = .ok (.aload_n 0, 1) := by decide +kernel
theorem dX7_tell_13 : decode cX7_tell 13 = .ok (.getfield 44, 3) := by decide +kernel
theorem dX7_tell_16 : decode cX7_tell 16 = .ok (.aload_n 0, 1) := by decide +kernel
theorem dX7_tell_17 : decode cX7_tell 17 = .ok (.getfield 308, 3) := by decide +kernel
theorem dX7_tell_20 : decode cX7_tell 20 = .ok (.iload_n 1, 1) := by decide +kernel
theorem dX7_tell_21 : decode cX7_tell 21 = .ok (.iastore, 1) := by decide +kernel
theorem dX7_tell_22 : decode cX7_tell 22 = .ok (.aload_n 0, 1) := by decide +kernel
theorem dX7_tell_23 : decode cX7_tell 23 = .ok (.dup, 1) := by decide +kernel
theorem dX7_tell_24 : decode cX7_tell 24 = .ok (.getfield 308, 3) := by decide +kernel
theorem dX7_tell_27 : decode cX7_tell 27 = .ok (.iconst 1, 1) := by decide +kernel
theorem dX7_tell_28 : decode cX7_tell 28 = .ok (.iadd, 1) := by decide +kernel
theorem dX7_tell_29 : decode cX7_tell 29 = .ok (.putfield 308, 3) := by decide +kernel
theorem dX7_tell_32 : decode cX7_tell 32 = .ok (.aload_n 0, 1) := by decide +kernel
theorem dX7_tell_33 : decode cX7_tell 33 = .ok (.getfield 308, 3) := by decide +kernel
theorem dX7_tell_36 : decode cX7_tell 36 = .ok (.ireturn, 1) := by decide +kernel
theorem dX7_check_0 : decode cX7_check 0 = .ok (.aload_n 0, 1) := by decide +kernel
theorem dX7_check_1 : decode cX7_check 1 = .ok (.getfield 308, 3) := by decide +kernel
theorem dX7_check_4 : decode cX7_check 4 = .ok (.istore_n 2, 1) := by decide +kernel
theorem dX7_check_5 : decode cX7_check 5 = .ok (.aload_n 0, 1) := by decide +kernel
theorem dX7_check_6 : decode cX7_check 6 = .ok (.iconst 0, 1) := by decide +kernel
theorem dX7_check_7 : decode cX7_check 7 = .ok (.putfield 308, 3) := by decide +kernel
theorem dX7_check_10 : decode cX7_check 10 = .ok (.iload_n 1, 1) := by decide +kernel
theorem dX7_check_11 : decode cX7_check 11 = .ok (.iconst 1, 1) := by decide +kernel
theorem dX7_check_12 : decode cX7_check 12 = .ok (.bipush 30, 2) := by decide +kernel
theorem dX7_check_14 : decode cX7_check 14 = .ok (.invokestatic 62, 3) := by decide +kernel
theorem dX7_check_17 : decode cX7_check 17 = .ok (.ifCond .ne 6, 3) := by decide +kernel
theorem dX7_check_20 : decode cX7_check 20 = .ok (.ldc 66, 2) := by decide +kernel
theorem dX7_check_22 : decode cX7_check 22 = .ok (.ireturn, 1) := by decide +kernel
theorem dX7_check_23 : decode cX7_check 23 = .ok (.aload_n 0, 1) := by decide +kernel
theorem dX7_check_24 : decode cX7_check 24 = .ok (.getfield 311, 3) := by decide +kernel
theorem dX7_check_27 : decode cX7_check 27 = .ok (.ifCond .ne 6, 3) := by decide +kernel
theorem dX7_check_30 : decode cX7_check 30 = .ok (.ldc 128, 2) := by decide +kernel
theorem dX7_check_32 : decode cX7_check 32 = .ok (.ireturn, 1) := by decide +kernel
theorem dX7_check_33 : decode cX7_check 33 = .ok (.aload_n 0, 1) := by decide +kernel
theorem dX7_check_34 : decode cX7_check 34 = .ok (.getfield 28, 3) := by decide +kernel
theorem dX7_check_37 : decode cX7_check 37 = .ok (.aload_n 0, 1) := by decide +kernel
theorem dX7_check_38 : decode cX7_check 38 = .ok (.getfield 25, 3) := by decide +kernel
theorem dX7_check_41 : decode cX7_check 41 = .ok (.invokevirtual 197, 3) := by decide +kernel
theorem dX7_check_44 : decode cX7_check 44 = .ok (.iconst 2, 1) := by decide +kernel
theorem dX7_check_45 : decode cX7_check 45 = .ok (.iload_n 1, 1) := by decide +kernel
theorem dX7_check_46 : decode cX7_check 46 = .ok (.sipush 9999, 3) := by decide +kernel
theorem dX7_check_49 : decode cX7_check 49 = .ok (.aload_n 0, 1) := by decide +kernel
theorem dX7_check_50 : decode cX7_check 50 = .ok (.getfield 25, 3) := by decide +kernel
theorem dX7_check_53 : decode cX7_check 53 = .ok (.getfield 132, 3) := by decide +kernel
theorem dX7_check_56 : decode cX7_check 56 = .ok (.isub, 1) := by decide +kernel
theorem dX7_check_57 : decode cX7_check 57 = .ok (.invokestatic 167, 3) := by decide +kernel
theorem dX7_check_60 : decode cX7_check 60 = .ok (.imul, 1) := by decide +kernel
theorem dX7_check_61 : decode cX7_check 61 = .ok (.istore_n 3, 1) := by decide +kernel
theorem dX7_check_62 : decode cX7_check 62 = .ok (.iconst 0, 1) := by decide +kernel
theorem dX7_check_63 : decode cX7_check 63 = .ok (.istore 4, 2) := by decide +kernel
theorem dX7_check_65 : decode cX7_check 65 = .ok (.iload 4, 2) := by decide +kernel
theorem dX7_check_67 : decode cX7_check 67 = .ok (.iload_n 3, 1) := by decide +kernel
theorem dX7_check_68 : decode cX7_check 68 = .ok (.if_icmp .ge 78, 3) := by decide +kernel
theorem dX7_check_71 : decode cX7_check 71 = .ok (.iload 4, 2) := by decide +kernel
theorem dX7_check_73 : decode cX7_check 73 = .ok (.iconst 2, 1) := by decide +kernel
theorem dX7_check_74 : decode cX7_check 74 = .ok (.irem, 1) := by decide +kernel
theorem dX7_check_75 : decode cX7_check 75 = .ok (.ifCond .ne 7, 3) := by decide +kernel
theorem dX7_check_78 : decode cX7_check 78 = .ok (.iconst 1, 1) := by decide +kernel
theorem dX7_check_79 : decode cX7_check 79 = .ok (.goto 4, 3) := by decide +kernel
theorem dX7_check_82 : decode cX7_check 82 = .ok (.iconst 0, 1) := by decide +kernel
theorem dX7_check_83 : decode cX7_check 83 = .ok (.istore 5, 2) := by decide +kernel
theorem dX7_check_85 : decode cX7_check 85 = .ok (.iload 5, 2) := by decide +kernel
theorem dX7_check_87 : decode cX7_check 87 = .ok (.ifCond .eq 10, 3) := by decide +kernel
theorem dX7_check_90 : decode cX7_check 90 = .ok (.aload_n 0, 1) := by decide +kernel
theorem dX7_check_91 : decode cX7_check 91 = .ok (.getfield 28, 3) := by decide +kernel
theorem dX7_check_94 : decode cX7_check 94 = .ok (.invokevirtual 201, 3) := by decide +kernel
theorem dX7_check_97 : decode cX7_check 97 = .ok (.iload 4, 2) := by decide +kernel
theorem dX7_check_99 : decode cX7_check 99 = .ok (.iload_n 2, 1) := by decide +kernel
theorem dX7_check_100 : decode cX7_check 100 = .ok (.if_icmp .ge 35, 3) := by decide +kernel
theorem dX7_check_103 : decode cX7_check 103 = .ok (.aload_n 0, 1) := by decide +kernel
theorem dX7_check_104 : decode cX7_check 104 = .ok (.getfield 44, 3) := by decide +kernel
theorem dX7_check_107 : decode cX7_check 107 = .ok (.iload 4, 2) := by decide +kernel
theorem dX7_check_109 : decode cX7_check 109 = .ok (.iaload, 1) := by decide +kernel
theorem dX7_check_110 : decode cX7_check 110 = .ok (.iload 5, 2) := by decide +kernel
theorem dX7_check_112 : decode cX7_check 112 = .ok (.ifCond .eq 13, 3) := by decide +kernel
theorem dX7_check_115 : decode cX7_check 115 = .ok (.aload_n 0, 1) := by decide +kernel
theorem dX7_check_116 : decode cX7_check 116 = .ok (.getfield 28, 3) := by decide +kernel
theorem dX7_check_119 : decode cX7_check 119 = .ok (.getfield 140, 3) := by decide +kernel
theorem dX7_check_122 : decode cX7_check 122 = .ok (.goto 10, 3) := by decide +kernel
theorem dX7_check_125 : decode cX7_check 125 = .ok (.aload_n 0, 1) := by decide +kernel
theorem dX7_check_126 : decode cX7_check 126 = .ok (.getfield 28, 3) := by decide +kernel
theorem dX7_check_129 : decode cX7_check 129 = .ok (.getfield 164, 3) := by decide +kernel
theorem dX7_check_132 : decode cX7_check 132 = .ok (.if_icmp .eq 8, 3) := by decide +kernel
theorem dX7_check_135 : decode cX7_check 135 = .ok (.iconst 1, 1) := by decide +kernel
theorem dX7_check_136 : decode cX7_check 136 = .ok (.iload 4, 2) := by decide +kernel
theorem dX7_check_138 : decode cX7_check 138 = .ok (.iadd, 1) := by decide +kernel
theorem dX7_check_139 : decode cX7_check 139 = .ok (.ireturn, 1) := by decide +kernel
theorem dX7_check_140 : decode cX7_check 140 = .ok (.iinc 4 1, 3) := by decide +kernel
theorem dX7_check_143 : decode cX7_check 143 = .ok (.goto (-78), 3) := by decide +kernel
theorem dX7_check_146 : decode cX7_check 146 = .ok (.iload_n 2, 1) := by decide +kernel
theorem dX7_check_147 : decode cX7_check 147 = .ok (.iload_n 3, 1) := by decide +kernel
theorem dX7_check_148 : decode cX7_check 148 = .ok (.if_icmp .ne 7, 3) := by decide +kernel
theorem dX7_check_151 : decode cX7_check 151 = .ok (.iconst 0, 1) := by decide +kernel
theorem dX7_check_152 : decode cX7_check 152 = .ok (.goto 6, 3) := by decide +kernel
theorem dX7_check_155 : decode cX7_check 155 = .ok (.iconst 1, 1) := by decide +kernel
theorem dX7_check_156 : decode cX7_check 156 = .ok (.iload_n 3, 1) := by decide +kernel
theorem dX7_check_157 : decode cX7_check 157 = .ok (.iadd, 1) := by decide +kernel
theorem dX7_check_158 : decode cX7_check 158 = .ok (.ireturn, 1) := by decide +kernel
theorem dX7_keep_0 : decode cX7_keep 0 = .ok (.aload_n 0, 1) := by decide +kernel
theorem dX7_keep_1 : decode cX7_keep 1 = .ok (.getfield 25, 3) := by decide +kernel
theorem dX7_keep_4 : decode cX7_keep 4 = .ok (.aload_n 0, 1) := by decide +kernel
theorem dX7_keep_5 : decode cX7_keep 5 = .ok (.getfield 21, 3) := by decide +kernel
theorem dX7_keep_8 : decode cX7_keep 8 = .ok (.invokevirtual 197, 3) := by decide +kernel
theorem dX7_keep_11 : decode cX7_keep 11 = .ok (.aload_n 0, 1) := by decide +kernel
theorem dX7_keep_12 : decode cX7_keep 12 = .ok (.iconst 1, 1) := by decide +kernel
theorem dX7_keep_13 : decode cX7_keep 13 = .ok (.putfield 311, 3) := by decide +kernel
theorem dX7_keep_16 : decode cX7_keep 16 = .ok (.aload_n 0, 1) := by decide +kernel
theorem dX7_keep_17 : decode cX7_keep 17 = .ok (.getfield 25, 3) := by decide +kernel
theorem dX7_keep_20 : decode cX7_keep 20 = .ok (.getfield 67, 3) := by decide +kernel
theorem dX7_keep_23 : decode cX7_keep 23 = .ok (.ireturn, 1) := by decide +kernel
theorem dX7_back_0 : decode cX7_back 0 = .ok (.aload_n 0, 1) := by decide +kernel
theorem dX7_back_1 : decode cX7_back 1 = .ok (.getfield 311, 3) := by decide +kernel
theorem dX7_back_4 : decode cX7_back 4 = .ok (.ifCond .ne 6, 3) := by decide +kernel
theorem dX7_back_7 : decode cX7_back 7 = .ok (.ldc 128, 2) := by decide +kernel
theorem dX7_back_9 : decode cX7_back 9 = .ok (.ireturn, 1) := by decide +kernel
theorem dX7_back_10 : decode cX7_back 10 = .ok (.aload_n 0, 1) := by decide +kernel
theorem dX7_back_11 : decode cX7_back 11 = .ok (.getfield 21, 3) := by decide +kernel
theorem dX7_back_14 : decode cX7_back 14 = .ok (.aload_n 0, 1) := by decide +kernel
theorem dX7_back_15 : decode cX7_back 15 = .ok (.getfield 25, 3) := by decide +kernel
theorem dX7_back_18 : decode cX7_back 18 = .ok (.invokevirtual 197, 3) := by decide +kernel
theorem dX7_back_21 : decode cX7_back 21 = .ok (.aload_n 0, 1) := by decide +kernel
theorem dX7_back_22 : decode cX7_back 22 = .ok (.getfield 21, 3) := by decide +kernel
theorem dX7_back_25 : decode cX7_back 25 = .ok (.getfield 67, 3) := by decide +kernel
theorem dX7_back_28 : decode cX7_back 28 = .ok (.ireturn, 1) := by decide +kernel
theorem dX7_count_0 : decode cX7_count 0 = .ok (.iload_n 1, 1) := by decide +kernel
theorem dX7_count_1 : decode cX7_count 1 = .ok (.tableswitch 105 0 7 #[47, 55, 63, 71, 79, 87, 92, 97], 47) := by decide +kernel
theorem dX7_count_48 : decode cX7_count 48 = .ok (.aload_n 0, 1) := by decide +kernel
theorem dX7_count_49 : decode cX7_count 49 = .ok (.getfield 21, 3) := by decide +kernel
theorem dX7_count_52 : decode cX7_count 52 = .ok (.getfield 67, 3) := by decide +kernel
theorem dX7_count_55 : decode cX7_count 55 = .ok (.ireturn, 1) := by decide +kernel
theorem dX7_count_56 : decode cX7_count 56 = .ok (.aload_n 0, 1) := by decide +kernel
theorem dX7_count_57 : decode cX7_count 57 = .ok (.getfield 21, 3) := by decide +kernel
theorem dX7_count_60 : decode cX7_count 60 = .ok (.getfield 140, 3) := by decide +kernel
theorem dX7_count_63 : decode cX7_count 63 = .ok (.ireturn, 1) := by decide +kernel
theorem dX7_count_64 : decode cX7_count 64 = .ok (.aload_n 0, 1) := by decide +kernel
theorem dX7_count_65 : decode cX7_count 65 = .ok (.getfield 21, 3) := by decide +kernel
theorem dX7_count_68 : decode cX7_count 68 = .ok (.getfield 132, 3) := by decide +kernel
theorem dX7_count_71 : decode cX7_count 71 = .ok (.ireturn, 1) := by decide +kernel
theorem dX7_count_72 : decode cX7_count 72 = .ok (.aload_n 0, 1) := by decide +kernel
theorem dX7_count_73 : decode cX7_count 73 = .ok (.getfield 21, 3) := by decide +kernel
theorem dX7_count_76 : decode cX7_count 76 = .ok (.invokevirtual 315, 3) := by decide +kernel
theorem dX7_count_79 : decode cX7_count 79 = .ok (.ireturn, 1) := by decide +kernel
theorem dX7_count_80 : decode cX7_count 80 = .ok (.aload_n 0, 1) := by decide +kernel
theorem dX7_count_81 : decode cX7_count 81 = .ok (.getfield 21, 3) := by decide +kernel
theorem dX7_count_84 : decode cX7_count 84 = .ok (.getfield 238, 3) := by decide +kernel
theorem dX7_count_87 : decode cX7_count 87 = .ok (.ireturn, 1) := by decide +kernel
theorem dX7_count_88 : decode cX7_count 88 = .ok (.aload_n 0, 1) := by decide +kernel
theorem dX7_count_89 : decode cX7_count 89 = .ok (.getfield 308, 3) := by decide +kernel
theorem dX7_count_92 : decode cX7_count 92 = .ok (.ireturn, 1) := by decide +kernel
theorem dX7_count_93 : decode cX7_count 93 = .ok (.aload_n 0, 1) := by decide +kernel
theorem dX7_count_94 : decode cX7_count 94 = .ok (.getfield 232, 3) := by decide +kernel
theorem dX7_count_97 : decode cX7_count 97 = .ok (.ireturn, 1) := by decide +kernel
theorem dX7_count_98 : decode cX7_count 98 = .ok (.aload_n 0, 1) := by decide +kernel
theorem dX7_count_99 : decode cX7_count 99 = .ok (.getfield 21, 3) := by decide +kernel
theorem dX7_count_102 : decode cX7_count 102 = .ok (.getfield 176, 3) := by decide +kernel
theorem dX7_count_105 : decode cX7_count 105 = .ok (.ireturn, 1) := by decide +kernel
theorem dX7_count_106 : decode cX7_count 106 = .ok (.ldc 66, 2) := by decide +kernel
theorem dX7_count_108 : decode cX7_count 108 = .ok (.ireturn, 1) := by decide +kernel
theorem dX7_isWithin_0 : decode cX7_isWithin 0 = .ok (.iload_n 0, 1) := by decide +kernel
theorem dX7_isWithin_1 : decode cX7_isWithin 1 = .ok (.iload_n 1, 1) := by decide +kernel
theorem dX7_isWithin_2 : decode cX7_isWithin 2 = .ok (.if_icmp .lt 12, 3) := by decide +kernel
theorem dX7_isWithin_5 : decode cX7_isWithin 5 = .ok (.iload_n 0, 1) := by decide +kernel
theorem dX7_isWithin_6 : decode cX7_isWithin 6 = .ok (.iload_n 2, 1) := by decide +kernel
theorem dX7_isWithin_7 : decode cX7_isWithin 7 = .ok (.if_icmp .gt 7, 3) := by decide +kernel
theorem dX7_isWithin_10 : decode cX7_isWithin 10 = .ok (.iconst 1, 1) := by decide +kernel
theorem dX7_isWithin_11 : decode cX7_isWithin 11 = .ok (.goto 4, 3) := by decide +kernel
theorem dX7_isWithin_14 : decode cX7_isWithin 14 = .ok (.iconst 0, 1) := by decide +kernel
theorem dX7_isWithin_15 : decode cX7_isWithin 15 = .ok (.ireturn, 1) := by decide +kernel
theorem dX7_heldWithin_0 : decode cX7_heldWithin 0 = .ok (.iload_n 1, 1) := by decide +kernel
theorem dX7_heldWithin_1 : decode cX7_heldWithin 1 = .ok (.iload_n 2, 1) := by decide +kernel
theorem dX7_heldWithin_2 : decode cX7_heldWithin 2 = .ok (.iload_n 0, 1) := by decide +kernel
theorem dX7_heldWithin_3 : decode cX7_heldWithin 3 = .ok (.invokestatic 167, 3) := by decide +kernel
theorem dX7_heldWithin_6 : decode cX7_heldWithin 6 = .ok (.invokestatic 318, 3) := by decide +kernel
theorem dX7_heldWithin_9 : decode cX7_heldWithin 9 = .ok (.ireturn, 1) := by decide +kernel
end
section
theorem dX8_init_0 : decode cX8_init 0 = .ok (.aload_n 0, 1) := by decide +kernel
theorem dX8_init_1 : decode cX8_init 1 = .ok (.invokespecial 1, 3) := by decide +kernel
theorem dX8_init_4 : decode cX8_init 4 = .ok (.aload_n 0, 1) := by decide +kernel
theorem dX8_init_5 : decode cX8_init 5 = .ok (.sipush 3108, 3) := by decide +kernel
theorem dX8_init_8 : decode cX8_init 8 = .ok (.newarray .int, 2) := by decide +kernel
theorem dX8_init_10 : decode cX8_init 10 = .ok (.putfield 7, 3) := by decide +kernel
theorem dX8_init_13 : decode cX8_init 13 = .ok (.aload_n 0, 1) := by decide +kernel
theorem dX8_init_14 : decode cX8_init 14 = .ok (.sipush 3108, 3) := by decide +kernel
theorem dX8_init_17 : decode cX8_init 17 = .ok (.newarray .int, 2) := by decide +kernel
theorem dX8_init_19 : decode cX8_init 19 = .ok (.putfield 13, 3) := by decide +kernel
theorem dX8_init_22 : decode cX8_init 22 = .ok (.aload_n 0, 1) := by decide +kernel
theorem dX8_init_23 : decode cX8_init 23 = .ok (.sipush 3108, 3) := by decide +kernel
theorem dX8_init_26 : decode cX8_init 26 = .ok (.newarray .int, 2) := by decide +kernel
theorem dX8_init_28 : decode cX8_init 28 = .ok (.putfield 16, 3) := by decide +kernel
theorem dX8_init_31 : decode cX8_init 31 = .ok (.aload_n 0, 1) := by decide +kernel
theorem dX8_init_32 : decode cX8_init 32 = .ok (.iconst 4, 1) := by decide +kernel
theorem dX8_init_33 : decode cX8_init 33 = .ok (.newarray .int, 2) := by decide +kernel
theorem dX8_init_35 : decode cX8_init 35 = .ok (.putfield 19, 3) := by decide +kernel
theorem dX8_init_38 : decode cX8_init 38 = .ok (.aload_n 0, 1) := by decide +kernel
theorem dX8_init_39 : decode cX8_init 39 = .ok (.iconst 4, 1) := by decide +kernel
theorem dX8_init_40 : decode cX8_init 40 = .ok (.newarray .int, 2) := by decide +kernel
theorem dX8_init_42 : decode cX8_init 42 = .ok (.putfield 22, 3) := by decide +kernel
theorem dX8_init_45 : decode cX8_init 45 = .ok (.aload_n 0, 1) := by decide +kernel
theorem dX8_init_46 : decode cX8_init 46 = .ok (.bipush 96, 2) := by decide +kernel
theorem dX8_init_48 : decode cX8_init 48 = .ok (.newarray .int, 2) := by decide +kernel
theorem dX8_init_50 : decode cX8_init 50 = .ok (.putfield 25, 3) := by decide +kernel
theorem dX8_init_53 : decode cX8_init 53 = .ok (.aload_n 0, 1) := by decide +kernel
theorem dX8_init_54 : decode cX8_init 54 = .ok (.iconst 5, 1) := by decide +kernel
theorem dX8_init_55 : decode cX8_init 55 = .ok (.newarray .int, 2) := by decide +kernel
theorem dX8_init_57 : decode cX8_init 57 = .ok (.putfield 28, 3) := by decide +kernel
theorem dX8_init_60 : decode cX8_init 60 = .ok (.aload_n 0, 1) := by decide +kernel
theorem dX8_init_61 : decode cX8_init 61 = .ok (.iconst 5, 1) := by decide +kernel
theorem dX8_init_62 : decode cX8_init 62 = .ok (.newarray .int, 2) := by decide +kernel
theorem dX8_init_64 : decode cX8_init 64 = .ok (.putfield 31, 3) := by decide +kernel
theorem dX8_init_67 : decode cX8_init 67 = .ok (.aload_n 0, 1) := by decide +kernel
theorem dX8_init_68 : decode cX8_init 68 = .ok (.iconst 5, 1) := by decide +kernel
theorem dX8_init_69 : decode cX8_init 69 = .ok (.newarray .int, 2) := by decide +kernel
theorem dX8_init_71 : decode cX8_init 71 = .ok (.putfield 34, 3) := by decide +kernel
theorem dX8_init_74 : decode cX8_init 74 = .ok (.aload_n 0, 1) := by decide +kernel
theorem dX8_init_75 : decode cX8_init 75 = .ok (.iconst 5, 1) := by decide +kernel
theorem dX8_init_76 : decode cX8_init 76 = .ok (.newarray .int, 2) := by decide +kernel
theorem dX8_init_78 : decode cX8_init 78 = .ok (.putfield 37, 3) := by decide +kernel
theorem dX8_init_81 : decode cX8_init 81 = .ok (.aload_n 0, 1) := by decide +kernel
theorem dX8_init_82 : decode cX8_init 82 = .ok (.bipush 120, 2) := by decide +kernel
theorem dX8_init_84 : decode cX8_init 84 = .ok (.newarray .int, 2) := by decide +kernel
theorem dX8_init_86 : decode cX8_init 86 = .ok (.putfield 40, 3) := by decide +kernel
theorem dX8_init_89 : decode cX8_init 89 = .ok (.aload_n 0, 1) := by decide +kernel
theorem dX8_init_90 : decode cX8_init 90 = .ok (.bipush 10, 2) := by decide +kernel
theorem dX8_init_92 : decode cX8_init 92 = .ok (.newarray .int, 2) := by decide +kernel
theorem dX8_init_94 : decode cX8_init 94 = .ok (.putfield 43, 3) := by decide +kernel
theorem dX8_init_97 : decode cX8_init 97 = .ok (.aload_n 0, 1) := by decide +kernel
theorem dX8_init_98 : decode cX8_init 98 = .ok (.sipush 1024, 3) := by decide +kernel
theorem dX8_init_101 : decode cX8_init 101 = .ok (.newarray .int, 2) := by decide +kernel
theorem dX8_init_103 : decode cX8_init 103 = .ok (.putfield 46, 3) := by decide +kernel
theorem dX8_init_106 : decode cX8_init 106 = .ok (.aload_n 0, 1) := by decide +kernel
theorem dX8_init_107 : decode cX8_init 107 = .ok (.bipush 108, 2) := by decide +kernel
theorem dX8_init_109 : decode cX8_init 109 = .ok (.newarray .int, 2) := by decide +kernel
theorem dX8_init_111 : decode cX8_init 111 = .ok (.putfield 49, 3) := by decide +kernel
theorem dX8_init_114 : decode cX8_init 114 = .ok (.aload_n 0, 1) := by decide +kernel
theorem dX8_init_115 : decode cX8_init 115 = .ok (.bipush 96, 2) := by decide +kernel
theorem dX8_init_117 : decode cX8_init 117 = .ok (.newarray .int, 2) := by decide +kernel
theorem dX8_init_119 : decode cX8_init 119 = .ok (.putfield 52, 3) := by decide +kernel
theorem dX8_init_122 : decode cX8_init 122 = .ok (.aload_n 0, 1) := by decide +kernel
theorem dX8_init_123 : decode cX8_init 123 = .ok (.sipush 128, 3) := by decide +kernel
theorem dX8_init_126 : decode cX8_init 126 = .ok (.newarray .int, 2) := by decide +kernel
theorem dX8_init_128 : decode cX8_init 128 = .ok (.putfield 55, 3) := by decide +kernel
theorem dX8_init_131 : decode cX8_init 131 = .ok (.aload_n 0, 1) := by decide +kernel
theorem dX8_init_132 : decode cX8_init 132 = .ok (.bipush 100, 2) := by decide +kernel
theorem dX8_init_134 : decode cX8_init 134 = .ok (.newarray .int, 2) := by decide +kernel
theorem dX8_init_136 : decode cX8_init 136 = .ok (.putfield 58, 3) := by decide +kernel
theorem dX8_init_139 : decode cX8_init 139 = .ok (.aload_n 0, 1) := by decide +kernel
theorem dX8_init_140 : decode cX8_init 140 = .ok (.bipush 24, 2) := by decide +kernel
theorem dX8_init_142 : decode cX8_init 142 = .ok (.newarray .int, 2) := by decide +kernel
theorem dX8_init_144 : decode cX8_init 144 = .ok (.putfield 61, 3) := by decide +kernel
theorem dX8_init_147 : decode cX8_init 147 = .ok (.aload_n 0, 1) := by decide +kernel
theorem dX8_init_148 : decode cX8_init 148 = .ok (.bipush 60, 2) := by decide +kernel
theorem dX8_init_150 : decode cX8_init 150 = .ok (.newarray .int, 2) := by decide +kernel
theorem dX8_init_152 : decode cX8_init 152 = .ok (.putfield 64, 3) := by decide +kernel
theorem dX8_init_155 : decode cX8_init 155 = .ok (.aload_n 0, 1) := by decide +kernel
theorem dX8_init_156 : decode cX8_init 156 = .ok (.bipush 60, 2) := by decide +kernel
theorem dX8_init_158 : decode cX8_init 158 = .ok (.newarray .int, 2) := by decide +kernel
theorem dX8_init_160 : decode cX8_init 160 = .ok (.putfield 67, 3) := by decide +kernel
theorem dX8_init_163 : decode cX8_init 163 = .ok (.aload_n 0, 1) := by decide +kernel
theorem dX8_init_164 : decode cX8_init 164 = .ok (.getfield 7, 3) := by decide +kernel
theorem dX8_init_167 : decode cX8_init 167 = .ok (.bipush 6, 2) := by decide +kernel
theorem dX8_init_169 : decode cX8_init 169 = .ok (.iconst 1, 1) := by decide +kernel
theorem dX8_init_170 : decode cX8_init 170 = .ok (.iastore, 1) := by decide +kernel
theorem dX8_init_171 : decode cX8_init 171 = .ok (.iconst 0, 1) := by decide +kernel
theorem dX8_init_172 : decode cX8_init 172 = .ok (.istore_n 1, 1) := by decide +kernel
theorem dX8_init_173 : decode cX8_init 173 = .ok (.iload_n 1, 1) := by decide +kernel
theorem dX8_init_174 : decode cX8_init 174 = .ok (.iconst 4, 1) := by decide +kernel
theorem dX8_init_175 : decode cX8_init 175 = .ok (.if_icmp .ge 16, 3) := by decide +kernel
theorem dX8_init_178 : decode cX8_init 178 = .ok (.aload_n 0, 1) := by decide +kernel
theorem dX8_init_179 : decode cX8_init 179 = .ok (.getfield 19, 3) := by decide +kernel
theorem dX8_init_182 : decode cX8_init 182 = .ok (.iload_n 1, 1) := by decide +kernel
theorem dX8_init_183 : decode cX8_init 183 = .ok (.iconst (-1), 1) := by decide +kernel
theorem dX8_init_184 : decode cX8_init 184 = .ok (.iastore, 1) := by decide +kernel
theorem dX8_init_185 : decode cX8_init 185 = .ok (.iinc 1 1, 3) := by decide +kernel
theorem dX8_init_188 : decode cX8_init 188 = .ok (.goto (-15), 3) := by decide +kernel
theorem dX8_init_191 : decode cX8_init 191 = .ok (.return_, 1) := by decide +kernel
theorem dX8_isIn_0 : decode cX8_isIn 0 = .ok (.lload_n 0, 1) := by decide +kernel
theorem dX8_isIn_1 : decode cX8_isIn 1 = .ok (.lload_n 2, 1) := by decide +kernel
theorem dX8_isIn_2 : decode cX8_isIn 2 = .ok (.lcmp, 1) := by decide +kernel
theorem dX8_isIn_3 : decode cX8_isIn 3 = .ok (.ifCond .lt 14, 3) := by decide +kernel
theorem dX8_isIn_6 : decode cX8_isIn 6 = .ok (.lload_n 0, 1) := by decide +kernel
theorem dX8_isIn_7 : decode cX8_isIn 7 = .ok (.lload 4, 2) := by decide +kernel
theorem dX8_isIn_9 : decode cX8_isIn 9 = .ok (.lcmp, 1) := by decide +kernel
theorem dX8_isIn_10 : decode cX8_isIn 10 = .ok (.ifCond .gt 7, 3) := by decide +kernel
theorem dX8_isIn_13 : decode cX8_isIn 13 = .ok (.iconst 1, 1) := by decide +kernel
theorem dX8_isIn_14 : decode cX8_isIn 14 = .ok (.goto 4, 3) := by decide +kernel
theorem dX8_isIn_17 : decode cX8_isIn 17 = .ok (.iconst 0, 1) := by decide +kernel
theorem dX8_isIn_18 : decode cX8_isIn 18 = .ok (.ireturn, 1) := by decide +kernel
theorem dX8_orNone_0 : decode cX8_orNone 0 = .ok (.iload_n 0, 1) := by decide +kernel
theorem dX8_orNone_1 : decode cX8_orNone 1 = .ok (.ifCond .ge 8, 3) := by decide +kernel
theorem dX8_orNone_4 : decode cX8_orNone 4 = .ok (.ldc 70, 2) := by decide +kernel
theorem dX8_orNone_6 : decode cX8_orNone 6 = .ok (.goto 4, 3) := by decide +kernel
theorem dX8_orNone_9 : decode cX8_orNone 9 = .ok (.iload_n 0, 1) := by decide +kernel
theorem dX8_orNone_10 : decode cX8_orNone 10 = .ok (.ireturn, 1) := by decide +kernel
theorem dX8_within_0 : decode cX8_within 0 = .ok (.iload_n 0, 1) := by decide +kernel
theorem dX8_within_1 : decode cX8_within 1 = .ok (.iload_n 1, 1) := by decide +kernel
theorem dX8_within_2 : decode cX8_within 2 = .ok (.if_icmp .ge 7, 3) := by decide +kernel
theorem dX8_within_5 : decode cX8_within 5 = .ok (.iload_n 1, 1) := by decide +kernel
theorem dX8_within_6 : decode cX8_within 6 = .ok (.goto 13, 3) := by decide +kernel
theorem dX8_within_9 : decode cX8_within 9 = .ok (.iload_n 0, 1) := by decide +kernel
theorem dX8_within_10 : decode cX8_within 10 = .ok (.iload_n 2, 1) := by decide +kernel
theorem dX8_within_11 : decode cX8_within 11 = .ok (.if_icmp .le 7, 3) := by decide +kernel
theorem dX8_within_14 : decode cX8_within 14 = .ok (.iload_n 2, 1) := by decide +kernel
theorem dX8_within_15 : decode cX8_within 15 = .ok (.goto 4, 3) := by decide +kernel
theorem dX8_within_18 : decode cX8_within 18 = .ok (.iload_n 0, 1) := by decide +kernel
theorem dX8_within_19 : decode cX8_within 19 = .ok (.ireturn, 1) := by decide +kernel
theorem dX8_off_0 : decode cX8_off 0 = .ok (.iload_n 0, 1) := by decide +kernel
theorem dX8_off_1 : decode cX8_off 1 = .ok (.iload_n 1, 1) := by decide +kernel
theorem dX8_off_2 : decode cX8_off 2 = .ok (.if_icmp .ge 9, 3) := by decide +kernel
theorem dX8_off_5 : decode cX8_off 5 = .ok (.iload_n 1, 1) := by decide +kernel
theorem dX8_off_6 : decode cX8_off 6 = .ok (.iload_n 0, 1) := by decide +kernel
theorem dX8_off_7 : decode cX8_off 7 = .ok (.isub, 1) := by decide +kernel
theorem dX8_off_8 : decode cX8_off 8 = .ok (.goto 6, 3) := by decide +kernel
theorem dX8_off_11 : decode cX8_off 11 = .ok (.iload_n 0, 1) := by decide +kernel
theorem dX8_off_12 : decode cX8_off 12 = .ok (.iload_n 1, 1) := by decide +kernel
theorem dX8_off_13 : decode cX8_off 13 = .ok (.isub, 1) := by decide +kernel
theorem dX8_off_14 : decode cX8_off 14 = .ok (.ireturn, 1) := by decide +kernel
theorem dX8_becomes_0 : decode cX8_becomes 0 = .ok (.aload_n 0, 1) := by decide +kernel
theorem dX8_becomes_1 : decode cX8_becomes 1 = .ok (.getfield 7, 3) := by decide +kernel
theorem dX8_becomes_4 : decode cX8_becomes 4 = .ok (.iload_n 1, 1) := by decide +kernel
theorem dX8_becomes_5 : decode cX8_becomes 5 = .ok (.iaload, 1) := by decide +kernel
theorem dX8_becomes_6 : decode cX8_becomes 6 = .ok (.istore_n 3, 1) := by decide +kernel
theorem dX8_becomes_7 : decode cX8_becomes 7 = .ok (.aload_n 0, 1) := by decide +kernel
theorem dX8_becomes_8 : decode cX8_becomes 8 = .ok (.getfield 7, 3) := by decide +kernel
theorem dX8_becomes_11 : decode cX8_becomes 11 = .ok (.iload_n 1, 1) := by decide +kernel
theorem dX8_becomes_12 : decode cX8_becomes 12 = .ok (.iload_n 2, 1) := by decide +kernel
theorem dX8_becomes_13 : decode cX8_becomes 13 = .ok (.iastore, 1) := by decide +kernel
theorem dX8_becomes_14 : decode cX8_becomes 14 = .ok (.iload_n 3, 1) := by decide +kernel
theorem dX8_becomes_15 : decode cX8_becomes 15 = .ok (.ireturn, 1) := by decide +kernel
theorem dX8_textAt_0 : decode cX8_textAt 0 = .ok (.bipush 108, 2) := by decide +kernel
theorem dX8_textAt_2 : decode cX8_textAt 2 = .ok (.sipush 200, 3) := by decide +kernel
theorem dX8_textAt_5 : decode cX8_textAt 5 = .ok (.iload_n 1, 1) := by decide +kernel
theorem dX8_textAt_6 : decode cX8_textAt 6 = .ok (.imul, 1) := by decide +kernel
theorem dX8_textAt_7 : decode cX8_textAt 7 = .ok (.iadd, 1) := by decide +kernel
theorem dX8_textAt_8 : decode cX8_textAt 8 = .ok (.ireturn, 1) := by decide +kernel
theorem dX8_of_0 : decode cX8_of 0 = .ok (.aload_n 0, 1) := by decide +kernel
theorem dX8_of_1 : decode cX8_of 1 = .ok (.getfield 7, 3) := by decide +kernel
theorem dX8_of_4 : decode cX8_of 4 = .ok (.bipush 7, 2) := by decide +kernel
theorem dX8_of_6 : decode cX8_of 6 = .ok (.iconst 5, 1) := by decide +kernel
theorem dX8_of_7 : decode cX8_of 7 = .ok (.iload_n 1, 1) := by decide +kernel
theorem dX8_of_8 : decode cX8_of 8 = .ok (.imul, 1) := by decide +kernel
theorem dX8_of_9 : decode cX8_of 9 = .ok (.iadd, 1) := by decide +kernel
theorem dX8_of_10 : decode cX8_of 10 = .ok (.iload_n 2, 1) := by decide +kernel
theorem dX8_of_11 : decode cX8_of 11 = .ok (.iadd, 1) := by decide +kernel
theorem dX8_of_12 : decode cX8_of 12 = .ok (.iaload, 1) := by decide +kernel
theorem dX8_of_13 : decode cX8_of 13 = .ok (.ireturn, 1) := by decide +kernel
theorem dX8_sets_0 : decode cX8_sets 0 = .ok (.aload_n 0, 1) := by decide +kernel
theorem dX8_sets_1 : decode cX8_sets 1 = .ok (.getfield 7, 3) := by decide +kernel
theorem dX8_sets_4 : decode cX8_sets 4 = .ok (.bipush 7, 2) := by decide +kernel
theorem dX8_sets_6 : decode cX8_sets 6 = .ok (.iconst 5, 1) := by decide +kernel
theorem dX8_sets_7 : decode cX8_sets 7 = .ok (.iload_n 1, 1) := by decide +kernel
theorem dX8_sets_8 : decode cX8_sets 8 = .ok (.imul, 1) := by decide +kernel
theorem dX8_sets_9 : decode cX8_sets 9 = .ok (.iadd, 1) := by decide +kernel
theorem dX8_sets_10 : decode cX8_sets 10 = .ok (.iload_n 2, 1) := by decide +kernel
theorem dX8_sets_11 : decode cX8_sets 11 = .ok (.iadd, 1) := by decide +kernel
theorem dX8_sets_12 : decode cX8_sets 12 = .ok (.iload_n 3, 1) := by decide +kernel
theorem dX8_sets_13 : decode cX8_sets 13 = .ok (.iastore, 1) := by decide +kernel
theorem dX8_sets_14 : decode cX8_sets 14 = .ok (.return_, 1) := by decide +kernel
theorem dX8_vowIs_0 : decode cX8_vowIs 0 = .ok (.aload_n 0, 1) := by decide +kernel
theorem dX8_vowIs_1 : decode cX8_vowIs 1 = .ok (.getfield 7, 3) := by decide +kernel
theorem dX8_vowIs_4 : decode cX8_vowIs 4 = .ok (.bipush 57, 2) := by decide +kernel
theorem dX8_vowIs_6 : decode cX8_vowIs 6 = .ok (.iconst 3, 1) := by decide +kernel
theorem dX8_vowIs_7 : decode cX8_vowIs 7 = .ok (.iload_n 1, 1) := by decide +kernel
theorem dX8_vowIs_8 : decode cX8_vowIs 8 = .ok (.imul, 1) := by decide +kernel
theorem dX8_vowIs_9 : decode cX8_vowIs 9 = .ok (.iadd, 1) := by decide +kernel
theorem dX8_vowIs_10 : decode cX8_vowIs 10 = .ok (.iload_n 2, 1) := by decide +kernel
theorem dX8_vowIs_11 : decode cX8_vowIs 11 = .ok (.iadd, 1) := by decide +kernel
theorem dX8_vowIs_12 : decode cX8_vowIs 12 = .ok (.iaload, 1) := by decide +kernel
theorem dX8_vowIs_13 : decode cX8_vowIs 13 = .ok (.ireturn, 1) := by decide +kernel
theorem dX8_isOne_0 : decode cX8_isOne 0 = .ok (.iload_n 1, 1) := by decide +kernel
theorem dX8_isOne_1 : decode cX8_isOne 1 = .ok (.i2l, 1) := by decide +kernel
theorem dX8_isOne_2 : decode cX8_isOne 2 = .ok (.lconst 0, 1) := by decide +kernel
theorem dX8_isOne_3 : decode cX8_isOne 3 = .ok (.aload_n 0, 1) := by decide +kernel
theorem dX8_isOne_4 : decode cX8_isOne 4 = .ok (.getfield 7, 3) := by decide +kernel
theorem dX8_isOne_7 : decode cX8_isOne 7 = .ok (.iconst 0, 1) := by decide +kernel
theorem dX8_isOne_8 : decode cX8_isOne 8 = .ok (.iaload, 1) := by decide +kernel
theorem dX8_isOne_9 : decode cX8_isOne 9 = .ok (.iconst 1, 1) := by decide +kernel
theorem dX8_isOne_10 : decode cX8_isOne 10 = .ok (.isub, 1) := by decide +kernel
theorem dX8_isOne_11 : decode cX8_isOne 11 = .ok (.i2l, 1) := by decide +kernel
theorem dX8_isOne_12 : decode cX8_isOne 12 = .ok (.invokestatic 71, 3) := by decide +kernel
theorem dX8_isOne_15 : decode cX8_isOne 15 = .ok (.ireturn, 1) := by decide +kernel
theorem dX8_isVow_0 : decode cX8_isVow 0 = .ok (.iload_n 1, 1) := by decide +kernel
theorem dX8_isVow_1 : decode cX8_isVow 1 = .ok (.i2l, 1) := by decide +kernel
theorem dX8_isVow_2 : decode cX8_isVow 2 = .ok (.lconst 0, 1) := by decide +kernel
theorem dX8_isVow_3 : decode cX8_isVow 3 = .ok (.aload_n 0, 1) := by decide +kernel
theorem dX8_isVow_4 : decode cX8_isVow 4 = .ok (.getfield 7, 3) := by decide +kernel
theorem dX8_isVow_7 : decode cX8_isVow 7 = .ok (.iconst 3, 1) := by decide +kernel
theorem dX8_isVow_8 : decode cX8_isVow 8 = .ok (.iaload, 1) := by decide +kernel
theorem dX8_isVow_9 : decode cX8_isVow 9 = .ok (.iconst 1, 1) := by decide +kernel
theorem dX8_isVow_10 : decode cX8_isVow 10 = .ok (.isub, 1) := by decide +kernel
theorem dX8_isVow_11 : decode cX8_isVow 11 = .ok (.i2l, 1) := by decide +kernel
theorem dX8_isVow_12 : decode cX8_isVow 12 = .ok (.invokestatic 71, 3) := by decide +kernel
theorem dX8_isVow_15 : decode cX8_isVow 15 = .ok (.ireturn, 1) := by decide +kernel
theorem dX8_isText_0 : decode cX8_isText 0 = .ok (.iload_n 1, 1) := by decide +kernel
theorem dX8_isText_1 : decode cX8_isText 1 = .ok (.i2l, 1) := by decide +kernel
theorem dX8_isText_2 : decode cX8_isText 2 = .ok (.lconst 0, 1) := by decide +kernel
theorem dX8_isText_3 : decode cX8_isText 3 = .ok (.aload_n 0, 1) := by decide +kernel
theorem dX8_isText_4 : decode cX8_isText 4 = .ok (.getfield 7, 3) := by decide +kernel
theorem dX8_isText_7 : decode cX8_isText 7 = .ok (.iconst 1, 1) := by decide +kernel
theorem dX8_isText_8 : decode cX8_isText 8 = .ok (.iaload, 1) := by decide +kernel
theorem dX8_isText_9 : decode cX8_isText 9 = .ok (.iconst 1, 1) := by decide +kernel
theorem dX8_isText_10 : decode cX8_isText 10 = .ok (.isub, 1) := by decide +kernel
theorem dX8_isText_11 : decode cX8_isText 11 = .ok (.i2l, 1) := by decide +kernel
theorem dX8_isText_12 : decode cX8_isText 12 = .ok (.invokestatic 71, 3) := by decide +kernel
theorem dX8_isText_15 : decode cX8_isText 15 = .ok (.ireturn, 1) := by decide +kernel
theorem dX8_drawn_0 : decode cX8_drawn 0 = .ok (.aload_n 0, 1) := by decide +kernel
theorem dX8_drawn_1 : decode cX8_drawn 1 = .ok (.getfield 7, 3) := by decide +kernel
theorem dX8_drawn_4 : decode cX8_drawn 4 = .ok (.bipush 6, 2) := by decide +kernel
theorem dX8_drawn_6 : decode cX8_drawn 6 = .ok (.aload_n 0, 1) := by decide +kernel
theorem dX8_drawn_7 : decode cX8_drawn 7 = .ok (.getfield 7, 3) := by decide +kernel
theorem dX8_drawn_10 : decode cX8_drawn 10 = .ok (.bipush 6, 2) := by decide +kernel
theorem dX8_drawn_12 : decode cX8_drawn 12 = .ok (.iaload, 1) := by decide +kernel
theorem dX8_drawn_13 : decode cX8_drawn 13 = .ok (.ldc 75, 2) := by decide +kernel
theorem dX8_drawn_15 : decode cX8_drawn 15 = .ok (.imul, 1) := by decide +kernel
theorem dX8_drawn_16 : decode cX8_drawn 16 = .ok (.sipush 12345, 3) := by decide +kernel
theorem dX8_drawn_19 : decode cX8_drawn 19 = .ok (.iadd, 1) := by decide +kernel
theorem dX8_drawn_20 : decode cX8_drawn 20 = .ok (.iastore, 1) := by decide +kernel
theorem dX8_drawn_21 : decode cX8_drawn 21 = .ok (.aload_n 0, 1) := by decide +kernel
theorem dX8_drawn_22 : decode cX8_drawn 22 = .ok (.getfield 7, 3) := by decide +kernel
theorem dX8_drawn_25 : decode cX8_drawn 25 = .ok (.bipush 6, 2) := by decide +kernel
theorem dX8_drawn_27 : decode cX8_drawn 27 = .ok (.iaload, 1) := by decide +kernel
theorem dX8_drawn_28 : decode cX8_drawn 28 = .ok (.bipush 8, 2) := by decide +kernel
theorem dX8_drawn_30 : decode cX8_drawn 30 = .ok (.iushr, 1) := by decide +kernel
theorem dX8_drawn_31 : decode cX8_drawn 31 = .ok (.ireturn, 1) := by decide +kernel
theorem dX8_comes_0 : decode cX8_comes 0 = .ok (.aload_n 0, 1) := by decide +kernel
theorem dX8_comes_1 : decode cX8_comes 1 = .ok (.getfield 7, 3) := by decide +kernel
theorem dX8_comes_4 : decode cX8_comes 4 = .ok (.iconst 0, 1) := by decide +kernel
theorem dX8_comes_5 : decode cX8_comes 5 = .ok (.iaload, 1) := by decide +kernel
theorem dX8_comes_6 : decode cX8_comes 6 = .ok (.istore 4, 2) := by decide +kernel
theorem dX8_comes_8 : decode cX8_comes 8 = .ok (.aload_n 0, 1) := by decide +kernel
theorem dX8_comes_9 : decode cX8_comes 9 = .ok (.getfield 7, 3) := by decide +kernel
theorem dX8_comes_12 : decode cX8_comes 12 = .ok (.iconst 0, 1) := by decide +kernel
theorem dX8_comes_13 : decode cX8_comes 13 = .ok (.dup2, 1) := by decide +kernel
theorem dX8_comes_14 : decode cX8_comes 14 = .ok (.iaload, 1) := by decide +kernel
theorem dX8_comes_15 : decode cX8_comes 15 = .ok (.iconst 1, 1) := by decide +kernel
theorem dX8_comes_16 : decode cX8_comes 16 = .ok (.iadd, 1) := by decide +kernel
theorem dX8_comes_17 : decode cX8_comes 17 = .ok (.iastore, 1) := by decide +kernel
theorem dX8_comes_18 : decode cX8_comes 18 = .ok (.aload_n 0, 1) := by decide +kernel
theorem dX8_comes_19 : decode cX8_comes 19 = .ok (.iload 4, 2) := by decide +kernel
theorem dX8_comes_21 : decode cX8_comes 21 = .ok (.iconst 0, 1) := by decide +kernel
theorem dX8_comes_22 : decode cX8_comes 22 = .ok (.iload_n 1, 1) := by decide +kernel
theorem dX8_comes_23 : decode cX8_comes 23 = .ok (.invokevirtual 76, 3) := by decide +kernel
theorem dX8_comes_26 : decode cX8_comes 26 = .ok (.aload_n 0, 1) := by decide +kernel
theorem dX8_comes_27 : decode cX8_comes 27 = .ok (.iload 4, 2) := by decide +kernel
theorem dX8_comes_29 : decode cX8_comes 29 = .ok (.iconst 1, 1) := by decide +kernel
theorem dX8_comes_30 : decode cX8_comes 30 = .ok (.iload_n 2, 1) := by decide +kernel
theorem dX8_comes_31 : decode cX8_comes 31 = .ok (.invokevirtual 76, 3) := by decide +kernel
theorem dX8_comes_34 : decode cX8_comes 34 = .ok (.aload_n 0, 1) := by decide +kernel
theorem dX8_comes_35 : decode cX8_comes 35 = .ok (.iload 4, 2) := by decide +kernel
theorem dX8_comes_37 : decode cX8_comes 37 = .ok (.iconst 2, 1) := by decide +kernel
theorem dX8_comes_38 : decode cX8_comes 38 = .ok (.iload_n 3, 1) := by decide +kernel
theorem dX8_comes_39 : decode cX8_comes 39 = .ok (.invokevirtual 76, 3) := by decide +kernel
theorem dX8_comes_42 : decode cX8_comes 42 = .ok (.aload_n 0, 1) := by decide +kernel
theorem dX8_comes_43 : decode cX8_comes 43 = .ok (.iload 4, 2) := by decide +kernel
theorem dX8_comes_45 : decode cX8_comes 45 = .ok (.iconst 3, 1) := by decide +kernel
theorem dX8_comes_46 : decode cX8_comes 46 = .ok (.iconst 0, 1) := by decide +kernel
theorem dX8_comes_47 : decode cX8_comes 47 = .ok (.invokevirtual 76, 3) := by decide +kernel
theorem dX8_comes_50 : decode cX8_comes 50 = .ok (.aload_n 0, 1) := by decide +kernel
theorem dX8_comes_51 : decode cX8_comes 51 = .ok (.iload 4, 2) := by decide +kernel
theorem dX8_comes_53 : decode cX8_comes 53 = .ok (.iconst 4, 1) := by decide +kernel
theorem dX8_comes_54 : decode cX8_comes 54 = .ok (.iconst (-1), 1) := by decide +kernel
theorem dX8_comes_55 : decode cX8_comes 55 = .ok (.invokevirtual 76, 3) := by decide +kernel
theorem dX8_comes_58 : decode cX8_comes 58 = .ok (.return_, 1) := by decide +kernel
theorem dX8_person_0 : decode cX8_person 0 = .ok (.iload_n 1, 1) := by decide +kernel
theorem dX8_person_1 : decode cX8_person 1 = .ok (.i2l, 1) := by decide +kernel
theorem dX8_person_2 : decode cX8_person 2 = .ok (.lconst 0, 1) := by decide +kernel
theorem dX8_person_3 : decode cX8_person 3 = .ok (.ldc2_w 80, 3) := by decide +kernel
theorem dX8_person_6 : decode cX8_person 6 = .ok (.invokestatic 71, 3) := by decide +kernel
theorem dX8_person_9 : decode cX8_person 9 = .ok (.ifCond .eq 27, 3) := by decide +kernel
theorem dX8_person_12 : decode cX8_person 12 = .ok (.iload_n 2, 1) := by decide +kernel
theorem dX8_person_13 : decode cX8_person 13 = .ok (.i2l, 1) := by decide +kernel
theorem dX8_person_14 : decode cX8_person 14 = .ok (.lconst 0, 1) := by decide +kernel
theorem dX8_person_15 : decode cX8_person 15 = .ok (.ldc2_w 82, 3) := by decide +kernel
theorem dX8_person_18 : decode cX8_person 18 = .ok (.invokestatic 71, 3) := by decide +kernel
theorem dX8_person_21 : decode cX8_person 21 = .ok (.ifCond .eq 15, 3) := by decide +kernel
theorem dX8_person_24 : decode cX8_person 24 = .ok (.iload_n 3, 1) := by decide +kernel
theorem dX8_person_25 : decode cX8_person 25 = .ok (.i2l, 1) := by decide +kernel
theorem dX8_person_26 : decode cX8_person 26 = .ok (.lconst 0, 1) := by decide +kernel
theorem dX8_person_27 : decode cX8_person 27 = .ok (.ldc2_w 84, 3) := by decide +kernel
theorem dX8_person_30 : decode cX8_person 30 = .ok (.invokestatic 71, 3) := by decide +kernel
theorem dX8_person_33 : decode cX8_person 33 = .ok (.ifCond .ne 6, 3) := by decide +kernel
theorem dX8_person_36 : decode cX8_person 36 = .ok (.ldc 86, 2) := by decide +kernel
theorem dX8_person_38 : decode cX8_person 38 = .ok (.ireturn, 1) := by decide +kernel
theorem dX8_person_39 : decode cX8_person 39 = .ok (.aload_n 0, 1) := by decide +kernel
theorem dX8_person_40 : decode cX8_person 40 = .ok (.getfield 7, 3) := by decide +kernel
theorem dX8_person_43 : decode cX8_person 43 = .ok (.iconst 0, 1) := by decide +kernel
theorem dX8_person_44 : decode cX8_person 44 = .ok (.iaload, 1) := by decide +kernel
theorem dX8_person_45 : decode cX8_person 45 = .ok (.bipush 10, 2) := by decide +kernel
theorem dX8_person_47 : decode cX8_person 47 = .ok (.if_icmp .ne 6, 3) := by decide +kernel
theorem dX8_person_50 : decode cX8_person 50 = .ok (.ldc 87, 2) := by decide +kernel
theorem dX8_person_52 : decode cX8_person 52 = .ok (.ireturn, 1) := by decide +kernel
theorem dX8_person_53 : decode cX8_person 53 = .ok (.aload_n 0, 1) := by decide +kernel
theorem dX8_person_54 : decode cX8_person 54 = .ok (.iload_n 1, 1) := by decide +kernel
theorem dX8_person_55 : decode cX8_person 55 = .ok (.iload_n 2, 1) := by decide +kernel
theorem dX8_person_56 : decode cX8_person 56 = .ok (.iload_n 3, 1) := by decide +kernel
theorem dX8_person_57 : decode cX8_person 57 = .ok (.invokevirtual 88, 3) := by decide +kernel
theorem dX8_person_60 : decode cX8_person 60 = .ok (.aload_n 0, 1) := by decide +kernel
theorem dX8_person_61 : decode cX8_person 61 = .ok (.getfield 7, 3) := by decide +kernel
theorem dX8_person_64 : decode cX8_person 64 = .ok (.iconst 0, 1) := by decide +kernel
theorem dX8_person_65 : decode cX8_person 65 = .ok (.iaload, 1) := by decide +kernel
theorem dX8_person_66 : decode cX8_person 66 = .ok (.iconst 1, 1) := by decide +kernel
theorem dX8_person_67 : decode cX8_person 67 = .ok (.isub, 1) := by decide +kernel
theorem dX8_person_68 : decode cX8_person 68 = .ok (.ireturn, 1) := by decide +kernel
theorem dX8_manyBy_0 : decode cX8_manyBy 0 = .ok (.iconst 0, 1) := by decide +kernel
theorem dX8_manyBy_1 : decode cX8_manyBy 1 = .ok (.istore_n 3, 1) := by decide +kernel
theorem dX8_manyBy_2 : decode cX8_manyBy 2 = .ok (.iconst 0, 1) := by decide +kernel
theorem dX8_manyBy_3 : decode cX8_manyBy 3 = .ok (.istore 4, 2) := by decide +kernel
theorem dX8_manyBy_5 : decode cX8_manyBy 5 = .ok (.iload 4, 2) := by decide +kernel
theorem dX8_manyBy_7 : decode cX8_manyBy 7 = .ok (.aload_n 0, 1) := by decide +kernel
theorem dX8_manyBy_8 : decode cX8_manyBy 8 = .ok (.getfield 7, 3) := by decide +kernel
theorem dX8_manyBy_11 : decode cX8_manyBy 11 = .ok (.iconst 3, 1) := by decide +kernel
theorem dX8_manyBy_12 : decode cX8_manyBy 12 = .ok (.iaload, 1) := by decide +kernel
theorem dX8_manyBy_13 : decode cX8_manyBy 13 = .ok (.if_icmp .ge 28, 3) := by decide +kernel
theorem dX8_manyBy_16 : decode cX8_manyBy 16 = .ok (.iload_n 3, 1) := by decide +kernel
theorem dX8_manyBy_17 : decode cX8_manyBy 17 = .ok (.aload_n 0, 1) := by decide +kernel
theorem dX8_manyBy_18 : decode cX8_manyBy 18 = .ok (.iload 4, 2) := by decide +kernel
theorem dX8_manyBy_20 : decode cX8_manyBy 20 = .ok (.iload_n 2, 1) := by decide +kernel
theorem dX8_manyBy_21 : decode cX8_manyBy 21 = .ok (.invokevirtual 91, 3) := by decide +kernel
theorem dX8_manyBy_24 : decode cX8_manyBy 24 = .ok (.iload_n 1, 1) := by decide +kernel
theorem dX8_manyBy_25 : decode cX8_manyBy 25 = .ok (.if_icmp .ne 7, 3) := by decide +kernel
theorem dX8_manyBy_28 : decode cX8_manyBy 28 = .ok (.iconst 1, 1) := by decide +kernel
theorem dX8_manyBy_29 : decode cX8_manyBy 29 = .ok (.goto 4, 3) := by decide +kernel
theorem dX8_manyBy_32 : decode cX8_manyBy 32 = .ok (.iconst 0, 1) := by decide +kernel
theorem dX8_manyBy_33 : decode cX8_manyBy 33 = .ok (.iadd, 1) := by decide +kernel
theorem dX8_manyBy_34 : decode cX8_manyBy 34 = .ok (.istore_n 3, 1) := by decide +kernel
theorem dX8_manyBy_35 : decode cX8_manyBy 35 = .ok (.iinc 4 1, 3) := by decide +kernel
theorem dX8_manyBy_38 : decode cX8_manyBy 38 = .ok (.goto (-33), 3) := by decide +kernel
theorem dX8_manyBy_41 : decode cX8_manyBy 41 = .ok (.iload_n 3, 1) := by decide +kernel
theorem dX8_manyBy_42 : decode cX8_manyBy 42 = .ok (.ireturn, 1) := by decide +kernel
theorem dX8_keeps_0 : decode cX8_keeps 0 = .ok (.aload_n 0, 1) := by decide +kernel
theorem dX8_keeps_1 : decode cX8_keeps 1 = .ok (.iload_n 1, 1) := by decide +kernel
theorem dX8_keeps_2 : decode cX8_keeps 2 = .ok (.iconst 0, 1) := by decide +kernel
theorem dX8_keeps_3 : decode cX8_keeps 3 = .ok (.invokevirtual 91, 3) := by decide +kernel
theorem dX8_keeps_6 : decode cX8_keeps 6 = .ok (.istore_n 2, 1) := by decide +kernel
theorem dX8_keeps_7 : decode cX8_keeps 7 = .ok (.aload_n 0, 1) := by decide +kernel
theorem dX8_keeps_8 : decode cX8_keeps 8 = .ok (.iload_n 2, 1) := by decide +kernel
theorem dX8_keeps_9 : decode cX8_keeps 9 = .ok (.iconst 0, 1) := by decide +kernel
theorem dX8_keeps_10 : decode cX8_keeps 10 = .ok (.invokevirtual 95, 3) := by decide +kernel
theorem dX8_keeps_13 : decode cX8_keeps 13 = .ok (.istore_n 3, 1) := by decide +kernel
theorem dX8_keeps_14 : decode cX8_keeps 14 = .ok (.aload_n 0, 1) := by decide +kernel
theorem dX8_keeps_15 : decode cX8_keeps 15 = .ok (.iload_n 2, 1) := by decide +kernel
theorem dX8_keeps_16 : decode cX8_keeps 16 = .ok (.iconst 2, 1) := by decide +kernel
theorem dX8_keeps_17 : decode cX8_keeps 17 = .ok (.invokevirtual 98, 3) := by decide +kernel
theorem dX8_keeps_20 : decode cX8_keeps 20 = .ok (.iconst 5, 1) := by decide +kernel
theorem dX8_keeps_21 : decode cX8_keeps 21 = .ok (.iload_n 3, 1) := by decide +kernel
theorem dX8_keeps_22 : decode cX8_keeps 22 = .ok (.imul, 1) := by decide +kernel
theorem dX8_keeps_23 : decode cX8_keeps 23 = .ok (.if_icmp .ge 7, 3) := by decide +kernel
theorem dX8_keeps_26 : decode cX8_keeps 26 = .ok (.iconst 0, 1) := by decide +kernel
theorem dX8_keeps_27 : decode cX8_keeps 27 = .ok (.goto 13, 3) := by decide +kernel
theorem dX8_keeps_30 : decode cX8_keeps 30 = .ok (.aload_n 0, 1) := by decide +kernel
theorem dX8_keeps_31 : decode cX8_keeps 31 = .ok (.iload_n 2, 1) := by decide +kernel
theorem dX8_keeps_32 : decode cX8_keeps 32 = .ok (.iconst 2, 1) := by decide +kernel
theorem dX8_keeps_33 : decode cX8_keeps 33 = .ok (.invokevirtual 98, 3) := by decide +kernel
theorem dX8_keeps_36 : decode cX8_keeps 36 = .ok (.iconst 5, 1) := by decide +kernel
theorem dX8_keeps_37 : decode cX8_keeps 37 = .ok (.iload_n 3, 1) := by decide +kernel
theorem dX8_keeps_38 : decode cX8_keeps 38 = .ok (.imul, 1) := by decide +kernel
theorem dX8_keeps_39 : decode cX8_keeps 39 = .ok (.isub, 1) := by decide +kernel
theorem dX8_keeps_40 : decode cX8_keeps 40 = .ok (.istore 4, 2) := by decide +kernel
theorem dX8_keeps_42 : decode cX8_keeps 42 = .ok (.aload_n 0, 1) := by decide +kernel
theorem dX8_keeps_43 : decode cX8_keeps 43 = .ok (.iconst 0, 1) := by decide +kernel
theorem dX8_keeps_44 : decode cX8_keeps 44 = .ok (.invokevirtual 101, 3) := by decide +kernel
theorem dX8_keeps_47 : decode cX8_keeps 47 = .ok (.istore 5, 2) := by decide +kernel
theorem dX8_keeps_49 : decode cX8_keeps 49 = .ok (.iload 5, 2) := by decide +kernel
theorem dX8_keeps_51 : decode cX8_keeps 51 = .ok (.ifCond .lt 51, 3) := by decide +kernel
theorem dX8_keeps_54 : decode cX8_keeps 54 = .ok (.aload_n 0, 1) := by decide +kernel
theorem dX8_keeps_55 : decode cX8_keeps 55 = .ok (.getfield 55, 3) := by decide +kernel
theorem dX8_keeps_58 : decode cX8_keeps 58 = .ok (.bipush 102, 2) := by decide +kernel
theorem dX8_keeps_60 : decode cX8_keeps 60 = .ok (.aload_n 0, 1) := by decide +kernel
theorem dX8_keeps_61 : decode cX8_keeps 61 = .ok (.iload_n 2, 1) := by decide +kernel
theorem dX8_keeps_62 : decode cX8_keeps 62 = .ok (.iconst 2, 1) := by decide +kernel
theorem dX8_keeps_63 : decode cX8_keeps 63 = .ok (.invokevirtual 98, 3) := by decide +kernel
theorem dX8_keeps_66 : decode cX8_keeps 66 = .ok (.iastore, 1) := by decide +kernel
theorem dX8_keeps_67 : decode cX8_keeps 67 = .ok (.aload_n 0, 1) := by decide +kernel
theorem dX8_keeps_68 : decode cX8_keeps 68 = .ok (.getfield 55, 3) := by decide +kernel
theorem dX8_keeps_71 : decode cX8_keeps 71 = .ok (.bipush 110, 2) := by decide +kernel
theorem dX8_keeps_73 : decode cX8_keeps 73 = .ok (.iload_n 3, 1) := by decide +kernel
theorem dX8_keeps_74 : decode cX8_keeps 74 = .ok (.iastore, 1) := by decide +kernel
theorem dX8_keeps_75 : decode cX8_keeps 75 = .ok (.aload_n 0, 1) := by decide +kernel
theorem dX8_keeps_76 : decode cX8_keeps 76 = .ok (.getfield 55, 3) := by decide +kernel
theorem dX8_keeps_79 : decode cX8_keeps 79 = .ok (.bipush 119, 2) := by decide +kernel
theorem dX8_keeps_81 : decode cX8_keeps 81 = .ok (.aload_n 0, 1) := by decide +kernel
theorem dX8_keeps_82 : decode cX8_keeps 82 = .ok (.iload_n 1, 1) := by decide +kernel
theorem dX8_keeps_83 : decode cX8_keeps 83 = .ok (.iconst 2, 1) := by decide +kernel
theorem dX8_keeps_84 : decode cX8_keeps 84 = .ok (.invokevirtual 91, 3) := by decide +kernel
theorem dX8_keeps_87 : decode cX8_keeps 87 = .ok (.iastore, 1) := by decide +kernel
theorem dX8_keeps_88 : decode cX8_keeps 88 = .ok (.aload_n 0, 1) := by decide +kernel
theorem dX8_keeps_89 : decode cX8_keeps 89 = .ok (.iload 5, 2) := by decide +kernel
theorem dX8_keeps_91 : decode cX8_keeps 91 = .ok (.invokevirtual 105, 3) := by decide +kernel
theorem dX8_keeps_94 : decode cX8_keeps 94 = .ok (.iconst 0, 1) := by decide +kernel
theorem dX8_keeps_95 : decode cX8_keeps 95 = .ok (.bipush 100, 2) := by decide +kernel
theorem dX8_keeps_97 : decode cX8_keeps 97 = .ok (.invokestatic 108, 3) := by decide +kernel
theorem dX8_keeps_100 : decode cX8_keeps 100 = .ok (.istore 4, 2) := by decide +kernel
theorem dX8_keeps_102 : decode cX8_keeps 102 = .ok (.iload 4, 2) := by decide +kernel
theorem dX8_keeps_104 : decode cX8_keeps 104 = .ok (.bipush 10, 2) := by decide +kernel
theorem dX8_keeps_106 : decode cX8_keeps 106 = .ok (.iadd, 1) := by decide +kernel
theorem dX8_keeps_107 : decode cX8_keeps 107 = .ok (.iconst 0, 1) := by decide +kernel
theorem dX8_keeps_108 : decode cX8_keeps 108 = .ok (.bipush 100, 2) := by decide +kernel
theorem dX8_keeps_110 : decode cX8_keeps 110 = .ok (.invokestatic 108, 3) := by decide +kernel
theorem dX8_keeps_113 : decode cX8_keeps 113 = .ok (.istore 6, 2) := by decide +kernel
theorem dX8_keeps_115 : decode cX8_keeps 115 = .ok (.iload 4, 2) := by decide +kernel
theorem dX8_keeps_117 : decode cX8_keeps 117 = .ok (.bipush 20, 2) := by decide +kernel
theorem dX8_keeps_119 : decode cX8_keeps 119 = .ok (.isub, 1) := by decide +kernel
theorem dX8_keeps_120 : decode cX8_keeps 120 = .ok (.iconst 0, 1) := by decide +kernel
theorem dX8_keeps_121 : decode cX8_keeps 121 = .ok (.bipush 100, 2) := by decide +kernel
theorem dX8_keeps_123 : decode cX8_keeps 123 = .ok (.invokestatic 108, 3) := by decide +kernel
theorem dX8_keeps_126 : decode cX8_keeps 126 = .ok (.istore 7, 2) := by decide +kernel
theorem dX8_keeps_128 : decode cX8_keeps 128 = .ok (.aload_n 0, 1) := by decide +kernel
theorem dX8_keeps_129 : decode cX8_keeps 129 = .ok (.iload_n 2, 1) := by decide +kernel
theorem dX8_keeps_130 : decode cX8_keeps 130 = .ok (.iconst 0, 1) := by decide +kernel
theorem dX8_keeps_131 : decode cX8_keeps 131 = .ok (.invokevirtual 98, 3) := by decide +kernel
theorem dX8_keeps_134 : decode cX8_keeps 134 = .ok (.tableswitch 59 1 5 #[34, 37, 40, 45, 57], 34) := by decide +kernel
theorem dX8_keeps_168 : decode cX8_keeps 168 = .ok (.iload 6, 2) := by decide +kernel
theorem dX8_keeps_170 : decode cX8_keeps 170 = .ok (.ireturn, 1) := by decide +kernel
theorem dX8_keeps_171 : decode cX8_keeps 171 = .ok (.iload 7, 2) := by decide +kernel
theorem dX8_keeps_173 : decode cX8_keeps 173 = .ok (.ireturn, 1) := by decide +kernel
theorem dX8_keeps_174 : decode cX8_keeps 174 = .ok (.iload 6, 2) := by decide +kernel
theorem dX8_keeps_176 : decode cX8_keeps 176 = .ok (.iconst 2, 1) := by decide +kernel
theorem dX8_keeps_177 : decode cX8_keeps 177 = .ok (.idiv, 1) := by decide +kernel
theorem dX8_keeps_178 : decode cX8_keeps 178 = .ok (.ireturn, 1) := by decide +kernel
theorem dX8_keeps_179 : decode cX8_keeps 179 = .ok (.iload 7, 2) := by decide +kernel
theorem dX8_keeps_181 : decode cX8_keeps 181 = .ok (.bipush 30, 2) := by decide +kernel
theorem dX8_keeps_183 : decode cX8_keeps 183 = .ok (.iadd, 1) := by decide +kernel
theorem dX8_keeps_184 : decode cX8_keeps 184 = .ok (.iconst 0, 1) := by decide +kernel
theorem dX8_keeps_185 : decode cX8_keeps 185 = .ok (.bipush 100, 2) := by decide +kernel
theorem dX8_keeps_187 : decode cX8_keeps 187 = .ok (.invokestatic 108, 3) := by decide +kernel
theorem dX8_keeps_190 : decode cX8_keeps 190 = .ok (.ireturn, 1) := by decide +kernel
theorem dX8_keeps_191 : decode cX8_keeps 191 = .ok (.iconst 0, 1) := by decide +kernel
theorem dX8_keeps_192 : decode cX8_keeps 192 = .ok (.ireturn, 1) := by decide +kernel
theorem dX8_keeps_193 : decode cX8_keeps 193 = .ok (.iload 4, 2) := by decide +kernel
theorem dX8_keeps_195 : decode cX8_keeps 195 = .ok (.ireturn, 1) := by decide +kernel
theorem dX8_noon_0 : decode cX8_noon 0 = .ok (.aload_n 0, 1) := by decide +kernel
theorem dX8_noon_1 : decode cX8_noon 1 = .ok (.iload_n 1, 1) := by decide +kernel
theorem dX8_noon_2 : decode cX8_noon 2 = .ok (.iconst 0, 1) := by decide +kernel
theorem dX8_noon_3 : decode cX8_noon 3 = .ok (.invokevirtual 98, 3) := by decide +kernel
theorem dX8_noon_6 : decode cX8_noon 6 = .ok (.iconst 1, 1) := by decide +kernel
theorem dX8_noon_7 : decode cX8_noon 7 = .ok (.if_icmp .ne 7, 3) := by decide +kernel
theorem dX8_noon_10 : decode cX8_noon 10 = .ok (.iconst 1, 1) := by decide +kernel
theorem dX8_noon_11 : decode cX8_noon 11 = .ok (.goto 19, 3) := by decide +kernel
theorem dX8_noon_14 : decode cX8_noon 14 = .ok (.aload_n 0, 1) := by decide +kernel
theorem dX8_noon_15 : decode cX8_noon 15 = .ok (.iload_n 1, 1) := by decide +kernel
theorem dX8_noon_16 : decode cX8_noon 16 = .ok (.iconst 0, 1) := by decide +kernel
theorem dX8_noon_17 : decode cX8_noon 17 = .ok (.invokevirtual 98, 3) := by decide +kernel
theorem dX8_noon_20 : decode cX8_noon 20 = .ok (.iconst 3, 1) := by decide +kernel
theorem dX8_noon_21 : decode cX8_noon 21 = .ok (.if_icmp .ne 8, 3) := by decide +kernel
theorem dX8_noon_24 : decode cX8_noon 24 = .ok (.bipush 7, 2) := by decide +kernel
theorem dX8_noon_26 : decode cX8_noon 26 = .ok (.goto 4, 3) := by decide +kernel
theorem dX8_noon_29 : decode cX8_noon 29 = .ok (.iconst 0, 1) := by decide +kernel
theorem dX8_noon_30 : decode cX8_noon 30 = .ok (.istore_n 2, 1) := by decide +kernel
theorem dX8_noon_31 : decode cX8_noon 31 = .ok (.bipush 12, 2) := by decide +kernel
theorem dX8_noon_33 : decode cX8_noon 33 = .ok (.aload_n 0, 1) := by decide +kernel
theorem dX8_noon_34 : decode cX8_noon 34 = .ok (.iload_n 1, 1) := by decide +kernel
theorem dX8_noon_35 : decode cX8_noon 35 = .ok (.iconst 1, 1) := by decide +kernel
theorem dX8_noon_36 : decode cX8_noon 36 = .ok (.invokevirtual 98, 3) := by decide +kernel
theorem dX8_noon_39 : decode cX8_noon 39 = .ok (.iadd, 1) := by decide +kernel
theorem dX8_noon_40 : decode cX8_noon 40 = .ok (.iload_n 2, 1) := by decide +kernel
theorem dX8_noon_41 : decode cX8_noon 41 = .ok (.iadd, 1) := by decide +kernel
theorem dX8_noon_42 : decode cX8_noon 42 = .ok (.bipush 24, 2) := by decide +kernel
theorem dX8_noon_44 : decode cX8_noon 44 = .ok (.irem, 1) := by decide +kernel
theorem dX8_noon_45 : decode cX8_noon 45 = .ok (.ireturn, 1) := by decide +kernel
theorem dX8_pays_0 : decode cX8_pays 0 = .ok (.aload_n 0, 1) := by decide +kernel
theorem dX8_pays_1 : decode cX8_pays 1 = .ok (.iload_n 1, 1) := by decide +kernel
theorem dX8_pays_2 : decode cX8_pays 2 = .ok (.iconst 0, 1) := by decide +kernel
theorem dX8_pays_3 : decode cX8_pays 3 = .ok (.invokevirtual 98, 3) := by decide +kernel
theorem dX8_pays_6 : decode cX8_pays 6 = .ok (.tableswitch 43 1 5 #[34, 36, 38, 36, 40], 34) := by decide +kernel
theorem dX8_pays_40 : decode cX8_pays 40 = .ok (.iconst 1, 1) := by decide +kernel
theorem dX8_pays_41 : decode cX8_pays 41 = .ok (.ireturn, 1) := by decide +kernel
theorem dX8_pays_42 : decode cX8_pays 42 = .ok (.iconst 0, 1) := by decide +kernel
theorem dX8_pays_43 : decode cX8_pays 43 = .ok (.ireturn, 1) := by decide +kernel
theorem dX8_pays_44 : decode cX8_pays 44 = .ok (.iconst 5, 1) := by decide +kernel
theorem dX8_pays_45 : decode cX8_pays 45 = .ok (.ireturn, 1) := by decide +kernel
theorem dX8_pays_46 : decode cX8_pays 46 = .ok (.bipush 9, 2) := by decide +kernel
theorem dX8_pays_48 : decode cX8_pays 48 = .ok (.ireturn, 1) := by decide +kernel
theorem dX8_pays_49 : decode cX8_pays 49 = .ok (.iconst 2, 1) := by decide +kernel
theorem dX8_pays_50 : decode cX8_pays 50 = .ok (.ireturn, 1) := by decide +kernel
theorem dX8_worth_0 : decode cX8_worth 0 = .ok (.aload_n 0, 1) := by decide +kernel
theorem dX8_worth_1 : decode cX8_worth 1 = .ok (.iload_n 1, 1) := by decide +kernel
theorem dX8_worth_2 : decode cX8_worth 2 = .ok (.iconst 2, 1) := by decide +kernel
theorem dX8_worth_3 : decode cX8_worth 3 = .ok (.invokevirtual 98, 3) := by decide +kernel
theorem dX8_worth_6 : decode cX8_worth 6 = .ok (.istore_n 2, 1) := by decide +kernel
theorem dX8_worth_7 : decode cX8_worth 7 = .ok (.aload_n 0, 1) := by decide +kernel
theorem dX8_worth_8 : decode cX8_worth 8 = .ok (.iload_n 1, 1) := by decide +kernel
theorem dX8_worth_9 : decode cX8_worth 9 = .ok (.iconst 0, 1) := by decide +kernel
theorem dX8_worth_10 : decode cX8_worth 10 = .ok (.invokevirtual 98, 3) := by decide +kernel
theorem dX8_worth_13 : decode cX8_worth 13 = .ok (.tableswitch 59 1 5 #[35, 40, 45, 52, 57], 35) := by decide +kernel
theorem dX8_worth_48 : decode cX8_worth 48 = .ok (.iload_n 2, 1) := by decide +kernel
theorem dX8_worth_49 : decode cX8_worth 49 = .ok (.bipush 6, 2) := by decide +kernel
theorem dX8_worth_51 : decode cX8_worth 51 = .ok (.iadd, 1) := by decide +kernel
theorem dX8_worth_52 : decode cX8_worth 52 = .ok (.ireturn, 1) := by decide +kernel
theorem dX8_worth_53 : decode cX8_worth 53 = .ok (.bipush 99, 2) := by decide +kernel
theorem dX8_worth_55 : decode cX8_worth 55 = .ok (.iload_n 2, 1) := by decide +kernel
theorem dX8_worth_56 : decode cX8_worth 56 = .ok (.isub, 1) := by decide +kernel
theorem dX8_worth_57 : decode cX8_worth 57 = .ok (.ireturn, 1) := by decide +kernel
theorem dX8_worth_58 : decode cX8_worth 58 = .ok (.iconst 2, 1) := by decide +kernel
theorem dX8_worth_59 : decode cX8_worth 59 = .ok (.iload_n 2, 1) := by decide +kernel
theorem dX8_worth_60 : decode cX8_worth 60 = .ok (.bipush 6, 2) := by decide +kernel
theorem dX8_worth_62 : decode cX8_worth 62 = .ok (.iadd, 1) := by decide +kernel
theorem dX8_worth_63 : decode cX8_worth 63 = .ok (.imul, 1) := by decide +kernel
theorem dX8_worth_64 : decode cX8_worth 64 = .ok (.ireturn, 1) := by decide +kernel
theorem dX8_worth_65 : decode cX8_worth 65 = .ok (.bipush 94, 2) := by decide +kernel
theorem dX8_worth_67 : decode cX8_worth 67 = .ok (.iload_n 2, 1) := by decide +kernel
theorem dX8_worth_68 : decode cX8_worth 68 = .ok (.isub, 1) := by decide +kernel
theorem dX8_worth_69 : decode cX8_worth 69 = .ok (.ireturn, 1) := by decide +kernel
theorem dX8_worth_70 : decode cX8_worth 70 = .ok (.iconst 1, 1) := by decide +kernel
theorem dX8_worth_71 : decode cX8_worth 71 = .ok (.ireturn, 1) := by decide +kernel
theorem dX8_worth_72 : decode cX8_worth 72 = .ok (.iload_n 2, 1) := by decide +kernel
theorem dX8_worth_73 : decode cX8_worth 73 = .ok (.ireturn, 1) := by decide +kernel
theorem dX8_told_0 : decode cX8_told 0 = .ok (.aload_n 0, 1) := by decide +kernel
theorem dX8_told_1 : decode cX8_told 1 = .ok (.iload_n 1, 1) := by decide +kernel
theorem dX8_told_2 : decode cX8_told 2 = .ok (.invokevirtual 112, 3) := by decide +kernel
theorem dX8_told_5 : decode cX8_told 5 = .ok (.ifCond .ne 6, 3) := by decide +kernel
theorem dX8_told_8 : decode cX8_told 8 = .ok (.ldc 86, 2) := by decide +kernel
theorem dX8_told_10 : decode cX8_told 10 = .ok (.ireturn, 1) := by decide +kernel
theorem dX8_told_11 : decode cX8_told 11 = .ok (.iload_n 2, 1) := by decide +kernel
theorem dX8_told_12 : decode cX8_told 12 = .ok (.tableswitch 91 0 8 #[52, 52, 52, 52, 59, 66, 73, 79, 85], 52) := by decide +kernel
theorem dX8_told_64 : decode cX8_told 64 = .ok (.aload_n 0, 1) := by decide +kernel
theorem dX8_told_65 : decode cX8_told 65 = .ok (.iload_n 1, 1) := by decide +kernel
theorem dX8_told_66 : decode cX8_told 66 = .ok (.iload_n 2, 1) := by decide +kernel
theorem dX8_told_67 : decode cX8_told 67 = .ok (.invokevirtual 98, 3) := by decide +kernel
theorem dX8_told_70 : decode cX8_told 70 = .ok (.ireturn, 1) := by decide +kernel
theorem dX8_told_71 : decode cX8_told 71 = .ok (.aload_n 0, 1) := by decide +kernel
theorem dX8_told_72 : decode cX8_told 72 = .ok (.iload_n 1, 1) := by decide +kernel
theorem dX8_told_73 : decode cX8_told 73 = .ok (.iconst 0, 1) := by decide +kernel
theorem dX8_told_74 : decode cX8_told 74 = .ok (.invokevirtual 95, 3) := by decide +kernel
theorem dX8_told_77 : decode cX8_told 77 = .ok (.ireturn, 1) := by decide +kernel
theorem dX8_told_78 : decode cX8_told 78 = .ok (.aload_n 0, 1) := by decide +kernel
theorem dX8_told_79 : decode cX8_told 79 = .ok (.iload_n 1, 1) := by decide +kernel
theorem dX8_told_80 : decode cX8_told 80 = .ok (.iconst 1, 1) := by decide +kernel
theorem dX8_told_81 : decode cX8_told 81 = .ok (.invokevirtual 95, 3) := by decide +kernel
theorem dX8_told_84 : decode cX8_told 84 = .ok (.ireturn, 1) := by decide +kernel
theorem dX8_told_85 : decode cX8_told 85 = .ok (.aload_n 0, 1) := by decide +kernel
theorem dX8_told_86 : decode cX8_told 86 = .ok (.iload_n 1, 1) := by decide +kernel
theorem dX8_told_87 : decode cX8_told 87 = .ok (.invokevirtual 116, 3) := by decide +kernel
theorem dX8_told_90 : decode cX8_told 90 = .ok (.ireturn, 1) := by decide +kernel
theorem dX8_told_91 : decode cX8_told 91 = .ok (.aload_n 0, 1) := by decide +kernel
theorem dX8_told_92 : decode cX8_told 92 = .ok (.iload_n 1, 1) := by decide +kernel
theorem dX8_told_93 : decode cX8_told 93 = .ok (.invokevirtual 119, 3) := by decide +kernel
theorem dX8_told_96 : decode cX8_told 96 = .ok (.ireturn, 1) := by decide +kernel
theorem dX8_told_97 : decode cX8_told 97 = .ok (.aload_n 0, 1) := by decide +kernel
theorem dX8_told_98 : decode cX8_told 98 = .ok (.iload_n 1, 1) := by decide +kernel
theorem dX8_told_99 : decode cX8_told 99 = .ok (.invokevirtual 122, 3) := by decide +kernel
theorem dX8_told_102 : decode cX8_told 102 = .ok (.ireturn, 1) := by decide +kernel
theorem dX8_told_103 : decode cX8_told 103 = .ok (.ldc 86, 2) := by decide +kernel
theorem dX8_told_105 : decode cX8_told 105 = .ok (.ireturn, 1) := by decide +kernel
theorem dX8_isOf_0 : decode cX8_isOf 0 = .ok (.iload_n 0, 1) := by decide +kernel
theorem dX8_isOf_1 : decode cX8_isOf 1 = .ok (.iload_n 1, 1) := by decide +kernel
theorem dX8_isOf_2 : decode cX8_isOf 2 = .ok (.if_icmp .eq 27, 3) := by decide +kernel
theorem dX8_isOf_5 : decode cX8_isOf 5 = .ok (.iload_n 1, 1) := by decide +kernel
theorem dX8_isOf_6 : decode cX8_isOf 6 = .ok (.ifCond .eq 23, 3) := by decide +kernel
theorem dX8_isOf_9 : decode cX8_isOf 9 = .ok (.iload_n 1, 1) := by decide +kernel
theorem dX8_isOf_10 : decode cX8_isOf 10 = .ok (.iconst 1, 1) := by decide +kernel
theorem dX8_isOf_11 : decode cX8_isOf 11 = .ok (.if_icmp .ne 8, 3) := by decide +kernel
theorem dX8_isOf_14 : decode cX8_isOf 14 = .ok (.iload_n 0, 1) := by decide +kernel
theorem dX8_isOf_15 : decode cX8_isOf 15 = .ok (.iconst 3, 1) := by decide +kernel
theorem dX8_isOf_16 : decode cX8_isOf 16 = .ok (.if_icmp .eq 13, 3) := by decide +kernel
theorem dX8_isOf_19 : decode cX8_isOf 19 = .ok (.iload_n 1, 1) := by decide +kernel
theorem dX8_isOf_20 : decode cX8_isOf 20 = .ok (.iconst 2, 1) := by decide +kernel
theorem dX8_isOf_21 : decode cX8_isOf 21 = .ok (.if_icmp .ne 12, 3) := by decide +kernel
theorem dX8_isOf_24 : decode cX8_isOf 24 = .ok (.iload_n 0, 1) := by decide +kernel
theorem dX8_isOf_25 : decode cX8_isOf 25 = .ok (.iconst 4, 1) := by decide +kernel
theorem dX8_isOf_26 : decode cX8_isOf 26 = .ok (.if_icmp .ne 7, 3) := by decide +kernel
theorem dX8_isOf_29 : decode cX8_isOf 29 = .ok (.iconst 1, 1) := by decide +kernel
theorem dX8_isOf_30 : decode cX8_isOf 30 = .ok (.goto 4, 3) := by decide +kernel
theorem dX8_isOf_33 : decode cX8_isOf 33 = .ok (.iconst 0, 1) := by decide +kernel
theorem dX8_isOf_34 : decode cX8_isOf 34 = .ok (.ireturn, 1) := by decide +kernel
theorem dX8_as_0 : decode cX8_as 0 = .ok (.aload_n 0, 1) := by decide +kernel
theorem dX8_as_1 : decode cX8_as 1 = .ok (.iload_n 1, 1) := by decide +kernel
theorem dX8_as_2 : decode cX8_as 2 = .ok (.invokevirtual 112, 3) := by decide +kernel
theorem dX8_as_5 : decode cX8_as 5 = .ok (.ifCond .eq 15, 3) := by decide +kernel
theorem dX8_as_8 : decode cX8_as 8 = .ok (.iload_n 2, 1) := by decide +kernel
theorem dX8_as_9 : decode cX8_as 9 = .ok (.i2l, 1) := by decide +kernel
theorem dX8_as_10 : decode cX8_as 10 = .ok (.lconst 0, 1) := by decide +kernel
theorem dX8_as_11 : decode cX8_as 11 = .ok (.ldc2_w 80, 3) := by decide +kernel
theorem dX8_as_14 : decode cX8_as 14 = .ok (.invokestatic 71, 3) := by decide +kernel
theorem dX8_as_17 : decode cX8_as 17 = .ok (.ifCond .ne 6, 3) := by decide +kernel
theorem dX8_as_20 : decode cX8_as 20 = .ok (.ldc 86, 2) := by decide +kernel
theorem dX8_as_22 : decode cX8_as 22 = .ok (.ireturn, 1) := by decide +kernel
theorem dX8_as_23 : decode cX8_as 23 = .ok (.aload_n 0, 1) := by decide +kernel
theorem dX8_as_24 : decode cX8_as 24 = .ok (.iload_n 1, 1) := by decide +kernel
theorem dX8_as_25 : decode cX8_as 25 = .ok (.iconst 0, 1) := by decide +kernel
theorem dX8_as_26 : decode cX8_as 26 = .ok (.invokevirtual 98, 3) := by decide +kernel
theorem dX8_as_29 : decode cX8_as 29 = .ok (.iload_n 2, 1) := by decide +kernel
theorem dX8_as_30 : decode cX8_as 30 = .ok (.invokestatic 125, 3) := by decide +kernel
theorem dX8_as_33 : decode cX8_as 33 = .ok (.ifCond .eq 12, 3) := by decide +kernel
theorem dX8_as_36 : decode cX8_as 36 = .ok (.aload_n 0, 1) := by decide +kernel
theorem dX8_as_37 : decode cX8_as 37 = .ok (.iload_n 1, 1) := by decide +kernel
theorem dX8_as_38 : decode cX8_as 38 = .ok (.iconst 2, 1) := by decide +kernel
theorem dX8_as_39 : decode cX8_as 39 = .ok (.invokevirtual 98, 3) := by decide +kernel
theorem dX8_as_42 : decode cX8_as 42 = .ok (.goto 5, 3) := by decide +kernel
theorem dX8_as_45 : decode cX8_as 45 = .ok (.ldc 129, 2) := by decide +kernel
theorem dX8_as_47 : decode cX8_as 47 = .ok (.ireturn, 1) := by decide +kernel
theorem dX8_turns_0 : decode cX8_turns 0 = .ok (.aload_n 0, 1) := by decide +kernel
theorem dX8_turns_1 : decode cX8_turns 1 = .ok (.iload_n 1, 1) := by decide +kernel
theorem dX8_turns_2 : decode cX8_turns 2 = .ok (.invokevirtual 112, 3) := by decide +kernel
theorem dX8_turns_5 : decode cX8_turns 5 = .ok (.ifCond .eq 29, 3) := by decide +kernel
theorem dX8_turns_8 : decode cX8_turns 8 = .ok (.iload_n 2, 1) := by decide +kernel
theorem dX8_turns_9 : decode cX8_turns 9 = .ok (.i2l, 1) := by decide +kernel
theorem dX8_turns_10 : decode cX8_turns 10 = .ok (.lconst 0, 1) := by decide +kernel
theorem dX8_turns_11 : decode cX8_turns 11 = .ok (.ldc2_w 80, 3) := by decide +kernel
theorem dX8_turns_14 : decode cX8_turns 14 = .ok (.invokestatic 71, 3) := by decide +kernel
theorem dX8_turns_17 : decode cX8_turns 17 = .ok (.ifCond .eq 17, 3) := by decide +kernel
theorem dX8_turns_20 : decode cX8_turns 20 = .ok (.aload_n 0, 1) := by decide +kernel
theorem dX8_turns_21 : decode cX8_turns 21 = .ok (.bipush 7, 2) := by decide +kernel
theorem dX8_turns_23 : decode cX8_turns 23 = .ok (.iconst 5, 1) := by decide +kernel
theorem dX8_turns_24 : decode cX8_turns 24 = .ok (.iload_n 1, 1) := by decide +kernel
theorem dX8_turns_25 : decode cX8_turns 25 = .ok (.imul, 1) := by decide +kernel
theorem dX8_turns_26 : decode cX8_turns 26 = .ok (.iadd, 1) := by decide +kernel
theorem dX8_turns_27 : decode cX8_turns 27 = .ok (.iload_n 2, 1) := by decide +kernel
theorem dX8_turns_28 : decode cX8_turns 28 = .ok (.invokevirtual 130, 3) := by decide +kernel
theorem dX8_turns_31 : decode cX8_turns 31 = .ok (.goto 5, 3) := by decide +kernel
theorem dX8_turns_34 : decode cX8_turns 34 = .ok (.ldc 86, 2) := by decide +kernel
theorem dX8_turns_36 : decode cX8_turns 36 = .ok (.ireturn, 1) := by decide +kernel
theorem dX8_set_0 : decode cX8_set 0 = .ok (.aload_n 0, 1) := by decide +kernel
theorem dX8_set_1 : decode cX8_set 1 = .ok (.iload_n 1, 1) := by decide +kernel
theorem dX8_set_2 : decode cX8_set 2 = .ok (.invokevirtual 112, 3) := by decide +kernel
theorem dX8_set_5 : decode cX8_set 5 = .ok (.ifCond .eq 60, 3) := by decide +kernel
theorem dX8_set_8 : decode cX8_set 8 = .ok (.iload_n 2, 1) := by decide +kernel
theorem dX8_set_9 : decode cX8_set 9 = .ok (.i2l, 1) := by decide +kernel
theorem dX8_set_10 : decode cX8_set 10 = .ok (.lconst 1, 1) := by decide +kernel
theorem dX8_set_11 : decode cX8_set 11 = .ok (.ldc2_w 133, 3) := by decide +kernel
theorem dX8_set_14 : decode cX8_set 14 = .ok (.invokestatic 71, 3) := by decide +kernel
theorem dX8_set_17 : decode cX8_set 17 = .ok (.ifCond .eq 48, 3) := by decide +kernel
theorem dX8_set_20 : decode cX8_set 20 = .ok (.iload_n 3, 1) := by decide +kernel
theorem dX8_set_21 : decode cX8_set 21 = .ok (.i2l, 1) := by decide +kernel
theorem dX8_set_22 : decode cX8_set 22 = .ok (.iload_n 2, 1) := by decide +kernel
theorem dX8_set_23 : decode cX8_set 23 = .ok (.iconst 3, 1) := by decide +kernel
theorem dX8_set_24 : decode cX8_set 24 = .ok (.if_icmp .ne 9, 3) := by decide +kernel
theorem dX8_set_27 : decode cX8_set 27 = .ok (.ldc2_w 135, 3) := by decide +kernel
theorem dX8_set_30 : decode cX8_set 30 = .ok (.goto 4, 3) := by decide +kernel
theorem dX8_set_33 : decode cX8_set 33 = .ok (.lconst 0, 1) := by decide +kernel
theorem dX8_set_34 : decode cX8_set 34 = .ok (.iload_n 2, 1) := by decide +kernel
theorem dX8_set_35 : decode cX8_set 35 = .ok (.iconst 1, 1) := by decide +kernel
theorem dX8_set_36 : decode cX8_set 36 = .ok (.if_icmp .ne 9, 3) := by decide +kernel
theorem dX8_set_39 : decode cX8_set 39 = .ok (.ldc2_w 82, 3) := by decide +kernel
theorem dX8_set_42 : decode cX8_set 42 = .ok (.goto 17, 3) := by decide +kernel
theorem dX8_set_45 : decode cX8_set 45 = .ok (.iload_n 2, 1) := by decide +kernel
theorem dX8_set_46 : decode cX8_set 46 = .ok (.iconst 2, 1) := by decide +kernel
theorem dX8_set_47 : decode cX8_set 47 = .ok (.if_icmp .ne 9, 3) := by decide +kernel
theorem dX8_set_50 : decode cX8_set 50 = .ok (.ldc2_w 84, 3) := by decide +kernel
theorem dX8_set_53 : decode cX8_set 53 = .ok (.goto 6, 3) := by decide +kernel
theorem dX8_set_56 : decode cX8_set 56 = .ok (.ldc2_w 137, 3) := by decide +kernel
theorem dX8_set_59 : decode cX8_set 59 = .ok (.invokestatic 71, 3) := by decide +kernel
theorem dX8_set_62 : decode cX8_set 62 = .ok (.ifCond .ne 6, 3) := by decide +kernel
theorem dX8_set_65 : decode cX8_set 65 = .ok (.ldc 86, 2) := by decide +kernel
theorem dX8_set_67 : decode cX8_set 67 = .ok (.ireturn, 1) := by decide +kernel
theorem dX8_set_68 : decode cX8_set 68 = .ok (.aload_n 0, 1) := by decide +kernel
theorem dX8_set_69 : decode cX8_set 69 = .ok (.bipush 7, 2) := by decide +kernel
theorem dX8_set_71 : decode cX8_set 71 = .ok (.iconst 5, 1) := by decide +kernel
theorem dX8_set_72 : decode cX8_set 72 = .ok (.iload_n 1, 1) := by decide +kernel
theorem dX8_set_73 : decode cX8_set 73 = .ok (.imul, 1) := by decide +kernel
theorem dX8_set_74 : decode cX8_set 74 = .ok (.iadd, 1) := by decide +kernel
theorem dX8_set_75 : decode cX8_set 75 = .ok (.iload_n 2, 1) := by decide +kernel
theorem dX8_set_76 : decode cX8_set 76 = .ok (.iadd, 1) := by decide +kernel
theorem dX8_set_77 : decode cX8_set 77 = .ok (.iload_n 3, 1) := by decide +kernel
theorem dX8_set_78 : decode cX8_set 78 = .ok (.invokevirtual 130, 3) := by decide +kernel
theorem dX8_set_81 : decode cX8_set 81 = .ok (.ireturn, 1) := by decide +kernel
theorem dX8_gives_0 : decode cX8_gives 0 = .ok (.bipush 57, 2) := by decide +kernel
theorem dX8_gives_2 : decode cX8_gives 2 = .ok (.iconst 3, 1) := by decide +kernel
theorem dX8_gives_3 : decode cX8_gives 3 = .ok (.aload_n 0, 1) := by decide +kernel
theorem dX8_gives_4 : decode cX8_gives 4 = .ok (.getfield 7, 3) := by decide +kernel
theorem dX8_gives_7 : decode cX8_gives 7 = .ok (.iconst 3, 1) := by decide +kernel
theorem dX8_gives_8 : decode cX8_gives 8 = .ok (.iaload, 1) := by decide +kernel
theorem dX8_gives_9 : decode cX8_gives 9 = .ok (.imul, 1) := by decide +kernel
theorem dX8_gives_10 : decode cX8_gives 10 = .ok (.iadd, 1) := by decide +kernel
theorem dX8_gives_11 : decode cX8_gives 11 = .ok (.istore 4, 2) := by decide +kernel
theorem dX8_gives_13 : decode cX8_gives 13 = .ok (.aload_n 0, 1) := by decide +kernel
theorem dX8_gives_14 : decode cX8_gives 14 = .ok (.getfield 7, 3) := by decide +kernel
theorem dX8_gives_17 : decode cX8_gives 17 = .ok (.iload 4, 2) := by decide +kernel
theorem dX8_gives_19 : decode cX8_gives 19 = .ok (.iconst 0, 1) := by decide +kernel
theorem dX8_gives_20 : decode cX8_gives 20 = .ok (.iadd, 1) := by decide +kernel
theorem dX8_gives_21 : decode cX8_gives 21 = .ok (.iload_n 1, 1) := by decide +kernel
theorem dX8_gives_22 : decode cX8_gives 22 = .ok (.iastore, 1) := by decide +kernel
theorem dX8_gives_23 : decode cX8_gives 23 = .ok (.aload_n 0, 1) := by decide +kernel
theorem dX8_gives_24 : decode cX8_gives 24 = .ok (.getfield 7, 3) := by decide +kernel
theorem dX8_gives_27 : decode cX8_gives 27 = .ok (.iload 4, 2) := by decide +kernel
theorem dX8_gives_29 : decode cX8_gives 29 = .ok (.iconst 1, 1) := by decide +kernel
theorem dX8_gives_30 : decode cX8_gives 30 = .ok (.iadd, 1) := by decide +kernel
theorem dX8_gives_31 : decode cX8_gives 31 = .ok (.iload_n 2, 1) := by decide +kernel
theorem dX8_gives_32 : decode cX8_gives 32 = .ok (.iastore, 1) := by decide +kernel
theorem dX8_gives_33 : decode cX8_gives 33 = .ok (.aload_n 0, 1) := by decide +kernel
theorem dX8_gives_34 : decode cX8_gives 34 = .ok (.getfield 7, 3) := by decide +kernel
theorem dX8_gives_37 : decode cX8_gives 37 = .ok (.iload 4, 2) := by decide +kernel
theorem dX8_gives_39 : decode cX8_gives 39 = .ok (.iconst 2, 1) := by decide +kernel
theorem dX8_gives_40 : decode cX8_gives 40 = .ok (.iadd, 1) := by decide +kernel
theorem dX8_gives_41 : decode cX8_gives 41 = .ok (.iload_n 3, 1) := by decide +kernel
theorem dX8_gives_42 : decode cX8_gives 42 = .ok (.iastore, 1) := by decide +kernel
theorem dX8_gives_43 : decode cX8_gives 43 = .ok (.aload_n 0, 1) := by decide +kernel
theorem dX8_gives_44 : decode cX8_gives 44 = .ok (.getfield 7, 3) := by decide +kernel
theorem dX8_gives_47 : decode cX8_gives 47 = .ok (.iconst 3, 1) := by decide +kernel
theorem dX8_gives_48 : decode cX8_gives 48 = .ok (.dup2, 1) := by decide +kernel
theorem dX8_gives_49 : decode cX8_gives 49 = .ok (.iaload, 1) := by decide +kernel
theorem dX8_gives_50 : decode cX8_gives 50 = .ok (.iconst 1, 1) := by decide +kernel
theorem dX8_gives_51 : decode cX8_gives 51 = .ok (.iadd, 1) := by decide +kernel
theorem dX8_gives_52 : decode cX8_gives 52 = .ok (.iastore, 1) := by decide +kernel
theorem dX8_gives_53 : decode cX8_gives 53 = .ok (.return_, 1) := by decide +kernel
theorem dX8_goes_0 : decode cX8_goes 0 = .ok (.bipush 57, 2) := by decide +kernel
theorem dX8_goes_2 : decode cX8_goes 2 = .ok (.iconst 3, 1) := by decide +kernel
theorem dX8_goes_3 : decode cX8_goes 3 = .ok (.aload_n 0, 1) := by decide +kernel
theorem dX8_goes_4 : decode cX8_goes 4 = .ok (.getfield 7, 3) := by decide +kernel
theorem dX8_goes_7 : decode cX8_goes 7 = .ok (.iconst 3, 1) := by decide +kernel
theorem dX8_goes_8 : decode cX8_goes 8 = .ok (.iaload, 1) := by decide +kernel
theorem dX8_goes_9 : decode cX8_goes 9 = .ok (.iconst 1, 1) := by decide +kernel
theorem dX8_goes_10 : decode cX8_goes 10 = .ok (.isub, 1) := by decide +kernel
theorem dX8_goes_11 : decode cX8_goes 11 = .ok (.imul, 1) := by decide +kernel
theorem dX8_goes_12 : decode cX8_goes 12 = .ok (.iadd, 1) := by decide +kernel
theorem dX8_goes_13 : decode cX8_goes 13 = .ok (.istore_n 2, 1) := by decide +kernel
theorem dX8_goes_14 : decode cX8_goes 14 = .ok (.bipush 57, 2) := by decide +kernel
theorem dX8_goes_16 : decode cX8_goes 16 = .ok (.iconst 3, 1) := by decide +kernel
theorem dX8_goes_17 : decode cX8_goes 17 = .ok (.iload_n 1, 1) := by decide +kernel
theorem dX8_goes_18 : decode cX8_goes 18 = .ok (.imul, 1) := by decide +kernel
theorem dX8_goes_19 : decode cX8_goes 19 = .ok (.iadd, 1) := by decide +kernel
theorem dX8_goes_20 : decode cX8_goes 20 = .ok (.istore_n 3, 1) := by decide +kernel
theorem dX8_goes_21 : decode cX8_goes 21 = .ok (.iload_n 3, 1) := by decide +kernel
theorem dX8_goes_22 : decode cX8_goes 22 = .ok (.iload_n 2, 1) := by decide +kernel
theorem dX8_goes_23 : decode cX8_goes 23 = .ok (.if_icmp .ge 23, 3) := by decide +kernel
theorem dX8_goes_26 : decode cX8_goes 26 = .ok (.aload_n 0, 1) := by decide +kernel
theorem dX8_goes_27 : decode cX8_goes 27 = .ok (.getfield 7, 3) := by decide +kernel
theorem dX8_goes_30 : decode cX8_goes 30 = .ok (.iload_n 3, 1) := by decide +kernel
theorem dX8_goes_31 : decode cX8_goes 31 = .ok (.aload_n 0, 1) := by decide +kernel
theorem dX8_goes_32 : decode cX8_goes 32 = .ok (.getfield 7, 3) := by decide +kernel
theorem dX8_goes_35 : decode cX8_goes 35 = .ok (.iload_n 3, 1) := by decide +kernel
theorem dX8_goes_36 : decode cX8_goes 36 = .ok (.iconst 3, 1) := by decide +kernel
theorem dX8_goes_37 : decode cX8_goes 37 = .ok (.iadd, 1) := by decide +kernel
theorem dX8_goes_38 : decode cX8_goes 38 = .ok (.iaload, 1) := by decide +kernel
theorem dX8_goes_39 : decode cX8_goes 39 = .ok (.iastore, 1) := by decide +kernel
theorem dX8_goes_40 : decode cX8_goes 40 = .ok (.iinc 3 1, 3) := by decide +kernel
theorem dX8_goes_43 : decode cX8_goes 43 = .ok (.goto (-22), 3) := by decide +kernel
theorem dX8_goes_46 : decode cX8_goes 46 = .ok (.aload_n 0, 1) := by decide +kernel
theorem dX8_goes_47 : decode cX8_goes 47 = .ok (.getfield 7, 3) := by decide +kernel
theorem dX8_goes_50 : decode cX8_goes 50 = .ok (.iconst 3, 1) := by decide +kernel
theorem dX8_goes_51 : decode cX8_goes 51 = .ok (.dup2, 1) := by decide +kernel
theorem dX8_goes_52 : decode cX8_goes 52 = .ok (.iaload, 1) := by decide +kernel
theorem dX8_goes_53 : decode cX8_goes 53 = .ok (.iconst 1, 1) := by decide +kernel
theorem dX8_goes_54 : decode cX8_goes 54 = .ok (.isub, 1) := by decide +kernel
theorem dX8_goes_55 : decode cX8_goes 55 = .ok (.iastore, 1) := by decide +kernel
theorem dX8_goes_56 : decode cX8_goes 56 = .ok (.aload_n 0, 1) := by decide +kernel
theorem dX8_goes_57 : decode cX8_goes 57 = .ok (.getfield 7, 3) := by decide +kernel
theorem dX8_goes_60 : decode cX8_goes 60 = .ok (.iconst 5, 1) := by decide +kernel
theorem dX8_goes_61 : decode cX8_goes 61 = .ok (.dup2, 1) := by decide +kernel
theorem dX8_goes_62 : decode cX8_goes 62 = .ok (.iaload, 1) := by decide +kernel
theorem dX8_goes_63 : decode cX8_goes 63 = .ok (.iconst 1, 1) := by decide +kernel
theorem dX8_goes_64 : decode cX8_goes 64 = .ok (.iadd, 1) := by decide +kernel
theorem dX8_goes_65 : decode cX8_goes 65 = .ok (.iastore, 1) := by decide +kernel
theorem dX8_goes_66 : decode cX8_goes 66 = .ok (.return_, 1) := by decide +kernel
theorem dX8_strikes_0 : decode cX8_strikes 0 = .ok (.aload_n 0, 1) := by decide +kernel
theorem dX8_strikes_1 : decode cX8_strikes 1 = .ok (.iload_n 1, 1) := by decide +kernel
theorem dX8_strikes_2 : decode cX8_strikes 2 = .ok (.iconst 0, 1) := by decide +kernel
theorem dX8_strikes_3 : decode cX8_strikes 3 = .ok (.iconst 5, 1) := by decide +kernel
theorem dX8_strikes_4 : decode cX8_strikes 4 = .ok (.invokevirtual 76, 3) := by decide +kernel
theorem dX8_strikes_7 : decode cX8_strikes 7 = .ok (.aload_n 0, 1) := by decide +kernel
theorem dX8_strikes_8 : decode cX8_strikes 8 = .ok (.getfield 7, 3) := by decide +kernel
theorem dX8_strikes_11 : decode cX8_strikes 11 = .ok (.iconst 3, 1) := by decide +kernel
theorem dX8_strikes_12 : decode cX8_strikes 12 = .ok (.iaload, 1) := by decide +kernel
theorem dX8_strikes_13 : decode cX8_strikes 13 = .ok (.iconst 1, 1) := by decide +kernel
theorem dX8_strikes_14 : decode cX8_strikes 14 = .ok (.isub, 1) := by decide +kernel
theorem dX8_strikes_15 : decode cX8_strikes 15 = .ok (.istore_n 2, 1) := by decide +kernel
theorem dX8_strikes_16 : decode cX8_strikes 16 = .ok (.iload_n 2, 1) := by decide +kernel
theorem dX8_strikes_17 : decode cX8_strikes 17 = .ok (.ifCond .lt 24, 3) := by decide +kernel
theorem dX8_strikes_20 : decode cX8_strikes 20 = .ok (.aload_n 0, 1) := by decide +kernel
theorem dX8_strikes_21 : decode cX8_strikes 21 = .ok (.iload_n 2, 1) := by decide +kernel
theorem dX8_strikes_22 : decode cX8_strikes 22 = .ok (.iconst 0, 1) := by decide +kernel
theorem dX8_strikes_23 : decode cX8_strikes 23 = .ok (.invokevirtual 91, 3) := by decide +kernel
theorem dX8_strikes_26 : decode cX8_strikes 26 = .ok (.iload_n 1, 1) := by decide +kernel
theorem dX8_strikes_27 : decode cX8_strikes 27 = .ok (.if_icmp .ne 8, 3) := by decide +kernel
theorem dX8_strikes_30 : decode cX8_strikes 30 = .ok (.aload_n 0, 1) := by decide +kernel
theorem dX8_strikes_31 : decode cX8_strikes 31 = .ok (.iload_n 2, 1) := by decide +kernel
theorem dX8_strikes_32 : decode cX8_strikes 32 = .ok (.invokevirtual 139, 3) := by decide +kernel
theorem dX8_strikes_35 : decode cX8_strikes 35 = .ok (.iinc 2 (-1), 3) := by decide +kernel
theorem dX8_strikes_38 : decode cX8_strikes 38 = .ok (.goto (-22), 3) := by decide +kernel
theorem dX8_strikes_41 : decode cX8_strikes 41 = .ok (.return_, 1) := by decide +kernel
theorem dX8_vow_0 : decode cX8_vow 0 = .ok (.aload_n 0, 1) := by decide +kernel
theorem dX8_vow_1 : decode cX8_vow 1 = .ok (.iload_n 1, 1) := by decide +kernel
theorem dX8_vow_2 : decode cX8_vow 2 = .ok (.invokevirtual 112, 3) := by decide +kernel
theorem dX8_vow_5 : decode cX8_vow 5 = .ok (.ifCond .eq 28, 3) := by decide +kernel
theorem dX8_vow_8 : decode cX8_vow 8 = .ok (.aload_n 0, 1) := by decide +kernel
theorem dX8_vow_9 : decode cX8_vow 9 = .ok (.iload_n 2, 1) := by decide +kernel
theorem dX8_vow_10 : decode cX8_vow 10 = .ok (.invokevirtual 112, 3) := by decide +kernel
theorem dX8_vow_13 : decode cX8_vow 13 = .ok (.ifCond .eq 20, 3) := by decide +kernel
theorem dX8_vow_16 : decode cX8_vow 16 = .ok (.iload_n 1, 1) := by decide +kernel
theorem dX8_vow_17 : decode cX8_vow 17 = .ok (.iload_n 2, 1) := by decide +kernel
theorem dX8_vow_18 : decode cX8_vow 18 = .ok (.if_icmp .eq 15, 3) := by decide +kernel
theorem dX8_vow_21 : decode cX8_vow 21 = .ok (.iload_n 3, 1) := by decide +kernel
theorem dX8_vow_22 : decode cX8_vow 22 = .ok (.i2l, 1) := by decide +kernel
theorem dX8_vow_23 : decode cX8_vow 23 = .ok (.lconst 0, 1) := by decide +kernel
theorem dX8_vow_24 : decode cX8_vow 24 = .ok (.ldc2_w 143, 3) := by decide +kernel
theorem dX8_vow_27 : decode cX8_vow 27 = .ok (.invokestatic 71, 3) := by decide +kernel
theorem dX8_vow_30 : decode cX8_vow 30 = .ok (.ifCond .ne 6, 3) := by decide +kernel
theorem dX8_vow_33 : decode cX8_vow 33 = .ok (.ldc 86, 2) := by decide +kernel
theorem dX8_vow_35 : decode cX8_vow 35 = .ok (.ireturn, 1) := by decide +kernel
theorem dX8_vow_36 : decode cX8_vow 36 = .ok (.aload_n 0, 1) := by decide +kernel
theorem dX8_vow_37 : decode cX8_vow 37 = .ok (.iload_n 1, 1) := by decide +kernel
theorem dX8_vow_38 : decode cX8_vow 38 = .ok (.iconst 0, 1) := by decide +kernel
theorem dX8_vow_39 : decode cX8_vow 39 = .ok (.invokevirtual 98, 3) := by decide +kernel
theorem dX8_vow_42 : decode cX8_vow 42 = .ok (.iconst 5, 1) := by decide +kernel
theorem dX8_vow_43 : decode cX8_vow 43 = .ok (.if_icmp .ne 6, 3) := by decide +kernel
theorem dX8_vow_46 : decode cX8_vow 46 = .ok (.ldc 145, 2) := by decide +kernel
theorem dX8_vow_48 : decode cX8_vow 48 = .ok (.ireturn, 1) := by decide +kernel
theorem dX8_vow_49 : decode cX8_vow 49 = .ok (.aload_n 0, 1) := by decide +kernel
theorem dX8_vow_50 : decode cX8_vow 50 = .ok (.iload_n 1, 1) := by decide +kernel
theorem dX8_vow_51 : decode cX8_vow 51 = .ok (.iconst 4, 1) := by decide +kernel
theorem dX8_vow_52 : decode cX8_vow 52 = .ok (.invokevirtual 98, 3) := by decide +kernel
theorem dX8_vow_55 : decode cX8_vow 55 = .ok (.aload_n 0, 1) := by decide +kernel
theorem dX8_vow_56 : decode cX8_vow 56 = .ok (.getfield 7, 3) := by decide +kernel
theorem dX8_vow_59 : decode cX8_vow 59 = .ok (.iconst 2, 1) := by decide +kernel
theorem dX8_vow_60 : decode cX8_vow 60 = .ok (.iaload, 1) := by decide +kernel
theorem dX8_vow_61 : decode cX8_vow 61 = .ok (.if_icmp .ne 11, 3) := by decide +kernel
theorem dX8_vow_64 : decode cX8_vow 64 = .ok (.aload_n 0, 1) := by decide +kernel
theorem dX8_vow_65 : decode cX8_vow 65 = .ok (.iload_n 1, 1) := by decide +kernel
theorem dX8_vow_66 : decode cX8_vow 66 = .ok (.invokevirtual 146, 3) := by decide +kernel
theorem dX8_vow_69 : decode cX8_vow 69 = .ok (.ldc 70, 2) := by decide +kernel
theorem dX8_vow_71 : decode cX8_vow 71 = .ok (.ireturn, 1) := by decide +kernel
theorem dX8_vow_72 : decode cX8_vow 72 = .ok (.aload_n 0, 1) := by decide +kernel
theorem dX8_vow_73 : decode cX8_vow 73 = .ok (.getfield 7, 3) := by decide +kernel
theorem dX8_vow_76 : decode cX8_vow 76 = .ok (.iconst 3, 1) := by decide +kernel
theorem dX8_vow_77 : decode cX8_vow 77 = .ok (.iaload, 1) := by decide +kernel
theorem dX8_vow_78 : decode cX8_vow 78 = .ok (.bipush 16, 2) := by decide +kernel
theorem dX8_vow_80 : decode cX8_vow 80 = .ok (.if_icmp .ne 6, 3) := by decide +kernel
theorem dX8_vow_83 : decode cX8_vow 83 = .ok (.ldc 87, 2) := by decide +kernel
theorem dX8_vow_85 : decode cX8_vow 85 = .ok (.ireturn, 1) := by decide +kernel
theorem dX8_vow_86 : decode cX8_vow 86 = .ok (.aload_n 0, 1) := by decide +kernel
theorem dX8_vow_87 : decode cX8_vow 87 = .ok (.iload_n 1, 1) := by decide +kernel
theorem dX8_vow_88 : decode cX8_vow 88 = .ok (.iload_n 2, 1) := by decide +kernel
theorem dX8_vow_89 : decode cX8_vow 89 = .ok (.iload_n 3, 1) := by decide +kernel
theorem dX8_vow_90 : decode cX8_vow 90 = .ok (.invokevirtual 149, 3) := by decide +kernel
theorem dX8_vow_93 : decode cX8_vow 93 = .ok (.aload_n 0, 1) := by decide +kernel
theorem dX8_vow_94 : decode cX8_vow 94 = .ok (.iload_n 1, 1) := by decide +kernel
theorem dX8_vow_95 : decode cX8_vow 95 = .ok (.iconst 4, 1) := by decide +kernel
theorem dX8_vow_96 : decode cX8_vow 96 = .ok (.aload_n 0, 1) := by decide +kernel
theorem dX8_vow_97 : decode cX8_vow 97 = .ok (.getfield 7, 3) := by decide +kernel
theorem dX8_vow_100 : decode cX8_vow 100 = .ok (.iconst 2, 1) := by decide +kernel
theorem dX8_vow_101 : decode cX8_vow 101 = .ok (.iaload, 1) := by decide +kernel
theorem dX8_vow_102 : decode cX8_vow 102 = .ok (.invokevirtual 76, 3) := by decide +kernel
theorem dX8_vow_105 : decode cX8_vow 105 = .ok (.aload_n 0, 1) := by decide +kernel
theorem dX8_vow_106 : decode cX8_vow 106 = .ok (.getfield 7, 3) := by decide +kernel
theorem dX8_vow_109 : decode cX8_vow 109 = .ok (.iconst 3, 1) := by decide +kernel
theorem dX8_vow_110 : decode cX8_vow 110 = .ok (.iaload, 1) := by decide +kernel
theorem dX8_vow_111 : decode cX8_vow 111 = .ok (.iconst 1, 1) := by decide +kernel
theorem dX8_vow_112 : decode cX8_vow 112 = .ok (.isub, 1) := by decide +kernel
theorem dX8_vow_113 : decode cX8_vow 113 = .ok (.ireturn, 1) := by decide +kernel
theorem dX8_vowOf_0 : decode cX8_vowOf 0 = .ok (.aload_n 0, 1) := by decide +kernel
theorem dX8_vowOf_1 : decode cX8_vowOf 1 = .ok (.iload_n 1, 1) := by decide +kernel
theorem dX8_vowOf_2 : decode cX8_vowOf 2 = .ok (.invokevirtual 152, 3) := by decide +kernel
theorem dX8_vowOf_5 : decode cX8_vowOf 5 = .ok (.ifCond .eq 15, 3) := by decide +kernel
theorem dX8_vowOf_8 : decode cX8_vowOf 8 = .ok (.iload_n 2, 1) := by decide +kernel
theorem dX8_vowOf_9 : decode cX8_vowOf 9 = .ok (.i2l, 1) := by decide +kernel
theorem dX8_vowOf_10 : decode cX8_vowOf 10 = .ok (.lconst 0, 1) := by decide +kernel
theorem dX8_vowOf_11 : decode cX8_vowOf 11 = .ok (.ldc2_w 133, 3) := by decide +kernel
theorem dX8_vowOf_14 : decode cX8_vowOf 14 = .ok (.invokestatic 71, 3) := by decide +kernel
theorem dX8_vowOf_17 : decode cX8_vowOf 17 = .ok (.ifCond .ne 6, 3) := by decide +kernel
theorem dX8_vowOf_20 : decode cX8_vowOf 20 = .ok (.ldc 86, 2) := by decide +kernel
theorem dX8_vowOf_22 : decode cX8_vowOf 22 = .ok (.ireturn, 1) := by decide +kernel
theorem dX8_vowOf_23 : decode cX8_vowOf 23 = .ok (.iload_n 2, 1) := by decide +kernel
theorem dX8_vowOf_24 : decode cX8_vowOf 24 = .ok (.iconst 3, 1) := by decide +kernel
theorem dX8_vowOf_25 : decode cX8_vowOf 25 = .ok (.if_icmp .ne 11, 3) := by decide +kernel
theorem dX8_vowOf_28 : decode cX8_vowOf 28 = .ok (.aload_n 0, 1) := by decide +kernel
theorem dX8_vowOf_29 : decode cX8_vowOf 29 = .ok (.iload_n 1, 1) := by decide +kernel
theorem dX8_vowOf_30 : decode cX8_vowOf 30 = .ok (.invokevirtual 155, 3) := by decide +kernel
theorem dX8_vowOf_33 : decode cX8_vowOf 33 = .ok (.goto 9, 3) := by decide +kernel
theorem dX8_vowOf_36 : decode cX8_vowOf 36 = .ok (.aload_n 0, 1) := by decide +kernel
theorem dX8_vowOf_37 : decode cX8_vowOf 37 = .ok (.iload_n 1, 1) := by decide +kernel
theorem dX8_vowOf_38 : decode cX8_vowOf 38 = .ok (.iload_n 2, 1) := by decide +kernel
theorem dX8_vowOf_39 : decode cX8_vowOf 39 = .ok (.invokevirtual 91, 3) := by decide +kernel
theorem dX8_vowOf_42 : decode cX8_vowOf 42 = .ok (.ireturn, 1) := by decide +kernel
theorem dX8_breaks_0 : decode cX8_breaks 0 = .ok (.aload_n 0, 1) := by decide +kernel
theorem dX8_breaks_1 : decode cX8_breaks 1 = .ok (.iload_n 1, 1) := by decide +kernel
theorem dX8_breaks_2 : decode cX8_breaks 2 = .ok (.invokevirtual 152, 3) := by decide +kernel
theorem dX8_breaks_5 : decode cX8_breaks 5 = .ok (.ifCond .ne 6, 3) := by decide +kernel
theorem dX8_breaks_8 : decode cX8_breaks 8 = .ok (.ldc 86, 2) := by decide +kernel
theorem dX8_breaks_10 : decode cX8_breaks 10 = .ok (.ireturn, 1) := by decide +kernel
theorem dX8_breaks_11 : decode cX8_breaks 11 = .ok (.aload_n 0, 1) := by decide +kernel
theorem dX8_breaks_12 : decode cX8_breaks 12 = .ok (.iload_n 1, 1) := by decide +kernel
theorem dX8_breaks_13 : decode cX8_breaks 13 = .ok (.invokevirtual 139, 3) := by decide +kernel
theorem dX8_breaks_16 : decode cX8_breaks 16 = .ok (.aload_n 0, 1) := by decide +kernel
theorem dX8_breaks_17 : decode cX8_breaks 17 = .ok (.getfield 7, 3) := by decide +kernel
theorem dX8_breaks_20 : decode cX8_breaks 20 = .ok (.iconst 3, 1) := by decide +kernel
theorem dX8_breaks_21 : decode cX8_breaks 21 = .ok (.iaload, 1) := by decide +kernel
theorem dX8_breaks_22 : decode cX8_breaks 22 = .ok (.ireturn, 1) := by decide +kernel
theorem dX8_eclipse_0 : decode cX8_eclipse 0 = .ok (.aload_n 0, 1) := by decide +kernel
theorem dX8_eclipse_1 : decode cX8_eclipse 1 = .ok (.getfield 7, 3) := by decide +kernel
theorem dX8_eclipse_4 : decode cX8_eclipse 4 = .ok (.iconst 3, 1) := by decide +kernel
theorem dX8_eclipse_5 : decode cX8_eclipse 5 = .ok (.iaload, 1) := by decide +kernel
theorem dX8_eclipse_6 : decode cX8_eclipse 6 = .ok (.istore_n 1, 1) := by decide +kernel
theorem dX8_eclipse_7 : decode cX8_eclipse 7 = .ok (.aload_n 0, 1) := by decide +kernel
theorem dX8_eclipse_8 : decode cX8_eclipse 8 = .ok (.getfield 7, 3) := by decide +kernel
theorem dX8_eclipse_11 : decode cX8_eclipse 11 = .ok (.iconst 3, 1) := by decide +kernel
theorem dX8_eclipse_12 : decode cX8_eclipse 12 = .ok (.iconst 0, 1) := by decide +kernel
theorem dX8_eclipse_13 : decode cX8_eclipse 13 = .ok (.iastore, 1) := by decide +kernel
theorem dX8_eclipse_14 : decode cX8_eclipse 14 = .ok (.aload_n 0, 1) := by decide +kernel
theorem dX8_eclipse_15 : decode cX8_eclipse 15 = .ok (.getfield 7, 3) := by decide +kernel
theorem dX8_eclipse_18 : decode cX8_eclipse 18 = .ok (.iconst 5, 1) := by decide +kernel
theorem dX8_eclipse_19 : decode cX8_eclipse 19 = .ok (.dup2, 1) := by decide +kernel
theorem dX8_eclipse_20 : decode cX8_eclipse 20 = .ok (.iaload, 1) := by decide +kernel
theorem dX8_eclipse_21 : decode cX8_eclipse 21 = .ok (.iload_n 1, 1) := by decide +kernel
theorem dX8_eclipse_22 : decode cX8_eclipse 22 = .ok (.iadd, 1) := by decide +kernel
theorem dX8_eclipse_23 : decode cX8_eclipse 23 = .ok (.iastore, 1) := by decide +kernel
theorem dX8_eclipse_24 : decode cX8_eclipse 24 = .ok (.iload_n 1, 1) := by decide +kernel
theorem dX8_eclipse_25 : decode cX8_eclipse 25 = .ok (.ireturn, 1) := by decide +kernel
theorem dX8_deal_0 : decode cX8_deal 0 = .ok (.iload_n 1, 1) := by decide +kernel
theorem dX8_deal_1 : decode cX8_deal 1 = .ok (.i2l, 1) := by decide +kernel
theorem dX8_deal_2 : decode cX8_deal 2 = .ok (.lconst 1, 1) := by decide +kernel
theorem dX8_deal_3 : decode cX8_deal 3 = .ok (.ldc2_w 158, 3) := by decide +kernel
theorem dX8_deal_6 : decode cX8_deal 6 = .ok (.invokestatic 71, 3) := by decide +kernel
theorem dX8_deal_9 : decode cX8_deal 9 = .ok (.ifCond .ne 6, 3) := by decide +kernel
theorem dX8_deal_12 : decode cX8_deal 12 = .ok (.ldc 86, 2) := by decide +kernel
theorem dX8_deal_14 : decode cX8_deal 14 = .ok (.ireturn, 1) := by decide +kernel
theorem dX8_deal_15 : decode cX8_deal 15 = .ok (.iconst 0, 1) := by decide +kernel
theorem dX8_deal_16 : decode cX8_deal 16 = .ok (.istore_n 2, 1) := by decide +kernel
theorem dX8_deal_17 : decode cX8_deal 17 = .ok (.iload_n 2, 1) := by decide +kernel
theorem dX8_deal_18 : decode cX8_deal 18 = .ok (.iload_n 1, 1) := by decide +kernel
theorem dX8_deal_19 : decode cX8_deal 19 = .ok (.if_icmp .ge 51, 3) := by decide +kernel
theorem dX8_deal_22 : decode cX8_deal 22 = .ok (.aload_n 0, 1) := by decide +kernel
theorem dX8_deal_23 : decode cX8_deal 23 = .ok (.getfield 7, 3) := by decide +kernel
theorem dX8_deal_26 : decode cX8_deal 26 = .ok (.iconst 0, 1) := by decide +kernel
theorem dX8_deal_27 : decode cX8_deal 27 = .ok (.iaload, 1) := by decide +kernel
theorem dX8_deal_28 : decode cX8_deal 28 = .ok (.bipush 10, 2) := by decide +kernel
theorem dX8_deal_30 : decode cX8_deal 30 = .ok (.if_icmp .ge 40, 3) := by decide +kernel
theorem dX8_deal_33 : decode cX8_deal 33 = .ok (.aload_n 0, 1) := by decide +kernel
theorem dX8_deal_34 : decode cX8_deal 34 = .ok (.invokevirtual 160, 3) := by decide +kernel
theorem dX8_deal_37 : decode cX8_deal 37 = .ok (.bipush 6, 2) := by decide +kernel
theorem dX8_deal_39 : decode cX8_deal 39 = .ok (.irem, 1) := by decide +kernel
theorem dX8_deal_40 : decode cX8_deal 40 = .ok (.istore_n 3, 1) := by decide +kernel
theorem dX8_deal_41 : decode cX8_deal 41 = .ok (.aload_n 0, 1) := by decide +kernel
theorem dX8_deal_42 : decode cX8_deal 42 = .ok (.invokevirtual 160, 3) := by decide +kernel
theorem dX8_deal_45 : decode cX8_deal 45 = .ok (.bipush 24, 2) := by decide +kernel
theorem dX8_deal_47 : decode cX8_deal 47 = .ok (.irem, 1) := by decide +kernel
theorem dX8_deal_48 : decode cX8_deal 48 = .ok (.istore 4, 2) := by decide +kernel
theorem dX8_deal_50 : decode cX8_deal 50 = .ok (.aload_n 0, 1) := by decide +kernel
theorem dX8_deal_51 : decode cX8_deal 51 = .ok (.iload_n 3, 1) := by decide +kernel
theorem dX8_deal_52 : decode cX8_deal 52 = .ok (.iload 4, 2) := by decide +kernel
theorem dX8_deal_54 : decode cX8_deal 54 = .ok (.aload_n 0, 1) := by decide +kernel
theorem dX8_deal_55 : decode cX8_deal 55 = .ok (.invokevirtual 160, 3) := by decide +kernel
theorem dX8_deal_58 : decode cX8_deal 58 = .ok (.bipush 100, 2) := by decide +kernel
theorem dX8_deal_60 : decode cX8_deal 60 = .ok (.irem, 1) := by decide +kernel
theorem dX8_deal_61 : decode cX8_deal 61 = .ok (.invokevirtual 88, 3) := by decide +kernel
theorem dX8_deal_64 : decode cX8_deal 64 = .ok (.iinc 2 1, 3) := by decide +kernel
theorem dX8_deal_67 : decode cX8_deal 67 = .ok (.goto (-50), 3) := by decide +kernel
theorem dX8_deal_70 : decode cX8_deal 70 = .ok (.iload_n 2, 1) := by decide +kernel
theorem dX8_deal_71 : decode cX8_deal 71 = .ok (.ireturn, 1) := by decide +kernel
theorem dX8_seed_0 : decode cX8_seed 0 = .ok (.aload_n 0, 1) := by decide +kernel
theorem dX8_seed_1 : decode cX8_seed 1 = .ok (.bipush 6, 2) := by decide +kernel
theorem dX8_seed_3 : decode cX8_seed 3 = .ok (.iload_n 1, 1) := by decide +kernel
theorem dX8_seed_4 : decode cX8_seed 4 = .ok (.invokevirtual 130, 3) := by decide +kernel
theorem dX8_seed_7 : decode cX8_seed 7 = .ok (.ireturn, 1) := by decide +kernel
theorem dX8_earns_0 : decode cX8_earns 0 = .ok (.aload_n 0, 1) := by decide +kernel
theorem dX8_earns_1 : decode cX8_earns 1 = .ok (.iload_n 1, 1) := by decide +kernel
theorem dX8_earns_2 : decode cX8_earns 2 = .ok (.iconst 3, 1) := by decide +kernel
theorem dX8_earns_3 : decode cX8_earns 3 = .ok (.aload_n 0, 1) := by decide +kernel
theorem dX8_earns_4 : decode cX8_earns 4 = .ok (.iload_n 1, 1) := by decide +kernel
theorem dX8_earns_5 : decode cX8_earns 5 = .ok (.iconst 3, 1) := by decide +kernel
theorem dX8_earns_6 : decode cX8_earns 6 = .ok (.invokevirtual 98, 3) := by decide +kernel
theorem dX8_earns_9 : decode cX8_earns 9 = .ok (.iload_n 2, 1) := by decide +kernel
theorem dX8_earns_10 : decode cX8_earns 10 = .ok (.iadd, 1) := by decide +kernel
theorem dX8_earns_11 : decode cX8_earns 11 = .ok (.sipush (-9999), 3) := by decide +kernel
theorem dX8_earns_14 : decode cX8_earns 14 = .ok (.sipush 9999, 3) := by decide +kernel
theorem dX8_earns_17 : decode cX8_earns 17 = .ok (.invokestatic 108, 3) := by decide +kernel
theorem dX8_earns_20 : decode cX8_earns 20 = .ok (.invokevirtual 76, 3) := by decide +kernel
theorem dX8_earns_23 : decode cX8_earns 23 = .ok (.return_, 1) := by decide +kernel
theorem dX8_goesOn_0 : decode cX8_goesOn 0 = .ok (.aload_n 0, 1) := by decide +kernel
theorem dX8_goesOn_1 : decode cX8_goesOn 1 = .ok (.getfield 7, 3) := by decide +kernel
theorem dX8_goesOn_4 : decode cX8_goesOn 4 = .ok (.iconst 2, 1) := by decide +kernel
theorem dX8_goesOn_5 : decode cX8_goesOn 5 = .ok (.dup2, 1) := by decide +kernel
theorem dX8_goesOn_6 : decode cX8_goesOn 6 = .ok (.iaload, 1) := by decide +kernel
theorem dX8_goesOn_7 : decode cX8_goesOn 7 = .ok (.iconst 1, 1) := by decide +kernel
theorem dX8_goesOn_8 : decode cX8_goesOn 8 = .ok (.iadd, 1) := by decide +kernel
theorem dX8_goesOn_9 : decode cX8_goesOn 9 = .ok (.iastore, 1) := by decide +kernel
theorem dX8_goesOn_10 : decode cX8_goesOn 10 = .ok (.iconst 0, 1) := by decide +kernel
theorem dX8_goesOn_11 : decode cX8_goesOn 11 = .ok (.istore_n 1, 1) := by decide +kernel
theorem dX8_goesOn_12 : decode cX8_goesOn 12 = .ok (.iload_n 1, 1) := by decide +kernel
theorem dX8_goesOn_13 : decode cX8_goesOn 13 = .ok (.aload_n 0, 1) := by decide +kernel
theorem dX8_goesOn_14 : decode cX8_goesOn 14 = .ok (.getfield 7, 3) := by decide +kernel
theorem dX8_goesOn_17 : decode cX8_goesOn 17 = .ok (.iconst 3, 1) := by decide +kernel
theorem dX8_goesOn_18 : decode cX8_goesOn 18 = .ok (.iaload, 1) := by decide +kernel
theorem dX8_goesOn_19 : decode cX8_goesOn 19 = .ok (.if_icmp .ge 82, 3) := by decide +kernel
theorem dX8_goesOn_22 : decode cX8_goesOn 22 = .ok (.aload_n 0, 1) := by decide +kernel
theorem dX8_goesOn_23 : decode cX8_goesOn 23 = .ok (.aload_n 0, 1) := by decide +kernel
theorem dX8_goesOn_24 : decode cX8_goesOn 24 = .ok (.iload_n 1, 1) := by decide +kernel
theorem dX8_goesOn_25 : decode cX8_goesOn 25 = .ok (.iconst 0, 1) := by decide +kernel
theorem dX8_goesOn_26 : decode cX8_goesOn 26 = .ok (.invokevirtual 91, 3) := by decide +kernel
theorem dX8_goesOn_29 : decode cX8_goesOn 29 = .ok (.invokevirtual 116, 3) := by decide +kernel
theorem dX8_goesOn_32 : decode cX8_goesOn 32 = .ok (.aload_n 0, 1) := by decide +kernel
theorem dX8_goesOn_33 : decode cX8_goesOn 33 = .ok (.getfield 7, 3) := by decide +kernel
theorem dX8_goesOn_36 : decode cX8_goesOn 36 = .ok (.iconst 2, 1) := by decide +kernel
theorem dX8_goesOn_37 : decode cX8_goesOn 37 = .ok (.iaload, 1) := by decide +kernel
theorem dX8_goesOn_38 : decode cX8_goesOn 38 = .ok (.bipush 24, 2) := by decide +kernel
theorem dX8_goesOn_40 : decode cX8_goesOn 40 = .ok (.irem, 1) := by decide +kernel
theorem dX8_goesOn_41 : decode cX8_goesOn 41 = .ok (.if_icmp .ne 7, 3) := by decide +kernel
theorem dX8_goesOn_44 : decode cX8_goesOn 44 = .ok (.iconst 1, 1) := by decide +kernel
theorem dX8_goesOn_45 : decode cX8_goesOn 45 = .ok (.goto 4, 3) := by decide +kernel
theorem dX8_goesOn_48 : decode cX8_goesOn 48 = .ok (.iconst 0, 1) := by decide +kernel
theorem dX8_goesOn_49 : decode cX8_goesOn 49 = .ok (.istore_n 2, 1) := by decide +kernel
theorem dX8_goesOn_50 : decode cX8_goesOn 50 = .ok (.iload_n 2, 1) := by decide +kernel
theorem dX8_goesOn_51 : decode cX8_goesOn 51 = .ok (.ifCond .eq 26, 3) := by decide +kernel
theorem dX8_goesOn_54 : decode cX8_goesOn 54 = .ok (.aload_n 0, 1) := by decide +kernel
theorem dX8_goesOn_55 : decode cX8_goesOn 55 = .ok (.invokevirtual 160, 3) := by decide +kernel
theorem dX8_goesOn_58 : decode cX8_goesOn 58 = .ok (.bipush 100, 2) := by decide +kernel
theorem dX8_goesOn_60 : decode cX8_goesOn 60 = .ok (.irem, 1) := by decide +kernel
theorem dX8_goesOn_61 : decode cX8_goesOn 61 = .ok (.aload_n 0, 1) := by decide +kernel
theorem dX8_goesOn_62 : decode cX8_goesOn 62 = .ok (.iload_n 1, 1) := by decide +kernel
theorem dX8_goesOn_63 : decode cX8_goesOn 63 = .ok (.invokevirtual 155, 3) := by decide +kernel
theorem dX8_goesOn_66 : decode cX8_goesOn 66 = .ok (.if_icmp .lt 11, 3) := by decide +kernel
theorem dX8_goesOn_69 : decode cX8_goesOn 69 = .ok (.aload_n 0, 1) := by decide +kernel
theorem dX8_goesOn_70 : decode cX8_goesOn 70 = .ok (.iload_n 1, 1) := by decide +kernel
theorem dX8_goesOn_71 : decode cX8_goesOn 71 = .ok (.invokevirtual 139, 3) := by decide +kernel
theorem dX8_goesOn_74 : decode cX8_goesOn 74 = .ok (.goto 24, 3) := by decide +kernel
theorem dX8_goesOn_77 : decode cX8_goesOn 77 = .ok (.aload_n 0, 1) := by decide +kernel
theorem dX8_goesOn_78 : decode cX8_goesOn 78 = .ok (.getfield 7, 3) := by decide +kernel
theorem dX8_goesOn_81 : decode cX8_goesOn 81 = .ok (.iconst 4, 1) := by decide +kernel
theorem dX8_goesOn_82 : decode cX8_goesOn 82 = .ok (.dup2, 1) := by decide +kernel
theorem dX8_goesOn_83 : decode cX8_goesOn 83 = .ok (.iaload, 1) := by decide +kernel
theorem dX8_goesOn_84 : decode cX8_goesOn 84 = .ok (.iload_n 2, 1) := by decide +kernel
theorem dX8_goesOn_85 : decode cX8_goesOn 85 = .ok (.ifCond .eq 7, 3) := by decide +kernel
theorem dX8_goesOn_88 : decode cX8_goesOn 88 = .ok (.iconst 1, 1) := by decide +kernel
theorem dX8_goesOn_89 : decode cX8_goesOn 89 = .ok (.goto 4, 3) := by decide +kernel
theorem dX8_goesOn_92 : decode cX8_goesOn 92 = .ok (.iconst 0, 1) := by decide +kernel
theorem dX8_goesOn_93 : decode cX8_goesOn 93 = .ok (.iadd, 1) := by decide +kernel
theorem dX8_goesOn_94 : decode cX8_goesOn 94 = .ok (.iastore, 1) := by decide +kernel
theorem dX8_goesOn_95 : decode cX8_goesOn 95 = .ok (.iinc 1 1, 3) := by decide +kernel
theorem dX8_goesOn_98 : decode cX8_goesOn 98 = .ok (.goto (-86), 3) := by decide +kernel
theorem dX8_goesOn_101 : decode cX8_goesOn 101 = .ok (.iconst 0, 1) := by decide +kernel
theorem dX8_goesOn_102 : decode cX8_goesOn 102 = .ok (.istore_n 1, 1) := by decide +kernel
theorem dX8_goesOn_103 : decode cX8_goesOn 103 = .ok (.iload_n 1, 1) := by decide +kernel
theorem dX8_goesOn_104 : decode cX8_goesOn 104 = .ok (.aload_n 0, 1) := by decide +kernel
theorem dX8_goesOn_105 : decode cX8_goesOn 105 = .ok (.getfield 7, 3) := by decide +kernel
theorem dX8_goesOn_108 : decode cX8_goesOn 108 = .ok (.iconst 3, 1) := by decide +kernel
theorem dX8_goesOn_109 : decode cX8_goesOn 109 = .ok (.iaload, 1) := by decide +kernel
theorem dX8_goesOn_110 : decode cX8_goesOn 110 = .ok (.if_icmp .ge 53, 3) := by decide +kernel
theorem dX8_goesOn_113 : decode cX8_goesOn 113 = .ok (.aload_n 0, 1) := by decide +kernel
theorem dX8_goesOn_114 : decode cX8_goesOn 114 = .ok (.iload_n 1, 1) := by decide +kernel
theorem dX8_goesOn_115 : decode cX8_goesOn 115 = .ok (.iconst 2, 1) := by decide +kernel
theorem dX8_goesOn_116 : decode cX8_goesOn 116 = .ok (.invokevirtual 91, 3) := by decide +kernel
theorem dX8_goesOn_119 : decode cX8_goesOn 119 = .ok (.iconst 2, 1) := by decide +kernel
theorem dX8_goesOn_120 : decode cX8_goesOn 120 = .ok (.if_icmp .ne 37, 3) := by decide +kernel
theorem dX8_goesOn_123 : decode cX8_goesOn 123 = .ok (.aload_n 0, 1) := by decide +kernel
theorem dX8_goesOn_124 : decode cX8_goesOn 124 = .ok (.aload_n 0, 1) := by decide +kernel
theorem dX8_goesOn_125 : decode cX8_goesOn 125 = .ok (.iload_n 1, 1) := by decide +kernel
theorem dX8_goesOn_126 : decode cX8_goesOn 126 = .ok (.iconst 0, 1) := by decide +kernel
theorem dX8_goesOn_127 : decode cX8_goesOn 127 = .ok (.invokevirtual 91, 3) := by decide +kernel
theorem dX8_goesOn_130 : decode cX8_goesOn 130 = .ok (.invokevirtual 119, 3) := by decide +kernel
theorem dX8_goesOn_133 : decode cX8_goesOn 133 = .ok (.istore_n 2, 1) := by decide +kernel
theorem dX8_goesOn_134 : decode cX8_goesOn 134 = .ok (.aload_n 0, 1) := by decide +kernel
theorem dX8_goesOn_135 : decode cX8_goesOn 135 = .ok (.aload_n 0, 1) := by decide +kernel
theorem dX8_goesOn_136 : decode cX8_goesOn 136 = .ok (.iload_n 1, 1) := by decide +kernel
theorem dX8_goesOn_137 : decode cX8_goesOn 137 = .ok (.iconst 0, 1) := by decide +kernel
theorem dX8_goesOn_138 : decode cX8_goesOn 138 = .ok (.invokevirtual 91, 3) := by decide +kernel
theorem dX8_goesOn_141 : decode cX8_goesOn 141 = .ok (.iload_n 2, 1) := by decide +kernel
theorem dX8_goesOn_142 : decode cX8_goesOn 142 = .ok (.ineg, 1) := by decide +kernel
theorem dX8_goesOn_143 : decode cX8_goesOn 143 = .ok (.invokevirtual 164, 3) := by decide +kernel
theorem dX8_goesOn_146 : decode cX8_goesOn 146 = .ok (.aload_n 0, 1) := by decide +kernel
theorem dX8_goesOn_147 : decode cX8_goesOn 147 = .ok (.aload_n 0, 1) := by decide +kernel
theorem dX8_goesOn_148 : decode cX8_goesOn 148 = .ok (.iload_n 1, 1) := by decide +kernel
theorem dX8_goesOn_149 : decode cX8_goesOn 149 = .ok (.iconst 1, 1) := by decide +kernel
theorem dX8_goesOn_150 : decode cX8_goesOn 150 = .ok (.invokevirtual 91, 3) := by decide +kernel
theorem dX8_goesOn_153 : decode cX8_goesOn 153 = .ok (.iload_n 2, 1) := by decide +kernel
theorem dX8_goesOn_154 : decode cX8_goesOn 154 = .ok (.invokevirtual 164, 3) := by decide +kernel
theorem dX8_goesOn_157 : decode cX8_goesOn 157 = .ok (.iinc 1 1, 3) := by decide +kernel
theorem dX8_goesOn_160 : decode cX8_goesOn 160 = .ok (.goto (-57), 3) := by decide +kernel
theorem dX8_goesOn_163 : decode cX8_goesOn 163 = .ok (.return_, 1) := by decide +kernel
theorem dX8_goesOnMany_0 : decode cX8_goesOnMany 0 = .ok (.iconst 0, 1) := by decide +kernel
theorem dX8_goesOnMany_1 : decode cX8_goesOnMany 1 = .ok (.istore_n 2, 1) := by decide +kernel
theorem dX8_goesOnMany_2 : decode cX8_goesOnMany 2 = .ok (.iload_n 2, 1) := by decide +kernel
theorem dX8_goesOnMany_3 : decode cX8_goesOnMany 3 = .ok (.iload_n 1, 1) := by decide +kernel
theorem dX8_goesOnMany_4 : decode cX8_goesOnMany 4 = .ok (.if_icmp .ge 13, 3) := by decide +kernel
theorem dX8_goesOnMany_7 : decode cX8_goesOnMany 7 = .ok (.aload_n 0, 1) := by decide +kernel
theorem dX8_goesOnMany_8 : decode cX8_goesOnMany 8 = .ok (.invokevirtual 168, 3) := by decide +kernel
theorem dX8_goesOnMany_11 : decode cX8_goesOnMany 11 = .ok (.iinc 2 1, 3) := by decide +kernel
theorem dX8_goesOnMany_14 : decode cX8_goesOnMany 14 = .ok (.goto (-12), 3) := by decide +kernel
theorem dX8_goesOnMany_17 : decode cX8_goesOnMany 17 = .ok (.return_, 1) := by decide +kernel
theorem dX8_hours_0 : decode cX8_hours 0 = .ok (.iload_n 1, 1) := by decide +kernel
theorem dX8_hours_1 : decode cX8_hours 1 = .ok (.i2l, 1) := by decide +kernel
theorem dX8_hours_2 : decode cX8_hours 2 = .ok (.lconst 1, 1) := by decide +kernel
theorem dX8_hours_3 : decode cX8_hours 3 = .ok (.ldc2_w 171, 3) := by decide +kernel
theorem dX8_hours_6 : decode cX8_hours 6 = .ok (.invokestatic 71, 3) := by decide +kernel
theorem dX8_hours_9 : decode cX8_hours 9 = .ok (.ifCond .ne 6, 3) := by decide +kernel
theorem dX8_hours_12 : decode cX8_hours 12 = .ok (.ldc 86, 2) := by decide +kernel
theorem dX8_hours_14 : decode cX8_hours 14 = .ok (.ireturn, 1) := by decide +kernel
theorem dX8_hours_15 : decode cX8_hours 15 = .ok (.aload_n 0, 1) := by decide +kernel
theorem dX8_hours_16 : decode cX8_hours 16 = .ok (.getfield 7, 3) := by decide +kernel
theorem dX8_hours_19 : decode cX8_hours 19 = .ok (.iconst 5, 1) := by decide +kernel
theorem dX8_hours_20 : decode cX8_hours 20 = .ok (.iaload, 1) := by decide +kernel
theorem dX8_hours_21 : decode cX8_hours 21 = .ok (.istore_n 2, 1) := by decide +kernel
theorem dX8_hours_22 : decode cX8_hours 22 = .ok (.iconst 0, 1) := by decide +kernel
theorem dX8_hours_23 : decode cX8_hours 23 = .ok (.istore_n 3, 1) := by decide +kernel
theorem dX8_hours_24 : decode cX8_hours 24 = .ok (.iload_n 3, 1) := by decide +kernel
theorem dX8_hours_25 : decode cX8_hours 25 = .ok (.iload_n 1, 1) := by decide +kernel
theorem dX8_hours_26 : decode cX8_hours 26 = .ok (.if_icmp .ge 25, 3) := by decide +kernel
theorem dX8_hours_29 : decode cX8_hours 29 = .ok (.aload_n 0, 1) := by decide +kernel
theorem dX8_hours_30 : decode cX8_hours 30 = .ok (.getfield 7, 3) := by decide +kernel
theorem dX8_hours_33 : decode cX8_hours 33 = .ok (.iconst 2, 1) := by decide +kernel
theorem dX8_hours_34 : decode cX8_hours 34 = .ok (.iaload, 1) := by decide +kernel
theorem dX8_hours_35 : decode cX8_hours 35 = .ok (.sipush 9999, 3) := by decide +kernel
theorem dX8_hours_38 : decode cX8_hours 38 = .ok (.if_icmp .ge 13, 3) := by decide +kernel
theorem dX8_hours_41 : decode cX8_hours 41 = .ok (.aload_n 0, 1) := by decide +kernel
theorem dX8_hours_42 : decode cX8_hours 42 = .ok (.invokevirtual 168, 3) := by decide +kernel
theorem dX8_hours_45 : decode cX8_hours 45 = .ok (.iinc 3 1, 3) := by decide +kernel
theorem dX8_hours_48 : decode cX8_hours 48 = .ok (.goto (-24), 3) := by decide +kernel
theorem dX8_hours_51 : decode cX8_hours 51 = .ok (.aload_n 0, 1) := by decide +kernel
theorem dX8_hours_52 : decode cX8_hours 52 = .ok (.getfield 7, 3) := by decide +kernel
theorem dX8_hours_55 : decode cX8_hours 55 = .ok (.iconst 5, 1) := by decide +kernel
theorem dX8_hours_56 : decode cX8_hours 56 = .ok (.iaload, 1) := by decide +kernel
theorem dX8_hours_57 : decode cX8_hours 57 = .ok (.iload_n 2, 1) := by decide +kernel
theorem dX8_hours_58 : decode cX8_hours 58 = .ok (.isub, 1) := by decide +kernel
theorem dX8_hours_59 : decode cX8_hours 59 = .ok (.ireturn, 1) := by decide +kernel
theorem dX8_setBy_0 : decode cX8_setBy 0 = .ok (.iconst 0, 1) := by decide +kernel
theorem dX8_setBy_1 : decode cX8_setBy 1 = .ok (.istore_n 2, 1) := by decide +kernel
theorem dX8_setBy_2 : decode cX8_setBy 2 = .ok (.iconst 0, 1) := by decide +kernel
theorem dX8_setBy_3 : decode cX8_setBy 3 = .ok (.istore_n 3, 1) := by decide +kernel
theorem dX8_setBy_4 : decode cX8_setBy 4 = .ok (.iload_n 3, 1) := by decide +kernel
theorem dX8_setBy_5 : decode cX8_setBy 5 = .ok (.aload_n 0, 1) := by decide +kernel
theorem dX8_setBy_6 : decode cX8_setBy 6 = .ok (.getfield 7, 3) := by decide +kernel
theorem dX8_setBy_9 : decode cX8_setBy 9 = .ok (.iconst 3, 1) := by decide +kernel
theorem dX8_setBy_10 : decode cX8_setBy 10 = .ok (.iaload, 1) := by decide +kernel
theorem dX8_setBy_11 : decode cX8_setBy 11 = .ok (.if_icmp .ge 20, 3) := by decide +kernel
theorem dX8_setBy_14 : decode cX8_setBy 14 = .ok (.iload_n 2, 1) := by decide +kernel
theorem dX8_setBy_15 : decode cX8_setBy 15 = .ok (.iconst 1, 1) := by decide +kernel
theorem dX8_setBy_16 : decode cX8_setBy 16 = .ok (.aload_n 0, 1) := by decide +kernel
theorem dX8_setBy_17 : decode cX8_setBy 17 = .ok (.iload_n 3, 1) := by decide +kernel
theorem dX8_setBy_18 : decode cX8_setBy 18 = .ok (.iload_n 1, 1) := by decide +kernel
theorem dX8_setBy_19 : decode cX8_setBy 19 = .ok (.invokevirtual 91, 3) := by decide +kernel
theorem dX8_setBy_22 : decode cX8_setBy 22 = .ok (.ishl, 1) := by decide +kernel
theorem dX8_setBy_23 : decode cX8_setBy 23 = .ok (.ior, 1) := by decide +kernel
theorem dX8_setBy_24 : decode cX8_setBy 24 = .ok (.istore_n 2, 1) := by decide +kernel
theorem dX8_setBy_25 : decode cX8_setBy 25 = .ok (.iinc 3 1, 3) := by decide +kernel
theorem dX8_setBy_28 : decode cX8_setBy 28 = .ok (.goto (-24), 3) := by decide +kernel
theorem dX8_setBy_31 : decode cX8_setBy 31 = .ok (.iload_n 2, 1) := by decide +kernel
theorem dX8_setBy_32 : decode cX8_setBy 32 = .ok (.ireturn, 1) := by decide +kernel
theorem dX8_findSworn_0 : decode cX8_findSworn 0 = .ok (.iconst 0, 1) := by decide +kernel
theorem dX8_findSworn_1 : decode cX8_findSworn 1 = .ok (.istore_n 1, 1) := by decide +kernel
theorem dX8_findSworn_2 : decode cX8_findSworn 2 = .ok (.iload_n 1, 1) := by decide +kernel
theorem dX8_findSworn_3 : decode cX8_findSworn 3 = .ok (.aload_n 0, 1) := by decide +kernel
theorem dX8_findSworn_4 : decode cX8_findSworn 4 = .ok (.getfield 7, 3) := by decide +kernel
theorem dX8_findSworn_7 : decode cX8_findSworn 7 = .ok (.iconst 0, 1) := by decide +kernel
theorem dX8_findSworn_8 : decode cX8_findSworn 8 = .ok (.iaload, 1) := by decide +kernel
theorem dX8_findSworn_9 : decode cX8_findSworn 9 = .ok (.if_icmp .ge 16, 3) := by decide +kernel
theorem dX8_findSworn_12 : decode cX8_findSworn 12 = .ok (.aload_n 0, 1) := by decide +kernel
theorem dX8_findSworn_13 : decode cX8_findSworn 13 = .ok (.getfield 43, 3) := by decide +kernel
theorem dX8_findSworn_16 : decode cX8_findSworn 16 = .ok (.iload_n 1, 1) := by decide +kernel
theorem dX8_findSworn_17 : decode cX8_findSworn 17 = .ok (.iconst 0, 1) := by decide +kernel
theorem dX8_findSworn_18 : decode cX8_findSworn 18 = .ok (.iastore, 1) := by decide +kernel
theorem dX8_findSworn_19 : decode cX8_findSworn 19 = .ok (.iinc 1 1, 3) := by decide +kernel
theorem dX8_findSworn_22 : decode cX8_findSworn 22 = .ok (.goto (-20), 3) := by decide +kernel
theorem dX8_findSworn_25 : decode cX8_findSworn 25 = .ok (.iconst 0, 1) := by decide +kernel
theorem dX8_findSworn_26 : decode cX8_findSworn 26 = .ok (.istore_n 1, 1) := by decide +kernel
theorem dX8_findSworn_27 : decode cX8_findSworn 27 = .ok (.iload_n 1, 1) := by decide +kernel
theorem dX8_findSworn_28 : decode cX8_findSworn 28 = .ok (.aload_n 0, 1) := by decide +kernel
theorem dX8_findSworn_29 : decode cX8_findSworn 29 = .ok (.getfield 7, 3) := by decide +kernel
theorem dX8_findSworn_32 : decode cX8_findSworn 32 = .ok (.iconst 3, 1) := by decide +kernel
theorem dX8_findSworn_33 : decode cX8_findSworn 33 = .ok (.iaload, 1) := by decide +kernel
theorem dX8_findSworn_34 : decode cX8_findSworn 34 = .ok (.if_icmp .ge 31, 3) := by decide +kernel
theorem dX8_findSworn_37 : decode cX8_findSworn 37 = .ok (.aload_n 0, 1) := by decide +kernel
theorem dX8_findSworn_38 : decode cX8_findSworn 38 = .ok (.getfield 43, 3) := by decide +kernel
theorem dX8_findSworn_41 : decode cX8_findSworn 41 = .ok (.aload_n 0, 1) := by decide +kernel
theorem dX8_findSworn_42 : decode cX8_findSworn 42 = .ok (.iload_n 1, 1) := by decide +kernel
theorem dX8_findSworn_43 : decode cX8_findSworn 43 = .ok (.iconst 0, 1) := by decide +kernel
theorem dX8_findSworn_44 : decode cX8_findSworn 44 = .ok (.invokevirtual 91, 3) := by decide +kernel
theorem dX8_findSworn_47 : decode cX8_findSworn 47 = .ok (.dup2, 1) := by decide +kernel
theorem dX8_findSworn_48 : decode cX8_findSworn 48 = .ok (.iaload, 1) := by decide +kernel
theorem dX8_findSworn_49 : decode cX8_findSworn 49 = .ok (.iconst 1, 1) := by decide +kernel
theorem dX8_findSworn_50 : decode cX8_findSworn 50 = .ok (.aload_n 0, 1) := by decide +kernel
theorem dX8_findSworn_51 : decode cX8_findSworn 51 = .ok (.iload_n 1, 1) := by decide +kernel
theorem dX8_findSworn_52 : decode cX8_findSworn 52 = .ok (.iconst 1, 1) := by decide +kernel
theorem dX8_findSworn_53 : decode cX8_findSworn 53 = .ok (.invokevirtual 91, 3) := by decide +kernel
theorem dX8_findSworn_56 : decode cX8_findSworn 56 = .ok (.ishl, 1) := by decide +kernel
theorem dX8_findSworn_57 : decode cX8_findSworn 57 = .ok (.ior, 1) := by decide +kernel
theorem dX8_findSworn_58 : decode cX8_findSworn 58 = .ok (.iastore, 1) := by decide +kernel
theorem dX8_findSworn_59 : decode cX8_findSworn 59 = .ok (.iinc 1 1, 3) := by decide +kernel
theorem dX8_findSworn_62 : decode cX8_findSworn 62 = .ok (.goto (-35), 3) := by decide +kernel
theorem dX8_findSworn_65 : decode cX8_findSworn 65 = .ok (.return_, 1) := by decide +kernel
theorem dX8_manyIn_0 : decode cX8_manyIn 0 = .ok (.iconst 0, 1) := by decide +kernel
theorem dX8_manyIn_1 : decode cX8_manyIn 1 = .ok (.istore_n 1, 1) := by decide +kernel
theorem dX8_manyIn_2 : decode cX8_manyIn 2 = .ok (.iload_n 0, 1) := by decide +kernel
theorem dX8_manyIn_3 : decode cX8_manyIn 3 = .ok (.istore_n 2, 1) := by decide +kernel
theorem dX8_manyIn_4 : decode cX8_manyIn 4 = .ok (.iload_n 2, 1) := by decide +kernel
theorem dX8_manyIn_5 : decode cX8_manyIn 5 = .ok (.ifCond .eq 15, 3) := by decide +kernel
theorem dX8_manyIn_8 : decode cX8_manyIn 8 = .ok (.iinc 1 1, 3) := by decide +kernel
theorem dX8_manyIn_11 : decode cX8_manyIn 11 = .ok (.iload_n 2, 1) := by decide +kernel
theorem dX8_manyIn_12 : decode cX8_manyIn 12 = .ok (.iload_n 2, 1) := by decide +kernel
theorem dX8_manyIn_13 : decode cX8_manyIn 13 = .ok (.iconst 1, 1) := by decide +kernel
theorem dX8_manyIn_14 : decode cX8_manyIn 14 = .ok (.isub, 1) := by decide +kernel
theorem dX8_manyIn_15 : decode cX8_manyIn 15 = .ok (.iand, 1) := by decide +kernel
theorem dX8_manyIn_16 : decode cX8_manyIn 16 = .ok (.istore_n 2, 1) := by decide +kernel
theorem dX8_manyIn_17 : decode cX8_manyIn 17 = .ok (.goto (-13), 3) := by decide +kernel
theorem dX8_manyIn_20 : decode cX8_manyIn 20 = .ok (.iload_n 1, 1) := by decide +kernel
theorem dX8_manyIn_21 : decode cX8_manyIn 21 = .ok (.ireturn, 1) := by decide +kernel
theorem dX8_chain_0 : decode cX8_chain 0 = .ok (.aload_n 0, 1) := by decide +kernel
theorem dX8_chain_1 : decode cX8_chain 1 = .ok (.invokevirtual 173, 3) := by decide +kernel
theorem dX8_chain_4 : decode cX8_chain 4 = .ok (.iconst 1, 1) := by decide +kernel
theorem dX8_chain_5 : decode cX8_chain 5 = .ok (.aload_n 0, 1) := by decide +kernel
theorem dX8_chain_6 : decode cX8_chain 6 = .ok (.getfield 7, 3) := by decide +kernel
theorem dX8_chain_9 : decode cX8_chain 9 = .ok (.iconst 0, 1) := by decide +kernel
theorem dX8_chain_10 : decode cX8_chain 10 = .ok (.iaload, 1) := by decide +kernel
theorem dX8_chain_11 : decode cX8_chain 11 = .ok (.ishl, 1) := by decide +kernel
theorem dX8_chain_12 : decode cX8_chain 12 = .ok (.istore_n 1, 1) := by decide +kernel
theorem dX8_chain_13 : decode cX8_chain 13 = .ok (.iconst 0, 1) := by decide +kernel
theorem dX8_chain_14 : decode cX8_chain 14 = .ok (.istore_n 2, 1) := by decide +kernel
theorem dX8_chain_15 : decode cX8_chain 15 = .ok (.iload_n 2, 1) := by decide +kernel
theorem dX8_chain_16 : decode cX8_chain 16 = .ok (.iload_n 1, 1) := by decide +kernel
theorem dX8_chain_17 : decode cX8_chain 17 = .ok (.if_icmp .ge 16, 3) := by decide +kernel
theorem dX8_chain_20 : decode cX8_chain 20 = .ok (.aload_n 0, 1) := by decide +kernel
theorem dX8_chain_21 : decode cX8_chain 21 = .ok (.getfield 46, 3) := by decide +kernel
theorem dX8_chain_24 : decode cX8_chain 24 = .ok (.iload_n 2, 1) := by decide +kernel
theorem dX8_chain_25 : decode cX8_chain 25 = .ok (.iconst 0, 1) := by decide +kernel
theorem dX8_chain_26 : decode cX8_chain 26 = .ok (.iastore, 1) := by decide +kernel
theorem dX8_chain_27 : decode cX8_chain 27 = .ok (.iinc 2 1, 3) := by decide +kernel
theorem dX8_chain_30 : decode cX8_chain 30 = .ok (.goto (-15), 3) := by decide +kernel
theorem dX8_chain_33 : decode cX8_chain 33 = .ok (.iconst 0, 1) := by decide +kernel
theorem dX8_chain_34 : decode cX8_chain 34 = .ok (.istore_n 2, 1) := by decide +kernel
theorem dX8_chain_35 : decode cX8_chain 35 = .ok (.iload_n 2, 1) := by decide +kernel
theorem dX8_chain_36 : decode cX8_chain 36 = .ok (.aload_n 0, 1) := by decide +kernel
theorem dX8_chain_37 : decode cX8_chain 37 = .ok (.getfield 7, 3) := by decide +kernel
theorem dX8_chain_40 : decode cX8_chain 40 = .ok (.iconst 0, 1) := by decide +kernel
theorem dX8_chain_41 : decode cX8_chain 41 = .ok (.iaload, 1) := by decide +kernel
theorem dX8_chain_42 : decode cX8_chain 42 = .ok (.if_icmp .ge 20, 3) := by decide +kernel
theorem dX8_chain_45 : decode cX8_chain 45 = .ok (.aload_n 0, 1) := by decide +kernel
theorem dX8_chain_46 : decode cX8_chain 46 = .ok (.getfield 46, 3) := by decide +kernel
theorem dX8_chain_49 : decode cX8_chain 49 = .ok (.iconst 1, 1) := by decide +kernel
theorem dX8_chain_50 : decode cX8_chain 50 = .ok (.iload_n 2, 1) := by decide +kernel
theorem dX8_chain_51 : decode cX8_chain 51 = .ok (.ishl, 1) := by decide +kernel
theorem dX8_chain_52 : decode cX8_chain 52 = .ok (.iconst 1, 1) := by decide +kernel
theorem dX8_chain_53 : decode cX8_chain 53 = .ok (.iload_n 2, 1) := by decide +kernel
theorem dX8_chain_54 : decode cX8_chain 54 = .ok (.ishl, 1) := by decide +kernel
theorem dX8_chain_55 : decode cX8_chain 55 = .ok (.iastore, 1) := by decide +kernel
theorem dX8_chain_56 : decode cX8_chain 56 = .ok (.iinc 2 1, 3) := by decide +kernel
theorem dX8_chain_59 : decode cX8_chain 59 = .ok (.goto (-24), 3) := by decide +kernel
theorem dX8_chain_62 : decode cX8_chain 62 = .ok (.iconst 0, 1) := by decide +kernel
theorem dX8_chain_63 : decode cX8_chain 63 = .ok (.istore_n 2, 1) := by decide +kernel
theorem dX8_chain_64 : decode cX8_chain 64 = .ok (.iconst 1, 1) := by decide +kernel
theorem dX8_chain_65 : decode cX8_chain 65 = .ok (.istore_n 3, 1) := by decide +kernel
theorem dX8_chain_66 : decode cX8_chain 66 = .ok (.iload_n 3, 1) := by decide +kernel
theorem dX8_chain_67 : decode cX8_chain 67 = .ok (.iload_n 1, 1) := by decide +kernel
theorem dX8_chain_68 : decode cX8_chain 68 = .ok (.if_icmp .ge 150, 3) := by decide +kernel
theorem dX8_chain_71 : decode cX8_chain 71 = .ok (.iconst 0, 1) := by decide +kernel
theorem dX8_chain_72 : decode cX8_chain 72 = .ok (.istore 4, 2) := by decide +kernel
theorem dX8_chain_74 : decode cX8_chain 74 = .ok (.iconst 0, 1) := by decide +kernel
theorem dX8_chain_75 : decode cX8_chain 75 = .ok (.istore 5, 2) := by decide +kernel
theorem dX8_chain_77 : decode cX8_chain 77 = .ok (.iload 5, 2) := by decide +kernel
theorem dX8_chain_79 : decode cX8_chain 79 = .ok (.aload_n 0, 1) := by decide +kernel
theorem dX8_chain_80 : decode cX8_chain 80 = .ok (.getfield 7, 3) := by decide +kernel
theorem dX8_chain_83 : decode cX8_chain 83 = .ok (.iconst 0, 1) := by decide +kernel
theorem dX8_chain_84 : decode cX8_chain 84 = .ok (.iaload, 1) := by decide +kernel
theorem dX8_chain_85 : decode cX8_chain 85 = .ok (.if_icmp .ge 40, 3) := by decide +kernel
theorem dX8_chain_88 : decode cX8_chain 88 = .ok (.iload 4, 2) := by decide +kernel
theorem dX8_chain_90 : decode cX8_chain 90 = .ok (.aload_n 0, 1) := by decide +kernel
theorem dX8_chain_91 : decode cX8_chain 91 = .ok (.getfield 46, 3) := by decide +kernel
theorem dX8_chain_94 : decode cX8_chain 94 = .ok (.iload_n 3, 1) := by decide +kernel
theorem dX8_chain_95 : decode cX8_chain 95 = .ok (.iaload, 1) := by decide +kernel
theorem dX8_chain_96 : decode cX8_chain 96 = .ok (.iload 5, 2) := by decide +kernel
theorem dX8_chain_98 : decode cX8_chain 98 = .ok (.ishr, 1) := by decide +kernel
theorem dX8_chain_99 : decode cX8_chain 99 = .ok (.iconst 1, 1) := by decide +kernel
theorem dX8_chain_100 : decode cX8_chain 100 = .ok (.iand, 1) := by decide +kernel
theorem dX8_chain_101 : decode cX8_chain 101 = .ok (.iconst 1, 1) := by decide +kernel
theorem dX8_chain_102 : decode cX8_chain 102 = .ok (.if_icmp .ne 13, 3) := by decide +kernel
theorem dX8_chain_105 : decode cX8_chain 105 = .ok (.aload_n 0, 1) := by decide +kernel
theorem dX8_chain_106 : decode cX8_chain 106 = .ok (.getfield 43, 3) := by decide +kernel
theorem dX8_chain_109 : decode cX8_chain 109 = .ok (.iload 5, 2) := by decide +kernel
theorem dX8_chain_111 : decode cX8_chain 111 = .ok (.iaload, 1) := by decide +kernel
theorem dX8_chain_112 : decode cX8_chain 112 = .ok (.goto 4, 3) := by decide +kernel
theorem dX8_chain_115 : decode cX8_chain 115 = .ok (.iconst 0, 1) := by decide +kernel
theorem dX8_chain_116 : decode cX8_chain 116 = .ok (.ior, 1) := by decide +kernel
theorem dX8_chain_117 : decode cX8_chain 117 = .ok (.istore 4, 2) := by decide +kernel
theorem dX8_chain_119 : decode cX8_chain 119 = .ok (.iinc 5 1, 3) := by decide +kernel
theorem dX8_chain_122 : decode cX8_chain 122 = .ok (.goto (-45), 3) := by decide +kernel
theorem dX8_chain_125 : decode cX8_chain 125 = .ok (.iload 4, 2) := by decide +kernel
theorem dX8_chain_127 : decode cX8_chain 127 = .ok (.iload_n 3, 1) := by decide +kernel
theorem dX8_chain_128 : decode cX8_chain 128 = .ok (.iconst (-1), 1) := by decide +kernel
theorem dX8_chain_129 : decode cX8_chain 129 = .ok (.ixor, 1) := by decide +kernel
theorem dX8_chain_130 : decode cX8_chain 130 = .ok (.iand, 1) := by decide +kernel
theorem dX8_chain_131 : decode cX8_chain 131 = .ok (.istore 4, 2) := by decide +kernel
theorem dX8_chain_133 : decode cX8_chain 133 = .ok (.iconst 0, 1) := by decide +kernel
theorem dX8_chain_134 : decode cX8_chain 134 = .ok (.istore 5, 2) := by decide +kernel
theorem dX8_chain_136 : decode cX8_chain 136 = .ok (.iload 5, 2) := by decide +kernel
theorem dX8_chain_138 : decode cX8_chain 138 = .ok (.aload_n 0, 1) := by decide +kernel
theorem dX8_chain_139 : decode cX8_chain 139 = .ok (.getfield 7, 3) := by decide +kernel
theorem dX8_chain_142 : decode cX8_chain 142 = .ok (.iconst 0, 1) := by decide +kernel
theorem dX8_chain_143 : decode cX8_chain 143 = .ok (.iaload, 1) := by decide +kernel
theorem dX8_chain_144 : decode cX8_chain 144 = .ok (.if_icmp .ge 38, 3) := by decide +kernel
theorem dX8_chain_147 : decode cX8_chain 147 = .ok (.iload 4, 2) := by decide +kernel
theorem dX8_chain_149 : decode cX8_chain 149 = .ok (.iload 5, 2) := by decide +kernel
theorem dX8_chain_151 : decode cX8_chain 151 = .ok (.ishr, 1) := by decide +kernel
theorem dX8_chain_152 : decode cX8_chain 152 = .ok (.iconst 1, 1) := by decide +kernel
theorem dX8_chain_153 : decode cX8_chain 153 = .ok (.iand, 1) := by decide +kernel
theorem dX8_chain_154 : decode cX8_chain 154 = .ok (.iconst 1, 1) := by decide +kernel
theorem dX8_chain_155 : decode cX8_chain 155 = .ok (.if_icmp .ne 21, 3) := by decide +kernel
theorem dX8_chain_158 : decode cX8_chain 158 = .ok (.aload_n 0, 1) := by decide +kernel
theorem dX8_chain_159 : decode cX8_chain 159 = .ok (.getfield 46, 3) := by decide +kernel
theorem dX8_chain_162 : decode cX8_chain 162 = .ok (.iload_n 3, 1) := by decide +kernel
theorem dX8_chain_163 : decode cX8_chain 163 = .ok (.iconst 1, 1) := by decide +kernel
theorem dX8_chain_164 : decode cX8_chain 164 = .ok (.iload 5, 2) := by decide +kernel
theorem dX8_chain_166 : decode cX8_chain 166 = .ok (.ishl, 1) := by decide +kernel
theorem dX8_chain_167 : decode cX8_chain 167 = .ok (.ior, 1) := by decide +kernel
theorem dX8_chain_168 : decode cX8_chain 168 = .ok (.dup2, 1) := by decide +kernel
theorem dX8_chain_169 : decode cX8_chain 169 = .ok (.iaload, 1) := by decide +kernel
theorem dX8_chain_170 : decode cX8_chain 170 = .ok (.iconst 1, 1) := by decide +kernel
theorem dX8_chain_171 : decode cX8_chain 171 = .ok (.iload 5, 2) := by decide +kernel
theorem dX8_chain_173 : decode cX8_chain 173 = .ok (.ishl, 1) := by decide +kernel
theorem dX8_chain_174 : decode cX8_chain 174 = .ok (.ior, 1) := by decide +kernel
theorem dX8_chain_175 : decode cX8_chain 175 = .ok (.iastore, 1) := by decide +kernel
theorem dX8_chain_176 : decode cX8_chain 176 = .ok (.iinc 5 1, 3) := by decide +kernel
theorem dX8_chain_179 : decode cX8_chain 179 = .ok (.goto (-43), 3) := by decide +kernel
theorem dX8_chain_182 : decode cX8_chain 182 = .ok (.aload_n 0, 1) := by decide +kernel
theorem dX8_chain_183 : decode cX8_chain 183 = .ok (.getfield 46, 3) := by decide +kernel
theorem dX8_chain_186 : decode cX8_chain 186 = .ok (.iload_n 3, 1) := by decide +kernel
theorem dX8_chain_187 : decode cX8_chain 187 = .ok (.iaload, 1) := by decide +kernel
theorem dX8_chain_188 : decode cX8_chain 188 = .ok (.ifCond .eq 22, 3) := by decide +kernel
theorem dX8_chain_191 : decode cX8_chain 191 = .ok (.iload_n 3, 1) := by decide +kernel
theorem dX8_chain_192 : decode cX8_chain 192 = .ok (.invokestatic 176, 3) := by decide +kernel
theorem dX8_chain_195 : decode cX8_chain 195 = .ok (.iconst 1, 1) := by decide +kernel
theorem dX8_chain_196 : decode cX8_chain 196 = .ok (.isub, 1) := by decide +kernel
theorem dX8_chain_197 : decode cX8_chain 197 = .ok (.iload_n 2, 1) := by decide +kernel
theorem dX8_chain_198 : decode cX8_chain 198 = .ok (.if_icmp .le 12, 3) := by decide +kernel
theorem dX8_chain_201 : decode cX8_chain 201 = .ok (.iload_n 3, 1) := by decide +kernel
theorem dX8_chain_202 : decode cX8_chain 202 = .ok (.invokestatic 176, 3) := by decide +kernel
theorem dX8_chain_205 : decode cX8_chain 205 = .ok (.iconst 1, 1) := by decide +kernel
theorem dX8_chain_206 : decode cX8_chain 206 = .ok (.isub, 1) := by decide +kernel
theorem dX8_chain_207 : decode cX8_chain 207 = .ok (.goto 4, 3) := by decide +kernel
theorem dX8_chain_210 : decode cX8_chain 210 = .ok (.iload_n 2, 1) := by decide +kernel
theorem dX8_chain_211 : decode cX8_chain 211 = .ok (.istore_n 2, 1) := by decide +kernel
theorem dX8_chain_212 : decode cX8_chain 212 = .ok (.iinc 3 1, 3) := by decide +kernel
theorem dX8_chain_215 : decode cX8_chain 215 = .ok (.goto (-149), 3) := by decide +kernel
theorem dX8_chain_218 : decode cX8_chain 218 = .ok (.iload_n 2, 1) := by decide +kernel
theorem dX8_chain_219 : decode cX8_chain 219 = .ok (.ireturn, 1) := by decide +kernel
theorem dX8_land_0 : decode cX8_land 0 = .ok (.iload_n 1, 1) := by decide +kernel
theorem dX8_land_1 : decode cX8_land 1 = .ok (.tableswitch 77 0 5 #[39, 46, 53, 60, 66, 72], 39) := by decide +kernel
theorem dX8_land_40 : decode cX8_land 40 = .ok (.aload_n 0, 1) := by decide +kernel
theorem dX8_land_41 : decode cX8_land 41 = .ok (.getfield 7, 3) := by decide +kernel
theorem dX8_land_44 : decode cX8_land 44 = .ok (.iconst 3, 1) := by decide +kernel
theorem dX8_land_45 : decode cX8_land 45 = .ok (.iaload, 1) := by decide +kernel
theorem dX8_land_46 : decode cX8_land 46 = .ok (.ireturn, 1) := by decide +kernel
theorem dX8_land_47 : decode cX8_land 47 = .ok (.aload_n 0, 1) := by decide +kernel
theorem dX8_land_48 : decode cX8_land 48 = .ok (.getfield 7, 3) := by decide +kernel
theorem dX8_land_51 : decode cX8_land 51 = .ok (.iconst 4, 1) := by decide +kernel
theorem dX8_land_52 : decode cX8_land 52 = .ok (.iaload, 1) := by decide +kernel
theorem dX8_land_53 : decode cX8_land 53 = .ok (.ireturn, 1) := by decide +kernel
theorem dX8_land_54 : decode cX8_land 54 = .ok (.aload_n 0, 1) := by decide +kernel
theorem dX8_land_55 : decode cX8_land 55 = .ok (.getfield 7, 3) := by decide +kernel
theorem dX8_land_58 : decode cX8_land 58 = .ok (.iconst 5, 1) := by decide +kernel
theorem dX8_land_59 : decode cX8_land 59 = .ok (.iaload, 1) := by decide +kernel
theorem dX8_land_60 : decode cX8_land 60 = .ok (.ireturn, 1) := by decide +kernel
theorem dX8_land_61 : decode cX8_land 61 = .ok (.aload_n 0, 1) := by decide +kernel
theorem dX8_land_62 : decode cX8_land 62 = .ok (.iconst 0, 1) := by decide +kernel
theorem dX8_land_63 : decode cX8_land 63 = .ok (.invokevirtual 179, 3) := by decide +kernel
theorem dX8_land_66 : decode cX8_land 66 = .ok (.ireturn, 1) := by decide +kernel
theorem dX8_land_67 : decode cX8_land 67 = .ok (.aload_n 0, 1) := by decide +kernel
theorem dX8_land_68 : decode cX8_land 68 = .ok (.iconst 1, 1) := by decide +kernel
theorem dX8_land_69 : decode cX8_land 69 = .ok (.invokevirtual 179, 3) := by decide +kernel
theorem dX8_land_72 : decode cX8_land 72 = .ok (.ireturn, 1) := by decide +kernel
theorem dX8_land_73 : decode cX8_land 73 = .ok (.aload_n 0, 1) := by decide +kernel
theorem dX8_land_74 : decode cX8_land 74 = .ok (.invokevirtual 182, 3) := by decide +kernel
theorem dX8_land_77 : decode cX8_land 77 = .ok (.ireturn, 1) := by decide +kernel
theorem dX8_land_78 : decode cX8_land 78 = .ok (.ldc 86, 2) := by decide +kernel
theorem dX8_land_80 : decode cX8_land 80 = .ok (.ireturn, 1) := by decide +kernel
theorem dX8_reaches_0 : decode cX8_reaches 0 = .ok (.aload_n 0, 1) := by decide +kernel
theorem dX8_reaches_1 : decode cX8_reaches 1 = .ok (.iload_n 1, 1) := by decide +kernel
theorem dX8_reaches_2 : decode cX8_reaches 2 = .ok (.invokevirtual 112, 3) := by decide +kernel
theorem dX8_reaches_5 : decode cX8_reaches 5 = .ok (.ifCond .eq 11, 3) := by decide +kernel
theorem dX8_reaches_8 : decode cX8_reaches 8 = .ok (.aload_n 0, 1) := by decide +kernel
theorem dX8_reaches_9 : decode cX8_reaches 9 = .ok (.iload_n 2, 1) := by decide +kernel
theorem dX8_reaches_10 : decode cX8_reaches 10 = .ok (.invokevirtual 112, 3) := by decide +kernel
theorem dX8_reaches_13 : decode cX8_reaches 13 = .ok (.ifCond .ne 6, 3) := by decide +kernel
theorem dX8_reaches_16 : decode cX8_reaches 16 = .ok (.ldc 86, 2) := by decide +kernel
theorem dX8_reaches_18 : decode cX8_reaches 18 = .ok (.ireturn, 1) := by decide +kernel
theorem dX8_reaches_19 : decode cX8_reaches 19 = .ok (.aload_n 0, 1) := by decide +kernel
theorem dX8_reaches_20 : decode cX8_reaches 20 = .ok (.invokevirtual 173, 3) := by decide +kernel
theorem dX8_reaches_23 : decode cX8_reaches 23 = .ok (.iconst 1, 1) := by decide +kernel
theorem dX8_reaches_24 : decode cX8_reaches 24 = .ok (.iload_n 1, 1) := by decide +kernel
theorem dX8_reaches_25 : decode cX8_reaches 25 = .ok (.ishl, 1) := by decide +kernel
theorem dX8_reaches_26 : decode cX8_reaches 26 = .ok (.istore_n 3, 1) := by decide +kernel
theorem dX8_reaches_27 : decode cX8_reaches 27 = .ok (.iconst 0, 1) := by decide +kernel
theorem dX8_reaches_28 : decode cX8_reaches 28 = .ok (.istore 4, 2) := by decide +kernel
theorem dX8_reaches_30 : decode cX8_reaches 30 = .ok (.iload 4, 2) := by decide +kernel
theorem dX8_reaches_32 : decode cX8_reaches 32 = .ok (.bipush 10, 2) := by decide +kernel
theorem dX8_reaches_34 : decode cX8_reaches 34 = .ok (.if_icmp .gt 73, 3) := by decide +kernel
theorem dX8_reaches_37 : decode cX8_reaches 37 = .ok (.iload_n 3, 1) := by decide +kernel
theorem dX8_reaches_38 : decode cX8_reaches 38 = .ok (.iload_n 2, 1) := by decide +kernel
theorem dX8_reaches_39 : decode cX8_reaches 39 = .ok (.ishr, 1) := by decide +kernel
theorem dX8_reaches_40 : decode cX8_reaches 40 = .ok (.iconst 1, 1) := by decide +kernel
theorem dX8_reaches_41 : decode cX8_reaches 41 = .ok (.iand, 1) := by decide +kernel
theorem dX8_reaches_42 : decode cX8_reaches 42 = .ok (.iconst 1, 1) := by decide +kernel
theorem dX8_reaches_43 : decode cX8_reaches 43 = .ok (.if_icmp .ne 6, 3) := by decide +kernel
theorem dX8_reaches_46 : decode cX8_reaches 46 = .ok (.iload 4, 2) := by decide +kernel
theorem dX8_reaches_48 : decode cX8_reaches 48 = .ok (.ireturn, 1) := by decide +kernel
theorem dX8_reaches_49 : decode cX8_reaches 49 = .ok (.iload_n 3, 1) := by decide +kernel
theorem dX8_reaches_50 : decode cX8_reaches 50 = .ok (.istore 5, 2) := by decide +kernel
theorem dX8_reaches_52 : decode cX8_reaches 52 = .ok (.iconst 0, 1) := by decide +kernel
theorem dX8_reaches_53 : decode cX8_reaches 53 = .ok (.istore 6, 2) := by decide +kernel
theorem dX8_reaches_55 : decode cX8_reaches 55 = .ok (.iload 6, 2) := by decide +kernel
theorem dX8_reaches_57 : decode cX8_reaches 57 = .ok (.aload_n 0, 1) := by decide +kernel
theorem dX8_reaches_58 : decode cX8_reaches 58 = .ok (.getfield 7, 3) := by decide +kernel
theorem dX8_reaches_61 : decode cX8_reaches 61 = .ok (.iconst 0, 1) := by decide +kernel
theorem dX8_reaches_62 : decode cX8_reaches 62 = .ok (.iaload, 1) := by decide +kernel
theorem dX8_reaches_63 : decode cX8_reaches 63 = .ok (.if_icmp .ge 35, 3) := by decide +kernel
theorem dX8_reaches_66 : decode cX8_reaches 66 = .ok (.iload 5, 2) := by decide +kernel
theorem dX8_reaches_68 : decode cX8_reaches 68 = .ok (.iload_n 3, 1) := by decide +kernel
theorem dX8_reaches_69 : decode cX8_reaches 69 = .ok (.iload 6, 2) := by decide +kernel
theorem dX8_reaches_71 : decode cX8_reaches 71 = .ok (.ishr, 1) := by decide +kernel
theorem dX8_reaches_72 : decode cX8_reaches 72 = .ok (.iconst 1, 1) := by decide +kernel
theorem dX8_reaches_73 : decode cX8_reaches 73 = .ok (.iand, 1) := by decide +kernel
theorem dX8_reaches_74 : decode cX8_reaches 74 = .ok (.iconst 1, 1) := by decide +kernel
theorem dX8_reaches_75 : decode cX8_reaches 75 = .ok (.if_icmp .ne 13, 3) := by decide +kernel
theorem dX8_reaches_78 : decode cX8_reaches 78 = .ok (.aload_n 0, 1) := by decide +kernel
theorem dX8_reaches_79 : decode cX8_reaches 79 = .ok (.getfield 43, 3) := by decide +kernel
theorem dX8_reaches_82 : decode cX8_reaches 82 = .ok (.iload 6, 2) := by decide +kernel
theorem dX8_reaches_84 : decode cX8_reaches 84 = .ok (.iaload, 1) := by decide +kernel
theorem dX8_reaches_85 : decode cX8_reaches 85 = .ok (.goto 4, 3) := by decide +kernel
theorem dX8_reaches_88 : decode cX8_reaches 88 = .ok (.iconst 0, 1) := by decide +kernel
theorem dX8_reaches_89 : decode cX8_reaches 89 = .ok (.ior, 1) := by decide +kernel
theorem dX8_reaches_90 : decode cX8_reaches 90 = .ok (.istore 5, 2) := by decide +kernel
theorem dX8_reaches_92 : decode cX8_reaches 92 = .ok (.iinc 6 1, 3) := by decide +kernel
theorem dX8_reaches_95 : decode cX8_reaches 95 = .ok (.goto (-40), 3) := by decide +kernel
theorem dX8_reaches_98 : decode cX8_reaches 98 = .ok (.iload 5, 2) := by decide +kernel
theorem dX8_reaches_100 : decode cX8_reaches 100 = .ok (.istore_n 3, 1) := by decide +kernel
theorem dX8_reaches_101 : decode cX8_reaches 101 = .ok (.iinc 4 1, 3) := by decide +kernel
theorem dX8_reaches_104 : decode cX8_reaches 104 = .ok (.goto (-74), 3) := by decide +kernel
theorem dX8_reaches_107 : decode cX8_reaches 107 = .ok (.ldc 70, 2) := by decide +kernel
theorem dX8_reaches_109 : decode cX8_reaches 109 = .ok (.ireturn, 1) := by decide +kernel
theorem dX8_laysBy_0 : decode cX8_laysBy 0 = .ok (.iconst 0, 1) := by decide +kernel
theorem dX8_laysBy_1 : decode cX8_laysBy 1 = .ok (.istore_n 1, 1) := by decide +kernel
theorem dX8_laysBy_2 : decode cX8_laysBy 2 = .ok (.iload_n 1, 1) := by decide +kernel
theorem dX8_laysBy_3 : decode cX8_laysBy 3 = .ok (.bipush 108, 2) := by decide +kernel
theorem dX8_laysBy_5 : decode cX8_laysBy 5 = .ok (.if_icmp .ge 21, 3) := by decide +kernel
theorem dX8_laysBy_8 : decode cX8_laysBy 8 = .ok (.aload_n 0, 1) := by decide +kernel
theorem dX8_laysBy_9 : decode cX8_laysBy 9 = .ok (.getfield 49, 3) := by decide +kernel
theorem dX8_laysBy_12 : decode cX8_laysBy 12 = .ok (.iload_n 1, 1) := by decide +kernel
theorem dX8_laysBy_13 : decode cX8_laysBy 13 = .ok (.aload_n 0, 1) := by decide +kernel
theorem dX8_laysBy_14 : decode cX8_laysBy 14 = .ok (.getfield 7, 3) := by decide +kernel
theorem dX8_laysBy_17 : decode cX8_laysBy 17 = .ok (.iload_n 1, 1) := by decide +kernel
theorem dX8_laysBy_18 : decode cX8_laysBy 18 = .ok (.iaload, 1) := by decide +kernel
theorem dX8_laysBy_19 : decode cX8_laysBy 19 = .ok (.iastore, 1) := by decide +kernel
theorem dX8_laysBy_20 : decode cX8_laysBy 20 = .ok (.iinc 1 1, 3) := by decide +kernel
theorem dX8_laysBy_23 : decode cX8_laysBy 23 = .ok (.goto (-21), 3) := by decide +kernel
theorem dX8_laysBy_26 : decode cX8_laysBy 26 = .ok (.return_, 1) := by decide +kernel
theorem dX8_laysBack_0 : decode cX8_laysBack 0 = .ok (.iconst 0, 1) := by decide +kernel
theorem dX8_laysBack_1 : decode cX8_laysBack 1 = .ok (.istore_n 1, 1) := by decide +kernel
theorem dX8_laysBack_2 : decode cX8_laysBack 2 = .ok (.iload_n 1, 1) := by decide +kernel
theorem dX8_laysBack_3 : decode cX8_laysBack 3 = .ok (.bipush 108, 2) := by decide +kernel
theorem dX8_laysBack_5 : decode cX8_laysBack 5 = .ok (.if_icmp .ge 21, 3) := by decide +kernel
theorem dX8_laysBack_8 : decode cX8_laysBack 8 = .ok (.aload_n 0, 1) := by decide +kernel
theorem dX8_laysBack_9 : decode cX8_laysBack 9 = .ok (.getfield 7, 3) := by decide +kernel
theorem dX8_laysBack_12 : decode cX8_laysBack 12 = .ok (.iload_n 1, 1) := by decide +kernel
theorem dX8_laysBack_13 : decode cX8_laysBack 13 = .ok (.aload_n 0, 1) := by decide +kernel
theorem dX8_laysBack_14 : decode cX8_laysBack 14 = .ok (.getfield 49, 3) := by decide +kernel
theorem dX8_laysBack_17 : decode cX8_laysBack 17 = .ok (.iload_n 1, 1) := by decide +kernel
theorem dX8_laysBack_18 : decode cX8_laysBack 18 = .ok (.iaload, 1) := by decide +kernel
theorem dX8_laysBack_19 : decode cX8_laysBack 19 = .ok (.iastore, 1) := by decide +kernel
theorem dX8_laysBack_20 : decode cX8_laysBack 20 = .ok (.iinc 1 1, 3) := by decide +kernel
theorem dX8_laysBack_23 : decode cX8_laysBack 23 = .ok (.goto (-21), 3) := by decide +kernel
theorem dX8_laysBack_26 : decode cX8_laysBack 26 = .ok (.return_, 1) := by decide +kernel
theorem dX8_behind_0 : decode cX8_behind 0 = .ok (.iload_n 1, 1) := by decide +kernel
theorem dX8_behind_1 : decode cX8_behind 1 = .ok (.i2l, 1) := by decide +kernel
theorem dX8_behind_2 : decode cX8_behind 2 = .ok (.lconst 0, 1) := by decide +kernel
theorem dX8_behind_3 : decode cX8_behind 3 = .ok (.ldc2_w 171, 3) := by decide +kernel
theorem dX8_behind_6 : decode cX8_behind 6 = .ok (.invokestatic 71, 3) := by decide +kernel
theorem dX8_behind_9 : decode cX8_behind 9 = .ok (.ifCond .eq 21, 3) := by decide +kernel
theorem dX8_behind_12 : decode cX8_behind 12 = .ok (.iload_n 2, 1) := by decide +kernel
theorem dX8_behind_13 : decode cX8_behind 13 = .ok (.i2l, 1) := by decide +kernel
theorem dX8_behind_14 : decode cX8_behind 14 = .ok (.lconst 0, 1) := by decide +kernel
theorem dX8_behind_15 : decode cX8_behind 15 = .ok (.iconst 2, 1) := by decide +kernel
theorem dX8_behind_16 : decode cX8_behind 16 = .ok (.aload_n 0, 1) := by decide +kernel
theorem dX8_behind_17 : decode cX8_behind 17 = .ok (.getfield 7, 3) := by decide +kernel
theorem dX8_behind_20 : decode cX8_behind 20 = .ok (.iconst 0, 1) := by decide +kernel
theorem dX8_behind_21 : decode cX8_behind 21 = .ok (.iaload, 1) := by decide +kernel
theorem dX8_behind_22 : decode cX8_behind 22 = .ok (.iadd, 1) := by decide +kernel
theorem dX8_behind_23 : decode cX8_behind 23 = .ok (.i2l, 1) := by decide +kernel
theorem dX8_behind_24 : decode cX8_behind 24 = .ok (.invokestatic 71, 3) := by decide +kernel
theorem dX8_behind_27 : decode cX8_behind 27 = .ok (.ifCond .ne 6, 3) := by decide +kernel
theorem dX8_behind_30 : decode cX8_behind 30 = .ok (.ldc 86, 2) := by decide +kernel
theorem dX8_behind_32 : decode cX8_behind 32 = .ok (.ireturn, 1) := by decide +kernel
theorem dX8_behind_33 : decode cX8_behind 33 = .ok (.aload_n 0, 1) := by decide +kernel
theorem dX8_behind_34 : decode cX8_behind 34 = .ok (.invokevirtual 185, 3) := by decide +kernel
theorem dX8_behind_37 : decode cX8_behind 37 = .ok (.aload_n 0, 1) := by decide +kernel
theorem dX8_behind_38 : decode cX8_behind 38 = .ok (.iload_n 1, 1) := by decide +kernel
theorem dX8_behind_39 : decode cX8_behind 39 = .ok (.invokevirtual 188, 3) := by decide +kernel
theorem dX8_behind_42 : decode cX8_behind 42 = .ok (.iload_n 2, 1) := by decide +kernel
theorem dX8_behind_43 : decode cX8_behind 43 = .ok (.ifCond .ne 12, 3) := by decide +kernel
theorem dX8_behind_46 : decode cX8_behind 46 = .ok (.aload_n 0, 1) := by decide +kernel
theorem dX8_behind_47 : decode cX8_behind 47 = .ok (.getfield 7, 3) := by decide +kernel
theorem dX8_behind_50 : decode cX8_behind 50 = .ok (.iconst 3, 1) := by decide +kernel
theorem dX8_behind_51 : decode cX8_behind 51 = .ok (.iaload, 1) := by decide +kernel
theorem dX8_behind_52 : decode cX8_behind 52 = .ok (.goto 39, 3) := by decide +kernel
theorem dX8_behind_55 : decode cX8_behind 55 = .ok (.iload_n 2, 1) := by decide +kernel
theorem dX8_behind_56 : decode cX8_behind 56 = .ok (.iconst 1, 1) := by decide +kernel
theorem dX8_behind_57 : decode cX8_behind 57 = .ok (.if_icmp .ne 12, 3) := by decide +kernel
theorem dX8_behind_60 : decode cX8_behind 60 = .ok (.aload_n 0, 1) := by decide +kernel
theorem dX8_behind_61 : decode cX8_behind 61 = .ok (.getfield 7, 3) := by decide +kernel
theorem dX8_behind_64 : decode cX8_behind 64 = .ok (.iconst 4, 1) := by decide +kernel
theorem dX8_behind_65 : decode cX8_behind 65 = .ok (.iaload, 1) := by decide +kernel
theorem dX8_behind_66 : decode cX8_behind 66 = .ok (.goto 25, 3) := by decide +kernel
theorem dX8_behind_69 : decode cX8_behind 69 = .ok (.iload_n 2, 1) := by decide +kernel
theorem dX8_behind_70 : decode cX8_behind 70 = .ok (.iconst 2, 1) := by decide +kernel
theorem dX8_behind_71 : decode cX8_behind 71 = .ok (.if_icmp .ne 12, 3) := by decide +kernel
theorem dX8_behind_74 : decode cX8_behind 74 = .ok (.aload_n 0, 1) := by decide +kernel
theorem dX8_behind_75 : decode cX8_behind 75 = .ok (.getfield 7, 3) := by decide +kernel
theorem dX8_behind_78 : decode cX8_behind 78 = .ok (.iconst 5, 1) := by decide +kernel
theorem dX8_behind_79 : decode cX8_behind 79 = .ok (.iaload, 1) := by decide +kernel
theorem dX8_behind_80 : decode cX8_behind 80 = .ok (.goto 11, 3) := by decide +kernel
theorem dX8_behind_83 : decode cX8_behind 83 = .ok (.aload_n 0, 1) := by decide +kernel
theorem dX8_behind_84 : decode cX8_behind 84 = .ok (.iload_n 2, 1) := by decide +kernel
theorem dX8_behind_85 : decode cX8_behind 85 = .ok (.iconst 3, 1) := by decide +kernel
theorem dX8_behind_86 : decode cX8_behind 86 = .ok (.isub, 1) := by decide +kernel
theorem dX8_behind_87 : decode cX8_behind 87 = .ok (.iconst 3, 1) := by decide +kernel
theorem dX8_behind_88 : decode cX8_behind 88 = .ok (.invokevirtual 98, 3) := by decide +kernel
theorem dX8_behind_91 : decode cX8_behind 91 = .ok (.istore_n 3, 1) := by decide +kernel
theorem dX8_behind_92 : decode cX8_behind 92 = .ok (.aload_n 0, 1) := by decide +kernel
theorem dX8_behind_93 : decode cX8_behind 93 = .ok (.invokevirtual 191, 3) := by decide +kernel
theorem dX8_behind_96 : decode cX8_behind 96 = .ok (.iload_n 3, 1) := by decide +kernel
theorem dX8_behind_97 : decode cX8_behind 97 = .ok (.ireturn, 1) := by decide +kernel
theorem dX8_free_0 : decode cX8_free 0 = .ok (.aload_n 0, 1) := by decide +kernel
theorem dX8_free_1 : decode cX8_free 1 = .ok (.invokevirtual 185, 3) := by decide +kernel
theorem dX8_free_4 : decode cX8_free 4 = .ok (.iconst (-1), 1) := by decide +kernel
theorem dX8_free_5 : decode cX8_free 5 = .ok (.istore_n 1, 1) := by decide +kernel
theorem dX8_free_6 : decode cX8_free 6 = .ok (.iconst 0, 1) := by decide +kernel
theorem dX8_free_7 : decode cX8_free 7 = .ok (.istore_n 2, 1) := by decide +kernel
theorem dX8_free_8 : decode cX8_free 8 = .ok (.iload_n 2, 1) := by decide +kernel
theorem dX8_free_9 : decode cX8_free 9 = .ok (.sipush 300, 3) := by decide +kernel
theorem dX8_free_12 : decode cX8_free 12 = .ok (.if_icmp .gt 32, 3) := by decide +kernel
theorem dX8_free_15 : decode cX8_free 15 = .ok (.iload_n 1, 1) := by decide +kernel
theorem dX8_free_16 : decode cX8_free 16 = .ok (.ifCond .ge 28, 3) := by decide +kernel
theorem dX8_free_19 : decode cX8_free 19 = .ok (.aload_n 0, 1) := by decide +kernel
theorem dX8_free_20 : decode cX8_free 20 = .ok (.getfield 7, 3) := by decide +kernel
theorem dX8_free_23 : decode cX8_free 23 = .ok (.iconst 3, 1) := by decide +kernel
theorem dX8_free_24 : decode cX8_free 24 = .ok (.iaload, 1) := by decide +kernel
theorem dX8_free_25 : decode cX8_free 25 = .ok (.ifCond .ne 7, 3) := by decide +kernel
theorem dX8_free_28 : decode cX8_free 28 = .ok (.iload_n 2, 1) := by decide +kernel
theorem dX8_free_29 : decode cX8_free 29 = .ok (.goto 4, 3) := by decide +kernel
theorem dX8_free_32 : decode cX8_free 32 = .ok (.iconst (-1), 1) := by decide +kernel
theorem dX8_free_33 : decode cX8_free 33 = .ok (.istore_n 1, 1) := by decide +kernel
theorem dX8_free_34 : decode cX8_free 34 = .ok (.aload_n 0, 1) := by decide +kernel
theorem dX8_free_35 : decode cX8_free 35 = .ok (.invokevirtual 168, 3) := by decide +kernel
theorem dX8_free_38 : decode cX8_free 38 = .ok (.iinc 2 1, 3) := by decide +kernel
theorem dX8_free_41 : decode cX8_free 41 = .ok (.goto (-33), 3) := by decide +kernel
theorem dX8_free_44 : decode cX8_free 44 = .ok (.aload_n 0, 1) := by decide +kernel
theorem dX8_free_45 : decode cX8_free 45 = .ok (.invokevirtual 191, 3) := by decide +kernel
theorem dX8_free_48 : decode cX8_free 48 = .ok (.iload_n 1, 1) := by decide +kernel
theorem dX8_free_49 : decode cX8_free 49 = .ok (.invokestatic 194, 3) := by decide +kernel
theorem dX8_free_52 : decode cX8_free 52 = .ok (.ireturn, 1) := by decide +kernel
theorem dX8_sworn_0 : decode cX8_sworn 0 = .ok (.iload_n 1, 1) := by decide +kernel
theorem dX8_sworn_1 : decode cX8_sworn 1 = .ok (.i2l, 1) := by decide +kernel
theorem dX8_sworn_2 : decode cX8_sworn 2 = .ok (.lconst 1, 1) := by decide +kernel
theorem dX8_sworn_3 : decode cX8_sworn 3 = .ok (.ldc2_w 197, 3) := by decide +kernel
theorem dX8_sworn_6 : decode cX8_sworn 6 = .ok (.invokestatic 71, 3) := by decide +kernel
theorem dX8_sworn_9 : decode cX8_sworn 9 = .ok (.ifCond .eq 13, 3) := by decide +kernel
theorem dX8_sworn_12 : decode cX8_sworn 12 = .ok (.iload_n 2, 1) := by decide +kernel
theorem dX8_sworn_13 : decode cX8_sworn 13 = .ok (.i2l, 1) := by decide +kernel
theorem dX8_sworn_14 : decode cX8_sworn 14 = .ok (.lconst 0, 1) := by decide +kernel
theorem dX8_sworn_15 : decode cX8_sworn 15 = .ok (.lconst 1, 1) := by decide +kernel
theorem dX8_sworn_16 : decode cX8_sworn 16 = .ok (.invokestatic 71, 3) := by decide +kernel
theorem dX8_sworn_19 : decode cX8_sworn 19 = .ok (.ifCond .ne 6, 3) := by decide +kernel
theorem dX8_sworn_22 : decode cX8_sworn 22 = .ok (.ldc 86, 2) := by decide +kernel
theorem dX8_sworn_24 : decode cX8_sworn 24 = .ok (.ireturn, 1) := by decide +kernel
theorem dX8_sworn_25 : decode cX8_sworn 25 = .ok (.aload_n 0, 1) := by decide +kernel
theorem dX8_sworn_26 : decode cX8_sworn 26 = .ok (.invokevirtual 185, 3) := by decide +kernel
theorem dX8_sworn_29 : decode cX8_sworn 29 = .ok (.iconst (-1), 1) := by decide +kernel
theorem dX8_sworn_30 : decode cX8_sworn 30 = .ok (.istore_n 3, 1) := by decide +kernel
theorem dX8_sworn_31 : decode cX8_sworn 31 = .ok (.iconst (-1), 1) := by decide +kernel
theorem dX8_sworn_32 : decode cX8_sworn 32 = .ok (.istore 4, 2) := by decide +kernel
theorem dX8_sworn_34 : decode cX8_sworn 34 = .ok (.iconst 0, 1) := by decide +kernel
theorem dX8_sworn_35 : decode cX8_sworn 35 = .ok (.istore 5, 2) := by decide +kernel
theorem dX8_sworn_37 : decode cX8_sworn 37 = .ok (.iload 5, 2) := by decide +kernel
theorem dX8_sworn_39 : decode cX8_sworn 39 = .ok (.aload_n 0, 1) := by decide +kernel
theorem dX8_sworn_40 : decode cX8_sworn 40 = .ok (.getfield 7, 3) := by decide +kernel
theorem dX8_sworn_43 : decode cX8_sworn 43 = .ok (.iconst 0, 1) := by decide +kernel
theorem dX8_sworn_44 : decode cX8_sworn 44 = .ok (.iaload, 1) := by decide +kernel
theorem dX8_sworn_45 : decode cX8_sworn 45 = .ok (.if_icmp .ge 98, 3) := by decide +kernel
theorem dX8_sworn_48 : decode cX8_sworn 48 = .ok (.iconst 0, 1) := by decide +kernel
theorem dX8_sworn_49 : decode cX8_sworn 49 = .ok (.istore 6, 2) := by decide +kernel
theorem dX8_sworn_51 : decode cX8_sworn 51 = .ok (.iload 6, 2) := by decide +kernel
theorem dX8_sworn_53 : decode cX8_sworn 53 = .ok (.aload_n 0, 1) := by decide +kernel
theorem dX8_sworn_54 : decode cX8_sworn 54 = .ok (.getfield 7, 3) := by decide +kernel
theorem dX8_sworn_57 : decode cX8_sworn 57 = .ok (.iconst 0, 1) := by decide +kernel
theorem dX8_sworn_58 : decode cX8_sworn 58 = .ok (.iaload, 1) := by decide +kernel
theorem dX8_sworn_59 : decode cX8_sworn 59 = .ok (.if_icmp .ge 78, 3) := by decide +kernel
theorem dX8_sworn_62 : decode cX8_sworn 62 = .ok (.iload 5, 2) := by decide +kernel
theorem dX8_sworn_64 : decode cX8_sworn 64 = .ok (.iload 6, 2) := by decide +kernel
theorem dX8_sworn_66 : decode cX8_sworn 66 = .ok (.if_icmp .eq 65, 3) := by decide +kernel
theorem dX8_sworn_69 : decode cX8_sworn 69 = .ok (.aload_n 0, 1) := by decide +kernel
theorem dX8_sworn_70 : decode cX8_sworn 70 = .ok (.iload 5, 2) := by decide +kernel
theorem dX8_sworn_72 : decode cX8_sworn 72 = .ok (.iload 6, 2) := by decide +kernel
theorem dX8_sworn_74 : decode cX8_sworn 74 = .ok (.iconst 0, 1) := by decide +kernel
theorem dX8_sworn_75 : decode cX8_sworn 75 = .ok (.invokevirtual 149, 3) := by decide +kernel
theorem dX8_sworn_78 : decode cX8_sworn 78 = .ok (.aload_n 0, 1) := by decide +kernel
theorem dX8_sworn_79 : decode cX8_sworn 79 = .ok (.iload_n 1, 1) := by decide +kernel
theorem dX8_sworn_80 : decode cX8_sworn 80 = .ok (.invokevirtual 188, 3) := by decide +kernel
theorem dX8_sworn_83 : decode cX8_sworn 83 = .ok (.aload_n 0, 1) := by decide +kernel
theorem dX8_sworn_84 : decode cX8_sworn 84 = .ok (.getfield 7, 3) := by decide +kernel
theorem dX8_sworn_87 : decode cX8_sworn 87 = .ok (.iconst 3, 1) := by decide +kernel
theorem dX8_sworn_88 : decode cX8_sworn 88 = .ok (.iaload, 1) := by decide +kernel
theorem dX8_sworn_89 : decode cX8_sworn 89 = .ok (.istore 7, 2) := by decide +kernel
theorem dX8_sworn_91 : decode cX8_sworn 91 = .ok (.aload_n 0, 1) := by decide +kernel
theorem dX8_sworn_92 : decode cX8_sworn 92 = .ok (.invokevirtual 191, 3) := by decide +kernel
theorem dX8_sworn_95 : decode cX8_sworn 95 = .ok (.iload 7, 2) := by decide +kernel
theorem dX8_sworn_97 : decode cX8_sworn 97 = .ok (.iload 4, 2) := by decide +kernel
theorem dX8_sworn_99 : decode cX8_sworn 99 = .ok (.if_icmp .le 14, 3) := by decide +kernel
theorem dX8_sworn_102 : decode cX8_sworn 102 = .ok (.bipush 10, 2) := by decide +kernel
theorem dX8_sworn_104 : decode cX8_sworn 104 = .ok (.iload 5, 2) := by decide +kernel
theorem dX8_sworn_106 : decode cX8_sworn 106 = .ok (.imul, 1) := by decide +kernel
theorem dX8_sworn_107 : decode cX8_sworn 107 = .ok (.iload 6, 2) := by decide +kernel
theorem dX8_sworn_109 : decode cX8_sworn 109 = .ok (.iadd, 1) := by decide +kernel
theorem dX8_sworn_110 : decode cX8_sworn 110 = .ok (.goto 4, 3) := by decide +kernel
theorem dX8_sworn_113 : decode cX8_sworn 113 = .ok (.iload_n 3, 1) := by decide +kernel
theorem dX8_sworn_114 : decode cX8_sworn 114 = .ok (.istore_n 3, 1) := by decide +kernel
theorem dX8_sworn_115 : decode cX8_sworn 115 = .ok (.iload 7, 2) := by decide +kernel
theorem dX8_sworn_117 : decode cX8_sworn 117 = .ok (.iload 4, 2) := by decide +kernel
theorem dX8_sworn_119 : decode cX8_sworn 119 = .ok (.if_icmp .le 8, 3) := by decide +kernel
theorem dX8_sworn_122 : decode cX8_sworn 122 = .ok (.iload 7, 2) := by decide +kernel
theorem dX8_sworn_124 : decode cX8_sworn 124 = .ok (.goto 5, 3) := by decide +kernel
theorem dX8_sworn_127 : decode cX8_sworn 127 = .ok (.iload 4, 2) := by decide +kernel
theorem dX8_sworn_129 : decode cX8_sworn 129 = .ok (.istore 4, 2) := by decide +kernel
theorem dX8_sworn_131 : decode cX8_sworn 131 = .ok (.iinc 6 1, 3) := by decide +kernel
theorem dX8_sworn_134 : decode cX8_sworn 134 = .ok (.goto (-83), 3) := by decide +kernel
theorem dX8_sworn_137 : decode cX8_sworn 137 = .ok (.iinc 5 1, 3) := by decide +kernel
theorem dX8_sworn_140 : decode cX8_sworn 140 = .ok (.goto (-103), 3) := by decide +kernel
theorem dX8_sworn_143 : decode cX8_sworn 143 = .ok (.iload_n 3, 1) := by decide +kernel
theorem dX8_sworn_144 : decode cX8_sworn 144 = .ok (.ifCond .ge 8, 3) := by decide +kernel
theorem dX8_sworn_147 : decode cX8_sworn 147 = .ok (.ldc 70, 2) := by decide +kernel
theorem dX8_sworn_149 : decode cX8_sworn 149 = .ok (.goto 13, 3) := by decide +kernel
theorem dX8_sworn_152 : decode cX8_sworn 152 = .ok (.iload_n 2, 1) := by decide +kernel
theorem dX8_sworn_153 : decode cX8_sworn 153 = .ok (.ifCond .ne 7, 3) := by decide +kernel
theorem dX8_sworn_156 : decode cX8_sworn 156 = .ok (.iload_n 3, 1) := by decide +kernel
theorem dX8_sworn_157 : decode cX8_sworn 157 = .ok (.goto 5, 3) := by decide +kernel
theorem dX8_sworn_160 : decode cX8_sworn 160 = .ok (.iload 4, 2) := by decide +kernel
theorem dX8_sworn_162 : decode cX8_sworn 162 = .ok (.ireturn, 1) := by decide +kernel
theorem dX8_trust_0 : decode cX8_trust 0 = .ok (.iload_n 1, 1) := by decide +kernel
theorem dX8_trust_1 : decode cX8_trust 1 = .ok (.i2l, 1) := by decide +kernel
theorem dX8_trust_2 : decode cX8_trust 2 = .ok (.lconst 1, 1) := by decide +kernel
theorem dX8_trust_3 : decode cX8_trust 3 = .ok (.ldc2_w 199, 3) := by decide +kernel
theorem dX8_trust_6 : decode cX8_trust 6 = .ok (.invokestatic 71, 3) := by decide +kernel
theorem dX8_trust_9 : decode cX8_trust 9 = .ok (.ifCond .eq 13, 3) := by decide +kernel
theorem dX8_trust_12 : decode cX8_trust 12 = .ok (.iload_n 2, 1) := by decide +kernel
theorem dX8_trust_13 : decode cX8_trust 13 = .ok (.i2l, 1) := by decide +kernel
theorem dX8_trust_14 : decode cX8_trust 14 = .ok (.lconst 0, 1) := by decide +kernel
theorem dX8_trust_15 : decode cX8_trust 15 = .ok (.lconst 1, 1) := by decide +kernel
theorem dX8_trust_16 : decode cX8_trust 16 = .ok (.invokestatic 71, 3) := by decide +kernel
theorem dX8_trust_19 : decode cX8_trust 19 = .ok (.ifCond .ne 6, 3) := by decide +kernel
theorem dX8_trust_22 : decode cX8_trust 22 = .ok (.ldc 86, 2) := by decide +kernel
theorem dX8_trust_24 : decode cX8_trust 24 = .ok (.ireturn, 1) := by decide +kernel
theorem dX8_trust_25 : decode cX8_trust 25 = .ok (.aload_n 0, 1) := by decide +kernel
theorem dX8_trust_26 : decode cX8_trust 26 = .ok (.invokevirtual 185, 3) := by decide +kernel
theorem dX8_trust_29 : decode cX8_trust 29 = .ok (.iconst (-1), 1) := by decide +kernel
theorem dX8_trust_30 : decode cX8_trust 30 = .ok (.istore_n 3, 1) := by decide +kernel
theorem dX8_trust_31 : decode cX8_trust 31 = .ok (.iconst (-1), 1) := by decide +kernel
theorem dX8_trust_32 : decode cX8_trust 32 = .ok (.istore 4, 2) := by decide +kernel
theorem dX8_trust_34 : decode cX8_trust 34 = .ok (.iconst 0, 1) := by decide +kernel
theorem dX8_trust_35 : decode cX8_trust 35 = .ok (.istore 5, 2) := by decide +kernel
theorem dX8_trust_37 : decode cX8_trust 37 = .ok (.iload 5, 2) := by decide +kernel
theorem dX8_trust_39 : decode cX8_trust 39 = .ok (.aload_n 0, 1) := by decide +kernel
theorem dX8_trust_40 : decode cX8_trust 40 = .ok (.getfield 7, 3) := by decide +kernel
theorem dX8_trust_43 : decode cX8_trust 43 = .ok (.iconst 0, 1) := by decide +kernel
theorem dX8_trust_44 : decode cX8_trust 44 = .ok (.iaload, 1) := by decide +kernel
theorem dX8_trust_45 : decode cX8_trust 45 = .ok (.if_icmp .ge 65, 3) := by decide +kernel
theorem dX8_trust_48 : decode cX8_trust 48 = .ok (.aload_n 0, 1) := by decide +kernel
theorem dX8_trust_49 : decode cX8_trust 49 = .ok (.iload 5, 2) := by decide +kernel
theorem dX8_trust_51 : decode cX8_trust 51 = .ok (.iconst 2, 1) := by decide +kernel
theorem dX8_trust_52 : decode cX8_trust 52 = .ok (.bipush 99, 2) := by decide +kernel
theorem dX8_trust_54 : decode cX8_trust 54 = .ok (.invokevirtual 76, 3) := by decide +kernel
theorem dX8_trust_57 : decode cX8_trust 57 = .ok (.aload_n 0, 1) := by decide +kernel
theorem dX8_trust_58 : decode cX8_trust 58 = .ok (.iload_n 1, 1) := by decide +kernel
theorem dX8_trust_59 : decode cX8_trust 59 = .ok (.invokevirtual 188, 3) := by decide +kernel
theorem dX8_trust_62 : decode cX8_trust 62 = .ok (.aload_n 0, 1) := by decide +kernel
theorem dX8_trust_63 : decode cX8_trust 63 = .ok (.getfield 7, 3) := by decide +kernel
theorem dX8_trust_66 : decode cX8_trust 66 = .ok (.iconst 3, 1) := by decide +kernel
theorem dX8_trust_67 : decode cX8_trust 67 = .ok (.iaload, 1) := by decide +kernel
theorem dX8_trust_68 : decode cX8_trust 68 = .ok (.istore 6, 2) := by decide +kernel
theorem dX8_trust_70 : decode cX8_trust 70 = .ok (.aload_n 0, 1) := by decide +kernel
theorem dX8_trust_71 : decode cX8_trust 71 = .ok (.invokevirtual 191, 3) := by decide +kernel
theorem dX8_trust_74 : decode cX8_trust 74 = .ok (.iload 6, 2) := by decide +kernel
theorem dX8_trust_76 : decode cX8_trust 76 = .ok (.iload 4, 2) := by decide +kernel
theorem dX8_trust_78 : decode cX8_trust 78 = .ok (.if_icmp .le 8, 3) := by decide +kernel
theorem dX8_trust_81 : decode cX8_trust 81 = .ok (.iload 5, 2) := by decide +kernel
theorem dX8_trust_83 : decode cX8_trust 83 = .ok (.goto 4, 3) := by decide +kernel
theorem dX8_trust_86 : decode cX8_trust 86 = .ok (.iload_n 3, 1) := by decide +kernel
theorem dX8_trust_87 : decode cX8_trust 87 = .ok (.istore_n 3, 1) := by decide +kernel
theorem dX8_trust_88 : decode cX8_trust 88 = .ok (.iload 6, 2) := by decide +kernel
theorem dX8_trust_90 : decode cX8_trust 90 = .ok (.iload 4, 2) := by decide +kernel
theorem dX8_trust_92 : decode cX8_trust 92 = .ok (.if_icmp .le 8, 3) := by decide +kernel
theorem dX8_trust_95 : decode cX8_trust 95 = .ok (.iload 6, 2) := by decide +kernel
theorem dX8_trust_97 : decode cX8_trust 97 = .ok (.goto 5, 3) := by decide +kernel
theorem dX8_trust_100 : decode cX8_trust 100 = .ok (.iload 4, 2) := by decide +kernel
theorem dX8_trust_102 : decode cX8_trust 102 = .ok (.istore 4, 2) := by decide +kernel
theorem dX8_trust_104 : decode cX8_trust 104 = .ok (.iinc 5 1, 3) := by decide +kernel
theorem dX8_trust_107 : decode cX8_trust 107 = .ok (.goto (-70), 3) := by decide +kernel
theorem dX8_trust_110 : decode cX8_trust 110 = .ok (.iload_n 3, 1) := by decide +kernel
theorem dX8_trust_111 : decode cX8_trust 111 = .ok (.ifCond .ge 8, 3) := by decide +kernel
theorem dX8_trust_114 : decode cX8_trust 114 = .ok (.ldc 70, 2) := by decide +kernel
theorem dX8_trust_116 : decode cX8_trust 116 = .ok (.goto 13, 3) := by decide +kernel
theorem dX8_trust_119 : decode cX8_trust 119 = .ok (.iload_n 2, 1) := by decide +kernel
theorem dX8_trust_120 : decode cX8_trust 120 = .ok (.ifCond .ne 7, 3) := by decide +kernel
theorem dX8_trust_123 : decode cX8_trust 123 = .ok (.iload_n 3, 1) := by decide +kernel
theorem dX8_trust_124 : decode cX8_trust 124 = .ok (.goto 5, 3) := by decide +kernel
theorem dX8_trust_127 : decode cX8_trust 127 = .ok (.iload 4, 2) := by decide +kernel
theorem dX8_trust_129 : decode cX8_trust 129 = .ok (.ireturn, 1) := by decide +kernel
theorem dX8_debtor_0 : decode cX8_debtor 0 = .ok (.iload_n 1, 1) := by decide +kernel
theorem dX8_debtor_1 : decode cX8_debtor 1 = .ok (.i2l, 1) := by decide +kernel
theorem dX8_debtor_2 : decode cX8_debtor 2 = .ok (.lconst 1, 1) := by decide +kernel
theorem dX8_debtor_3 : decode cX8_debtor 3 = .ok (.ldc2_w 199, 3) := by decide +kernel
theorem dX8_debtor_6 : decode cX8_debtor 6 = .ok (.invokestatic 71, 3) := by decide +kernel
theorem dX8_debtor_9 : decode cX8_debtor 9 = .ok (.ifCond .eq 13, 3) := by decide +kernel
theorem dX8_debtor_12 : decode cX8_debtor 12 = .ok (.iload_n 2, 1) := by decide +kernel
theorem dX8_debtor_13 : decode cX8_debtor 13 = .ok (.i2l, 1) := by decide +kernel
theorem dX8_debtor_14 : decode cX8_debtor 14 = .ok (.lconst 0, 1) := by decide +kernel
theorem dX8_debtor_15 : decode cX8_debtor 15 = .ok (.lconst 1, 1) := by decide +kernel
theorem dX8_debtor_16 : decode cX8_debtor 16 = .ok (.invokestatic 71, 3) := by decide +kernel
theorem dX8_debtor_19 : decode cX8_debtor 19 = .ok (.ifCond .ne 6, 3) := by decide +kernel
theorem dX8_debtor_22 : decode cX8_debtor 22 = .ok (.ldc 86, 2) := by decide +kernel
theorem dX8_debtor_24 : decode cX8_debtor 24 = .ok (.ireturn, 1) := by decide +kernel
theorem dX8_debtor_25 : decode cX8_debtor 25 = .ok (.aload_n 0, 1) := by decide +kernel
theorem dX8_debtor_26 : decode cX8_debtor 26 = .ok (.invokevirtual 185, 3) := by decide +kernel
theorem dX8_debtor_29 : decode cX8_debtor 29 = .ok (.aload_n 0, 1) := by decide +kernel
theorem dX8_debtor_30 : decode cX8_debtor 30 = .ok (.iload_n 1, 1) := by decide +kernel
theorem dX8_debtor_31 : decode cX8_debtor 31 = .ok (.invokevirtual 188, 3) := by decide +kernel
theorem dX8_debtor_34 : decode cX8_debtor 34 = .ok (.iconst (-1), 1) := by decide +kernel
theorem dX8_debtor_35 : decode cX8_debtor 35 = .ok (.istore_n 3, 1) := by decide +kernel
theorem dX8_debtor_36 : decode cX8_debtor 36 = .ok (.iconst 0, 1) := by decide +kernel
theorem dX8_debtor_37 : decode cX8_debtor 37 = .ok (.istore 4, 2) := by decide +kernel
theorem dX8_debtor_39 : decode cX8_debtor 39 = .ok (.iconst 0, 1) := by decide +kernel
theorem dX8_debtor_40 : decode cX8_debtor 40 = .ok (.istore 5, 2) := by decide +kernel
theorem dX8_debtor_42 : decode cX8_debtor 42 = .ok (.iload 5, 2) := by decide +kernel
theorem dX8_debtor_44 : decode cX8_debtor 44 = .ok (.aload_n 0, 1) := by decide +kernel
theorem dX8_debtor_45 : decode cX8_debtor 45 = .ok (.getfield 7, 3) := by decide +kernel
theorem dX8_debtor_48 : decode cX8_debtor 48 = .ok (.iconst 0, 1) := by decide +kernel
theorem dX8_debtor_49 : decode cX8_debtor 49 = .ok (.iaload, 1) := by decide +kernel
theorem dX8_debtor_50 : decode cX8_debtor 50 = .ok (.if_icmp .ge 51, 3) := by decide +kernel
theorem dX8_debtor_53 : decode cX8_debtor 53 = .ok (.aload_n 0, 1) := by decide +kernel
theorem dX8_debtor_54 : decode cX8_debtor 54 = .ok (.getfield 49, 3) := by decide +kernel
theorem dX8_debtor_57 : decode cX8_debtor 57 = .ok (.bipush 7, 2) := by decide +kernel
theorem dX8_debtor_59 : decode cX8_debtor 59 = .ok (.iconst 5, 1) := by decide +kernel
theorem dX8_debtor_60 : decode cX8_debtor 60 = .ok (.iload 5, 2) := by decide +kernel
theorem dX8_debtor_62 : decode cX8_debtor 62 = .ok (.imul, 1) := by decide +kernel
theorem dX8_debtor_63 : decode cX8_debtor 63 = .ok (.iadd, 1) := by decide +kernel
theorem dX8_debtor_64 : decode cX8_debtor 64 = .ok (.iconst 3, 1) := by decide +kernel
theorem dX8_debtor_65 : decode cX8_debtor 65 = .ok (.iadd, 1) := by decide +kernel
theorem dX8_debtor_66 : decode cX8_debtor 66 = .ok (.iaload, 1) := by decide +kernel
theorem dX8_debtor_67 : decode cX8_debtor 67 = .ok (.aload_n 0, 1) := by decide +kernel
theorem dX8_debtor_68 : decode cX8_debtor 68 = .ok (.iload 5, 2) := by decide +kernel
theorem dX8_debtor_70 : decode cX8_debtor 70 = .ok (.iconst 3, 1) := by decide +kernel
theorem dX8_debtor_71 : decode cX8_debtor 71 = .ok (.invokevirtual 98, 3) := by decide +kernel
theorem dX8_debtor_74 : decode cX8_debtor 74 = .ok (.isub, 1) := by decide +kernel
theorem dX8_debtor_75 : decode cX8_debtor 75 = .ok (.istore 6, 2) := by decide +kernel
theorem dX8_debtor_77 : decode cX8_debtor 77 = .ok (.iload_n 3, 1) := by decide +kernel
theorem dX8_debtor_78 : decode cX8_debtor 78 = .ok (.ifCond .lt 10, 3) := by decide +kernel
theorem dX8_debtor_81 : decode cX8_debtor 81 = .ok (.iload 6, 2) := by decide +kernel
theorem dX8_debtor_83 : decode cX8_debtor 83 = .ok (.iload 4, 2) := by decide +kernel
theorem dX8_debtor_85 : decode cX8_debtor 85 = .ok (.if_icmp .le 10, 3) := by decide +kernel
theorem dX8_debtor_88 : decode cX8_debtor 88 = .ok (.iload 5, 2) := by decide +kernel
theorem dX8_debtor_90 : decode cX8_debtor 90 = .ok (.istore_n 3, 1) := by decide +kernel
theorem dX8_debtor_91 : decode cX8_debtor 91 = .ok (.iload 6, 2) := by decide +kernel
theorem dX8_debtor_93 : decode cX8_debtor 93 = .ok (.istore 4, 2) := by decide +kernel
theorem dX8_debtor_95 : decode cX8_debtor 95 = .ok (.iinc 5 1, 3) := by decide +kernel
theorem dX8_debtor_98 : decode cX8_debtor 98 = .ok (.goto (-56), 3) := by decide +kernel
theorem dX8_debtor_101 : decode cX8_debtor 101 = .ok (.aload_n 0, 1) := by decide +kernel
theorem dX8_debtor_102 : decode cX8_debtor 102 = .ok (.invokevirtual 191, 3) := by decide +kernel
theorem dX8_debtor_105 : decode cX8_debtor 105 = .ok (.iload_n 3, 1) := by decide +kernel
theorem dX8_debtor_106 : decode cX8_debtor 106 = .ok (.ifCond .ge 8, 3) := by decide +kernel
theorem dX8_debtor_109 : decode cX8_debtor 109 = .ok (.ldc 70, 2) := by decide +kernel
theorem dX8_debtor_111 : decode cX8_debtor 111 = .ok (.goto 13, 3) := by decide +kernel
theorem dX8_debtor_114 : decode cX8_debtor 114 = .ok (.iload_n 2, 1) := by decide +kernel
theorem dX8_debtor_115 : decode cX8_debtor 115 = .ok (.ifCond .ne 7, 3) := by decide +kernel
theorem dX8_debtor_118 : decode cX8_debtor 118 = .ok (.iload_n 3, 1) := by decide +kernel
theorem dX8_debtor_119 : decode cX8_debtor 119 = .ok (.goto 5, 3) := by decide +kernel
theorem dX8_debtor_122 : decode cX8_debtor 122 = .ok (.iload 4, 2) := by decide +kernel
theorem dX8_debtor_124 : decode cX8_debtor 124 = .ok (.ireturn, 1) := by decide +kernel
theorem dX8_fee_0 : decode cX8_fee 0 = .ok (.aload_n 0, 1) := by decide +kernel
theorem dX8_fee_1 : decode cX8_fee 1 = .ok (.iconst 1, 1) := by decide +kernel
theorem dX8_fee_2 : decode cX8_fee 2 = .ok (.invokevirtual 101, 3) := by decide +kernel
theorem dX8_fee_5 : decode cX8_fee 5 = .ok (.istore_n 1, 1) := by decide +kernel
theorem dX8_fee_6 : decode cX8_fee 6 = .ok (.iload_n 1, 1) := by decide +kernel
theorem dX8_fee_7 : decode cX8_fee 7 = .ok (.ifCond .ge 10, 3) := by decide +kernel
theorem dX8_fee_10 : decode cX8_fee 10 = .ok (.aload_n 0, 1) := by decide +kernel
theorem dX8_fee_11 : decode cX8_fee 11 = .ok (.getfield 7, 3) := by decide +kernel
theorem dX8_fee_14 : decode cX8_fee 14 = .ok (.iconst 5, 1) := by decide +kernel
theorem dX8_fee_15 : decode cX8_fee 15 = .ok (.iaload, 1) := by decide +kernel
theorem dX8_fee_16 : decode cX8_fee 16 = .ok (.ireturn, 1) := by decide +kernel
theorem dX8_fee_17 : decode cX8_fee 17 = .ok (.aload_n 0, 1) := by decide +kernel
theorem dX8_fee_18 : decode cX8_fee 18 = .ok (.getfield 55, 3) := by decide +kernel
theorem dX8_fee_21 : decode cX8_fee 21 = .ok (.bipush 107, 2) := by decide +kernel
theorem dX8_fee_23 : decode cX8_fee 23 = .ok (.aload_n 0, 1) := by decide +kernel
theorem dX8_fee_24 : decode cX8_fee 24 = .ok (.getfield 7, 3) := by decide +kernel
theorem dX8_fee_27 : decode cX8_fee 27 = .ok (.iconst 4, 1) := by decide +kernel
theorem dX8_fee_28 : decode cX8_fee 28 = .ok (.iaload, 1) := by decide +kernel
theorem dX8_fee_29 : decode cX8_fee 29 = .ok (.iastore, 1) := by decide +kernel
theorem dX8_fee_30 : decode cX8_fee 30 = .ok (.aload_n 0, 1) := by decide +kernel
theorem dX8_fee_31 : decode cX8_fee 31 = .ok (.getfield 55, 3) := by decide +kernel
theorem dX8_fee_34 : decode cX8_fee 34 = .ok (.bipush 108, 2) := by decide +kernel
theorem dX8_fee_36 : decode cX8_fee 36 = .ok (.aload_n 0, 1) := by decide +kernel
theorem dX8_fee_37 : decode cX8_fee 37 = .ok (.getfield 7, 3) := by decide +kernel
theorem dX8_fee_40 : decode cX8_fee 40 = .ok (.iconst 5, 1) := by decide +kernel
theorem dX8_fee_41 : decode cX8_fee 41 = .ok (.iaload, 1) := by decide +kernel
theorem dX8_fee_42 : decode cX8_fee 42 = .ok (.iastore, 1) := by decide +kernel
theorem dX8_fee_43 : decode cX8_fee 43 = .ok (.aload_n 0, 1) := by decide +kernel
theorem dX8_fee_44 : decode cX8_fee 44 = .ok (.iload_n 1, 1) := by decide +kernel
theorem dX8_fee_45 : decode cX8_fee 45 = .ok (.invokevirtual 105, 3) := by decide +kernel
theorem dX8_fee_48 : decode cX8_fee 48 = .ok (.ireturn, 1) := by decide +kernel
theorem dX8_fine_0 : decode cX8_fine 0 = .ok (.aload_n 0, 1) := by decide +kernel
theorem dX8_fine_1 : decode cX8_fine 1 = .ok (.iload_n 1, 1) := by decide +kernel
theorem dX8_fine_2 : decode cX8_fine 2 = .ok (.invokevirtual 112, 3) := by decide +kernel
theorem dX8_fine_5 : decode cX8_fine 5 = .ok (.ifCond .ne 6, 3) := by decide +kernel
theorem dX8_fine_8 : decode cX8_fine 8 = .ok (.ldc 86, 2) := by decide +kernel
theorem dX8_fine_10 : decode cX8_fine 10 = .ok (.ireturn, 1) := by decide +kernel
theorem dX8_fine_11 : decode cX8_fine 11 = .ok (.aload_n 0, 1) := by decide +kernel
theorem dX8_fine_12 : decode cX8_fine 12 = .ok (.iconst 2, 1) := by decide +kernel
theorem dX8_fine_13 : decode cX8_fine 13 = .ok (.invokevirtual 101, 3) := by decide +kernel
theorem dX8_fine_16 : decode cX8_fine 16 = .ok (.istore_n 2, 1) := by decide +kernel
theorem dX8_fine_17 : decode cX8_fine 17 = .ok (.iload_n 2, 1) := by decide +kernel
theorem dX8_fine_18 : decode cX8_fine 18 = .ok (.ifCond .ge 10, 3) := by decide +kernel
theorem dX8_fine_21 : decode cX8_fine 21 = .ok (.aload_n 0, 1) := by decide +kernel
theorem dX8_fine_22 : decode cX8_fine 22 = .ok (.iload_n 1, 1) := by decide +kernel
theorem dX8_fine_23 : decode cX8_fine 23 = .ok (.iconst 3, 1) := by decide +kernel
theorem dX8_fine_24 : decode cX8_fine 24 = .ok (.invokevirtual 98, 3) := by decide +kernel
theorem dX8_fine_27 : decode cX8_fine 27 = .ok (.ireturn, 1) := by decide +kernel
theorem dX8_fine_28 : decode cX8_fine 28 = .ok (.aload_n 0, 1) := by decide +kernel
theorem dX8_fine_29 : decode cX8_fine 29 = .ok (.getfield 55, 3) := by decide +kernel
theorem dX8_fine_32 : decode cX8_fine 32 = .ok (.bipush 112, 2) := by decide +kernel
theorem dX8_fine_34 : decode cX8_fine 34 = .ok (.aload_n 0, 1) := by decide +kernel
theorem dX8_fine_35 : decode cX8_fine 35 = .ok (.iload_n 1, 1) := by decide +kernel
theorem dX8_fine_36 : decode cX8_fine 36 = .ok (.iconst 3, 1) := by decide +kernel
theorem dX8_fine_37 : decode cX8_fine 37 = .ok (.invokevirtual 98, 3) := by decide +kernel
theorem dX8_fine_40 : decode cX8_fine 40 = .ok (.iastore, 1) := by decide +kernel
theorem dX8_fine_41 : decode cX8_fine 41 = .ok (.aload_n 0, 1) := by decide +kernel
theorem dX8_fine_42 : decode cX8_fine 42 = .ok (.getfield 55, 3) := by decide +kernel
theorem dX8_fine_45 : decode cX8_fine 45 = .ok (.bipush 101, 2) := by decide +kernel
theorem dX8_fine_47 : decode cX8_fine 47 = .ok (.aload_n 0, 1) := by decide +kernel
theorem dX8_fine_48 : decode cX8_fine 48 = .ok (.iload_n 1, 1) := by decide +kernel
theorem dX8_fine_49 : decode cX8_fine 49 = .ok (.iconst 1, 1) := by decide +kernel
theorem dX8_fine_50 : decode cX8_fine 50 = .ok (.invokevirtual 98, 3) := by decide +kernel
theorem dX8_fine_53 : decode cX8_fine 53 = .ok (.iastore, 1) := by decide +kernel
theorem dX8_fine_54 : decode cX8_fine 54 = .ok (.aload_n 0, 1) := by decide +kernel
theorem dX8_fine_55 : decode cX8_fine 55 = .ok (.iload_n 2, 1) := by decide +kernel
theorem dX8_fine_56 : decode cX8_fine 56 = .ok (.invokevirtual 105, 3) := by decide +kernel
theorem dX8_fine_59 : decode cX8_fine 59 = .ok (.ireturn, 1) := by decide +kernel
theorem dX8_manyStruck_0 : decode cX8_manyStruck 0 = .ok (.iconst 0, 1) := by decide +kernel
theorem dX8_manyStruck_1 : decode cX8_manyStruck 1 = .ok (.istore_n 1, 1) := by decide +kernel
theorem dX8_manyStruck_2 : decode cX8_manyStruck 2 = .ok (.iconst 0, 1) := by decide +kernel
theorem dX8_manyStruck_3 : decode cX8_manyStruck 3 = .ok (.istore_n 2, 1) := by decide +kernel
theorem dX8_manyStruck_4 : decode cX8_manyStruck 4 = .ok (.iload_n 2, 1) := by decide +kernel
theorem dX8_manyStruck_5 : decode cX8_manyStruck 5 = .ok (.aload_n 0, 1) := by decide +kernel
theorem dX8_manyStruck_6 : decode cX8_manyStruck 6 = .ok (.getfield 7, 3) := by decide +kernel
theorem dX8_manyStruck_9 : decode cX8_manyStruck 9 = .ok (.iconst 0, 1) := by decide +kernel
theorem dX8_manyStruck_10 : decode cX8_manyStruck 10 = .ok (.iaload, 1) := by decide +kernel
theorem dX8_manyStruck_11 : decode cX8_manyStruck 11 = .ok (.if_icmp .ge 27, 3) := by decide +kernel
theorem dX8_manyStruck_14 : decode cX8_manyStruck 14 = .ok (.iload_n 1, 1) := by decide +kernel
theorem dX8_manyStruck_15 : decode cX8_manyStruck 15 = .ok (.aload_n 0, 1) := by decide +kernel
theorem dX8_manyStruck_16 : decode cX8_manyStruck 16 = .ok (.iload_n 2, 1) := by decide +kernel
theorem dX8_manyStruck_17 : decode cX8_manyStruck 17 = .ok (.iconst 0, 1) := by decide +kernel
theorem dX8_manyStruck_18 : decode cX8_manyStruck 18 = .ok (.invokevirtual 98, 3) := by decide +kernel
theorem dX8_manyStruck_21 : decode cX8_manyStruck 21 = .ok (.iconst 5, 1) := by decide +kernel
theorem dX8_manyStruck_22 : decode cX8_manyStruck 22 = .ok (.if_icmp .ne 7, 3) := by decide +kernel
theorem dX8_manyStruck_25 : decode cX8_manyStruck 25 = .ok (.iconst 1, 1) := by decide +kernel
theorem dX8_manyStruck_26 : decode cX8_manyStruck 26 = .ok (.goto 4, 3) := by decide +kernel
theorem dX8_manyStruck_29 : decode cX8_manyStruck 29 = .ok (.iconst 0, 1) := by decide +kernel
theorem dX8_manyStruck_30 : decode cX8_manyStruck 30 = .ok (.iadd, 1) := by decide +kernel
theorem dX8_manyStruck_31 : decode cX8_manyStruck 31 = .ok (.istore_n 1, 1) := by decide +kernel
theorem dX8_manyStruck_32 : decode cX8_manyStruck 32 = .ok (.iinc 2 1, 3) := by decide +kernel
theorem dX8_manyStruck_35 : decode cX8_manyStruck 35 = .ok (.goto (-31), 3) := by decide +kernel
theorem dX8_manyStruck_38 : decode cX8_manyStruck 38 = .ok (.iload_n 1, 1) := by decide +kernel
theorem dX8_manyStruck_39 : decode cX8_manyStruck 39 = .ok (.ireturn, 1) := by decide +kernel
theorem dX8_feed_0 : decode cX8_feed 0 = .ok (.aload_n 0, 1) := by decide +kernel
theorem dX8_feed_1 : decode cX8_feed 1 = .ok (.getfield 201, 3) := by decide +kernel
theorem dX8_feed_4 : decode cX8_feed 4 = .ok (.bipush 12, 2) := by decide +kernel
theorem dX8_feed_6 : decode cX8_feed 6 = .ok (.iadd, 1) := by decide +kernel
theorem dX8_feed_7 : decode cX8_feed 7 = .ok (.bipush 96, 2) := by decide +kernel
theorem dX8_feed_9 : decode cX8_feed 9 = .ok (.if_icmp .le 6, 3) := by decide +kernel
theorem dX8_feed_12 : decode cX8_feed 12 = .ok (.ldc 87, 2) := by decide +kernel
theorem dX8_feed_14 : decode cX8_feed 14 = .ok (.ireturn, 1) := by decide +kernel
theorem dX8_feed_15 : decode cX8_feed 15 = .ok (.iconst 0, 1) := by decide +kernel
theorem dX8_feed_16 : decode cX8_feed 16 = .ok (.istore 4, 2) := by decide +kernel
theorem dX8_feed_18 : decode cX8_feed 18 = .ok (.iload 4, 2) := by decide +kernel
theorem dX8_feed_20 : decode cX8_feed 20 = .ok (.bipush 12, 2) := by decide +kernel
theorem dX8_feed_22 : decode cX8_feed 22 = .ok (.if_icmp .ge 69, 3) := by decide +kernel
theorem dX8_feed_25 : decode cX8_feed 25 = .ok (.iload 4, 2) := by decide +kernel
theorem dX8_feed_27 : decode cX8_feed 27 = .ok (.iconst 4, 1) := by decide +kernel
theorem dX8_feed_28 : decode cX8_feed 28 = .ok (.if_icmp .ge 7, 3) := by decide +kernel
theorem dX8_feed_31 : decode cX8_feed 31 = .ok (.iload_n 1, 1) := by decide +kernel
theorem dX8_feed_32 : decode cX8_feed 32 = .ok (.goto 15, 3) := by decide +kernel
theorem dX8_feed_35 : decode cX8_feed 35 = .ok (.iload 4, 2) := by decide +kernel
theorem dX8_feed_37 : decode cX8_feed 37 = .ok (.bipush 8, 2) := by decide +kernel
theorem dX8_feed_39 : decode cX8_feed 39 = .ok (.if_icmp .ge 7, 3) := by decide +kernel
theorem dX8_feed_42 : decode cX8_feed 42 = .ok (.iload_n 2, 1) := by decide +kernel
theorem dX8_feed_43 : decode cX8_feed 43 = .ok (.goto 4, 3) := by decide +kernel
theorem dX8_feed_46 : decode cX8_feed 46 = .ok (.iload_n 3, 1) := by decide +kernel
theorem dX8_feed_47 : decode cX8_feed 47 = .ok (.istore 5, 2) := by decide +kernel
theorem dX8_feed_49 : decode cX8_feed 49 = .ok (.aload_n 0, 1) := by decide +kernel
theorem dX8_feed_50 : decode cX8_feed 50 = .ok (.getfield 52, 3) := by decide +kernel
theorem dX8_feed_53 : decode cX8_feed 53 = .ok (.aload_n 0, 1) := by decide +kernel
theorem dX8_feed_54 : decode cX8_feed 54 = .ok (.getfield 201, 3) := by decide +kernel
theorem dX8_feed_57 : decode cX8_feed 57 = .ok (.iload 5, 2) := by decide +kernel
theorem dX8_feed_59 : decode cX8_feed 59 = .ok (.bipush 24, 2) := by decide +kernel
theorem dX8_feed_61 : decode cX8_feed 61 = .ok (.bipush 8, 2) := by decide +kernel
theorem dX8_feed_63 : decode cX8_feed 63 = .ok (.iload 4, 2) := by decide +kernel
theorem dX8_feed_65 : decode cX8_feed 65 = .ok (.iconst 4, 1) := by decide +kernel
theorem dX8_feed_66 : decode cX8_feed 66 = .ok (.irem, 1) := by decide +kernel
theorem dX8_feed_67 : decode cX8_feed 67 = .ok (.imul, 1) := by decide +kernel
theorem dX8_feed_68 : decode cX8_feed 68 = .ok (.isub, 1) := by decide +kernel
theorem dX8_feed_69 : decode cX8_feed 69 = .ok (.ishr, 1) := by decide +kernel
theorem dX8_feed_70 : decode cX8_feed 70 = .ok (.sipush 255, 3) := by decide +kernel
theorem dX8_feed_73 : decode cX8_feed 73 = .ok (.iand, 1) := by decide +kernel
theorem dX8_feed_74 : decode cX8_feed 74 = .ok (.iastore, 1) := by decide +kernel
theorem dX8_feed_75 : decode cX8_feed 75 = .ok (.aload_n 0, 1) := by decide +kernel
theorem dX8_feed_76 : decode cX8_feed 76 = .ok (.dup, 1) := by decide +kernel
theorem dX8_feed_77 : decode cX8_feed 77 = .ok (.getfield 201, 3) := by decide +kernel
theorem dX8_feed_80 : decode cX8_feed 80 = .ok (.iconst 1, 1) := by decide +kernel
theorem dX8_feed_81 : decode cX8_feed 81 = .ok (.iadd, 1) := by decide +kernel
theorem dX8_feed_82 : decode cX8_feed 82 = .ok (.putfield 201, 3) := by decide +kernel
theorem dX8_feed_85 : decode cX8_feed 85 = .ok (.iinc 4 1, 3) := by decide +kernel
theorem dX8_feed_88 : decode cX8_feed 88 = .ok (.goto (-70), 3) := by decide +kernel
theorem dX8_feed_91 : decode cX8_feed 91 = .ok (.aload_n 0, 1) := by decide +kernel
theorem dX8_feed_92 : decode cX8_feed 92 = .ok (.getfield 201, 3) := by decide +kernel
theorem dX8_feed_95 : decode cX8_feed 95 = .ok (.ireturn, 1) := by decide +kernel
end
section
theorem dX8_trim_0 : decode cX8_trim 0 = .ok (.iload_n 1, 1) := by decide +kernel
theorem dX8_trim_1 : decode cX8_trim 1 = .ok (.i2l, 1) := by decide +kernel
theorem dX8_trim_2 : decode cX8_trim 2 = .ok (.lconst 0, 1) := by decide +kernel
theorem dX8_trim_3 : decode cX8_trim 3 = .ok (.aload_n 0, 1) := by decide +kernel
theorem dX8_trim_4 : decode cX8_trim 4 = .ok (.getfield 201, 3) := by decide +kernel
theorem dX8_trim_7 : decode cX8_trim 7 = .ok (.i2l, 1) := by decide +kernel
theorem dX8_trim_8 : decode cX8_trim 8 = .ok (.invokestatic 71, 3) := by decide +kernel
theorem dX8_trim_11 : decode cX8_trim 11 = .ok (.ifCond .ne 6, 3) := by decide +kernel
theorem dX8_trim_14 : decode cX8_trim 14 = .ok (.ldc 86, 2) := by decide +kernel
theorem dX8_trim_16 : decode cX8_trim 16 = .ok (.ireturn, 1) := by decide +kernel
theorem dX8_trim_17 : decode cX8_trim 17 = .ok (.aload_n 0, 1) := by decide +kernel
theorem dX8_trim_18 : decode cX8_trim 18 = .ok (.iload_n 1, 1) := by decide +kernel
theorem dX8_trim_19 : decode cX8_trim 19 = .ok (.putfield 201, 3) := by decide +kernel
theorem dX8_trim_22 : decode cX8_trim 22 = .ok (.iload_n 1, 1) := by decide +kernel
theorem dX8_trim_23 : decode cX8_trim 23 = .ok (.ireturn, 1) := by decide +kernel
theorem dX8_isLetter_0 : decode cX8_isLetter 0 = .ok (.iload_n 1, 1) := by decide +kernel
theorem dX8_isLetter_1 : decode cX8_isLetter 1 = .ok (.aload_n 0, 1) := by decide +kernel
theorem dX8_isLetter_2 : decode cX8_isLetter 2 = .ok (.getfield 201, 3) := by decide +kernel
theorem dX8_isLetter_5 : decode cX8_isLetter 5 = .ok (.if_icmp .ge 26, 3) := by decide +kernel
theorem dX8_isLetter_8 : decode cX8_isLetter 8 = .ok (.aload_n 0, 1) := by decide +kernel
theorem dX8_isLetter_9 : decode cX8_isLetter 9 = .ok (.getfield 52, 3) := by decide +kernel
theorem dX8_isLetter_12 : decode cX8_isLetter 12 = .ok (.iload_n 1, 1) := by decide +kernel
theorem dX8_isLetter_13 : decode cX8_isLetter 13 = .ok (.iaload, 1) := by decide +kernel
theorem dX8_isLetter_14 : decode cX8_isLetter 14 = .ok (.i2l, 1) := by decide +kernel
theorem dX8_isLetter_15 : decode cX8_isLetter 15 = .ok (.ldc2_w 205, 3) := by decide +kernel
theorem dX8_isLetter_18 : decode cX8_isLetter 18 = .ok (.ldc2_w 207, 3) := by decide +kernel
theorem dX8_isLetter_21 : decode cX8_isLetter 21 = .ok (.invokestatic 71, 3) := by decide +kernel
theorem dX8_isLetter_24 : decode cX8_isLetter 24 = .ok (.ifCond .eq 7, 3) := by decide +kernel
theorem dX8_isLetter_27 : decode cX8_isLetter 27 = .ok (.iconst 1, 1) := by decide +kernel
theorem dX8_isLetter_28 : decode cX8_isLetter 28 = .ok (.goto 4, 3) := by decide +kernel
theorem dX8_isLetter_31 : decode cX8_isLetter 31 = .ok (.iconst 0, 1) := by decide +kernel
theorem dX8_isLetter_32 : decode cX8_isLetter 32 = .ok (.ireturn, 1) := by decide +kernel
theorem dX8_isDigit_0 : decode cX8_isDigit 0 = .ok (.iload_n 1, 1) := by decide +kernel
theorem dX8_isDigit_1 : decode cX8_isDigit 1 = .ok (.aload_n 0, 1) := by decide +kernel
theorem dX8_isDigit_2 : decode cX8_isDigit 2 = .ok (.getfield 201, 3) := by decide +kernel
theorem dX8_isDigit_5 : decode cX8_isDigit 5 = .ok (.if_icmp .ge 26, 3) := by decide +kernel
theorem dX8_isDigit_8 : decode cX8_isDigit 8 = .ok (.aload_n 0, 1) := by decide +kernel
theorem dX8_isDigit_9 : decode cX8_isDigit 9 = .ok (.getfield 52, 3) := by decide +kernel
theorem dX8_isDigit_12 : decode cX8_isDigit 12 = .ok (.iload_n 1, 1) := by decide +kernel
theorem dX8_isDigit_13 : decode cX8_isDigit 13 = .ok (.iaload, 1) := by decide +kernel
theorem dX8_isDigit_14 : decode cX8_isDigit 14 = .ok (.i2l, 1) := by decide +kernel
theorem dX8_isDigit_15 : decode cX8_isDigit 15 = .ok (.ldc2_w 209, 3) := by decide +kernel
theorem dX8_isDigit_18 : decode cX8_isDigit 18 = .ok (.ldc2_w 211, 3) := by decide +kernel
theorem dX8_isDigit_21 : decode cX8_isDigit 21 = .ok (.invokestatic 71, 3) := by decide +kernel
theorem dX8_isDigit_24 : decode cX8_isDigit 24 = .ok (.ifCond .eq 7, 3) := by decide +kernel
theorem dX8_isDigit_27 : decode cX8_isDigit 27 = .ok (.iconst 1, 1) := by decide +kernel
theorem dX8_isDigit_28 : decode cX8_isDigit 28 = .ok (.goto 4, 3) := by decide +kernel
theorem dX8_isDigit_31 : decode cX8_isDigit 31 = .ok (.iconst 0, 1) := by decide +kernel
theorem dX8_isDigit_32 : decode cX8_isDigit 32 = .ok (.ireturn, 1) := by decide +kernel
theorem dX8_nextToken_0 : decode cX8_nextToken 0 = .ok (.aload_n 0, 1) := by decide +kernel
theorem dX8_nextToken_1 : decode cX8_nextToken 1 = .ok (.getfield 213, 3) := by decide +kernel
theorem dX8_nextToken_4 : decode cX8_nextToken 4 = .ok (.ifCond .le 23, 3) := by decide +kernel
theorem dX8_nextToken_7 : decode cX8_nextToken 7 = .ok (.aload_n 0, 1) := by decide +kernel
theorem dX8_nextToken_8 : decode cX8_nextToken 8 = .ok (.getfield 216, 3) := by decide +kernel
theorem dX8_nextToken_11 : decode cX8_nextToken 11 = .ok (.iconst 1, 1) := by decide +kernel
theorem dX8_nextToken_12 : decode cX8_nextToken 12 = .ok (.if_icmp .eq 11, 3) := by decide +kernel
theorem dX8_nextToken_15 : decode cX8_nextToken 15 = .ok (.aload_n 0, 1) := by decide +kernel
theorem dX8_nextToken_16 : decode cX8_nextToken 16 = .ok (.getfield 216, 3) := by decide +kernel
theorem dX8_nextToken_19 : decode cX8_nextToken 19 = .ok (.iconst 2, 1) := by decide +kernel
theorem dX8_nextToken_20 : decode cX8_nextToken 20 = .ok (.if_icmp .ne 7, 3) := by decide +kernel
theorem dX8_nextToken_23 : decode cX8_nextToken 23 = .ok (.iconst 1, 1) := by decide +kernel
theorem dX8_nextToken_24 : decode cX8_nextToken 24 = .ok (.goto 4, 3) := by decide +kernel
theorem dX8_nextToken_27 : decode cX8_nextToken 27 = .ok (.iconst 0, 1) := by decide +kernel
theorem dX8_nextToken_28 : decode cX8_nextToken 28 = .ok (.istore_n 1, 1) := by decide +kernel
theorem dX8_nextToken_29 : decode cX8_nextToken 29 = .ok (.aload_n 0, 1) := by decide +kernel
theorem dX8_nextToken_30 : decode cX8_nextToken 30 = .ok (.getfield 213, 3) := by decide +kernel
theorem dX8_nextToken_33 : decode cX8_nextToken 33 = .ok (.istore_n 2, 1) := by decide +kernel
theorem dX8_nextToken_34 : decode cX8_nextToken 34 = .ok (.aload_n 0, 1) := by decide +kernel
theorem dX8_nextToken_35 : decode cX8_nextToken 35 = .ok (.getfield 213, 3) := by decide +kernel
theorem dX8_nextToken_38 : decode cX8_nextToken 38 = .ok (.aload_n 0, 1) := by decide +kernel
theorem dX8_nextToken_39 : decode cX8_nextToken 39 = .ok (.getfield 201, 3) := by decide +kernel
theorem dX8_nextToken_42 : decode cX8_nextToken 42 = .ok (.if_icmp .ge 30, 3) := by decide +kernel
theorem dX8_nextToken_45 : decode cX8_nextToken 45 = .ok (.aload_n 0, 1) := by decide +kernel
theorem dX8_nextToken_46 : decode cX8_nextToken 46 = .ok (.getfield 52, 3) := by decide +kernel
theorem dX8_nextToken_49 : decode cX8_nextToken 49 = .ok (.aload_n 0, 1) := by decide +kernel
theorem dX8_nextToken_50 : decode cX8_nextToken 50 = .ok (.getfield 213, 3) := by decide +kernel
theorem dX8_nextToken_53 : decode cX8_nextToken 53 = .ok (.iaload, 1) := by decide +kernel
theorem dX8_nextToken_54 : decode cX8_nextToken 54 = .ok (.bipush 32, 2) := by decide +kernel
theorem dX8_nextToken_56 : decode cX8_nextToken 56 = .ok (.if_icmp .ne 16, 3) := by decide +kernel
theorem dX8_nextToken_59 : decode cX8_nextToken 59 = .ok (.aload_n 0, 1) := by decide +kernel
theorem dX8_nextToken_60 : decode cX8_nextToken 60 = .ok (.dup, 1) := by decide +kernel
theorem dX8_nextToken_61 : decode cX8_nextToken 61 = .ok (.getfield 213, 3) := by decide +kernel
theorem dX8_nextToken_64 : decode cX8_nextToken 64 = .ok (.iconst 1, 1) := by decide +kernel
theorem dX8_nextToken_65 : decode cX8_nextToken 65 = .ok (.iadd, 1) := by decide +kernel
theorem dX8_nextToken_66 : decode cX8_nextToken 66 = .ok (.putfield 213, 3) := by decide +kernel
theorem dX8_nextToken_69 : decode cX8_nextToken 69 = .ok (.goto (-35), 3) := by decide +kernel
theorem dX8_nextToken_72 : decode cX8_nextToken 72 = .ok (.iload_n 1, 1) := by decide +kernel
theorem dX8_nextToken_73 : decode cX8_nextToken 73 = .ok (.ifCond .eq 15, 3) := by decide +kernel
theorem dX8_nextToken_76 : decode cX8_nextToken 76 = .ok (.iload_n 2, 1) := by decide +kernel
theorem dX8_nextToken_77 : decode cX8_nextToken 77 = .ok (.aload_n 0, 1) := by decide +kernel
theorem dX8_nextToken_78 : decode cX8_nextToken 78 = .ok (.getfield 213, 3) := by decide +kernel
theorem dX8_nextToken_81 : decode cX8_nextToken 81 = .ok (.if_icmp .ne 7, 3) := by decide +kernel
theorem dX8_nextToken_84 : decode cX8_nextToken 84 = .ok (.iconst 1, 1) := by decide +kernel
theorem dX8_nextToken_85 : decode cX8_nextToken 85 = .ok (.goto 4, 3) := by decide +kernel
theorem dX8_nextToken_88 : decode cX8_nextToken 88 = .ok (.iconst 0, 1) := by decide +kernel
theorem dX8_nextToken_89 : decode cX8_nextToken 89 = .ok (.istore_n 1, 1) := by decide +kernel
theorem dX8_nextToken_90 : decode cX8_nextToken 90 = .ok (.aload_n 0, 1) := by decide +kernel
theorem dX8_nextToken_91 : decode cX8_nextToken 91 = .ok (.aload_n 0, 1) := by decide +kernel
theorem dX8_nextToken_92 : decode cX8_nextToken 92 = .ok (.getfield 213, 3) := by decide +kernel
theorem dX8_nextToken_95 : decode cX8_nextToken 95 = .ok (.putfield 219, 3) := by decide +kernel
theorem dX8_nextToken_98 : decode cX8_nextToken 98 = .ok (.aload_n 0, 1) := by decide +kernel
theorem dX8_nextToken_99 : decode cX8_nextToken 99 = .ok (.getfield 219, 3) := by decide +kernel
theorem dX8_nextToken_102 : decode cX8_nextToken 102 = .ok (.aload_n 0, 1) := by decide +kernel
theorem dX8_nextToken_103 : decode cX8_nextToken 103 = .ok (.getfield 201, 3) := by decide +kernel
theorem dX8_nextToken_106 : decode cX8_nextToken 106 = .ok (.if_icmp .ne 11, 3) := by decide +kernel
theorem dX8_nextToken_109 : decode cX8_nextToken 109 = .ok (.aload_n 0, 1) := by decide +kernel
theorem dX8_nextToken_110 : decode cX8_nextToken 110 = .ok (.iconst 0, 1) := by decide +kernel
theorem dX8_nextToken_111 : decode cX8_nextToken 111 = .ok (.putfield 216, 3) := by decide +kernel
theorem dX8_nextToken_114 : decode cX8_nextToken 114 = .ok (.goto 225, 3) := by decide +kernel
theorem dX8_nextToken_117 : decode cX8_nextToken 117 = .ok (.aload_n 0, 1) := by decide +kernel
theorem dX8_nextToken_118 : decode cX8_nextToken 118 = .ok (.aload_n 0, 1) := by decide +kernel
theorem dX8_nextToken_119 : decode cX8_nextToken 119 = .ok (.getfield 219, 3) := by decide +kernel
theorem dX8_nextToken_122 : decode cX8_nextToken 122 = .ok (.invokevirtual 222, 3) := by decide +kernel
theorem dX8_nextToken_125 : decode cX8_nextToken 125 = .ok (.ifCond .eq 73, 3) := by decide +kernel
theorem dX8_nextToken_128 : decode cX8_nextToken 128 = .ok (.aload_n 0, 1) := by decide +kernel
theorem dX8_nextToken_129 : decode cX8_nextToken 129 = .ok (.aload_n 0, 1) := by decide +kernel
theorem dX8_nextToken_130 : decode cX8_nextToken 130 = .ok (.getfield 213, 3) := by decide +kernel
theorem dX8_nextToken_133 : decode cX8_nextToken 133 = .ok (.invokevirtual 222, 3) := by decide +kernel
theorem dX8_nextToken_136 : decode cX8_nextToken 136 = .ok (.ifCond .eq 16, 3) := by decide +kernel
theorem dX8_nextToken_139 : decode cX8_nextToken 139 = .ok (.aload_n 0, 1) := by decide +kernel
theorem dX8_nextToken_140 : decode cX8_nextToken 140 = .ok (.dup, 1) := by decide +kernel
theorem dX8_nextToken_141 : decode cX8_nextToken 141 = .ok (.getfield 213, 3) := by decide +kernel
theorem dX8_nextToken_144 : decode cX8_nextToken 144 = .ok (.iconst 1, 1) := by decide +kernel
theorem dX8_nextToken_145 : decode cX8_nextToken 145 = .ok (.iadd, 1) := by decide +kernel
theorem dX8_nextToken_146 : decode cX8_nextToken 146 = .ok (.putfield 213, 3) := by decide +kernel
theorem dX8_nextToken_149 : decode cX8_nextToken 149 = .ok (.goto (-21), 3) := by decide +kernel
theorem dX8_nextToken_152 : decode cX8_nextToken 152 = .ok (.aload_n 0, 1) := by decide +kernel
theorem dX8_nextToken_153 : decode cX8_nextToken 153 = .ok (.iload_n 1, 1) := by decide +kernel
theorem dX8_nextToken_154 : decode cX8_nextToken 154 = .ok (.ifCond .eq 7, 3) := by decide +kernel
theorem dX8_nextToken_157 : decode cX8_nextToken 157 = .ok (.iconst 4, 1) := by decide +kernel
theorem dX8_nextToken_158 : decode cX8_nextToken 158 = .ok (.goto 4, 3) := by decide +kernel
theorem dX8_nextToken_161 : decode cX8_nextToken 161 = .ok (.iconst 1, 1) := by decide +kernel
theorem dX8_nextToken_162 : decode cX8_nextToken 162 = .ok (.putfield 216, 3) := by decide +kernel
theorem dX8_nextToken_165 : decode cX8_nextToken 165 = .ok (.aload_n 0, 1) := by decide +kernel
theorem dX8_nextToken_166 : decode cX8_nextToken 166 = .ok (.aload_n 0, 1) := by decide +kernel
theorem dX8_nextToken_167 : decode cX8_nextToken 167 = .ok (.getfield 213, 3) := by decide +kernel
theorem dX8_nextToken_170 : decode cX8_nextToken 170 = .ok (.aload_n 0, 1) := by decide +kernel
theorem dX8_nextToken_171 : decode cX8_nextToken 171 = .ok (.getfield 219, 3) := by decide +kernel
theorem dX8_nextToken_174 : decode cX8_nextToken 174 = .ok (.isub, 1) := by decide +kernel
theorem dX8_nextToken_175 : decode cX8_nextToken 175 = .ok (.iconst 1, 1) := by decide +kernel
theorem dX8_nextToken_176 : decode cX8_nextToken 176 = .ok (.if_icmp .ne 15, 3) := by decide +kernel
theorem dX8_nextToken_179 : decode cX8_nextToken 179 = .ok (.aload_n 0, 1) := by decide +kernel
theorem dX8_nextToken_180 : decode cX8_nextToken 180 = .ok (.getfield 52, 3) := by decide +kernel
theorem dX8_nextToken_183 : decode cX8_nextToken 183 = .ok (.aload_n 0, 1) := by decide +kernel
theorem dX8_nextToken_184 : decode cX8_nextToken 184 = .ok (.getfield 219, 3) := by decide +kernel
theorem dX8_nextToken_187 : decode cX8_nextToken 187 = .ok (.iaload, 1) := by decide +kernel
theorem dX8_nextToken_188 : decode cX8_nextToken 188 = .ok (.goto 4, 3) := by decide +kernel
theorem dX8_nextToken_191 : decode cX8_nextToken 191 = .ok (.iconst 0, 1) := by decide +kernel
theorem dX8_nextToken_192 : decode cX8_nextToken 192 = .ok (.putfield 225, 3) := by decide +kernel
theorem dX8_nextToken_195 : decode cX8_nextToken 195 = .ok (.goto 144, 3) := by decide +kernel
theorem dX8_nextToken_198 : decode cX8_nextToken 198 = .ok (.aload_n 0, 1) := by decide +kernel
theorem dX8_nextToken_199 : decode cX8_nextToken 199 = .ok (.aload_n 0, 1) := by decide +kernel
theorem dX8_nextToken_200 : decode cX8_nextToken 200 = .ok (.getfield 219, 3) := by decide +kernel
theorem dX8_nextToken_203 : decode cX8_nextToken 203 = .ok (.invokevirtual 228, 3) := by decide +kernel
theorem dX8_nextToken_206 : decode cX8_nextToken 206 = .ok (.ifCond .eq 105, 3) := by decide +kernel
theorem dX8_nextToken_209 : decode cX8_nextToken 209 = .ok (.aload_n 0, 1) := by decide +kernel
theorem dX8_nextToken_210 : decode cX8_nextToken 210 = .ok (.iconst 0, 1) := by decide +kernel
theorem dX8_nextToken_211 : decode cX8_nextToken 211 = .ok (.putfield 231, 3) := by decide +kernel
theorem dX8_nextToken_214 : decode cX8_nextToken 214 = .ok (.aload_n 0, 1) := by decide +kernel
theorem dX8_nextToken_215 : decode cX8_nextToken 215 = .ok (.aload_n 0, 1) := by decide +kernel
theorem dX8_nextToken_216 : decode cX8_nextToken 216 = .ok (.getfield 213, 3) := by decide +kernel
theorem dX8_nextToken_219 : decode cX8_nextToken 219 = .ok (.invokevirtual 228, 3) := by decide +kernel
theorem dX8_nextToken_222 : decode cX8_nextToken 222 = .ok (.ifCond .eq 60, 3) := by decide +kernel
theorem dX8_nextToken_225 : decode cX8_nextToken 225 = .ok (.aload_n 0, 1) := by decide +kernel
theorem dX8_nextToken_226 : decode cX8_nextToken 226 = .ok (.aload_n 0, 1) := by decide +kernel
theorem dX8_nextToken_227 : decode cX8_nextToken 227 = .ok (.getfield 213, 3) := by decide +kernel
theorem dX8_nextToken_230 : decode cX8_nextToken 230 = .ok (.aload_n 0, 1) := by decide +kernel
theorem dX8_nextToken_231 : decode cX8_nextToken 231 = .ok (.getfield 219, 3) := by decide +kernel
theorem dX8_nextToken_234 : decode cX8_nextToken 234 = .ok (.isub, 1) := by decide +kernel
theorem dX8_nextToken_235 : decode cX8_nextToken 235 = .ok (.iconst 4, 1) := by decide +kernel
theorem dX8_nextToken_236 : decode cX8_nextToken 236 = .ok (.if_icmp .ge 26, 3) := by decide +kernel
theorem dX8_nextToken_239 : decode cX8_nextToken 239 = .ok (.bipush 10, 2) := by decide +kernel
theorem dX8_nextToken_241 : decode cX8_nextToken 241 = .ok (.aload_n 0, 1) := by decide +kernel
theorem dX8_nextToken_242 : decode cX8_nextToken 242 = .ok (.getfield 231, 3) := by decide +kernel
theorem dX8_nextToken_245 : decode cX8_nextToken 245 = .ok (.imul, 1) := by decide +kernel
theorem dX8_nextToken_246 : decode cX8_nextToken 246 = .ok (.aload_n 0, 1) := by decide +kernel
theorem dX8_nextToken_247 : decode cX8_nextToken 247 = .ok (.getfield 52, 3) := by decide +kernel
theorem dX8_nextToken_250 : decode cX8_nextToken 250 = .ok (.aload_n 0, 1) := by decide +kernel
theorem dX8_nextToken_251 : decode cX8_nextToken 251 = .ok (.getfield 213, 3) := by decide +kernel
theorem dX8_nextToken_254 : decode cX8_nextToken 254 = .ok (.iaload, 1) := by decide +kernel
theorem dX8_nextToken_255 : decode cX8_nextToken 255 = .ok (.iadd, 1) := by decide +kernel
theorem dX8_nextToken_256 : decode cX8_nextToken 256 = .ok (.bipush 48, 2) := by decide +kernel
theorem dX8_nextToken_258 : decode cX8_nextToken 258 = .ok (.isub, 1) := by decide +kernel
theorem dX8_nextToken_259 : decode cX8_nextToken 259 = .ok (.goto 7, 3) := by decide +kernel
theorem dX8_nextToken_262 : decode cX8_nextToken 262 = .ok (.aload_n 0, 1) := by decide +kernel
theorem dX8_nextToken_263 : decode cX8_nextToken 263 = .ok (.getfield 231, 3) := by decide +kernel
theorem dX8_nextToken_266 : decode cX8_nextToken 266 = .ok (.putfield 231, 3) := by decide +kernel
theorem dX8_nextToken_269 : decode cX8_nextToken 269 = .ok (.aload_n 0, 1) := by decide +kernel
theorem dX8_nextToken_270 : decode cX8_nextToken 270 = .ok (.dup, 1) := by decide +kernel
theorem dX8_nextToken_271 : decode cX8_nextToken 271 = .ok (.getfield 213, 3) := by decide +kernel
theorem dX8_nextToken_274 : decode cX8_nextToken 274 = .ok (.iconst 1, 1) := by decide +kernel
theorem dX8_nextToken_275 : decode cX8_nextToken 275 = .ok (.iadd, 1) := by decide +kernel
theorem dX8_nextToken_276 : decode cX8_nextToken 276 = .ok (.putfield 213, 3) := by decide +kernel
theorem dX8_nextToken_279 : decode cX8_nextToken 279 = .ok (.goto (-65), 3) := by decide +kernel
theorem dX8_nextToken_282 : decode cX8_nextToken 282 = .ok (.aload_n 0, 1) := by decide +kernel
theorem dX8_nextToken_283 : decode cX8_nextToken 283 = .ok (.iload_n 1, 1) := by decide +kernel
theorem dX8_nextToken_284 : decode cX8_nextToken 284 = .ok (.ifCond .ne 16, 3) := by decide +kernel
theorem dX8_nextToken_287 : decode cX8_nextToken 287 = .ok (.aload_n 0, 1) := by decide +kernel
theorem dX8_nextToken_288 : decode cX8_nextToken 288 = .ok (.getfield 213, 3) := by decide +kernel
theorem dX8_nextToken_291 : decode cX8_nextToken 291 = .ok (.aload_n 0, 1) := by decide +kernel
theorem dX8_nextToken_292 : decode cX8_nextToken 292 = .ok (.getfield 219, 3) := by decide +kernel
theorem dX8_nextToken_295 : decode cX8_nextToken 295 = .ok (.isub, 1) := by decide +kernel
theorem dX8_nextToken_296 : decode cX8_nextToken 296 = .ok (.iconst 4, 1) := by decide +kernel
theorem dX8_nextToken_297 : decode cX8_nextToken 297 = .ok (.if_icmp .le 7, 3) := by decide +kernel
theorem dX8_nextToken_300 : decode cX8_nextToken 300 = .ok (.iconst 4, 1) := by decide +kernel
theorem dX8_nextToken_301 : decode cX8_nextToken 301 = .ok (.goto 4, 3) := by decide +kernel
theorem dX8_nextToken_304 : decode cX8_nextToken 304 = .ok (.iconst 2, 1) := by decide +kernel
theorem dX8_nextToken_305 : decode cX8_nextToken 305 = .ok (.putfield 216, 3) := by decide +kernel
theorem dX8_nextToken_308 : decode cX8_nextToken 308 = .ok (.goto 31, 3) := by decide +kernel
theorem dX8_nextToken_311 : decode cX8_nextToken 311 = .ok (.aload_n 0, 1) := by decide +kernel
theorem dX8_nextToken_312 : decode cX8_nextToken 312 = .ok (.iconst 3, 1) := by decide +kernel
theorem dX8_nextToken_313 : decode cX8_nextToken 313 = .ok (.putfield 216, 3) := by decide +kernel
theorem dX8_nextToken_316 : decode cX8_nextToken 316 = .ok (.aload_n 0, 1) := by decide +kernel
theorem dX8_nextToken_317 : decode cX8_nextToken 317 = .ok (.aload_n 0, 1) := by decide +kernel
theorem dX8_nextToken_318 : decode cX8_nextToken 318 = .ok (.getfield 52, 3) := by decide +kernel
theorem dX8_nextToken_321 : decode cX8_nextToken 321 = .ok (.aload_n 0, 1) := by decide +kernel
theorem dX8_nextToken_322 : decode cX8_nextToken 322 = .ok (.getfield 219, 3) := by decide +kernel
theorem dX8_nextToken_325 : decode cX8_nextToken 325 = .ok (.iaload, 1) := by decide +kernel
theorem dX8_nextToken_326 : decode cX8_nextToken 326 = .ok (.putfield 225, 3) := by decide +kernel
theorem dX8_nextToken_329 : decode cX8_nextToken 329 = .ok (.aload_n 0, 1) := by decide +kernel
theorem dX8_nextToken_330 : decode cX8_nextToken 330 = .ok (.dup, 1) := by decide +kernel
theorem dX8_nextToken_331 : decode cX8_nextToken 331 = .ok (.getfield 213, 3) := by decide +kernel
theorem dX8_nextToken_334 : decode cX8_nextToken 334 = .ok (.iconst 1, 1) := by decide +kernel
theorem dX8_nextToken_335 : decode cX8_nextToken 335 = .ok (.iadd, 1) := by decide +kernel
theorem dX8_nextToken_336 : decode cX8_nextToken 336 = .ok (.putfield 213, 3) := by decide +kernel
theorem dX8_nextToken_339 : decode cX8_nextToken 339 = .ok (.return_, 1) := by decide +kernel
theorem dX8_isSign_0 : decode cX8_isSign 0 = .ok (.aload_n 0, 1) := by decide +kernel
theorem dX8_isSign_1 : decode cX8_isSign 1 = .ok (.getfield 216, 3) := by decide +kernel
theorem dX8_isSign_4 : decode cX8_isSign 4 = .ok (.iconst 3, 1) := by decide +kernel
theorem dX8_isSign_5 : decode cX8_isSign 5 = .ok (.if_icmp .ne 15, 3) := by decide +kernel
theorem dX8_isSign_8 : decode cX8_isSign 8 = .ok (.aload_n 0, 1) := by decide +kernel
theorem dX8_isSign_9 : decode cX8_isSign 9 = .ok (.getfield 225, 3) := by decide +kernel
theorem dX8_isSign_12 : decode cX8_isSign 12 = .ok (.iload_n 1, 1) := by decide +kernel
theorem dX8_isSign_13 : decode cX8_isSign 13 = .ok (.if_icmp .ne 7, 3) := by decide +kernel
theorem dX8_isSign_16 : decode cX8_isSign 16 = .ok (.iconst 1, 1) := by decide +kernel
theorem dX8_isSign_17 : decode cX8_isSign 17 = .ok (.goto 4, 3) := by decide +kernel
theorem dX8_isSign_20 : decode cX8_isSign 20 = .ok (.iconst 0, 1) := by decide +kernel
theorem dX8_isSign_21 : decode cX8_isSign 21 = .ok (.ireturn, 1) := by decide +kernel
theorem dX8_isWordAt_0 : decode cX8_isWordAt 0 = .ok (.iload 4, 2) := by decide +kernel
theorem dX8_isWordAt_2 : decode cX8_isWordAt 2 = .ok (.ifCond .ne 7, 3) := by decide +kernel
theorem dX8_isWordAt_5 : decode cX8_isWordAt 5 = .ok (.iconst 3, 1) := by decide +kernel
theorem dX8_isWordAt_6 : decode cX8_isWordAt 6 = .ok (.goto 4, 3) := by decide +kernel
theorem dX8_isWordAt_9 : decode cX8_isWordAt 9 = .ok (.iconst 4, 1) := by decide +kernel
theorem dX8_isWordAt_10 : decode cX8_isWordAt 10 = .ok (.istore 5, 2) := by decide +kernel
theorem dX8_isWordAt_12 : decode cX8_isWordAt 12 = .ok (.aload_n 0, 1) := by decide +kernel
theorem dX8_isWordAt_13 : decode cX8_isWordAt 13 = .ok (.getfield 216, 3) := by decide +kernel
theorem dX8_isWordAt_16 : decode cX8_isWordAt 16 = .ok (.iconst 1, 1) := by decide +kernel
theorem dX8_isWordAt_17 : decode cX8_isWordAt 17 = .ok (.if_icmp .ne 85, 3) := by decide +kernel
theorem dX8_isWordAt_20 : decode cX8_isWordAt 20 = .ok (.aload_n 0, 1) := by decide +kernel
theorem dX8_isWordAt_21 : decode cX8_isWordAt 21 = .ok (.getfield 213, 3) := by decide +kernel
theorem dX8_isWordAt_24 : decode cX8_isWordAt 24 = .ok (.aload_n 0, 1) := by decide +kernel
theorem dX8_isWordAt_25 : decode cX8_isWordAt 25 = .ok (.getfield 219, 3) := by decide +kernel
theorem dX8_isWordAt_28 : decode cX8_isWordAt 28 = .ok (.isub, 1) := by decide +kernel
theorem dX8_isWordAt_29 : decode cX8_isWordAt 29 = .ok (.iload 5, 2) := by decide +kernel
theorem dX8_isWordAt_31 : decode cX8_isWordAt 31 = .ok (.if_icmp .ne 71, 3) := by decide +kernel
theorem dX8_isWordAt_34 : decode cX8_isWordAt 34 = .ok (.aload_n 0, 1) := by decide +kernel
theorem dX8_isWordAt_35 : decode cX8_isWordAt 35 = .ok (.getfield 52, 3) := by decide +kernel
theorem dX8_isWordAt_38 : decode cX8_isWordAt 38 = .ok (.aload_n 0, 1) := by decide +kernel
theorem dX8_isWordAt_39 : decode cX8_isWordAt 39 = .ok (.getfield 219, 3) := by decide +kernel
theorem dX8_isWordAt_42 : decode cX8_isWordAt 42 = .ok (.iaload, 1) := by decide +kernel
theorem dX8_isWordAt_43 : decode cX8_isWordAt 43 = .ok (.iload_n 1, 1) := by decide +kernel
theorem dX8_isWordAt_44 : decode cX8_isWordAt 44 = .ok (.if_icmp .ne 58, 3) := by decide +kernel
theorem dX8_isWordAt_47 : decode cX8_isWordAt 47 = .ok (.aload_n 0, 1) := by decide +kernel
theorem dX8_isWordAt_48 : decode cX8_isWordAt 48 = .ok (.getfield 52, 3) := by decide +kernel
theorem dX8_isWordAt_51 : decode cX8_isWordAt 51 = .ok (.aload_n 0, 1) := by decide +kernel
theorem dX8_isWordAt_52 : decode cX8_isWordAt 52 = .ok (.getfield 219, 3) := by decide +kernel
theorem dX8_isWordAt_55 : decode cX8_isWordAt 55 = .ok (.iconst 1, 1) := by decide +kernel
theorem dX8_isWordAt_56 : decode cX8_isWordAt 56 = .ok (.iadd, 1) := by decide +kernel
theorem dX8_isWordAt_57 : decode cX8_isWordAt 57 = .ok (.iaload, 1) := by decide +kernel
theorem dX8_isWordAt_58 : decode cX8_isWordAt 58 = .ok (.iload_n 2, 1) := by decide +kernel
theorem dX8_isWordAt_59 : decode cX8_isWordAt 59 = .ok (.if_icmp .ne 43, 3) := by decide +kernel
theorem dX8_isWordAt_62 : decode cX8_isWordAt 62 = .ok (.aload_n 0, 1) := by decide +kernel
theorem dX8_isWordAt_63 : decode cX8_isWordAt 63 = .ok (.getfield 52, 3) := by decide +kernel
theorem dX8_isWordAt_66 : decode cX8_isWordAt 66 = .ok (.aload_n 0, 1) := by decide +kernel
theorem dX8_isWordAt_67 : decode cX8_isWordAt 67 = .ok (.getfield 219, 3) := by decide +kernel
theorem dX8_isWordAt_70 : decode cX8_isWordAt 70 = .ok (.iconst 2, 1) := by decide +kernel
theorem dX8_isWordAt_71 : decode cX8_isWordAt 71 = .ok (.iadd, 1) := by decide +kernel
theorem dX8_isWordAt_72 : decode cX8_isWordAt 72 = .ok (.iaload, 1) := by decide +kernel
theorem dX8_isWordAt_73 : decode cX8_isWordAt 73 = .ok (.iload_n 3, 1) := by decide +kernel
theorem dX8_isWordAt_74 : decode cX8_isWordAt 74 = .ok (.if_icmp .ne 28, 3) := by decide +kernel
theorem dX8_isWordAt_77 : decode cX8_isWordAt 77 = .ok (.iload 4, 2) := by decide +kernel
theorem dX8_isWordAt_79 : decode cX8_isWordAt 79 = .ok (.ifCond .eq 19, 3) := by decide +kernel
theorem dX8_isWordAt_82 : decode cX8_isWordAt 82 = .ok (.aload_n 0, 1) := by decide +kernel
theorem dX8_isWordAt_83 : decode cX8_isWordAt 83 = .ok (.getfield 52, 3) := by decide +kernel
theorem dX8_isWordAt_86 : decode cX8_isWordAt 86 = .ok (.aload_n 0, 1) := by decide +kernel
theorem dX8_isWordAt_87 : decode cX8_isWordAt 87 = .ok (.getfield 219, 3) := by decide +kernel
theorem dX8_isWordAt_90 : decode cX8_isWordAt 90 = .ok (.iconst 3, 1) := by decide +kernel
theorem dX8_isWordAt_91 : decode cX8_isWordAt 91 = .ok (.iadd, 1) := by decide +kernel
theorem dX8_isWordAt_92 : decode cX8_isWordAt 92 = .ok (.iaload, 1) := by decide +kernel
theorem dX8_isWordAt_93 : decode cX8_isWordAt 93 = .ok (.iload 4, 2) := by decide +kernel
theorem dX8_isWordAt_95 : decode cX8_isWordAt 95 = .ok (.if_icmp .ne 7, 3) := by decide +kernel
theorem dX8_isWordAt_98 : decode cX8_isWordAt 98 = .ok (.iconst 1, 1) := by decide +kernel
theorem dX8_isWordAt_99 : decode cX8_isWordAt 99 = .ok (.goto 4, 3) := by decide +kernel
theorem dX8_isWordAt_102 : decode cX8_isWordAt 102 = .ok (.iconst 0, 1) := by decide +kernel
theorem dX8_isWordAt_103 : decode cX8_isWordAt 103 = .ok (.ireturn, 1) := by decide +kernel
theorem dX8_key_0 : decode cX8_key 0 = .ok (.aload_n 0, 1) := by decide +kernel
theorem dX8_key_1 : decode cX8_key 1 = .ok (.bipush 107, 2) := by decide +kernel
theorem dX8_key_3 : decode cX8_key 3 = .ok (.bipush 101, 2) := by decide +kernel
theorem dX8_key_5 : decode cX8_key 5 = .ok (.bipush 101, 2) := by decide +kernel
theorem dX8_key_7 : decode cX8_key 7 = .ok (.bipush 112, 2) := by decide +kernel
theorem dX8_key_9 : decode cX8_key 9 = .ok (.invokevirtual 234, 3) := by decide +kernel
theorem dX8_key_12 : decode cX8_key 12 = .ok (.ifCond .eq 5, 3) := by decide +kernel
theorem dX8_key_15 : decode cX8_key 15 = .ok (.iconst 0, 1) := by decide +kernel
theorem dX8_key_16 : decode cX8_key 16 = .ok (.ireturn, 1) := by decide +kernel
theorem dX8_key_17 : decode cX8_key 17 = .ok (.aload_n 0, 1) := by decide +kernel
theorem dX8_key_18 : decode cX8_key 18 = .ok (.bipush 102, 2) := by decide +kernel
theorem dX8_key_20 : decode cX8_key 20 = .ok (.bipush 101, 2) := by decide +kernel
theorem dX8_key_22 : decode cX8_key 22 = .ok (.bipush 101, 2) := by decide +kernel
theorem dX8_key_24 : decode cX8_key 24 = .ok (.iconst 0, 1) := by decide +kernel
theorem dX8_key_25 : decode cX8_key 25 = .ok (.invokevirtual 234, 3) := by decide +kernel
theorem dX8_key_28 : decode cX8_key 28 = .ok (.ifCond .eq 5, 3) := by decide +kernel
theorem dX8_key_31 : decode cX8_key 31 = .ok (.iconst 1, 1) := by decide +kernel
theorem dX8_key_32 : decode cX8_key 32 = .ok (.ireturn, 1) := by decide +kernel
theorem dX8_key_33 : decode cX8_key 33 = .ok (.aload_n 0, 1) := by decide +kernel
theorem dX8_key_34 : decode cX8_key 34 = .ok (.bipush 102, 2) := by decide +kernel
theorem dX8_key_36 : decode cX8_key 36 = .ok (.bipush 105, 2) := by decide +kernel
theorem dX8_key_38 : decode cX8_key 38 = .ok (.bipush 110, 2) := by decide +kernel
theorem dX8_key_40 : decode cX8_key 40 = .ok (.bipush 101, 2) := by decide +kernel
theorem dX8_key_42 : decode cX8_key 42 = .ok (.invokevirtual 234, 3) := by decide +kernel
theorem dX8_key_45 : decode cX8_key 45 = .ok (.ifCond .eq 7, 3) := by decide +kernel
theorem dX8_key_48 : decode cX8_key 48 = .ok (.iconst 2, 1) := by decide +kernel
theorem dX8_key_49 : decode cX8_key 49 = .ok (.goto 4, 3) := by decide +kernel
theorem dX8_key_52 : decode cX8_key 52 = .ok (.iconst (-1), 1) := by decide +kernel
theorem dX8_key_53 : decode cX8_key 53 = .ok (.ireturn, 1) := by decide +kernel
theorem dX8_isName_0 : decode cX8_isName 0 = .ok (.iload_n 0, 1) := by decide +kernel
theorem dX8_isName_1 : decode cX8_isName 1 = .ok (.lookupswitch 69 #[(0, 27), (1, 51)], 27) := by decide +kernel
theorem dX8_isName_28 : decode cX8_isName 28 = .ok (.iload_n 1, 1) := by decide +kernel
theorem dX8_isName_29 : decode cX8_isName 29 = .ok (.bipush 102, 2) := by decide +kernel
theorem dX8_isName_31 : decode cX8_isName 31 = .ok (.if_icmp .eq 15, 3) := by decide +kernel
theorem dX8_isName_34 : decode cX8_isName 34 = .ok (.iload_n 1, 1) := by decide +kernel
theorem dX8_isName_35 : decode cX8_isName 35 = .ok (.bipush 110, 2) := by decide +kernel
theorem dX8_isName_37 : decode cX8_isName 37 = .ok (.if_icmp .eq 9, 3) := by decide +kernel
theorem dX8_isName_40 : decode cX8_isName 40 = .ok (.iload_n 1, 1) := by decide +kernel
theorem dX8_isName_41 : decode cX8_isName 41 = .ok (.bipush 119, 2) := by decide +kernel
theorem dX8_isName_43 : decode cX8_isName 43 = .ok (.if_icmp .ne 7, 3) := by decide +kernel
theorem dX8_isName_46 : decode cX8_isName 46 = .ok (.iconst 1, 1) := by decide +kernel
theorem dX8_isName_47 : decode cX8_isName 47 = .ok (.goto 4, 3) := by decide +kernel
theorem dX8_isName_50 : decode cX8_isName 50 = .ok (.iconst 0, 1) := by decide +kernel
theorem dX8_isName_51 : decode cX8_isName 51 = .ok (.ireturn, 1) := by decide +kernel
theorem dX8_isName_52 : decode cX8_isName 52 = .ok (.iload_n 1, 1) := by decide +kernel
theorem dX8_isName_53 : decode cX8_isName 53 = .ok (.bipush 107, 2) := by decide +kernel
theorem dX8_isName_55 : decode cX8_isName 55 = .ok (.if_icmp .eq 9, 3) := by decide +kernel
theorem dX8_isName_58 : decode cX8_isName 58 = .ok (.iload_n 1, 1) := by decide +kernel
theorem dX8_isName_59 : decode cX8_isName 59 = .ok (.bipush 108, 2) := by decide +kernel
theorem dX8_isName_61 : decode cX8_isName 61 = .ok (.if_icmp .ne 7, 3) := by decide +kernel
theorem dX8_isName_64 : decode cX8_isName 64 = .ok (.iconst 1, 1) := by decide +kernel
theorem dX8_isName_65 : decode cX8_isName 65 = .ok (.goto 4, 3) := by decide +kernel
theorem dX8_isName_68 : decode cX8_isName 68 = .ok (.iconst 0, 1) := by decide +kernel
theorem dX8_isName_69 : decode cX8_isName 69 = .ok (.ireturn, 1) := by decide +kernel
theorem dX8_isName_70 : decode cX8_isName 70 = .ok (.iload_n 1, 1) := by decide +kernel
theorem dX8_isName_71 : decode cX8_isName 71 = .ok (.bipush 112, 2) := by decide +kernel
theorem dX8_isName_73 : decode cX8_isName 73 = .ok (.if_icmp .eq 9, 3) := by decide +kernel
theorem dX8_isName_76 : decode cX8_isName 76 = .ok (.iload_n 1, 1) := by decide +kernel
theorem dX8_isName_77 : decode cX8_isName 77 = .ok (.bipush 101, 2) := by decide +kernel
theorem dX8_isName_79 : decode cX8_isName 79 = .ok (.if_icmp .ne 7, 3) := by decide +kernel
theorem dX8_isName_82 : decode cX8_isName 82 = .ok (.iconst 1, 1) := by decide +kernel
theorem dX8_isName_83 : decode cX8_isName 83 = .ok (.goto 4, 3) := by decide +kernel
theorem dX8_isName_86 : decode cX8_isName 86 = .ok (.iconst 0, 1) := by decide +kernel
theorem dX8_isName_87 : decode cX8_isName 87 = .ok (.ireturn, 1) := by decide +kernel
theorem dX8_step_0 : decode cX8_step 0 = .ok (.aload_n 0, 1) := by decide +kernel
theorem dX8_step_1 : decode cX8_step 1 = .ok (.getfield 7, 3) := by decide +kernel
theorem dX8_step_4 : decode cX8_step 4 = .ok (.aload_n 0, 1) := by decide +kernel
theorem dX8_step_5 : decode cX8_step 5 = .ok (.getfield 238, 3) := by decide +kernel
theorem dX8_step_8 : decode cX8_step 8 = .ok (.iconst 2, 1) := by decide +kernel
theorem dX8_step_9 : decode cX8_step 9 = .ok (.aload_n 0, 1) := by decide +kernel
theorem dX8_step_10 : decode cX8_step 10 = .ok (.getfield 241, 3) := by decide +kernel
theorem dX8_step_13 : decode cX8_step 13 = .ok (.imul, 1) := by decide +kernel
theorem dX8_step_14 : decode cX8_step 14 = .ok (.iadd, 1) := by decide +kernel
theorem dX8_step_15 : decode cX8_step 15 = .ok (.iload_n 1, 1) := by decide +kernel
theorem dX8_step_16 : decode cX8_step 16 = .ok (.iastore, 1) := by decide +kernel
theorem dX8_step_17 : decode cX8_step 17 = .ok (.aload_n 0, 1) := by decide +kernel
theorem dX8_step_18 : decode cX8_step 18 = .ok (.getfield 7, 3) := by decide +kernel
theorem dX8_step_21 : decode cX8_step 21 = .ok (.aload_n 0, 1) := by decide +kernel
theorem dX8_step_22 : decode cX8_step 22 = .ok (.getfield 238, 3) := by decide +kernel
theorem dX8_step_25 : decode cX8_step 25 = .ok (.iconst 2, 1) := by decide +kernel
theorem dX8_step_26 : decode cX8_step 26 = .ok (.aload_n 0, 1) := by decide +kernel
theorem dX8_step_27 : decode cX8_step 27 = .ok (.getfield 241, 3) := by decide +kernel
theorem dX8_step_30 : decode cX8_step 30 = .ok (.imul, 1) := by decide +kernel
theorem dX8_step_31 : decode cX8_step 31 = .ok (.iadd, 1) := by decide +kernel
theorem dX8_step_32 : decode cX8_step 32 = .ok (.iconst 1, 1) := by decide +kernel
theorem dX8_step_33 : decode cX8_step 33 = .ok (.iadd, 1) := by decide +kernel
theorem dX8_step_34 : decode cX8_step 34 = .ok (.iload_n 2, 1) := by decide +kernel
theorem dX8_step_35 : decode cX8_step 35 = .ok (.iastore, 1) := by decide +kernel
theorem dX8_step_36 : decode cX8_step 36 = .ok (.aload_n 0, 1) := by decide +kernel
theorem dX8_step_37 : decode cX8_step 37 = .ok (.dup, 1) := by decide +kernel
theorem dX8_step_38 : decode cX8_step 38 = .ok (.getfield 241, 3) := by decide +kernel
theorem dX8_step_41 : decode cX8_step 41 = .ok (.iconst 1, 1) := by decide +kernel
theorem dX8_step_42 : decode cX8_step 42 = .ok (.iadd, 1) := by decide +kernel
theorem dX8_step_43 : decode cX8_step 43 = .ok (.putfield 241, 3) := by decide +kernel
theorem dX8_step_46 : decode cX8_step 46 = .ok (.return_, 1) := by decide +kernel
theorem dX8_either_0 : decode cX8_either 0 = .ok (.aload_n 0, 1) := by decide +kernel
theorem dX8_either_1 : decode cX8_either 1 = .ok (.iload_n 1, 1) := by decide +kernel
theorem dX8_either_2 : decode cX8_either 2 = .ok (.invokevirtual 244, 3) := by decide +kernel
theorem dX8_either_5 : decode cX8_either 5 = .ok (.ifCond .ne 5, 3) := by decide +kernel
theorem dX8_either_8 : decode cX8_either 8 = .ok (.iconst 0, 1) := by decide +kernel
theorem dX8_either_9 : decode cX8_either 9 = .ok (.ireturn, 1) := by decide +kernel
theorem dX8_either_10 : decode cX8_either 10 = .ok (.aload_n 0, 1) := by decide +kernel
theorem dX8_either_11 : decode cX8_either 11 = .ok (.bipush 124, 2) := by decide +kernel
theorem dX8_either_13 : decode cX8_either 13 = .ok (.invokevirtual 247, 3) := by decide +kernel
theorem dX8_either_16 : decode cX8_either 16 = .ok (.ifCond .eq 27, 3) := by decide +kernel
theorem dX8_either_19 : decode cX8_either 19 = .ok (.aload_n 0, 1) := by decide +kernel
theorem dX8_either_20 : decode cX8_either 20 = .ok (.invokevirtual 250, 3) := by decide +kernel
theorem dX8_either_23 : decode cX8_either 23 = .ok (.aload_n 0, 1) := by decide +kernel
theorem dX8_either_24 : decode cX8_either 24 = .ok (.iload_n 1, 1) := by decide +kernel
theorem dX8_either_25 : decode cX8_either 25 = .ok (.invokevirtual 244, 3) := by decide +kernel
theorem dX8_either_28 : decode cX8_either 28 = .ok (.ifCond .ne 5, 3) := by decide +kernel
theorem dX8_either_31 : decode cX8_either 31 = .ok (.iconst 0, 1) := by decide +kernel
theorem dX8_either_32 : decode cX8_either 32 = .ok (.ireturn, 1) := by decide +kernel
theorem dX8_either_33 : decode cX8_either 33 = .ok (.aload_n 0, 1) := by decide +kernel
theorem dX8_either_34 : decode cX8_either 34 = .ok (.iconst 2, 1) := by decide +kernel
theorem dX8_either_35 : decode cX8_either 35 = .ok (.bipush 124, 2) := by decide +kernel
theorem dX8_either_37 : decode cX8_either 37 = .ok (.invokevirtual 253, 3) := by decide +kernel
theorem dX8_either_40 : decode cX8_either 40 = .ok (.goto (-30), 3) := by decide +kernel
theorem dX8_either_43 : decode cX8_either 43 = .ok (.iconst 1, 1) := by decide +kernel
theorem dX8_either_44 : decode cX8_either 44 = .ok (.ireturn, 1) := by decide +kernel
theorem dX8_both_0 : decode cX8_both 0 = .ok (.aload_n 0, 1) := by decide +kernel
theorem dX8_both_1 : decode cX8_both 1 = .ok (.iload_n 1, 1) := by decide +kernel
theorem dX8_both_2 : decode cX8_both 2 = .ok (.invokevirtual 256, 3) := by decide +kernel
theorem dX8_both_5 : decode cX8_both 5 = .ok (.ifCond .ne 5, 3) := by decide +kernel
theorem dX8_both_8 : decode cX8_both 8 = .ok (.iconst 0, 1) := by decide +kernel
theorem dX8_both_9 : decode cX8_both 9 = .ok (.ireturn, 1) := by decide +kernel
theorem dX8_both_10 : decode cX8_both 10 = .ok (.aload_n 0, 1) := by decide +kernel
theorem dX8_both_11 : decode cX8_both 11 = .ok (.bipush 38, 2) := by decide +kernel
theorem dX8_both_13 : decode cX8_both 13 = .ok (.invokevirtual 247, 3) := by decide +kernel
theorem dX8_both_16 : decode cX8_both 16 = .ok (.ifCond .eq 27, 3) := by decide +kernel
theorem dX8_both_19 : decode cX8_both 19 = .ok (.aload_n 0, 1) := by decide +kernel
theorem dX8_both_20 : decode cX8_both 20 = .ok (.invokevirtual 250, 3) := by decide +kernel
theorem dX8_both_23 : decode cX8_both 23 = .ok (.aload_n 0, 1) := by decide +kernel
theorem dX8_both_24 : decode cX8_both 24 = .ok (.iload_n 1, 1) := by decide +kernel
theorem dX8_both_25 : decode cX8_both 25 = .ok (.invokevirtual 256, 3) := by decide +kernel
theorem dX8_both_28 : decode cX8_both 28 = .ok (.ifCond .ne 5, 3) := by decide +kernel
theorem dX8_both_31 : decode cX8_both 31 = .ok (.iconst 0, 1) := by decide +kernel
theorem dX8_both_32 : decode cX8_both 32 = .ok (.ireturn, 1) := by decide +kernel
theorem dX8_both_33 : decode cX8_both 33 = .ok (.aload_n 0, 1) := by decide +kernel
theorem dX8_both_34 : decode cX8_both 34 = .ok (.iconst 2, 1) := by decide +kernel
theorem dX8_both_35 : decode cX8_both 35 = .ok (.bipush 38, 2) := by decide +kernel
theorem dX8_both_37 : decode cX8_both 37 = .ok (.invokevirtual 253, 3) := by decide +kernel
theorem dX8_both_40 : decode cX8_both 40 = .ok (.goto (-30), 3) := by decide +kernel
theorem dX8_both_43 : decode cX8_both 43 = .ok (.iconst 1, 1) := by decide +kernel
theorem dX8_both_44 : decode cX8_both 44 = .ok (.ireturn, 1) := by decide +kernel
theorem dX8_test_0 : decode cX8_test 0 = .ok (.aload_n 0, 1) := by decide +kernel
theorem dX8_test_1 : decode cX8_test 1 = .ok (.iload_n 1, 1) := by decide +kernel
theorem dX8_test_2 : decode cX8_test 2 = .ok (.invokevirtual 259, 3) := by decide +kernel
theorem dX8_test_5 : decode cX8_test 5 = .ok (.ifCond .ne 5, 3) := by decide +kernel
theorem dX8_test_8 : decode cX8_test 8 = .ok (.iconst 0, 1) := by decide +kernel
theorem dX8_test_9 : decode cX8_test 9 = .ok (.ireturn, 1) := by decide +kernel
theorem dX8_test_10 : decode cX8_test 10 = .ok (.aload_n 0, 1) := by decide +kernel
theorem dX8_test_11 : decode cX8_test 11 = .ok (.bipush 60, 2) := by decide +kernel
theorem dX8_test_13 : decode cX8_test 13 = .ok (.invokevirtual 247, 3) := by decide +kernel
theorem dX8_test_16 : decode cX8_test 16 = .ok (.ifCond .ne 21, 3) := by decide +kernel
theorem dX8_test_19 : decode cX8_test 19 = .ok (.aload_n 0, 1) := by decide +kernel
theorem dX8_test_20 : decode cX8_test 20 = .ok (.bipush 61, 2) := by decide +kernel
theorem dX8_test_22 : decode cX8_test 22 = .ok (.invokevirtual 247, 3) := by decide +kernel
theorem dX8_test_25 : decode cX8_test 25 = .ok (.ifCond .ne 12, 3) := by decide +kernel
theorem dX8_test_28 : decode cX8_test 28 = .ok (.aload_n 0, 1) := by decide +kernel
theorem dX8_test_29 : decode cX8_test 29 = .ok (.bipush 62, 2) := by decide +kernel
theorem dX8_test_31 : decode cX8_test 31 = .ok (.invokevirtual 247, 3) := by decide +kernel
theorem dX8_test_34 : decode cX8_test 34 = .ok (.ifCond .eq 28, 3) := by decide +kernel
theorem dX8_test_37 : decode cX8_test 37 = .ok (.aload_n 0, 1) := by decide +kernel
theorem dX8_test_38 : decode cX8_test 38 = .ok (.getfield 225, 3) := by decide +kernel
theorem dX8_test_41 : decode cX8_test 41 = .ok (.istore_n 2, 1) := by decide +kernel
theorem dX8_test_42 : decode cX8_test 42 = .ok (.aload_n 0, 1) := by decide +kernel
theorem dX8_test_43 : decode cX8_test 43 = .ok (.invokevirtual 250, 3) := by decide +kernel
theorem dX8_test_46 : decode cX8_test 46 = .ok (.aload_n 0, 1) := by decide +kernel
theorem dX8_test_47 : decode cX8_test 47 = .ok (.iload_n 1, 1) := by decide +kernel
theorem dX8_test_48 : decode cX8_test 48 = .ok (.invokevirtual 259, 3) := by decide +kernel
theorem dX8_test_51 : decode cX8_test 51 = .ok (.ifCond .ne 5, 3) := by decide +kernel
theorem dX8_test_54 : decode cX8_test 54 = .ok (.iconst 0, 1) := by decide +kernel
theorem dX8_test_55 : decode cX8_test 55 = .ok (.ireturn, 1) := by decide +kernel
theorem dX8_test_56 : decode cX8_test 56 = .ok (.aload_n 0, 1) := by decide +kernel
theorem dX8_test_57 : decode cX8_test 57 = .ok (.iconst 2, 1) := by decide +kernel
theorem dX8_test_58 : decode cX8_test 58 = .ok (.iload_n 2, 1) := by decide +kernel
theorem dX8_test_59 : decode cX8_test 59 = .ok (.invokevirtual 253, 3) := by decide +kernel
theorem dX8_test_62 : decode cX8_test 62 = .ok (.iconst 1, 1) := by decide +kernel
theorem dX8_test_63 : decode cX8_test 63 = .ok (.ireturn, 1) := by decide +kernel
theorem dX8_sum_0 : decode cX8_sum 0 = .ok (.aload_n 0, 1) := by decide +kernel
theorem dX8_sum_1 : decode cX8_sum 1 = .ok (.iload_n 1, 1) := by decide +kernel
theorem dX8_sum_2 : decode cX8_sum 2 = .ok (.invokevirtual 262, 3) := by decide +kernel
theorem dX8_sum_5 : decode cX8_sum 5 = .ok (.ifCond .ne 5, 3) := by decide +kernel
theorem dX8_sum_8 : decode cX8_sum 8 = .ok (.iconst 0, 1) := by decide +kernel
theorem dX8_sum_9 : decode cX8_sum 9 = .ok (.ireturn, 1) := by decide +kernel
theorem dX8_sum_10 : decode cX8_sum 10 = .ok (.aload_n 0, 1) := by decide +kernel
theorem dX8_sum_11 : decode cX8_sum 11 = .ok (.bipush 43, 2) := by decide +kernel
theorem dX8_sum_13 : decode cX8_sum 13 = .ok (.invokevirtual 247, 3) := by decide +kernel
theorem dX8_sum_16 : decode cX8_sum 16 = .ok (.ifCond .ne 12, 3) := by decide +kernel
theorem dX8_sum_19 : decode cX8_sum 19 = .ok (.aload_n 0, 1) := by decide +kernel
theorem dX8_sum_20 : decode cX8_sum 20 = .ok (.bipush 45, 2) := by decide +kernel
theorem dX8_sum_22 : decode cX8_sum 22 = .ok (.invokevirtual 247, 3) := by decide +kernel
theorem dX8_sum_25 : decode cX8_sum 25 = .ok (.ifCond .eq 31, 3) := by decide +kernel
theorem dX8_sum_28 : decode cX8_sum 28 = .ok (.aload_n 0, 1) := by decide +kernel
theorem dX8_sum_29 : decode cX8_sum 29 = .ok (.getfield 225, 3) := by decide +kernel
theorem dX8_sum_32 : decode cX8_sum 32 = .ok (.istore_n 2, 1) := by decide +kernel
theorem dX8_sum_33 : decode cX8_sum 33 = .ok (.aload_n 0, 1) := by decide +kernel
theorem dX8_sum_34 : decode cX8_sum 34 = .ok (.invokevirtual 250, 3) := by decide +kernel
theorem dX8_sum_37 : decode cX8_sum 37 = .ok (.aload_n 0, 1) := by decide +kernel
theorem dX8_sum_38 : decode cX8_sum 38 = .ok (.iload_n 1, 1) := by decide +kernel
theorem dX8_sum_39 : decode cX8_sum 39 = .ok (.invokevirtual 262, 3) := by decide +kernel
theorem dX8_sum_42 : decode cX8_sum 42 = .ok (.ifCond .ne 5, 3) := by decide +kernel
theorem dX8_sum_45 : decode cX8_sum 45 = .ok (.iconst 0, 1) := by decide +kernel
theorem dX8_sum_46 : decode cX8_sum 46 = .ok (.ireturn, 1) := by decide +kernel
theorem dX8_sum_47 : decode cX8_sum 47 = .ok (.aload_n 0, 1) := by decide +kernel
theorem dX8_sum_48 : decode cX8_sum 48 = .ok (.iconst 2, 1) := by decide +kernel
theorem dX8_sum_49 : decode cX8_sum 49 = .ok (.iload_n 2, 1) := by decide +kernel
theorem dX8_sum_50 : decode cX8_sum 50 = .ok (.invokevirtual 253, 3) := by decide +kernel
theorem dX8_sum_53 : decode cX8_sum 53 = .ok (.goto (-43), 3) := by decide +kernel
theorem dX8_sum_56 : decode cX8_sum 56 = .ok (.iconst 1, 1) := by decide +kernel
theorem dX8_sum_57 : decode cX8_sum 57 = .ok (.ireturn, 1) := by decide +kernel
theorem dX8_term_0 : decode cX8_term 0 = .ok (.aload_n 0, 1) := by decide +kernel
theorem dX8_term_1 : decode cX8_term 1 = .ok (.iload_n 1, 1) := by decide +kernel
theorem dX8_term_2 : decode cX8_term 2 = .ok (.invokevirtual 265, 3) := by decide +kernel
theorem dX8_term_5 : decode cX8_term 5 = .ok (.ifCond .ne 5, 3) := by decide +kernel
theorem dX8_term_8 : decode cX8_term 8 = .ok (.iconst 0, 1) := by decide +kernel
theorem dX8_term_9 : decode cX8_term 9 = .ok (.ireturn, 1) := by decide +kernel
theorem dX8_term_10 : decode cX8_term 10 = .ok (.aload_n 0, 1) := by decide +kernel
theorem dX8_term_11 : decode cX8_term 11 = .ok (.bipush 42, 2) := by decide +kernel
theorem dX8_term_13 : decode cX8_term 13 = .ok (.invokevirtual 247, 3) := by decide +kernel
theorem dX8_term_16 : decode cX8_term 16 = .ok (.ifCond .ne 12, 3) := by decide +kernel
theorem dX8_term_19 : decode cX8_term 19 = .ok (.aload_n 0, 1) := by decide +kernel
theorem dX8_term_20 : decode cX8_term 20 = .ok (.bipush 47, 2) := by decide +kernel
theorem dX8_term_22 : decode cX8_term 22 = .ok (.invokevirtual 247, 3) := by decide +kernel
theorem dX8_term_25 : decode cX8_term 25 = .ok (.ifCond .eq 31, 3) := by decide +kernel
theorem dX8_term_28 : decode cX8_term 28 = .ok (.aload_n 0, 1) := by decide +kernel
theorem dX8_term_29 : decode cX8_term 29 = .ok (.getfield 225, 3) := by decide +kernel
theorem dX8_term_32 : decode cX8_term 32 = .ok (.istore_n 2, 1) := by decide +kernel
theorem dX8_term_33 : decode cX8_term 33 = .ok (.aload_n 0, 1) := by decide +kernel
theorem dX8_term_34 : decode cX8_term 34 = .ok (.invokevirtual 250, 3) := by decide +kernel
theorem dX8_term_37 : decode cX8_term 37 = .ok (.aload_n 0, 1) := by decide +kernel
theorem dX8_term_38 : decode cX8_term 38 = .ok (.iload_n 1, 1) := by decide +kernel
theorem dX8_term_39 : decode cX8_term 39 = .ok (.invokevirtual 265, 3) := by decide +kernel
theorem dX8_term_42 : decode cX8_term 42 = .ok (.ifCond .ne 5, 3) := by decide +kernel
theorem dX8_term_45 : decode cX8_term 45 = .ok (.iconst 0, 1) := by decide +kernel
theorem dX8_term_46 : decode cX8_term 46 = .ok (.ireturn, 1) := by decide +kernel
theorem dX8_term_47 : decode cX8_term 47 = .ok (.aload_n 0, 1) := by decide +kernel
theorem dX8_term_48 : decode cX8_term 48 = .ok (.iconst 2, 1) := by decide +kernel
theorem dX8_term_49 : decode cX8_term 49 = .ok (.iload_n 2, 1) := by decide +kernel
theorem dX8_term_50 : decode cX8_term 50 = .ok (.invokevirtual 253, 3) := by decide +kernel
theorem dX8_term_53 : decode cX8_term 53 = .ok (.goto (-43), 3) := by decide +kernel
theorem dX8_term_56 : decode cX8_term 56 = .ok (.iconst 1, 1) := by decide +kernel
theorem dX8_term_57 : decode cX8_term 57 = .ok (.ireturn, 1) := by decide +kernel
theorem dX8_part0_0 : decode cX8_part0 0 = .ok (.aload_n 0, 1) := by decide +kernel
theorem dX8_part0_1 : decode cX8_part0 1 = .ok (.getfield 216, 3) := by decide +kernel
theorem dX8_part0_4 : decode cX8_part0 4 = .ok (.iconst 2, 1) := by decide +kernel
theorem dX8_part0_5 : decode cX8_part0 5 = .ok (.if_icmp .ne 28, 3) := by decide +kernel
theorem dX8_part0_8 : decode cX8_part0 8 = .ok (.aload_n 0, 1) := by decide +kernel
theorem dX8_part0_9 : decode cX8_part0 9 = .ok (.iconst 0, 1) := by decide +kernel
theorem dX8_part0_10 : decode cX8_part0 10 = .ok (.aload_n 0, 1) := by decide +kernel
theorem dX8_part0_11 : decode cX8_part0 11 = .ok (.getfield 231, 3) := by decide +kernel
theorem dX8_part0_14 : decode cX8_part0 14 = .ok (.invokevirtual 253, 3) := by decide +kernel
theorem dX8_part0_17 : decode cX8_part0 17 = .ok (.aload_n 0, 1) := by decide +kernel
theorem dX8_part0_18 : decode cX8_part0 18 = .ok (.dup, 1) := by decide +kernel
theorem dX8_part0_19 : decode cX8_part0 19 = .ok (.getfield 268, 3) := by decide +kernel
theorem dX8_part0_22 : decode cX8_part0 22 = .ok (.iconst 1, 1) := by decide +kernel
theorem dX8_part0_23 : decode cX8_part0 23 = .ok (.iadd, 1) := by decide +kernel
theorem dX8_part0_24 : decode cX8_part0 24 = .ok (.putfield 268, 3) := by decide +kernel
theorem dX8_part0_27 : decode cX8_part0 27 = .ok (.aload_n 0, 1) := by decide +kernel
theorem dX8_part0_28 : decode cX8_part0 28 = .ok (.invokevirtual 250, 3) := by decide +kernel
theorem dX8_part0_31 : decode cX8_part0 31 = .ok (.iconst 1, 1) := by decide +kernel
theorem dX8_part0_32 : decode cX8_part0 32 = .ok (.ireturn, 1) := by decide +kernel
theorem dX8_part0_33 : decode cX8_part0 33 = .ok (.aload_n 0, 1) := by decide +kernel
theorem dX8_part0_34 : decode cX8_part0 34 = .ok (.getfield 216, 3) := by decide +kernel
theorem dX8_part0_37 : decode cX8_part0 37 = .ok (.iconst 1, 1) := by decide +kernel
theorem dX8_part0_38 : decode cX8_part0 38 = .ok (.if_icmp .ne 46, 3) := by decide +kernel
theorem dX8_part0_41 : decode cX8_part0 41 = .ok (.aload_n 0, 1) := by decide +kernel
theorem dX8_part0_42 : decode cX8_part0 42 = .ok (.getfield 225, 3) := by decide +kernel
theorem dX8_part0_45 : decode cX8_part0 45 = .ok (.ifCond .eq 39, 3) := by decide +kernel
theorem dX8_part0_48 : decode cX8_part0 48 = .ok (.iload_n 1, 1) := by decide +kernel
theorem dX8_part0_49 : decode cX8_part0 49 = .ok (.aload_n 0, 1) := by decide +kernel
theorem dX8_part0_50 : decode cX8_part0 50 = .ok (.getfield 225, 3) := by decide +kernel
theorem dX8_part0_53 : decode cX8_part0 53 = .ok (.invokestatic 271, 3) := by decide +kernel
theorem dX8_part0_56 : decode cX8_part0 56 = .ok (.ifCond .eq 28, 3) := by decide +kernel
theorem dX8_part0_59 : decode cX8_part0 59 = .ok (.aload_n 0, 1) := by decide +kernel
theorem dX8_part0_60 : decode cX8_part0 60 = .ok (.iconst 1, 1) := by decide +kernel
theorem dX8_part0_61 : decode cX8_part0 61 = .ok (.aload_n 0, 1) := by decide +kernel
theorem dX8_part0_62 : decode cX8_part0 62 = .ok (.getfield 225, 3) := by decide +kernel
theorem dX8_part0_65 : decode cX8_part0 65 = .ok (.invokevirtual 253, 3) := by decide +kernel
theorem dX8_part0_68 : decode cX8_part0 68 = .ok (.aload_n 0, 1) := by decide +kernel
theorem dX8_part0_69 : decode cX8_part0 69 = .ok (.dup, 1) := by decide +kernel
theorem dX8_part0_70 : decode cX8_part0 70 = .ok (.getfield 268, 3) := by decide +kernel
theorem dX8_part0_73 : decode cX8_part0 73 = .ok (.iconst 1, 1) := by decide +kernel
theorem dX8_part0_74 : decode cX8_part0 74 = .ok (.iadd, 1) := by decide +kernel
theorem dX8_part0_75 : decode cX8_part0 75 = .ok (.putfield 268, 3) := by decide +kernel
theorem dX8_part0_78 : decode cX8_part0 78 = .ok (.aload_n 0, 1) := by decide +kernel
theorem dX8_part0_79 : decode cX8_part0 79 = .ok (.invokevirtual 250, 3) := by decide +kernel
theorem dX8_part0_82 : decode cX8_part0 82 = .ok (.iconst 1, 1) := by decide +kernel
theorem dX8_part0_83 : decode cX8_part0 83 = .ok (.ireturn, 1) := by decide +kernel
theorem dX8_part0_84 : decode cX8_part0 84 = .ok (.aload_n 0, 1) := by decide +kernel
theorem dX8_part0_85 : decode cX8_part0 85 = .ok (.bipush 33, 2) := by decide +kernel
theorem dX8_part0_87 : decode cX8_part0 87 = .ok (.invokevirtual 247, 3) := by decide +kernel
theorem dX8_part0_90 : decode cX8_part0 90 = .ok (.ifCond .eq 55, 3) := by decide +kernel
theorem dX8_part0_93 : decode cX8_part0 93 = .ok (.aload_n 0, 1) := by decide +kernel
theorem dX8_part0_94 : decode cX8_part0 94 = .ok (.getfield 274, 3) := by decide +kernel
theorem dX8_part0_97 : decode cX8_part0 97 = .ok (.bipush 8, 2) := by decide +kernel
theorem dX8_part0_99 : decode cX8_part0 99 = .ok (.if_icmp .ge 46, 3) := by decide +kernel
theorem dX8_part0_102 : decode cX8_part0 102 = .ok (.aload_n 0, 1) := by decide +kernel
theorem dX8_part0_103 : decode cX8_part0 103 = .ok (.dup, 1) := by decide +kernel
theorem dX8_part0_104 : decode cX8_part0 104 = .ok (.getfield 274, 3) := by decide +kernel
theorem dX8_part0_107 : decode cX8_part0 107 = .ok (.iconst 1, 1) := by decide +kernel
theorem dX8_part0_108 : decode cX8_part0 108 = .ok (.iadd, 1) := by decide +kernel
theorem dX8_part0_109 : decode cX8_part0 109 = .ok (.putfield 274, 3) := by decide +kernel
theorem dX8_part0_112 : decode cX8_part0 112 = .ok (.aload_n 0, 1) := by decide +kernel
theorem dX8_part0_113 : decode cX8_part0 113 = .ok (.invokevirtual 250, 3) := by decide +kernel
theorem dX8_part0_116 : decode cX8_part0 116 = .ok (.aload_n 0, 1) := by decide +kernel
theorem dX8_part0_117 : decode cX8_part0 117 = .ok (.iload_n 1, 1) := by decide +kernel
theorem dX8_part0_118 : decode cX8_part0 118 = .ok (.invokevirtual 265, 3) := by decide +kernel
theorem dX8_part0_121 : decode cX8_part0 121 = .ok (.ifCond .ne 5, 3) := by decide +kernel
theorem dX8_part0_124 : decode cX8_part0 124 = .ok (.iconst 0, 1) := by decide +kernel
theorem dX8_part0_125 : decode cX8_part0 125 = .ok (.ireturn, 1) := by decide +kernel
theorem dX8_part0_126 : decode cX8_part0 126 = .ok (.aload_n 0, 1) := by decide +kernel
theorem dX8_part0_127 : decode cX8_part0 127 = .ok (.dup, 1) := by decide +kernel
theorem dX8_part0_128 : decode cX8_part0 128 = .ok (.getfield 274, 3) := by decide +kernel
theorem dX8_part0_131 : decode cX8_part0 131 = .ok (.iconst 1, 1) := by decide +kernel
theorem dX8_part0_132 : decode cX8_part0 132 = .ok (.isub, 1) := by decide +kernel
theorem dX8_part0_133 : decode cX8_part0 133 = .ok (.putfield 274, 3) := by decide +kernel
theorem dX8_part0_136 : decode cX8_part0 136 = .ok (.aload_n 0, 1) := by decide +kernel
theorem dX8_part0_137 : decode cX8_part0 137 = .ok (.iconst 2, 1) := by decide +kernel
theorem dX8_part0_138 : decode cX8_part0 138 = .ok (.bipush 33, 2) := by decide +kernel
theorem dX8_part0_140 : decode cX8_part0 140 = .ok (.invokevirtual 253, 3) := by decide +kernel
theorem dX8_part0_143 : decode cX8_part0 143 = .ok (.iconst 1, 1) := by decide +kernel
theorem dX8_part0_144 : decode cX8_part0 144 = .ok (.ireturn, 1) := by decide +kernel
theorem dX8_part0_145 : decode cX8_part0 145 = .ok (.aload_n 0, 1) := by decide +kernel
theorem dX8_part0_146 : decode cX8_part0 146 = .ok (.bipush 40, 2) := by decide +kernel
theorem dX8_part0_148 : decode cX8_part0 148 = .ok (.invokevirtual 247, 3) := by decide +kernel
theorem dX8_part0_151 : decode cX8_part0 151 = .ok (.ifCond .eq 12, 3) := by decide +kernel
theorem dX8_part0_154 : decode cX8_part0 154 = .ok (.aload_n 0, 1) := by decide +kernel
theorem dX8_part0_155 : decode cX8_part0 155 = .ok (.getfield 277, 3) := by decide +kernel
theorem dX8_part0_158 : decode cX8_part0 158 = .ok (.bipush 8, 2) := by decide +kernel
theorem dX8_part0_160 : decode cX8_part0 160 = .ok (.if_icmp .ne 5, 3) := by decide +kernel
theorem dX8_part0_163 : decode cX8_part0 163 = .ok (.iconst 0, 1) := by decide +kernel
theorem dX8_part0_164 : decode cX8_part0 164 = .ok (.ireturn, 1) := by decide +kernel
theorem dX8_part0_165 : decode cX8_part0 165 = .ok (.aload_n 0, 1) := by decide +kernel
theorem dX8_part0_166 : decode cX8_part0 166 = .ok (.dup, 1) := by decide +kernel
theorem dX8_part0_167 : decode cX8_part0 167 = .ok (.getfield 277, 3) := by decide +kernel
theorem dX8_part0_170 : decode cX8_part0 170 = .ok (.iconst 1, 1) := by decide +kernel
theorem dX8_part0_171 : decode cX8_part0 171 = .ok (.iadd, 1) := by decide +kernel
theorem dX8_part0_172 : decode cX8_part0 172 = .ok (.putfield 277, 3) := by decide +kernel
theorem dX8_part0_175 : decode cX8_part0 175 = .ok (.aload_n 0, 1) := by decide +kernel
theorem dX8_part0_176 : decode cX8_part0 176 = .ok (.invokevirtual 250, 3) := by decide +kernel
theorem dX8_part0_179 : decode cX8_part0 179 = .ok (.aload_n 0, 1) := by decide +kernel
theorem dX8_part0_180 : decode cX8_part0 180 = .ok (.iload_n 1, 1) := by decide +kernel
theorem dX8_part0_181 : decode cX8_part0 181 = .ok (.invokevirtual 280, 3) := by decide +kernel
theorem dX8_part0_184 : decode cX8_part0 184 = .ok (.ifCond .eq 12, 3) := by decide +kernel
theorem dX8_part0_187 : decode cX8_part0 187 = .ok (.aload_n 0, 1) := by decide +kernel
theorem dX8_part0_188 : decode cX8_part0 188 = .ok (.bipush 41, 2) := by decide +kernel
theorem dX8_part0_190 : decode cX8_part0 190 = .ok (.invokevirtual 247, 3) := by decide +kernel
theorem dX8_part0_193 : decode cX8_part0 193 = .ok (.ifCond .ne 5, 3) := by decide +kernel
theorem dX8_part0_196 : decode cX8_part0 196 = .ok (.iconst 0, 1) := by decide +kernel
theorem dX8_part0_197 : decode cX8_part0 197 = .ok (.ireturn, 1) := by decide +kernel
theorem dX8_part0_198 : decode cX8_part0 198 = .ok (.aload_n 0, 1) := by decide +kernel
theorem dX8_part0_199 : decode cX8_part0 199 = .ok (.dup, 1) := by decide +kernel
theorem dX8_part0_200 : decode cX8_part0 200 = .ok (.getfield 277, 3) := by decide +kernel
theorem dX8_part0_203 : decode cX8_part0 203 = .ok (.iconst 1, 1) := by decide +kernel
theorem dX8_part0_204 : decode cX8_part0 204 = .ok (.isub, 1) := by decide +kernel
theorem dX8_part0_205 : decode cX8_part0 205 = .ok (.putfield 277, 3) := by decide +kernel
theorem dX8_part0_208 : decode cX8_part0 208 = .ok (.aload_n 0, 1) := by decide +kernel
theorem dX8_part0_209 : decode cX8_part0 209 = .ok (.invokevirtual 250, 3) := by decide +kernel
theorem dX8_part0_212 : decode cX8_part0 212 = .ok (.iconst 1, 1) := by decide +kernel
theorem dX8_part0_213 : decode cX8_part0 213 = .ok (.ireturn, 1) := by decide +kernel
theorem dX8_parse_0 : decode cX8_parse 0 = .ok (.aload_n 0, 1) := by decide +kernel
theorem dX8_parse_1 : decode cX8_parse 1 = .ok (.iconst 0, 1) := by decide +kernel
theorem dX8_parse_2 : decode cX8_parse 2 = .ok (.putfield 213, 3) := by decide +kernel
theorem dX8_parse_5 : decode cX8_parse 5 = .ok (.aload_n 0, 1) := by decide +kernel
theorem dX8_parse_6 : decode cX8_parse 6 = .ok (.iconst 3, 1) := by decide +kernel
theorem dX8_parse_7 : decode cX8_parse 7 = .ok (.putfield 216, 3) := by decide +kernel
theorem dX8_parse_10 : decode cX8_parse 10 = .ok (.aload_n 0, 1) := by decide +kernel
theorem dX8_parse_11 : decode cX8_parse 11 = .ok (.iconst 0, 1) := by decide +kernel
theorem dX8_parse_12 : decode cX8_parse 12 = .ok (.putfield 277, 3) := by decide +kernel
theorem dX8_parse_15 : decode cX8_parse 15 = .ok (.aload_n 0, 1) := by decide +kernel
theorem dX8_parse_16 : decode cX8_parse 16 = .ok (.iconst 0, 1) := by decide +kernel
theorem dX8_parse_17 : decode cX8_parse 17 = .ok (.putfield 274, 3) := by decide +kernel
theorem dX8_parse_20 : decode cX8_parse 20 = .ok (.aload_n 0, 1) := by decide +kernel
theorem dX8_parse_21 : decode cX8_parse 21 = .ok (.iconst 0, 1) := by decide +kernel
theorem dX8_parse_22 : decode cX8_parse 22 = .ok (.putfield 241, 3) := by decide +kernel
theorem dX8_parse_25 : decode cX8_parse 25 = .ok (.aload_n 0, 1) := by decide +kernel
theorem dX8_parse_26 : decode cX8_parse 26 = .ok (.iconst 0, 1) := by decide +kernel
theorem dX8_parse_27 : decode cX8_parse 27 = .ok (.putfield 268, 3) := by decide +kernel
theorem dX8_parse_30 : decode cX8_parse 30 = .ok (.aload_n 0, 1) := by decide +kernel
theorem dX8_parse_31 : decode cX8_parse 31 = .ok (.aload_n 0, 1) := by decide +kernel
theorem dX8_parse_32 : decode cX8_parse 32 = .ok (.getfield 7, 3) := by decide +kernel
theorem dX8_parse_35 : decode cX8_parse 35 = .ok (.iconst 1, 1) := by decide +kernel
theorem dX8_parse_36 : decode cX8_parse 36 = .ok (.iaload, 1) := by decide +kernel
theorem dX8_parse_37 : decode cX8_parse 37 = .ok (.bipush 14, 2) := by decide +kernel
theorem dX8_parse_39 : decode cX8_parse 39 = .ok (.if_icmp .ge 18, 3) := by decide +kernel
theorem dX8_parse_42 : decode cX8_parse 42 = .ok (.aload_n 0, 1) := by decide +kernel
theorem dX8_parse_43 : decode cX8_parse 43 = .ok (.aload_n 0, 1) := by decide +kernel
theorem dX8_parse_44 : decode cX8_parse 44 = .ok (.getfield 7, 3) := by decide +kernel
theorem dX8_parse_47 : decode cX8_parse 47 = .ok (.iconst 1, 1) := by decide +kernel
theorem dX8_parse_48 : decode cX8_parse 48 = .ok (.iaload, 1) := by decide +kernel
theorem dX8_parse_49 : decode cX8_parse 49 = .ok (.invokevirtual 283, 3) := by decide +kernel
theorem dX8_parse_52 : decode cX8_parse 52 = .ok (.iconst 4, 1) := by decide +kernel
theorem dX8_parse_53 : decode cX8_parse 53 = .ok (.iadd, 1) := by decide +kernel
theorem dX8_parse_54 : decode cX8_parse 54 = .ok (.goto 6, 3) := by decide +kernel
theorem dX8_parse_57 : decode cX8_parse 57 = .ok (.sipush 2908, 3) := by decide +kernel
theorem dX8_parse_60 : decode cX8_parse 60 = .ok (.putfield 238, 3) := by decide +kernel
theorem dX8_parse_63 : decode cX8_parse 63 = .ok (.aload_n 0, 1) := by decide +kernel
theorem dX8_parse_64 : decode cX8_parse 64 = .ok (.invokevirtual 250, 3) := by decide +kernel
theorem dX8_parse_67 : decode cX8_parse 67 = .ok (.aload_n 0, 1) := by decide +kernel
theorem dX8_parse_68 : decode cX8_parse 68 = .ok (.invokevirtual 286, 3) := by decide +kernel
theorem dX8_parse_71 : decode cX8_parse 71 = .ok (.istore_n 1, 1) := by decide +kernel
theorem dX8_parse_72 : decode cX8_parse 72 = .ok (.iload_n 1, 1) := by decide +kernel
theorem dX8_parse_73 : decode cX8_parse 73 = .ok (.ifCond .lt 7, 3) := by decide +kernel
theorem dX8_parse_76 : decode cX8_parse 76 = .ok (.iconst 1, 1) := by decide +kernel
theorem dX8_parse_77 : decode cX8_parse 77 = .ok (.goto 4, 3) := by decide +kernel
theorem dX8_parse_80 : decode cX8_parse 80 = .ok (.iconst 0, 1) := by decide +kernel
theorem dX8_parse_81 : decode cX8_parse 81 = .ok (.istore_n 2, 1) := by decide +kernel
theorem dX8_parse_82 : decode cX8_parse 82 = .ok (.iload_n 2, 1) := by decide +kernel
theorem dX8_parse_83 : decode cX8_parse 83 = .ok (.ifCond .eq 28, 3) := by decide +kernel
theorem dX8_parse_86 : decode cX8_parse 86 = .ok (.aload_n 0, 1) := by decide +kernel
theorem dX8_parse_87 : decode cX8_parse 87 = .ok (.invokevirtual 250, 3) := by decide +kernel
theorem dX8_parse_90 : decode cX8_parse 90 = .ok (.aload_n 0, 1) := by decide +kernel
theorem dX8_parse_91 : decode cX8_parse 91 = .ok (.iload_n 1, 1) := by decide +kernel
theorem dX8_parse_92 : decode cX8_parse 92 = .ok (.invokevirtual 280, 3) := by decide +kernel
theorem dX8_parse_95 : decode cX8_parse 95 = .ok (.ifCond .eq 14, 3) := by decide +kernel
theorem dX8_parse_98 : decode cX8_parse 98 = .ok (.aload_n 0, 1) := by decide +kernel
theorem dX8_parse_99 : decode cX8_parse 99 = .ok (.getfield 216, 3) := by decide +kernel
theorem dX8_parse_102 : decode cX8_parse 102 = .ok (.ifCond .ne 7, 3) := by decide +kernel
theorem dX8_parse_105 : decode cX8_parse 105 = .ok (.iconst 1, 1) := by decide +kernel
theorem dX8_parse_106 : decode cX8_parse 106 = .ok (.goto 4, 3) := by decide +kernel
theorem dX8_parse_109 : decode cX8_parse 109 = .ok (.iconst 0, 1) := by decide +kernel
theorem dX8_parse_110 : decode cX8_parse 110 = .ok (.istore_n 2, 1) := by decide +kernel
theorem dX8_parse_111 : decode cX8_parse 111 = .ok (.aload_n 0, 1) := by decide +kernel
theorem dX8_parse_112 : decode cX8_parse 112 = .ok (.iconst 0, 1) := by decide +kernel
theorem dX8_parse_113 : decode cX8_parse 113 = .ok (.putfield 201, 3) := by decide +kernel
theorem dX8_parse_116 : decode cX8_parse 116 = .ok (.iload_n 2, 1) := by decide +kernel
theorem dX8_parse_117 : decode cX8_parse 117 = .ok (.ifCond .eq 7, 3) := by decide +kernel
theorem dX8_parse_120 : decode cX8_parse 120 = .ok (.iload_n 1, 1) := by decide +kernel
theorem dX8_parse_121 : decode cX8_parse 121 = .ok (.goto 4, 3) := by decide +kernel
theorem dX8_parse_124 : decode cX8_parse 124 = .ok (.iconst (-1), 1) := by decide +kernel
theorem dX8_parse_125 : decode cX8_parse 125 = .ok (.ireturn, 1) := by decide +kernel
theorem dX8_text_0 : decode cX8_text 0 = .ok (.aload_n 0, 1) := by decide +kernel
theorem dX8_text_1 : decode cX8_text 1 = .ok (.invokevirtual 289, 3) := by decide +kernel
theorem dX8_text_4 : decode cX8_text 4 = .ok (.istore_n 1, 1) := by decide +kernel
theorem dX8_text_5 : decode cX8_text 5 = .ok (.iload_n 1, 1) := by decide +kernel
theorem dX8_text_6 : decode cX8_text 6 = .ok (.ifCond .ge 11, 3) := by decide +kernel
theorem dX8_text_9 : decode cX8_text 9 = .ok (.bipush (-100), 2) := by decide +kernel
theorem dX8_text_11 : decode cX8_text 11 = .ok (.aload_n 0, 1) := by decide +kernel
theorem dX8_text_12 : decode cX8_text 12 = .ok (.getfield 219, 3) := by decide +kernel
theorem dX8_text_15 : decode cX8_text 15 = .ok (.isub, 1) := by decide +kernel
theorem dX8_text_16 : decode cX8_text 16 = .ok (.ireturn, 1) := by decide +kernel
theorem dX8_text_17 : decode cX8_text 17 = .ok (.aload_n 0, 1) := by decide +kernel
theorem dX8_text_18 : decode cX8_text 18 = .ok (.getfield 7, 3) := by decide +kernel
theorem dX8_text_21 : decode cX8_text 21 = .ok (.iconst 1, 1) := by decide +kernel
theorem dX8_text_22 : decode cX8_text 22 = .ok (.iaload, 1) := by decide +kernel
theorem dX8_text_23 : decode cX8_text 23 = .ok (.bipush 14, 2) := by decide +kernel
theorem dX8_text_25 : decode cX8_text 25 = .ok (.if_icmp .ne 6, 3) := by decide +kernel
theorem dX8_text_28 : decode cX8_text 28 = .ok (.ldc 87, 2) := by decide +kernel
theorem dX8_text_30 : decode cX8_text 30 = .ok (.ireturn, 1) := by decide +kernel
theorem dX8_text_31 : decode cX8_text 31 = .ok (.aload_n 0, 1) := by decide +kernel
theorem dX8_text_32 : decode cX8_text 32 = .ok (.aload_n 0, 1) := by decide +kernel
theorem dX8_text_33 : decode cX8_text 33 = .ok (.getfield 7, 3) := by decide +kernel
theorem dX8_text_36 : decode cX8_text 36 = .ok (.iconst 1, 1) := by decide +kernel
theorem dX8_text_37 : decode cX8_text 37 = .ok (.iaload, 1) := by decide +kernel
theorem dX8_text_38 : decode cX8_text 38 = .ok (.invokevirtual 283, 3) := by decide +kernel
theorem dX8_text_41 : decode cX8_text 41 = .ok (.istore_n 2, 1) := by decide +kernel
theorem dX8_text_42 : decode cX8_text 42 = .ok (.aload_n 0, 1) := by decide +kernel
theorem dX8_text_43 : decode cX8_text 43 = .ok (.getfield 7, 3) := by decide +kernel
theorem dX8_text_46 : decode cX8_text 46 = .ok (.iload_n 2, 1) := by decide +kernel
theorem dX8_text_47 : decode cX8_text 47 = .ok (.iconst 0, 1) := by decide +kernel
theorem dX8_text_48 : decode cX8_text 48 = .ok (.iadd, 1) := by decide +kernel
theorem dX8_text_49 : decode cX8_text 49 = .ok (.iload_n 1, 1) := by decide +kernel
theorem dX8_text_50 : decode cX8_text 50 = .ok (.iastore, 1) := by decide +kernel
theorem dX8_text_51 : decode cX8_text 51 = .ok (.aload_n 0, 1) := by decide +kernel
theorem dX8_text_52 : decode cX8_text 52 = .ok (.getfield 7, 3) := by decide +kernel
theorem dX8_text_55 : decode cX8_text 55 = .ok (.iload_n 2, 1) := by decide +kernel
theorem dX8_text_56 : decode cX8_text 56 = .ok (.iconst 1, 1) := by decide +kernel
theorem dX8_text_57 : decode cX8_text 57 = .ok (.iadd, 1) := by decide +kernel
theorem dX8_text_58 : decode cX8_text 58 = .ok (.aload_n 0, 1) := by decide +kernel
theorem dX8_text_59 : decode cX8_text 59 = .ok (.getfield 268, 3) := by decide +kernel
theorem dX8_text_62 : decode cX8_text 62 = .ok (.iastore, 1) := by decide +kernel
theorem dX8_text_63 : decode cX8_text 63 = .ok (.aload_n 0, 1) := by decide +kernel
theorem dX8_text_64 : decode cX8_text 64 = .ok (.getfield 7, 3) := by decide +kernel
theorem dX8_text_67 : decode cX8_text 67 = .ok (.iload_n 2, 1) := by decide +kernel
theorem dX8_text_68 : decode cX8_text 68 = .ok (.iconst 2, 1) := by decide +kernel
theorem dX8_text_69 : decode cX8_text 69 = .ok (.iadd, 1) := by decide +kernel
theorem dX8_text_70 : decode cX8_text 70 = .ok (.aload_n 0, 1) := by decide +kernel
theorem dX8_text_71 : decode cX8_text 71 = .ok (.getfield 241, 3) := by decide +kernel
theorem dX8_text_74 : decode cX8_text 74 = .ok (.iastore, 1) := by decide +kernel
theorem dX8_text_75 : decode cX8_text 75 = .ok (.aload_n 0, 1) := by decide +kernel
theorem dX8_text_76 : decode cX8_text 76 = .ok (.getfield 7, 3) := by decide +kernel
theorem dX8_text_79 : decode cX8_text 79 = .ok (.iconst 1, 1) := by decide +kernel
theorem dX8_text_80 : decode cX8_text 80 = .ok (.dup2, 1) := by decide +kernel
theorem dX8_text_81 : decode cX8_text 81 = .ok (.iaload, 1) := by decide +kernel
theorem dX8_text_82 : decode cX8_text 82 = .ok (.iconst 1, 1) := by decide +kernel
theorem dX8_text_83 : decode cX8_text 83 = .ok (.iadd, 1) := by decide +kernel
theorem dX8_text_84 : decode cX8_text 84 = .ok (.iastore, 1) := by decide +kernel
theorem dX8_text_85 : decode cX8_text 85 = .ok (.aload_n 0, 1) := by decide +kernel
theorem dX8_text_86 : decode cX8_text 86 = .ok (.getfield 7, 3) := by decide +kernel
theorem dX8_text_89 : decode cX8_text 89 = .ok (.iconst 1, 1) := by decide +kernel
theorem dX8_text_90 : decode cX8_text 90 = .ok (.iaload, 1) := by decide +kernel
theorem dX8_text_91 : decode cX8_text 91 = .ok (.iconst 1, 1) := by decide +kernel
theorem dX8_text_92 : decode cX8_text 92 = .ok (.isub, 1) := by decide +kernel
theorem dX8_text_93 : decode cX8_text 93 = .ok (.ireturn, 1) := by decide +kernel
theorem dX8_textTold_0 : decode cX8_textTold 0 = .ok (.aload_n 0, 1) := by decide +kernel
theorem dX8_textTold_1 : decode cX8_textTold 1 = .ok (.iload_n 1, 1) := by decide +kernel
theorem dX8_textTold_2 : decode cX8_textTold 2 = .ok (.invokevirtual 292, 3) := by decide +kernel
theorem dX8_textTold_5 : decode cX8_textTold 5 = .ok (.ifCond .eq 13, 3) := by decide +kernel
theorem dX8_textTold_8 : decode cX8_textTold 8 = .ok (.iload_n 2, 1) := by decide +kernel
theorem dX8_textTold_9 : decode cX8_textTold 9 = .ok (.i2l, 1) := by decide +kernel
theorem dX8_textTold_10 : decode cX8_textTold 10 = .ok (.lconst 0, 1) := by decide +kernel
theorem dX8_textTold_11 : decode cX8_textTold 11 = .ok (.lconst 1, 1) := by decide +kernel
theorem dX8_textTold_12 : decode cX8_textTold 12 = .ok (.invokestatic 71, 3) := by decide +kernel
theorem dX8_textTold_15 : decode cX8_textTold 15 = .ok (.ifCond .ne 6, 3) := by decide +kernel
theorem dX8_textTold_18 : decode cX8_textTold 18 = .ok (.ldc 86, 2) := by decide +kernel
theorem dX8_textTold_20 : decode cX8_textTold 20 = .ok (.ireturn, 1) := by decide +kernel
theorem dX8_textTold_21 : decode cX8_textTold 21 = .ok (.aload_n 0, 1) := by decide +kernel
theorem dX8_textTold_22 : decode cX8_textTold 22 = .ok (.getfield 7, 3) := by decide +kernel
theorem dX8_textTold_25 : decode cX8_textTold 25 = .ok (.aload_n 0, 1) := by decide +kernel
theorem dX8_textTold_26 : decode cX8_textTold 26 = .ok (.iload_n 1, 1) := by decide +kernel
theorem dX8_textTold_27 : decode cX8_textTold 27 = .ok (.invokevirtual 283, 3) := by decide +kernel
theorem dX8_textTold_30 : decode cX8_textTold 30 = .ok (.iload_n 2, 1) := by decide +kernel
theorem dX8_textTold_31 : decode cX8_textTold 31 = .ok (.iadd, 1) := by decide +kernel
theorem dX8_textTold_32 : decode cX8_textTold 32 = .ok (.iaload, 1) := by decide +kernel
theorem dX8_textTold_33 : decode cX8_textTold 33 = .ok (.ireturn, 1) := by decide +kernel
theorem dX8_counts_0 : decode cX8_counts 0 = .ok (.iconst (-1), 1) := by decide +kernel
theorem dX8_counts_1 : decode cX8_counts 1 = .ok (.istore_n 2, 1) := by decide +kernel
theorem dX8_counts_2 : decode cX8_counts 2 = .ok (.iconst 0, 1) := by decide +kernel
theorem dX8_counts_3 : decode cX8_counts 3 = .ok (.istore_n 3, 1) := by decide +kernel
theorem dX8_counts_4 : decode cX8_counts 4 = .ok (.iload_n 3, 1) := by decide +kernel
theorem dX8_counts_5 : decode cX8_counts 5 = .ok (.aload_n 0, 1) := by decide +kernel
theorem dX8_counts_6 : decode cX8_counts 6 = .ok (.getfield 7, 3) := by decide +kernel
theorem dX8_counts_9 : decode cX8_counts 9 = .ok (.iconst 1, 1) := by decide +kernel
theorem dX8_counts_10 : decode cX8_counts 10 = .ok (.iaload, 1) := by decide +kernel
theorem dX8_counts_11 : decode cX8_counts 11 = .ok (.if_icmp .ge 29, 3) := by decide +kernel
theorem dX8_counts_14 : decode cX8_counts 14 = .ok (.aload_n 0, 1) := by decide +kernel
theorem dX8_counts_15 : decode cX8_counts 15 = .ok (.getfield 7, 3) := by decide +kernel
theorem dX8_counts_18 : decode cX8_counts 18 = .ok (.aload_n 0, 1) := by decide +kernel
theorem dX8_counts_19 : decode cX8_counts 19 = .ok (.iload_n 3, 1) := by decide +kernel
theorem dX8_counts_20 : decode cX8_counts 20 = .ok (.invokevirtual 283, 3) := by decide +kernel
theorem dX8_counts_23 : decode cX8_counts 23 = .ok (.iaload, 1) := by decide +kernel
theorem dX8_counts_24 : decode cX8_counts 24 = .ok (.iload_n 1, 1) := by decide +kernel
theorem dX8_counts_25 : decode cX8_counts 25 = .ok (.if_icmp .ne 7, 3) := by decide +kernel
theorem dX8_counts_28 : decode cX8_counts 28 = .ok (.iload_n 3, 1) := by decide +kernel
theorem dX8_counts_29 : decode cX8_counts 29 = .ok (.goto 4, 3) := by decide +kernel
theorem dX8_counts_32 : decode cX8_counts 32 = .ok (.iload_n 2, 1) := by decide +kernel
theorem dX8_counts_33 : decode cX8_counts 33 = .ok (.istore_n 2, 1) := by decide +kernel
theorem dX8_counts_34 : decode cX8_counts 34 = .ok (.iinc 3 1, 3) := by decide +kernel
theorem dX8_counts_37 : decode cX8_counts 37 = .ok (.goto (-33), 3) := by decide +kernel
theorem dX8_counts_40 : decode cX8_counts 40 = .ok (.iload_n 2, 1) := by decide +kernel
theorem dX8_counts_41 : decode cX8_counts 41 = .ok (.ireturn, 1) := by decide +kernel
theorem dX8_why_0 : decode cX8_why 0 = .ok (.iload_n 1, 1) := by decide +kernel
theorem dX8_why_1 : decode cX8_why 1 = .ok (.i2l, 1) := by decide +kernel
theorem dX8_why_2 : decode cX8_why 2 = .ok (.lconst 0, 1) := by decide +kernel
theorem dX8_why_3 : decode cX8_why 3 = .ok (.ldc2_w 143, 3) := by decide +kernel
theorem dX8_why_6 : decode cX8_why 6 = .ok (.invokestatic 71, 3) := by decide +kernel
theorem dX8_why_9 : decode cX8_why 9 = .ok (.ifCond .eq 14, 3) := by decide +kernel
theorem dX8_why_12 : decode cX8_why 12 = .ok (.aload_n 0, 1) := by decide +kernel
theorem dX8_why_13 : decode cX8_why 13 = .ok (.iload_n 1, 1) := by decide +kernel
theorem dX8_why_14 : decode cX8_why 14 = .ok (.invokevirtual 101, 3) := by decide +kernel
theorem dX8_why_17 : decode cX8_why 17 = .ok (.invokestatic 194, 3) := by decide +kernel
theorem dX8_why_20 : decode cX8_why 20 = .ok (.goto 5, 3) := by decide +kernel
theorem dX8_why_23 : decode cX8_why 23 = .ok (.ldc 86, 2) := by decide +kernel
theorem dX8_why_25 : decode cX8_why 25 = .ok (.ireturn, 1) := by decide +kernel
theorem dX8_joined_0 : decode cX8_joined 0 = .ok (.iload_n 0, 1) := by decide +kernel
theorem dX8_joined_1 : decode cX8_joined 1 = .ok (.tableswitch 196 38 62 #[182, 196, 196, 196, 123, 115, 196, 119, 196, 127, 196, 196, 196, 196, 196, 196, 196, 196, 196, 196, 196, 196, 149, 171, 160], 115) := by decide +kernel
theorem dX8_joined_116 : decode cX8_joined 116 = .ok (.iload_n 1, 1) := by decide +kernel
theorem dX8_joined_117 : decode cX8_joined 117 = .ok (.iload_n 2, 1) := by decide +kernel
theorem dX8_joined_118 : decode cX8_joined 118 = .ok (.iadd, 1) := by decide +kernel
theorem dX8_joined_119 : decode cX8_joined 119 = .ok (.ireturn, 1) := by decide +kernel
theorem dX8_joined_120 : decode cX8_joined 120 = .ok (.iload_n 1, 1) := by decide +kernel
theorem dX8_joined_121 : decode cX8_joined 121 = .ok (.iload_n 2, 1) := by decide +kernel
theorem dX8_joined_122 : decode cX8_joined 122 = .ok (.isub, 1) := by decide +kernel
theorem dX8_joined_123 : decode cX8_joined 123 = .ok (.ireturn, 1) := by decide +kernel
theorem dX8_joined_124 : decode cX8_joined 124 = .ok (.iload_n 1, 1) := by decide +kernel
theorem dX8_joined_125 : decode cX8_joined 125 = .ok (.iload_n 2, 1) := by decide +kernel
theorem dX8_joined_126 : decode cX8_joined 126 = .ok (.imul, 1) := by decide +kernel
theorem dX8_joined_127 : decode cX8_joined 127 = .ok (.ireturn, 1) := by decide +kernel
theorem dX8_joined_128 : decode cX8_joined 128 = .ok (.iload_n 2, 1) := by decide +kernel
theorem dX8_joined_129 : decode cX8_joined 129 = .ok (.ifCond .ne 7, 3) := by decide +kernel
theorem dX8_joined_132 : decode cX8_joined 132 = .ok (.iconst 0, 1) := by decide +kernel
theorem dX8_joined_133 : decode cX8_joined 133 = .ok (.goto 16, 3) := by decide +kernel
theorem dX8_joined_136 : decode cX8_joined 136 = .ok (.iload_n 2, 1) := by decide +kernel
theorem dX8_joined_137 : decode cX8_joined 137 = .ok (.iconst (-1), 1) := by decide +kernel
theorem dX8_joined_138 : decode cX8_joined 138 = .ok (.if_icmp .ne 8, 3) := by decide +kernel
theorem dX8_joined_141 : decode cX8_joined 141 = .ok (.iload_n 1, 1) := by decide +kernel
theorem dX8_joined_142 : decode cX8_joined 142 = .ok (.ineg, 1) := by decide +kernel
theorem dX8_joined_143 : decode cX8_joined 143 = .ok (.goto 6, 3) := by decide +kernel
theorem dX8_joined_146 : decode cX8_joined 146 = .ok (.iload_n 1, 1) := by decide +kernel
theorem dX8_joined_147 : decode cX8_joined 147 = .ok (.iload_n 2, 1) := by decide +kernel
theorem dX8_joined_148 : decode cX8_joined 148 = .ok (.idiv, 1) := by decide +kernel
theorem dX8_joined_149 : decode cX8_joined 149 = .ok (.ireturn, 1) := by decide +kernel
theorem dX8_joined_150 : decode cX8_joined 150 = .ok (.iload_n 1, 1) := by decide +kernel
theorem dX8_joined_151 : decode cX8_joined 151 = .ok (.iload_n 2, 1) := by decide +kernel
theorem dX8_joined_152 : decode cX8_joined 152 = .ok (.if_icmp .ge 7, 3) := by decide +kernel
theorem dX8_joined_155 : decode cX8_joined 155 = .ok (.iconst 1, 1) := by decide +kernel
theorem dX8_joined_156 : decode cX8_joined 156 = .ok (.goto 4, 3) := by decide +kernel
theorem dX8_joined_159 : decode cX8_joined 159 = .ok (.iconst 0, 1) := by decide +kernel
theorem dX8_joined_160 : decode cX8_joined 160 = .ok (.ireturn, 1) := by decide +kernel
theorem dX8_joined_161 : decode cX8_joined 161 = .ok (.iload_n 1, 1) := by decide +kernel
theorem dX8_joined_162 : decode cX8_joined 162 = .ok (.iload_n 2, 1) := by decide +kernel
theorem dX8_joined_163 : decode cX8_joined 163 = .ok (.if_icmp .le 7, 3) := by decide +kernel
theorem dX8_joined_166 : decode cX8_joined 166 = .ok (.iconst 1, 1) := by decide +kernel
theorem dX8_joined_167 : decode cX8_joined 167 = .ok (.goto 4, 3) := by decide +kernel
theorem dX8_joined_170 : decode cX8_joined 170 = .ok (.iconst 0, 1) := by decide +kernel
theorem dX8_joined_171 : decode cX8_joined 171 = .ok (.ireturn, 1) := by decide +kernel
theorem dX8_joined_172 : decode cX8_joined 172 = .ok (.iload_n 1, 1) := by decide +kernel
theorem dX8_joined_173 : decode cX8_joined 173 = .ok (.iload_n 2, 1) := by decide +kernel
theorem dX8_joined_174 : decode cX8_joined 174 = .ok (.if_icmp .ne 7, 3) := by decide +kernel
theorem dX8_joined_177 : decode cX8_joined 177 = .ok (.iconst 1, 1) := by decide +kernel
theorem dX8_joined_178 : decode cX8_joined 178 = .ok (.goto 4, 3) := by decide +kernel
theorem dX8_joined_181 : decode cX8_joined 181 = .ok (.iconst 0, 1) := by decide +kernel
theorem dX8_joined_182 : decode cX8_joined 182 = .ok (.ireturn, 1) := by decide +kernel
theorem dX8_joined_183 : decode cX8_joined 183 = .ok (.iload_n 1, 1) := by decide +kernel
theorem dX8_joined_184 : decode cX8_joined 184 = .ok (.ifCond .eq 11, 3) := by decide +kernel
theorem dX8_joined_187 : decode cX8_joined 187 = .ok (.iload_n 2, 1) := by decide +kernel
theorem dX8_joined_188 : decode cX8_joined 188 = .ok (.ifCond .eq 7, 3) := by decide +kernel
theorem dX8_joined_191 : decode cX8_joined 191 = .ok (.iconst 1, 1) := by decide +kernel
theorem dX8_joined_192 : decode cX8_joined 192 = .ok (.goto 4, 3) := by decide +kernel
theorem dX8_joined_195 : decode cX8_joined 195 = .ok (.iconst 0, 1) := by decide +kernel
theorem dX8_joined_196 : decode cX8_joined 196 = .ok (.ireturn, 1) := by decide +kernel
theorem dX8_joined_197 : decode cX8_joined 197 = .ok (.iload_n 1, 1) := by decide +kernel
theorem dX8_joined_198 : decode cX8_joined 198 = .ok (.ifCond .ne 7, 3) := by decide +kernel
theorem dX8_joined_201 : decode cX8_joined 201 = .ok (.iload_n 2, 1) := by decide +kernel
theorem dX8_joined_202 : decode cX8_joined 202 = .ok (.ifCond .eq 7, 3) := by decide +kernel
theorem dX8_joined_205 : decode cX8_joined 205 = .ok (.iconst 1, 1) := by decide +kernel
theorem dX8_joined_206 : decode cX8_joined 206 = .ok (.goto 4, 3) := by decide +kernel
theorem dX8_joined_209 : decode cX8_joined 209 = .ok (.iconst 0, 1) := by decide +kernel
theorem dX8_joined_210 : decode cX8_joined 210 = .ok (.ireturn, 1) := by decide +kernel
theorem dX8_worked_0 : decode cX8_worked 0 = .ok (.iconst 0, 1) := by decide +kernel
theorem dX8_worked_1 : decode cX8_worked 1 = .ok (.istore_n 2, 1) := by decide +kernel
theorem dX8_worked_2 : decode cX8_worked 2 = .ok (.iconst 0, 1) := by decide +kernel
theorem dX8_worked_3 : decode cX8_worked 3 = .ok (.istore_n 3, 1) := by decide +kernel
theorem dX8_worked_4 : decode cX8_worked 4 = .ok (.iload_n 3, 1) := by decide +kernel
theorem dX8_worked_5 : decode cX8_worked 5 = .ok (.aload_n 0, 1) := by decide +kernel
theorem dX8_worked_6 : decode cX8_worked 6 = .ok (.getfield 7, 3) := by decide +kernel
theorem dX8_worked_9 : decode cX8_worked 9 = .ok (.aload_n 0, 1) := by decide +kernel
theorem dX8_worked_10 : decode cX8_worked 10 = .ok (.iload_n 1, 1) := by decide +kernel
theorem dX8_worked_11 : decode cX8_worked 11 = .ok (.invokevirtual 283, 3) := by decide +kernel
theorem dX8_worked_14 : decode cX8_worked 14 = .ok (.iconst 2, 1) := by decide +kernel
theorem dX8_worked_15 : decode cX8_worked 15 = .ok (.iadd, 1) := by decide +kernel
theorem dX8_worked_16 : decode cX8_worked 16 = .ok (.iaload, 1) := by decide +kernel
theorem dX8_worked_17 : decode cX8_worked 17 = .ok (.if_icmp .ge 146, 3) := by decide +kernel
theorem dX8_worked_20 : decode cX8_worked 20 = .ok (.aload_n 0, 1) := by decide +kernel
theorem dX8_worked_21 : decode cX8_worked 21 = .ok (.getfield 7, 3) := by decide +kernel
theorem dX8_worked_24 : decode cX8_worked 24 = .ok (.aload_n 0, 1) := by decide +kernel
theorem dX8_worked_25 : decode cX8_worked 25 = .ok (.iload_n 1, 1) := by decide +kernel
theorem dX8_worked_26 : decode cX8_worked 26 = .ok (.invokevirtual 283, 3) := by decide +kernel
theorem dX8_worked_29 : decode cX8_worked 29 = .ok (.iconst 4, 1) := by decide +kernel
theorem dX8_worked_30 : decode cX8_worked 30 = .ok (.iadd, 1) := by decide +kernel
theorem dX8_worked_31 : decode cX8_worked 31 = .ok (.iconst 2, 1) := by decide +kernel
theorem dX8_worked_32 : decode cX8_worked 32 = .ok (.iload_n 3, 1) := by decide +kernel
theorem dX8_worked_33 : decode cX8_worked 33 = .ok (.imul, 1) := by decide +kernel
theorem dX8_worked_34 : decode cX8_worked 34 = .ok (.iadd, 1) := by decide +kernel
theorem dX8_worked_35 : decode cX8_worked 35 = .ok (.iaload, 1) := by decide +kernel
theorem dX8_worked_36 : decode cX8_worked 36 = .ok (.istore 4, 2) := by decide +kernel
theorem dX8_worked_38 : decode cX8_worked 38 = .ok (.aload_n 0, 1) := by decide +kernel
theorem dX8_worked_39 : decode cX8_worked 39 = .ok (.getfield 7, 3) := by decide +kernel
theorem dX8_worked_42 : decode cX8_worked 42 = .ok (.aload_n 0, 1) := by decide +kernel
theorem dX8_worked_43 : decode cX8_worked 43 = .ok (.iload_n 1, 1) := by decide +kernel
theorem dX8_worked_44 : decode cX8_worked 44 = .ok (.invokevirtual 283, 3) := by decide +kernel
theorem dX8_worked_47 : decode cX8_worked 47 = .ok (.iconst 4, 1) := by decide +kernel
theorem dX8_worked_48 : decode cX8_worked 48 = .ok (.iadd, 1) := by decide +kernel
theorem dX8_worked_49 : decode cX8_worked 49 = .ok (.iconst 2, 1) := by decide +kernel
theorem dX8_worked_50 : decode cX8_worked 50 = .ok (.iload_n 3, 1) := by decide +kernel
theorem dX8_worked_51 : decode cX8_worked 51 = .ok (.imul, 1) := by decide +kernel
theorem dX8_worked_52 : decode cX8_worked 52 = .ok (.iadd, 1) := by decide +kernel
theorem dX8_worked_53 : decode cX8_worked 53 = .ok (.iconst 1, 1) := by decide +kernel
theorem dX8_worked_54 : decode cX8_worked 54 = .ok (.iadd, 1) := by decide +kernel
theorem dX8_worked_55 : decode cX8_worked 55 = .ok (.iaload, 1) := by decide +kernel
theorem dX8_worked_56 : decode cX8_worked 56 = .ok (.istore 5, 2) := by decide +kernel
theorem dX8_worked_58 : decode cX8_worked 58 = .ok (.iload 4, 2) := by decide +kernel
theorem dX8_worked_60 : decode cX8_worked 60 = .ok (.iconst 2, 1) := by decide +kernel
theorem dX8_worked_61 : decode cX8_worked 61 = .ok (.if_icmp .eq 32, 3) := by decide +kernel
theorem dX8_worked_64 : decode cX8_worked 64 = .ok (.aload_n 0, 1) := by decide +kernel
theorem dX8_worked_65 : decode cX8_worked 65 = .ok (.getfield 58, 3) := by decide +kernel
theorem dX8_worked_68 : decode cX8_worked 68 = .ok (.iload_n 2, 1) := by decide +kernel
theorem dX8_worked_69 : decode cX8_worked 69 = .ok (.iload 4, 2) := by decide +kernel
theorem dX8_worked_71 : decode cX8_worked 71 = .ok (.ifCond .ne 8, 3) := by decide +kernel
theorem dX8_worked_74 : decode cX8_worked 74 = .ok (.iload 5, 2) := by decide +kernel
theorem dX8_worked_76 : decode cX8_worked 76 = .ok (.goto 10, 3) := by decide +kernel
theorem dX8_worked_79 : decode cX8_worked 79 = .ok (.aload_n 0, 1) := by decide +kernel
theorem dX8_worked_80 : decode cX8_worked 80 = .ok (.getfield 55, 3) := by decide +kernel
theorem dX8_worked_83 : decode cX8_worked 83 = .ok (.iload 5, 2) := by decide +kernel
theorem dX8_worked_85 : decode cX8_worked 85 = .ok (.iaload, 1) := by decide +kernel
theorem dX8_worked_86 : decode cX8_worked 86 = .ok (.iastore, 1) := by decide +kernel
theorem dX8_worked_87 : decode cX8_worked 87 = .ok (.iinc 2 1, 3) := by decide +kernel
theorem dX8_worked_90 : decode cX8_worked 90 = .ok (.goto 67, 3) := by decide +kernel
theorem dX8_worked_93 : decode cX8_worked 93 = .ok (.iload 5, 2) := by decide +kernel
theorem dX8_worked_95 : decode cX8_worked 95 = .ok (.bipush 33, 2) := by decide +kernel
theorem dX8_worked_97 : decode cX8_worked 97 = .ok (.if_icmp .ne 30, 3) := by decide +kernel
theorem dX8_worked_100 : decode cX8_worked 100 = .ok (.aload_n 0, 1) := by decide +kernel
theorem dX8_worked_101 : decode cX8_worked 101 = .ok (.getfield 58, 3) := by decide +kernel
theorem dX8_worked_104 : decode cX8_worked 104 = .ok (.iload_n 2, 1) := by decide +kernel
theorem dX8_worked_105 : decode cX8_worked 105 = .ok (.iconst 1, 1) := by decide +kernel
theorem dX8_worked_106 : decode cX8_worked 106 = .ok (.isub, 1) := by decide +kernel
theorem dX8_worked_107 : decode cX8_worked 107 = .ok (.aload_n 0, 1) := by decide +kernel
theorem dX8_worked_108 : decode cX8_worked 108 = .ok (.getfield 58, 3) := by decide +kernel
theorem dX8_worked_111 : decode cX8_worked 111 = .ok (.iload_n 2, 1) := by decide +kernel
theorem dX8_worked_112 : decode cX8_worked 112 = .ok (.iconst 1, 1) := by decide +kernel
theorem dX8_worked_113 : decode cX8_worked 113 = .ok (.isub, 1) := by decide +kernel
theorem dX8_worked_114 : decode cX8_worked 114 = .ok (.iaload, 1) := by decide +kernel
theorem dX8_worked_115 : decode cX8_worked 115 = .ok (.ifCond .ne 7, 3) := by decide +kernel
theorem dX8_worked_118 : decode cX8_worked 118 = .ok (.iconst 1, 1) := by decide +kernel
theorem dX8_worked_119 : decode cX8_worked 119 = .ok (.goto 4, 3) := by decide +kernel
theorem dX8_worked_122 : decode cX8_worked 122 = .ok (.iconst 0, 1) := by decide +kernel
theorem dX8_worked_123 : decode cX8_worked 123 = .ok (.iastore, 1) := by decide +kernel
theorem dX8_worked_124 : decode cX8_worked 124 = .ok (.goto 33, 3) := by decide +kernel
theorem dX8_worked_127 : decode cX8_worked 127 = .ok (.iinc 2 (-1), 3) := by decide +kernel
theorem dX8_worked_130 : decode cX8_worked 130 = .ok (.aload_n 0, 1) := by decide +kernel
theorem dX8_worked_131 : decode cX8_worked 131 = .ok (.getfield 58, 3) := by decide +kernel
theorem dX8_worked_134 : decode cX8_worked 134 = .ok (.iload_n 2, 1) := by decide +kernel
theorem dX8_worked_135 : decode cX8_worked 135 = .ok (.iconst 1, 1) := by decide +kernel
theorem dX8_worked_136 : decode cX8_worked 136 = .ok (.isub, 1) := by decide +kernel
theorem dX8_worked_137 : decode cX8_worked 137 = .ok (.iload 5, 2) := by decide +kernel
theorem dX8_worked_139 : decode cX8_worked 139 = .ok (.aload_n 0, 1) := by decide +kernel
theorem dX8_worked_140 : decode cX8_worked 140 = .ok (.getfield 58, 3) := by decide +kernel
theorem dX8_worked_143 : decode cX8_worked 143 = .ok (.iload_n 2, 1) := by decide +kernel
theorem dX8_worked_144 : decode cX8_worked 144 = .ok (.iconst 1, 1) := by decide +kernel
theorem dX8_worked_145 : decode cX8_worked 145 = .ok (.isub, 1) := by decide +kernel
theorem dX8_worked_146 : decode cX8_worked 146 = .ok (.iaload, 1) := by decide +kernel
theorem dX8_worked_147 : decode cX8_worked 147 = .ok (.aload_n 0, 1) := by decide +kernel
theorem dX8_worked_148 : decode cX8_worked 148 = .ok (.getfield 58, 3) := by decide +kernel
theorem dX8_worked_151 : decode cX8_worked 151 = .ok (.iload_n 2, 1) := by decide +kernel
theorem dX8_worked_152 : decode cX8_worked 152 = .ok (.iaload, 1) := by decide +kernel
theorem dX8_worked_153 : decode cX8_worked 153 = .ok (.invokestatic 295, 3) := by decide +kernel
theorem dX8_worked_156 : decode cX8_worked 156 = .ok (.iastore, 1) := by decide +kernel
theorem dX8_worked_157 : decode cX8_worked 157 = .ok (.iinc 3 1, 3) := by decide +kernel
theorem dX8_worked_160 : decode cX8_worked 160 = .ok (.goto (-156), 3) := by decide +kernel
theorem dX8_worked_163 : decode cX8_worked 163 = .ok (.aload_n 0, 1) := by decide +kernel
theorem dX8_worked_164 : decode cX8_worked 164 = .ok (.getfield 58, 3) := by decide +kernel
theorem dX8_worked_167 : decode cX8_worked 167 = .ok (.iconst 0, 1) := by decide +kernel
theorem dX8_worked_168 : decode cX8_worked 168 = .ok (.iaload, 1) := by decide +kernel
theorem dX8_worked_169 : decode cX8_worked 169 = .ok (.ireturn, 1) := by decide +kernel
theorem dX8_isSheet_0 : decode cX8_isSheet 0 = .ok (.iload_n 0, 1) := by decide +kernel
theorem dX8_isSheet_1 : decode cX8_isSheet 1 = .ok (.i2l, 1) := by decide +kernel
theorem dX8_isSheet_2 : decode cX8_isSheet 2 = .ok (.lconst 0, 1) := by decide +kernel
theorem dX8_isSheet_3 : decode cX8_isSheet 3 = .ok (.ldc2_w 133, 3) := by decide +kernel
theorem dX8_isSheet_6 : decode cX8_isSheet 6 = .ok (.invokestatic 71, 3) := by decide +kernel
theorem dX8_isSheet_9 : decode cX8_isSheet 9 = .ok (.ireturn, 1) := by decide +kernel
theorem dX8_sheet_0 : decode cX8_sheet 0 = .ok (.iload_n 1, 1) := by decide +kernel
theorem dX8_sheet_1 : decode cX8_sheet 1 = .ok (.invokestatic 298, 3) := by decide +kernel
theorem dX8_sheet_4 : decode cX8_sheet 4 = .ok (.ifCond .eq 25, 3) := by decide +kernel
theorem dX8_sheet_7 : decode cX8_sheet 7 = .ok (.iload_n 2, 1) := by decide +kernel
theorem dX8_sheet_8 : decode cX8_sheet 8 = .ok (.i2l, 1) := by decide +kernel
theorem dX8_sheet_9 : decode cX8_sheet 9 = .ok (.ldc2_w 301, 3) := by decide +kernel
theorem dX8_sheet_12 : decode cX8_sheet 12 = .ok (.lconst 1, 1) := by decide +kernel
theorem dX8_sheet_13 : decode cX8_sheet 13 = .ok (.invokestatic 71, 3) := by decide +kernel
theorem dX8_sheet_16 : decode cX8_sheet 16 = .ok (.ifCond .eq 13, 3) := by decide +kernel
theorem dX8_sheet_19 : decode cX8_sheet 19 = .ok (.iload_n 2, 1) := by decide +kernel
theorem dX8_sheet_20 : decode cX8_sheet 20 = .ok (.ifCond .lt 12, 3) := by decide +kernel
theorem dX8_sheet_23 : decode cX8_sheet 23 = .ok (.iload_n 3, 1) := by decide +kernel
theorem dX8_sheet_24 : decode cX8_sheet 24 = .ok (.bipush 24, 2) := by decide +kernel
theorem dX8_sheet_26 : decode cX8_sheet 26 = .ok (.if_icmp .le 6, 3) := by decide +kernel
theorem dX8_sheet_29 : decode cX8_sheet 29 = .ok (.ldc 86, 2) := by decide +kernel
theorem dX8_sheet_31 : decode cX8_sheet 31 = .ok (.ireturn, 1) := by decide +kernel
theorem dX8_sheet_32 : decode cX8_sheet 32 = .ok (.iload_n 2, 1) := by decide +kernel
theorem dX8_sheet_33 : decode cX8_sheet 33 = .ok (.ifCond .lt 11, 3) := by decide +kernel
theorem dX8_sheet_36 : decode cX8_sheet 36 = .ok (.iload_n 3, 1) := by decide +kernel
theorem dX8_sheet_37 : decode cX8_sheet 37 = .ok (.ifCond .ge 7, 3) := by decide +kernel
theorem dX8_sheet_40 : decode cX8_sheet 40 = .ok (.ldc_w 303, 3) := by decide +kernel
theorem dX8_sheet_43 : decode cX8_sheet 43 = .ok (.ireturn, 1) := by decide +kernel
theorem dX8_sheet_44 : decode cX8_sheet 44 = .ok (.aload_n 0, 1) := by decide +kernel
theorem dX8_sheet_45 : decode cX8_sheet 45 = .ok (.getfield 19, 3) := by decide +kernel
theorem dX8_sheet_48 : decode cX8_sheet 48 = .ok (.iload_n 1, 1) := by decide +kernel
theorem dX8_sheet_49 : decode cX8_sheet 49 = .ok (.iload_n 2, 1) := by decide +kernel
theorem dX8_sheet_50 : decode cX8_sheet 50 = .ok (.iastore, 1) := by decide +kernel
theorem dX8_sheet_51 : decode cX8_sheet 51 = .ok (.aload_n 0, 1) := by decide +kernel
theorem dX8_sheet_52 : decode cX8_sheet 52 = .ok (.getfield 22, 3) := by decide +kernel
theorem dX8_sheet_55 : decode cX8_sheet 55 = .ok (.iload_n 1, 1) := by decide +kernel
theorem dX8_sheet_56 : decode cX8_sheet 56 = .ok (.iload_n 2, 1) := by decide +kernel
theorem dX8_sheet_57 : decode cX8_sheet 57 = .ok (.ifCond .ge 7, 3) := by decide +kernel
theorem dX8_sheet_60 : decode cX8_sheet 60 = .ok (.iconst 0, 1) := by decide +kernel
theorem dX8_sheet_61 : decode cX8_sheet 61 = .ok (.goto 4, 3) := by decide +kernel
theorem dX8_sheet_64 : decode cX8_sheet 64 = .ok (.iload_n 3, 1) := by decide +kernel
theorem dX8_sheet_65 : decode cX8_sheet 65 = .ok (.iastore, 1) := by decide +kernel
theorem dX8_sheet_66 : decode cX8_sheet 66 = .ok (.iconst 0, 1) := by decide +kernel
theorem dX8_sheet_67 : decode cX8_sheet 67 = .ok (.istore 4, 2) := by decide +kernel
theorem dX8_sheet_69 : decode cX8_sheet 69 = .ok (.iload 4, 2) := by decide +kernel
theorem dX8_sheet_71 : decode cX8_sheet 71 = .ok (.bipush 24, 2) := by decide +kernel
theorem dX8_sheet_73 : decode cX8_sheet 73 = .ok (.if_icmp .ge 22, 3) := by decide +kernel
theorem dX8_sheet_76 : decode cX8_sheet 76 = .ok (.aload_n 0, 1) := by decide +kernel
theorem dX8_sheet_77 : decode cX8_sheet 77 = .ok (.getfield 25, 3) := by decide +kernel
theorem dX8_sheet_80 : decode cX8_sheet 80 = .ok (.bipush 24, 2) := by decide +kernel
theorem dX8_sheet_82 : decode cX8_sheet 82 = .ok (.iload_n 1, 1) := by decide +kernel
theorem dX8_sheet_83 : decode cX8_sheet 83 = .ok (.imul, 1) := by decide +kernel
theorem dX8_sheet_84 : decode cX8_sheet 84 = .ok (.iload 4, 2) := by decide +kernel
theorem dX8_sheet_86 : decode cX8_sheet 86 = .ok (.iadd, 1) := by decide +kernel
theorem dX8_sheet_87 : decode cX8_sheet 87 = .ok (.iconst 0, 1) := by decide +kernel
theorem dX8_sheet_88 : decode cX8_sheet 88 = .ok (.iastore, 1) := by decide +kernel
theorem dX8_sheet_89 : decode cX8_sheet 89 = .ok (.iinc 4 1, 3) := by decide +kernel
theorem dX8_sheet_92 : decode cX8_sheet 92 = .ok (.goto (-23), 3) := by decide +kernel
theorem dX8_sheet_95 : decode cX8_sheet 95 = .ok (.aload_n 0, 1) := by decide +kernel
theorem dX8_sheet_96 : decode cX8_sheet 96 = .ok (.getfield 22, 3) := by decide +kernel
theorem dX8_sheet_99 : decode cX8_sheet 99 = .ok (.iload_n 1, 1) := by decide +kernel
theorem dX8_sheet_100 : decode cX8_sheet 100 = .ok (.iaload, 1) := by decide +kernel
theorem dX8_sheet_101 : decode cX8_sheet 101 = .ok (.ireturn, 1) := by decide +kernel
theorem dX8_mark_0 : decode cX8_mark 0 = .ok (.iload_n 1, 1) := by decide +kernel
theorem dX8_mark_1 : decode cX8_mark 1 = .ok (.invokestatic 298, 3) := by decide +kernel
theorem dX8_mark_4 : decode cX8_mark 4 = .ok (.ifCond .ne 6, 3) := by decide +kernel
theorem dX8_mark_7 : decode cX8_mark 7 = .ok (.ldc 86, 2) := by decide +kernel
theorem dX8_mark_9 : decode cX8_mark 9 = .ok (.ireturn, 1) := by decide +kernel
theorem dX8_mark_10 : decode cX8_mark 10 = .ok (.aload_n 0, 1) := by decide +kernel
theorem dX8_mark_11 : decode cX8_mark 11 = .ok (.getfield 19, 3) := by decide +kernel
theorem dX8_mark_14 : decode cX8_mark 14 = .ok (.iload_n 1, 1) := by decide +kernel
theorem dX8_mark_15 : decode cX8_mark 15 = .ok (.iaload, 1) := by decide +kernel
theorem dX8_mark_16 : decode cX8_mark 16 = .ok (.ifCond .ge 7, 3) := by decide +kernel
theorem dX8_mark_19 : decode cX8_mark 19 = .ok (.ldc_w 304, 3) := by decide +kernel
theorem dX8_mark_22 : decode cX8_mark 22 = .ok (.ireturn, 1) := by decide +kernel
theorem dX8_mark_23 : decode cX8_mark 23 = .ok (.iload_n 2, 1) := by decide +kernel
theorem dX8_mark_24 : decode cX8_mark 24 = .ok (.i2l, 1) := by decide +kernel
theorem dX8_mark_25 : decode cX8_mark 25 = .ok (.lconst 0, 1) := by decide +kernel
theorem dX8_mark_26 : decode cX8_mark 26 = .ok (.aload_n 0, 1) := by decide +kernel
theorem dX8_mark_27 : decode cX8_mark 27 = .ok (.getfield 22, 3) := by decide +kernel
theorem dX8_mark_30 : decode cX8_mark 30 = .ok (.iload_n 1, 1) := by decide +kernel
theorem dX8_mark_31 : decode cX8_mark 31 = .ok (.iaload, 1) := by decide +kernel
theorem dX8_mark_32 : decode cX8_mark 32 = .ok (.iconst 1, 1) := by decide +kernel
theorem dX8_mark_33 : decode cX8_mark 33 = .ok (.isub, 1) := by decide +kernel
theorem dX8_mark_34 : decode cX8_mark 34 = .ok (.i2l, 1) := by decide +kernel
theorem dX8_mark_35 : decode cX8_mark 35 = .ok (.invokestatic 71, 3) := by decide +kernel
theorem dX8_mark_38 : decode cX8_mark 38 = .ok (.ifCond .ne 7, 3) := by decide +kernel
theorem dX8_mark_41 : decode cX8_mark 41 = .ok (.ldc_w 305, 3) := by decide +kernel
theorem dX8_mark_44 : decode cX8_mark 44 = .ok (.ireturn, 1) := by decide +kernel
theorem dX8_mark_45 : decode cX8_mark 45 = .ok (.aload_n 0, 1) := by decide +kernel
theorem dX8_mark_46 : decode cX8_mark 46 = .ok (.getfield 19, 3) := by decide +kernel
theorem dX8_mark_49 : decode cX8_mark 49 = .ok (.iload_n 1, 1) := by decide +kernel
theorem dX8_mark_50 : decode cX8_mark 50 = .ok (.iaload, 1) := by decide +kernel
theorem dX8_mark_51 : decode cX8_mark 51 = .ok (.ifCond .ne 12, 3) := by decide +kernel
theorem dX8_mark_54 : decode cX8_mark 54 = .ok (.iload_n 3, 1) := by decide +kernel
theorem dX8_mark_55 : decode cX8_mark 55 = .ok (.ldc 70, 2) := by decide +kernel
theorem dX8_mark_57 : decode cX8_mark 57 = .ok (.if_icmp .ne 6, 3) := by decide +kernel
theorem dX8_mark_60 : decode cX8_mark 60 = .ok (.ldc 129, 2) := by decide +kernel
theorem dX8_mark_62 : decode cX8_mark 62 = .ok (.ireturn, 1) := by decide +kernel
theorem dX8_mark_63 : decode cX8_mark 63 = .ok (.aload_n 0, 1) := by decide +kernel
theorem dX8_mark_64 : decode cX8_mark 64 = .ok (.getfield 19, 3) := by decide +kernel
theorem dX8_mark_67 : decode cX8_mark 67 = .ok (.iload_n 1, 1) := by decide +kernel
theorem dX8_mark_68 : decode cX8_mark 68 = .ok (.iaload, 1) := by decide +kernel
theorem dX8_mark_69 : decode cX8_mark 69 = .ok (.iconst 1, 1) := by decide +kernel
theorem dX8_mark_70 : decode cX8_mark 70 = .ok (.if_icmp .ne 26, 3) := by decide +kernel
theorem dX8_mark_73 : decode cX8_mark 73 = .ok (.iload_n 3, 1) := by decide +kernel
theorem dX8_mark_74 : decode cX8_mark 74 = .ok (.ldc 70, 2) := by decide +kernel
theorem dX8_mark_76 : decode cX8_mark 76 = .ok (.if_icmp .eq 20, 3) := by decide +kernel
theorem dX8_mark_79 : decode cX8_mark 79 = .ok (.iload_n 3, 1) := by decide +kernel
theorem dX8_mark_80 : decode cX8_mark 80 = .ok (.i2l, 1) := by decide +kernel
theorem dX8_mark_81 : decode cX8_mark 81 = .ok (.ldc2_w 306, 3) := by decide +kernel
theorem dX8_mark_84 : decode cX8_mark 84 = .ok (.ldc2_w 308, 3) := by decide +kernel
theorem dX8_mark_87 : decode cX8_mark 87 = .ok (.invokestatic 71, 3) := by decide +kernel
theorem dX8_mark_90 : decode cX8_mark 90 = .ok (.ifCond .ne 6, 3) := by decide +kernel
theorem dX8_mark_93 : decode cX8_mark 93 = .ok (.ldc 86, 2) := by decide +kernel
theorem dX8_mark_95 : decode cX8_mark 95 = .ok (.ireturn, 1) := by decide +kernel
theorem dX8_mark_96 : decode cX8_mark 96 = .ok (.aload_n 0, 1) := by decide +kernel
theorem dX8_mark_97 : decode cX8_mark 97 = .ok (.getfield 25, 3) := by decide +kernel
theorem dX8_mark_100 : decode cX8_mark 100 = .ok (.bipush 24, 2) := by decide +kernel
theorem dX8_mark_102 : decode cX8_mark 102 = .ok (.iload_n 1, 1) := by decide +kernel
theorem dX8_mark_103 : decode cX8_mark 103 = .ok (.imul, 1) := by decide +kernel
theorem dX8_mark_104 : decode cX8_mark 104 = .ok (.iload_n 2, 1) := by decide +kernel
theorem dX8_mark_105 : decode cX8_mark 105 = .ok (.iadd, 1) := by decide +kernel
theorem dX8_mark_106 : decode cX8_mark 106 = .ok (.aload_n 0, 1) := by decide +kernel
theorem dX8_mark_107 : decode cX8_mark 107 = .ok (.getfield 19, 3) := by decide +kernel
theorem dX8_mark_110 : decode cX8_mark 110 = .ok (.iload_n 1, 1) := by decide +kernel
theorem dX8_mark_111 : decode cX8_mark 111 = .ok (.iaload, 1) := by decide +kernel
theorem dX8_mark_112 : decode cX8_mark 112 = .ok (.ifCond .ne 13, 3) := by decide +kernel
theorem dX8_mark_115 : decode cX8_mark 115 = .ok (.iload_n 3, 1) := by decide +kernel
theorem dX8_mark_116 : decode cX8_mark 116 = .ok (.bipush 16, 2) := by decide +kernel
theorem dX8_mark_118 : decode cX8_mark 118 = .ok (.ishl, 1) := by decide +kernel
theorem dX8_mark_119 : decode cX8_mark 119 = .ok (.bipush 16, 2) := by decide +kernel
theorem dX8_mark_121 : decode cX8_mark 121 = .ok (.ishr, 1) := by decide +kernel
theorem dX8_mark_122 : decode cX8_mark 122 = .ok (.goto 4, 3) := by decide +kernel
theorem dX8_mark_125 : decode cX8_mark 125 = .ok (.iload_n 3, 1) := by decide +kernel
theorem dX8_mark_126 : decode cX8_mark 126 = .ok (.iastore, 1) := by decide +kernel
theorem dX8_mark_127 : decode cX8_mark 127 = .ok (.iconst 1, 1) := by decide +kernel
theorem dX8_mark_128 : decode cX8_mark 128 = .ok (.ireturn, 1) := by decide +kernel
theorem dX8_pour_0 : decode cX8_pour 0 = .ok (.iload_n 1, 1) := by decide +kernel
theorem dX8_pour_1 : decode cX8_pour 1 = .ok (.invokestatic 298, 3) := by decide +kernel
theorem dX8_pour_4 : decode cX8_pour 4 = .ok (.ifCond .ne 6, 3) := by decide +kernel
theorem dX8_pour_7 : decode cX8_pour 7 = .ok (.ldc 86, 2) := by decide +kernel
theorem dX8_pour_9 : decode cX8_pour 9 = .ok (.ireturn, 1) := by decide +kernel
theorem dX8_pour_10 : decode cX8_pour 10 = .ok (.aload_n 0, 1) := by decide +kernel
theorem dX8_pour_11 : decode cX8_pour 11 = .ok (.getfield 19, 3) := by decide +kernel
theorem dX8_pour_14 : decode cX8_pour 14 = .ok (.iload_n 1, 1) := by decide +kernel
theorem dX8_pour_15 : decode cX8_pour 15 = .ok (.iaload, 1) := by decide +kernel
theorem dX8_pour_16 : decode cX8_pour 16 = .ok (.ifCond .ge 7, 3) := by decide +kernel
theorem dX8_pour_19 : decode cX8_pour 19 = .ok (.ldc_w 304, 3) := by decide +kernel
theorem dX8_pour_22 : decode cX8_pour 22 = .ok (.ireturn, 1) := by decide +kernel
theorem dX8_pour_23 : decode cX8_pour 23 = .ok (.iconst 0, 1) := by decide +kernel
theorem dX8_pour_24 : decode cX8_pour 24 = .ok (.istore_n 2, 1) := by decide +kernel
theorem dX8_pour_25 : decode cX8_pour 25 = .ok (.iconst 0, 1) := by decide +kernel
theorem dX8_pour_26 : decode cX8_pour 26 = .ok (.istore_n 3, 1) := by decide +kernel
theorem dX8_pour_27 : decode cX8_pour 27 = .ok (.iload_n 3, 1) := by decide +kernel
theorem dX8_pour_28 : decode cX8_pour 28 = .ok (.aload_n 0, 1) := by decide +kernel
theorem dX8_pour_29 : decode cX8_pour 29 = .ok (.getfield 22, 3) := by decide +kernel
theorem dX8_pour_32 : decode cX8_pour 32 = .ok (.iload_n 1, 1) := by decide +kernel
theorem dX8_pour_33 : decode cX8_pour 33 = .ok (.iaload, 1) := by decide +kernel
theorem dX8_pour_34 : decode cX8_pour 34 = .ok (.if_icmp .ge 92, 3) := by decide +kernel
theorem dX8_pour_37 : decode cX8_pour 37 = .ok (.iload_n 3, 1) := by decide +kernel
theorem dX8_pour_38 : decode cX8_pour 38 = .ok (.aload_n 0, 1) := by decide +kernel
theorem dX8_pour_39 : decode cX8_pour 39 = .ok (.getfield 7, 3) := by decide +kernel
theorem dX8_pour_42 : decode cX8_pour 42 = .ok (.iconst 0, 1) := by decide +kernel
theorem dX8_pour_43 : decode cX8_pour 43 = .ok (.iaload, 1) := by decide +kernel
theorem dX8_pour_44 : decode cX8_pour 44 = .ok (.if_icmp .ge 82, 3) := by decide +kernel
theorem dX8_pour_47 : decode cX8_pour 47 = .ok (.aload_n 0, 1) := by decide +kernel
theorem dX8_pour_48 : decode cX8_pour 48 = .ok (.getfield 25, 3) := by decide +kernel
theorem dX8_pour_51 : decode cX8_pour 51 = .ok (.bipush 24, 2) := by decide +kernel
theorem dX8_pour_53 : decode cX8_pour 53 = .ok (.iload_n 1, 1) := by decide +kernel
theorem dX8_pour_54 : decode cX8_pour 54 = .ok (.imul, 1) := by decide +kernel
theorem dX8_pour_55 : decode cX8_pour 55 = .ok (.iload_n 3, 1) := by decide +kernel
theorem dX8_pour_56 : decode cX8_pour 56 = .ok (.iadd, 1) := by decide +kernel
theorem dX8_pour_57 : decode cX8_pour 57 = .ok (.iaload, 1) := by decide +kernel
theorem dX8_pour_58 : decode cX8_pour 58 = .ok (.istore 4, 2) := by decide +kernel
theorem dX8_pour_60 : decode cX8_pour 60 = .ok (.iload 4, 2) := by decide +kernel
theorem dX8_pour_62 : decode cX8_pour 62 = .ok (.ldc 70, 2) := by decide +kernel
theorem dX8_pour_64 : decode cX8_pour 64 = .ok (.if_icmp .ne 19, 3) := by decide +kernel
theorem dX8_pour_67 : decode cX8_pour 67 = .ok (.aload_n 0, 1) := by decide +kernel
theorem dX8_pour_68 : decode cX8_pour 68 = .ok (.getfield 7, 3) := by decide +kernel
theorem dX8_pour_71 : decode cX8_pour 71 = .ok (.bipush 7, 2) := by decide +kernel
theorem dX8_pour_73 : decode cX8_pour 73 = .ok (.iconst 5, 1) := by decide +kernel
theorem dX8_pour_74 : decode cX8_pour 74 = .ok (.iload_n 3, 1) := by decide +kernel
theorem dX8_pour_75 : decode cX8_pour 75 = .ok (.imul, 1) := by decide +kernel
theorem dX8_pour_76 : decode cX8_pour 76 = .ok (.iadd, 1) := by decide +kernel
theorem dX8_pour_77 : decode cX8_pour 77 = .ok (.iconst 2, 1) := by decide +kernel
theorem dX8_pour_78 : decode cX8_pour 78 = .ok (.iadd, 1) := by decide +kernel
theorem dX8_pour_79 : decode cX8_pour 79 = .ok (.iaload, 1) := by decide +kernel
theorem dX8_pour_80 : decode cX8_pour 80 = .ok (.goto 11, 3) := by decide +kernel
theorem dX8_pour_83 : decode cX8_pour 83 = .ok (.iload 4, 2) := by decide +kernel
theorem dX8_pour_85 : decode cX8_pour 85 = .ok (.iconst 0, 1) := by decide +kernel
theorem dX8_pour_86 : decode cX8_pour 86 = .ok (.bipush 99, 2) := by decide +kernel
theorem dX8_pour_88 : decode cX8_pour 88 = .ok (.invokestatic 108, 3) := by decide +kernel
theorem dX8_pour_91 : decode cX8_pour 91 = .ok (.istore 5, 2) := by decide +kernel
theorem dX8_pour_93 : decode cX8_pour 93 = .ok (.iload_n 2, 1) := by decide +kernel
theorem dX8_pour_94 : decode cX8_pour 94 = .ok (.iload 5, 2) := by decide +kernel
theorem dX8_pour_96 : decode cX8_pour 96 = .ok (.aload_n 0, 1) := by decide +kernel
theorem dX8_pour_97 : decode cX8_pour 97 = .ok (.bipush 7, 2) := by decide +kernel
theorem dX8_pour_99 : decode cX8_pour 99 = .ok (.iconst 5, 1) := by decide +kernel
theorem dX8_pour_100 : decode cX8_pour 100 = .ok (.iload_n 3, 1) := by decide +kernel
theorem dX8_pour_101 : decode cX8_pour 101 = .ok (.imul, 1) := by decide +kernel
theorem dX8_pour_102 : decode cX8_pour 102 = .ok (.iadd, 1) := by decide +kernel
theorem dX8_pour_103 : decode cX8_pour 103 = .ok (.iconst 2, 1) := by decide +kernel
theorem dX8_pour_104 : decode cX8_pour 104 = .ok (.iadd, 1) := by decide +kernel
theorem dX8_pour_105 : decode cX8_pour 105 = .ok (.iload 5, 2) := by decide +kernel
theorem dX8_pour_107 : decode cX8_pour 107 = .ok (.invokevirtual 130, 3) := by decide +kernel
theorem dX8_pour_110 : decode cX8_pour 110 = .ok (.if_icmp .ne 7, 3) := by decide +kernel
theorem dX8_pour_113 : decode cX8_pour 113 = .ok (.iconst 0, 1) := by decide +kernel
theorem dX8_pour_114 : decode cX8_pour 114 = .ok (.goto 4, 3) := by decide +kernel
theorem dX8_pour_117 : decode cX8_pour 117 = .ok (.iconst 1, 1) := by decide +kernel
theorem dX8_pour_118 : decode cX8_pour 118 = .ok (.iadd, 1) := by decide +kernel
theorem dX8_pour_119 : decode cX8_pour 119 = .ok (.istore_n 2, 1) := by decide +kernel
theorem dX8_pour_120 : decode cX8_pour 120 = .ok (.iinc 3 1, 3) := by decide +kernel
theorem dX8_pour_123 : decode cX8_pour 123 = .ok (.goto (-96), 3) := by decide +kernel
theorem dX8_pour_126 : decode cX8_pour 126 = .ok (.iload_n 2, 1) := by decide +kernel
theorem dX8_pour_127 : decode cX8_pour 127 = .ok (.ireturn, 1) := by decide +kernel
theorem dX8_reads_0 : decode cX8_reads 0 = .ok (.iload_n 1, 1) := by decide +kernel
theorem dX8_reads_1 : decode cX8_reads 1 = .ok (.invokestatic 298, 3) := by decide +kernel
theorem dX8_reads_4 : decode cX8_reads 4 = .ok (.ifCond .ne 6, 3) := by decide +kernel
theorem dX8_reads_7 : decode cX8_reads 7 = .ok (.ldc 86, 2) := by decide +kernel
theorem dX8_reads_9 : decode cX8_reads 9 = .ok (.ireturn, 1) := by decide +kernel
theorem dX8_reads_10 : decode cX8_reads 10 = .ok (.aload_n 0, 1) := by decide +kernel
theorem dX8_reads_11 : decode cX8_reads 11 = .ok (.getfield 19, 3) := by decide +kernel
theorem dX8_reads_14 : decode cX8_reads 14 = .ok (.iload_n 1, 1) := by decide +kernel
theorem dX8_reads_15 : decode cX8_reads 15 = .ok (.iaload, 1) := by decide +kernel
theorem dX8_reads_16 : decode cX8_reads 16 = .ok (.ifCond .ge 7, 3) := by decide +kernel
theorem dX8_reads_19 : decode cX8_reads 19 = .ok (.ldc_w 304, 3) := by decide +kernel
theorem dX8_reads_22 : decode cX8_reads 22 = .ok (.ireturn, 1) := by decide +kernel
theorem dX8_reads_23 : decode cX8_reads 23 = .ok (.iconst 0, 1) := by decide +kernel
theorem dX8_reads_24 : decode cX8_reads 24 = .ok (.istore_n 2, 1) := by decide +kernel
theorem dX8_reads_25 : decode cX8_reads 25 = .ok (.iload_n 2, 1) := by decide +kernel
theorem dX8_reads_26 : decode cX8_reads 26 = .ok (.aload_n 0, 1) := by decide +kernel
theorem dX8_reads_27 : decode cX8_reads 27 = .ok (.getfield 22, 3) := by decide +kernel
theorem dX8_reads_30 : decode cX8_reads 30 = .ok (.iload_n 1, 1) := by decide +kernel
theorem dX8_reads_31 : decode cX8_reads 31 = .ok (.iaload, 1) := by decide +kernel
theorem dX8_reads_32 : decode cX8_reads 32 = .ok (.if_icmp .ge 48, 3) := by decide +kernel
theorem dX8_reads_35 : decode cX8_reads 35 = .ok (.aload_n 0, 1) := by decide +kernel
theorem dX8_reads_36 : decode cX8_reads 36 = .ok (.getfield 25, 3) := by decide +kernel
theorem dX8_reads_39 : decode cX8_reads 39 = .ok (.bipush 24, 2) := by decide +kernel
theorem dX8_reads_41 : decode cX8_reads 41 = .ok (.iload_n 1, 1) := by decide +kernel
theorem dX8_reads_42 : decode cX8_reads 42 = .ok (.imul, 1) := by decide +kernel
theorem dX8_reads_43 : decode cX8_reads 43 = .ok (.iload_n 2, 1) := by decide +kernel
theorem dX8_reads_44 : decode cX8_reads 44 = .ok (.iadd, 1) := by decide +kernel
theorem dX8_reads_45 : decode cX8_reads 45 = .ok (.iaload, 1) := by decide +kernel
theorem dX8_reads_46 : decode cX8_reads 46 = .ok (.istore_n 3, 1) := by decide +kernel
theorem dX8_reads_47 : decode cX8_reads 47 = .ok (.iload_n 3, 1) := by decide +kernel
theorem dX8_reads_48 : decode cX8_reads 48 = .ok (.ldc 70, 2) := by decide +kernel
theorem dX8_reads_50 : decode cX8_reads 50 = .ok (.if_icmp .eq 24, 3) := by decide +kernel
theorem dX8_reads_53 : decode cX8_reads 53 = .ok (.iload_n 2, 1) := by decide +kernel
theorem dX8_reads_54 : decode cX8_reads 54 = .ok (.aload_n 0, 1) := by decide +kernel
theorem dX8_reads_55 : decode cX8_reads 55 = .ok (.getfield 7, 3) := by decide +kernel
theorem dX8_reads_58 : decode cX8_reads 58 = .ok (.iconst 0, 1) := by decide +kernel
theorem dX8_reads_59 : decode cX8_reads 59 = .ok (.iaload, 1) := by decide +kernel
theorem dX8_reads_60 : decode cX8_reads 60 = .ok (.if_icmp .ge 12, 3) := by decide +kernel
theorem dX8_reads_63 : decode cX8_reads 63 = .ok (.iload_n 3, 1) := by decide +kernel
theorem dX8_reads_64 : decode cX8_reads 64 = .ok (.aload_n 0, 1) := by decide +kernel
theorem dX8_reads_65 : decode cX8_reads 65 = .ok (.iload_n 2, 1) := by decide +kernel
theorem dX8_reads_66 : decode cX8_reads 66 = .ok (.invokevirtual 116, 3) := by decide +kernel
theorem dX8_reads_69 : decode cX8_reads 69 = .ok (.if_icmp .eq 5, 3) := by decide +kernel
theorem dX8_reads_72 : decode cX8_reads 72 = .ok (.iload_n 2, 1) := by decide +kernel
theorem dX8_reads_73 : decode cX8_reads 73 = .ok (.ireturn, 1) := by decide +kernel
theorem dX8_reads_74 : decode cX8_reads 74 = .ok (.iinc 2 1, 3) := by decide +kernel
theorem dX8_reads_77 : decode cX8_reads 77 = .ok (.goto (-52), 3) := by decide +kernel
theorem dX8_reads_80 : decode cX8_reads 80 = .ok (.ldc 70, 2) := by decide +kernel
theorem dX8_reads_82 : decode cX8_reads 82 = .ok (.ireturn, 1) := by decide +kernel
theorem dX8_clock_0 : decode cX8_clock 0 = .ok (.iload_n 1, 1) := by decide +kernel
theorem dX8_clock_1 : decode cX8_clock 1 = .ok (.invokestatic 298, 3) := by decide +kernel
theorem dX8_clock_4 : decode cX8_clock 4 = .ok (.ifCond .eq 21, 3) := by decide +kernel
theorem dX8_clock_7 : decode cX8_clock 7 = .ok (.aload_n 0, 1) := by decide +kernel
theorem dX8_clock_8 : decode cX8_clock 8 = .ok (.iload_n 2, 1) := by decide +kernel
theorem dX8_clock_9 : decode cX8_clock 9 = .ok (.invokevirtual 112, 3) := by decide +kernel
theorem dX8_clock_12 : decode cX8_clock 12 = .ok (.ifCond .eq 13, 3) := by decide +kernel
theorem dX8_clock_15 : decode cX8_clock 15 = .ok (.iload_n 3, 1) := by decide +kernel
theorem dX8_clock_16 : decode cX8_clock 16 = .ok (.i2l, 1) := by decide +kernel
theorem dX8_clock_17 : decode cX8_clock 17 = .ok (.lconst 0, 1) := by decide +kernel
theorem dX8_clock_18 : decode cX8_clock 18 = .ok (.lconst 1, 1) := by decide +kernel
theorem dX8_clock_19 : decode cX8_clock 19 = .ok (.invokestatic 71, 3) := by decide +kernel
theorem dX8_clock_22 : decode cX8_clock 22 = .ok (.ifCond .ne 6, 3) := by decide +kernel
theorem dX8_clock_25 : decode cX8_clock 25 = .ok (.ldc 86, 2) := by decide +kernel
theorem dX8_clock_27 : decode cX8_clock 27 = .ok (.ireturn, 1) := by decide +kernel
theorem dX8_clock_28 : decode cX8_clock 28 = .ok (.aload_n 0, 1) := by decide +kernel
theorem dX8_clock_29 : decode cX8_clock 29 = .ok (.getfield 19, 3) := by decide +kernel
theorem dX8_clock_32 : decode cX8_clock 32 = .ok (.iload_n 1, 1) := by decide +kernel
theorem dX8_clock_33 : decode cX8_clock 33 = .ok (.iaload, 1) := by decide +kernel
theorem dX8_clock_34 : decode cX8_clock 34 = .ok (.ifCond .ge 7, 3) := by decide +kernel
theorem dX8_clock_37 : decode cX8_clock 37 = .ok (.ldc_w 304, 3) := by decide +kernel
theorem dX8_clock_40 : decode cX8_clock 40 = .ok (.ireturn, 1) := by decide +kernel
theorem dX8_clock_41 : decode cX8_clock 41 = .ok (.aload_n 0, 1) := by decide +kernel
theorem dX8_clock_42 : decode cX8_clock 42 = .ok (.invokevirtual 185, 3) := by decide +kernel
theorem dX8_clock_45 : decode cX8_clock 45 = .ok (.iconst (-1), 1) := by decide +kernel
theorem dX8_clock_46 : decode cX8_clock 46 = .ok (.istore 4, 2) := by decide +kernel
theorem dX8_clock_48 : decode cX8_clock 48 = .ok (.iconst 0, 1) := by decide +kernel
theorem dX8_clock_49 : decode cX8_clock 49 = .ok (.istore 5, 2) := by decide +kernel
theorem dX8_clock_51 : decode cX8_clock 51 = .ok (.iconst 0, 1) := by decide +kernel
theorem dX8_clock_52 : decode cX8_clock 52 = .ok (.istore 6, 2) := by decide +kernel
theorem dX8_clock_54 : decode cX8_clock 54 = .ok (.iload 6, 2) := by decide +kernel
theorem dX8_clock_56 : decode cX8_clock 56 = .ok (.bipush 24, 2) := by decide +kernel
theorem dX8_clock_58 : decode cX8_clock 58 = .ok (.if_icmp .ge 109, 3) := by decide +kernel
theorem dX8_clock_61 : decode cX8_clock 61 = .ok (.aload_n 0, 1) := by decide +kernel
theorem dX8_clock_62 : decode cX8_clock 62 = .ok (.iload_n 2, 1) := by decide +kernel
theorem dX8_clock_63 : decode cX8_clock 63 = .ok (.iconst 1, 1) := by decide +kernel
theorem dX8_clock_64 : decode cX8_clock 64 = .ok (.iload 6, 2) := by decide +kernel
theorem dX8_clock_66 : decode cX8_clock 66 = .ok (.invokevirtual 76, 3) := by decide +kernel
theorem dX8_clock_69 : decode cX8_clock 69 = .ok (.iconst 0, 1) := by decide +kernel
theorem dX8_clock_70 : decode cX8_clock 70 = .ok (.istore 7, 2) := by decide +kernel
theorem dX8_clock_72 : decode cX8_clock 72 = .ok (.iconst 0, 1) := by decide +kernel
theorem dX8_clock_73 : decode cX8_clock 73 = .ok (.istore 8, 2) := by decide +kernel
theorem dX8_clock_75 : decode cX8_clock 75 = .ok (.iload 8, 2) := by decide +kernel
theorem dX8_clock_77 : decode cX8_clock 77 = .ok (.aload_n 0, 1) := by decide +kernel
theorem dX8_clock_78 : decode cX8_clock 78 = .ok (.getfield 22, 3) := by decide +kernel
theorem dX8_clock_81 : decode cX8_clock 81 = .ok (.iload_n 1, 1) := by decide +kernel
theorem dX8_clock_82 : decode cX8_clock 82 = .ok (.iaload, 1) := by decide +kernel
theorem dX8_clock_83 : decode cX8_clock 83 = .ok (.if_icmp .ge 54, 3) := by decide +kernel
theorem dX8_clock_86 : decode cX8_clock 86 = .ok (.aload_n 0, 1) := by decide +kernel
theorem dX8_clock_87 : decode cX8_clock 87 = .ok (.getfield 25, 3) := by decide +kernel
theorem dX8_clock_90 : decode cX8_clock 90 = .ok (.bipush 24, 2) := by decide +kernel
theorem dX8_clock_92 : decode cX8_clock 92 = .ok (.iload_n 1, 1) := by decide +kernel
theorem dX8_clock_93 : decode cX8_clock 93 = .ok (.imul, 1) := by decide +kernel
theorem dX8_clock_94 : decode cX8_clock 94 = .ok (.iload 8, 2) := by decide +kernel
theorem dX8_clock_96 : decode cX8_clock 96 = .ok (.iadd, 1) := by decide +kernel
theorem dX8_clock_97 : decode cX8_clock 97 = .ok (.iaload, 1) := by decide +kernel
theorem dX8_clock_98 : decode cX8_clock 98 = .ok (.istore 9, 2) := by decide +kernel
theorem dX8_clock_100 : decode cX8_clock 100 = .ok (.iload 7, 2) := by decide +kernel
theorem dX8_clock_102 : decode cX8_clock 102 = .ok (.iload 9, 2) := by decide +kernel
theorem dX8_clock_104 : decode cX8_clock 104 = .ok (.ldc 70, 2) := by decide +kernel
theorem dX8_clock_106 : decode cX8_clock 106 = .ok (.if_icmp .ne 7, 3) := by decide +kernel
theorem dX8_clock_109 : decode cX8_clock 109 = .ok (.iconst 0, 1) := by decide +kernel
theorem dX8_clock_110 : decode cX8_clock 110 = .ok (.goto 14, 3) := by decide +kernel
theorem dX8_clock_113 : decode cX8_clock 113 = .ok (.iload 9, 2) := by decide +kernel
theorem dX8_clock_115 : decode cX8_clock 115 = .ok (.aload_n 0, 1) := by decide +kernel
theorem dX8_clock_116 : decode cX8_clock 116 = .ok (.iload_n 2, 1) := by decide +kernel
theorem dX8_clock_117 : decode cX8_clock 117 = .ok (.iconst 0, 1) := by decide +kernel
theorem dX8_clock_118 : decode cX8_clock 118 = .ok (.invokevirtual 95, 3) := by decide +kernel
theorem dX8_clock_121 : decode cX8_clock 121 = .ok (.invokestatic 310, 3) := by decide +kernel
theorem dX8_clock_124 : decode cX8_clock 124 = .ok (.iadd, 1) := by decide +kernel
theorem dX8_clock_125 : decode cX8_clock 125 = .ok (.istore 7, 2) := by decide +kernel
theorem dX8_clock_127 : decode cX8_clock 127 = .ok (.aload_n 0, 1) := by decide +kernel
theorem dX8_clock_128 : decode cX8_clock 128 = .ok (.invokevirtual 168, 3) := by decide +kernel
theorem dX8_clock_131 : decode cX8_clock 131 = .ok (.iinc 8 1, 3) := by decide +kernel
theorem dX8_clock_134 : decode cX8_clock 134 = .ok (.goto (-59), 3) := by decide +kernel
theorem dX8_clock_137 : decode cX8_clock 137 = .ok (.aload_n 0, 1) := by decide +kernel
theorem dX8_clock_138 : decode cX8_clock 138 = .ok (.invokevirtual 191, 3) := by decide +kernel
theorem dX8_clock_141 : decode cX8_clock 141 = .ok (.iload 4, 2) := by decide +kernel
theorem dX8_clock_143 : decode cX8_clock 143 = .ok (.ifCond .lt 10, 3) := by decide +kernel
theorem dX8_clock_146 : decode cX8_clock 146 = .ok (.iload 7, 2) := by decide +kernel
theorem dX8_clock_148 : decode cX8_clock 148 = .ok (.iload 5, 2) := by decide +kernel
theorem dX8_clock_150 : decode cX8_clock 150 = .ok (.if_icmp .ge 11, 3) := by decide +kernel
theorem dX8_clock_153 : decode cX8_clock 153 = .ok (.iload 6, 2) := by decide +kernel
theorem dX8_clock_155 : decode cX8_clock 155 = .ok (.istore 4, 2) := by decide +kernel
theorem dX8_clock_157 : decode cX8_clock 157 = .ok (.iload 7, 2) := by decide +kernel
theorem dX8_clock_159 : decode cX8_clock 159 = .ok (.istore 5, 2) := by decide +kernel
theorem dX8_clock_161 : decode cX8_clock 161 = .ok (.iinc 6 1, 3) := by decide +kernel
theorem dX8_clock_164 : decode cX8_clock 164 = .ok (.goto (-110), 3) := by decide +kernel
theorem dX8_clock_167 : decode cX8_clock 167 = .ok (.iload_n 3, 1) := by decide +kernel
theorem dX8_clock_168 : decode cX8_clock 168 = .ok (.ifCond .ne 8, 3) := by decide +kernel
theorem dX8_clock_171 : decode cX8_clock 171 = .ok (.iload 4, 2) := by decide +kernel
theorem dX8_clock_173 : decode cX8_clock 173 = .ok (.goto 5, 3) := by decide +kernel
theorem dX8_clock_176 : decode cX8_clock 176 = .ok (.iload 5, 2) := by decide +kernel
theorem dX8_clock_178 : decode cX8_clock 178 = .ok (.ireturn, 1) := by decide +kernel
theorem dX8_copy_0 : decode cX8_copy 0 = .ok (.iload_n 1, 1) := by decide +kernel
theorem dX8_copy_1 : decode cX8_copy 1 = .ok (.invokestatic 298, 3) := by decide +kernel
theorem dX8_copy_4 : decode cX8_copy 4 = .ok (.ifCond .eq 10, 3) := by decide +kernel
theorem dX8_copy_7 : decode cX8_copy 7 = .ok (.iload_n 3, 1) := by decide +kernel
theorem dX8_copy_8 : decode cX8_copy 8 = .ok (.invokestatic 298, 3) := by decide +kernel
theorem dX8_copy_11 : decode cX8_copy 11 = .ok (.ifCond .ne 6, 3) := by decide +kernel
theorem dX8_copy_14 : decode cX8_copy 14 = .ok (.ldc 86, 2) := by decide +kernel
theorem dX8_copy_16 : decode cX8_copy 16 = .ok (.ireturn, 1) := by decide +kernel
theorem dX8_copy_17 : decode cX8_copy 17 = .ok (.aload_n 0, 1) := by decide +kernel
theorem dX8_copy_18 : decode cX8_copy 18 = .ok (.getfield 19, 3) := by decide +kernel
theorem dX8_copy_21 : decode cX8_copy 21 = .ok (.iload_n 1, 1) := by decide +kernel
theorem dX8_copy_22 : decode cX8_copy 22 = .ok (.iaload, 1) := by decide +kernel
theorem dX8_copy_23 : decode cX8_copy 23 = .ok (.ifCond .lt 12, 3) := by decide +kernel
theorem dX8_copy_26 : decode cX8_copy 26 = .ok (.aload_n 0, 1) := by decide +kernel
theorem dX8_copy_27 : decode cX8_copy 27 = .ok (.getfield 19, 3) := by decide +kernel
theorem dX8_copy_30 : decode cX8_copy 30 = .ok (.iload_n 3, 1) := by decide +kernel
theorem dX8_copy_31 : decode cX8_copy 31 = .ok (.iaload, 1) := by decide +kernel
theorem dX8_copy_32 : decode cX8_copy 32 = .ok (.ifCond .ge 7, 3) := by decide +kernel
theorem dX8_copy_35 : decode cX8_copy 35 = .ok (.ldc_w 304, 3) := by decide +kernel
theorem dX8_copy_38 : decode cX8_copy 38 = .ok (.ireturn, 1) := by decide +kernel
theorem dX8_copy_39 : decode cX8_copy 39 = .ok (.aload_n 0, 1) := by decide +kernel
theorem dX8_copy_40 : decode cX8_copy 40 = .ok (.getfield 19, 3) := by decide +kernel
theorem dX8_copy_43 : decode cX8_copy 43 = .ok (.iload_n 1, 1) := by decide +kernel
theorem dX8_copy_44 : decode cX8_copy 44 = .ok (.iaload, 1) := by decide +kernel
theorem dX8_copy_45 : decode cX8_copy 45 = .ok (.aload_n 0, 1) := by decide +kernel
theorem dX8_copy_46 : decode cX8_copy 46 = .ok (.getfield 19, 3) := by decide +kernel
theorem dX8_copy_49 : decode cX8_copy 49 = .ok (.iload_n 3, 1) := by decide +kernel
theorem dX8_copy_50 : decode cX8_copy 50 = .ok (.iaload, 1) := by decide +kernel
theorem dX8_copy_51 : decode cX8_copy 51 = .ok (.if_icmp .eq 6, 3) := by decide +kernel
theorem dX8_copy_54 : decode cX8_copy 54 = .ok (.ldc 129, 2) := by decide +kernel
theorem dX8_copy_56 : decode cX8_copy 56 = .ok (.ireturn, 1) := by decide +kernel
theorem dX8_copy_57 : decode cX8_copy 57 = .ok (.iload_n 2, 1) := by decide +kernel
theorem dX8_copy_58 : decode cX8_copy 58 = .ok (.ifCond .lt 48, 3) := by decide +kernel
theorem dX8_copy_61 : decode cX8_copy 61 = .ok (.iload 4, 2) := by decide +kernel
theorem dX8_copy_63 : decode cX8_copy 63 = .ok (.ifCond .lt 43, 3) := by decide +kernel
theorem dX8_copy_66 : decode cX8_copy 66 = .ok (.iload 5, 2) := by decide +kernel
theorem dX8_copy_68 : decode cX8_copy 68 = .ok (.ifCond .lt 38, 3) := by decide +kernel
theorem dX8_copy_71 : decode cX8_copy 71 = .ok (.iload_n 2, 1) := by decide +kernel
theorem dX8_copy_72 : decode cX8_copy 72 = .ok (.i2l, 1) := by decide +kernel
theorem dX8_copy_73 : decode cX8_copy 73 = .ok (.iload 5, 2) := by decide +kernel
theorem dX8_copy_75 : decode cX8_copy 75 = .ok (.i2l, 1) := by decide +kernel
theorem dX8_copy_76 : decode cX8_copy 76 = .ok (.ladd, 1) := by decide +kernel
theorem dX8_copy_77 : decode cX8_copy 77 = .ok (.aload_n 0, 1) := by decide +kernel
theorem dX8_copy_78 : decode cX8_copy 78 = .ok (.getfield 22, 3) := by decide +kernel
theorem dX8_copy_81 : decode cX8_copy 81 = .ok (.iload_n 1, 1) := by decide +kernel
theorem dX8_copy_82 : decode cX8_copy 82 = .ok (.iaload, 1) := by decide +kernel
theorem dX8_copy_83 : decode cX8_copy 83 = .ok (.i2l, 1) := by decide +kernel
theorem dX8_copy_84 : decode cX8_copy 84 = .ok (.lcmp, 1) := by decide +kernel
theorem dX8_copy_85 : decode cX8_copy 85 = .ok (.ifCond .gt 21, 3) := by decide +kernel
theorem dX8_copy_88 : decode cX8_copy 88 = .ok (.iload 4, 2) := by decide +kernel
theorem dX8_copy_90 : decode cX8_copy 90 = .ok (.i2l, 1) := by decide +kernel
theorem dX8_copy_91 : decode cX8_copy 91 = .ok (.iload 5, 2) := by decide +kernel
theorem dX8_copy_93 : decode cX8_copy 93 = .ok (.i2l, 1) := by decide +kernel
theorem dX8_copy_94 : decode cX8_copy 94 = .ok (.ladd, 1) := by decide +kernel
theorem dX8_copy_95 : decode cX8_copy 95 = .ok (.aload_n 0, 1) := by decide +kernel
theorem dX8_copy_96 : decode cX8_copy 96 = .ok (.getfield 22, 3) := by decide +kernel
theorem dX8_copy_99 : decode cX8_copy 99 = .ok (.iload_n 3, 1) := by decide +kernel
theorem dX8_copy_100 : decode cX8_copy 100 = .ok (.iaload, 1) := by decide +kernel
theorem dX8_copy_101 : decode cX8_copy 101 = .ok (.i2l, 1) := by decide +kernel
theorem dX8_copy_102 : decode cX8_copy 102 = .ok (.lcmp, 1) := by decide +kernel
theorem dX8_copy_103 : decode cX8_copy 103 = .ok (.ifCond .le 7, 3) := by decide +kernel
theorem dX8_copy_106 : decode cX8_copy 106 = .ok (.ldc_w 305, 3) := by decide +kernel
theorem dX8_copy_109 : decode cX8_copy 109 = .ok (.ireturn, 1) := by decide +kernel
theorem dX8_copy_110 : decode cX8_copy 110 = .ok (.iconst 0, 1) := by decide +kernel
theorem dX8_copy_111 : decode cX8_copy 111 = .ok (.istore 6, 2) := by decide +kernel
theorem dX8_copy_113 : decode cX8_copy 113 = .ok (.iload 6, 2) := by decide +kernel
theorem dX8_copy_115 : decode cX8_copy 115 = .ok (.iload 5, 2) := by decide +kernel
theorem dX8_copy_117 : decode cX8_copy 117 = .ok (.if_icmp .ge 30, 3) := by decide +kernel
theorem dX8_copy_120 : decode cX8_copy 120 = .ok (.aload_n 0, 1) := by decide +kernel
theorem dX8_copy_121 : decode cX8_copy 121 = .ok (.getfield 61, 3) := by decide +kernel
theorem dX8_copy_124 : decode cX8_copy 124 = .ok (.iload 6, 2) := by decide +kernel
theorem dX8_copy_126 : decode cX8_copy 126 = .ok (.aload_n 0, 1) := by decide +kernel
theorem dX8_copy_127 : decode cX8_copy 127 = .ok (.getfield 25, 3) := by decide +kernel
theorem dX8_copy_130 : decode cX8_copy 130 = .ok (.bipush 24, 2) := by decide +kernel
theorem dX8_copy_132 : decode cX8_copy 132 = .ok (.iload_n 1, 1) := by decide +kernel
theorem dX8_copy_133 : decode cX8_copy 133 = .ok (.imul, 1) := by decide +kernel
theorem dX8_copy_134 : decode cX8_copy 134 = .ok (.iload_n 2, 1) := by decide +kernel
theorem dX8_copy_135 : decode cX8_copy 135 = .ok (.iadd, 1) := by decide +kernel
theorem dX8_copy_136 : decode cX8_copy 136 = .ok (.iload 6, 2) := by decide +kernel
theorem dX8_copy_138 : decode cX8_copy 138 = .ok (.iadd, 1) := by decide +kernel
theorem dX8_copy_139 : decode cX8_copy 139 = .ok (.iaload, 1) := by decide +kernel
theorem dX8_copy_140 : decode cX8_copy 140 = .ok (.iastore, 1) := by decide +kernel
theorem dX8_copy_141 : decode cX8_copy 141 = .ok (.iinc 6 1, 3) := by decide +kernel
theorem dX8_copy_144 : decode cX8_copy 144 = .ok (.goto (-31), 3) := by decide +kernel
theorem dX8_copy_147 : decode cX8_copy 147 = .ok (.iconst 0, 1) := by decide +kernel
theorem dX8_copy_148 : decode cX8_copy 148 = .ok (.istore 6, 2) := by decide +kernel
theorem dX8_copy_150 : decode cX8_copy 150 = .ok (.iload 6, 2) := by decide +kernel
theorem dX8_copy_152 : decode cX8_copy 152 = .ok (.iload 5, 2) := by decide +kernel
theorem dX8_copy_154 : decode cX8_copy 154 = .ok (.if_icmp .ge 31, 3) := by decide +kernel
theorem dX8_copy_157 : decode cX8_copy 157 = .ok (.aload_n 0, 1) := by decide +kernel
theorem dX8_copy_158 : decode cX8_copy 158 = .ok (.getfield 25, 3) := by decide +kernel
theorem dX8_copy_161 : decode cX8_copy 161 = .ok (.bipush 24, 2) := by decide +kernel
theorem dX8_copy_163 : decode cX8_copy 163 = .ok (.iload_n 3, 1) := by decide +kernel
theorem dX8_copy_164 : decode cX8_copy 164 = .ok (.imul, 1) := by decide +kernel
theorem dX8_copy_165 : decode cX8_copy 165 = .ok (.iload 4, 2) := by decide +kernel
theorem dX8_copy_167 : decode cX8_copy 167 = .ok (.iadd, 1) := by decide +kernel
theorem dX8_copy_168 : decode cX8_copy 168 = .ok (.iload 6, 2) := by decide +kernel
theorem dX8_copy_170 : decode cX8_copy 170 = .ok (.iadd, 1) := by decide +kernel
theorem dX8_copy_171 : decode cX8_copy 171 = .ok (.aload_n 0, 1) := by decide +kernel
theorem dX8_copy_172 : decode cX8_copy 172 = .ok (.getfield 61, 3) := by decide +kernel
theorem dX8_copy_175 : decode cX8_copy 175 = .ok (.iload 6, 2) := by decide +kernel
theorem dX8_copy_177 : decode cX8_copy 177 = .ok (.iaload, 1) := by decide +kernel
theorem dX8_copy_178 : decode cX8_copy 178 = .ok (.iastore, 1) := by decide +kernel
theorem dX8_copy_179 : decode cX8_copy 179 = .ok (.iinc 6 1, 3) := by decide +kernel
theorem dX8_copy_182 : decode cX8_copy 182 = .ok (.goto (-32), 3) := by decide +kernel
theorem dX8_copy_185 : decode cX8_copy 185 = .ok (.iload 5, 2) := by decide +kernel
theorem dX8_copy_187 : decode cX8_copy 187 = .ok (.ireturn, 1) := by decide +kernel
theorem dX8_isSlot_0 : decode cX8_isSlot 0 = .ok (.iload_n 0, 1) := by decide +kernel
theorem dX8_isSlot_1 : decode cX8_isSlot 1 = .ok (.i2l, 1) := by decide +kernel
theorem dX8_isSlot_2 : decode cX8_isSlot 2 = .ok (.lconst 0, 1) := by decide +kernel
theorem dX8_isSlot_3 : decode cX8_isSlot 3 = .ok (.ldc2_w 313, 3) := by decide +kernel
theorem dX8_isSlot_6 : decode cX8_isSlot 6 = .ok (.invokestatic 71, 3) := by decide +kernel
theorem dX8_isSlot_9 : decode cX8_isSlot 9 = .ok (.ireturn, 1) := by decide +kernel
theorem dX8_lay_0 : decode cX8_lay 0 = .ok (.iload_n 2, 1) := by decide +kernel
theorem dX8_lay_1 : decode cX8_lay 1 = .ok (.ifCond .eq 33, 3) := by decide +kernel
theorem dX8_lay_4 : decode cX8_lay 4 = .ok (.iload_n 2, 1) := by decide +kernel
theorem dX8_lay_5 : decode cX8_lay 5 = .ok (.iconst 3, 1) := by decide +kernel
theorem dX8_lay_6 : decode cX8_lay 6 = .ok (.if_icmp .eq 28, 3) := by decide +kernel
theorem dX8_lay_9 : decode cX8_lay 9 = .ok (.iload_n 2, 1) := by decide +kernel
theorem dX8_lay_10 : decode cX8_lay 10 = .ok (.iconst 1, 1) := by decide +kernel
theorem dX8_lay_11 : decode cX8_lay 11 = .ok (.if_icmp .ne 11, 3) := by decide +kernel
theorem dX8_lay_14 : decode cX8_lay 14 = .ok (.aload_n 0, 1) := by decide +kernel
theorem dX8_lay_15 : decode cX8_lay 15 = .ok (.iload_n 3, 1) := by decide +kernel
theorem dX8_lay_16 : decode cX8_lay 16 = .ok (.invokevirtual 112, 3) := by decide +kernel
theorem dX8_lay_19 : decode cX8_lay 19 = .ok (.ifCond .ne 15, 3) := by decide +kernel
theorem dX8_lay_22 : decode cX8_lay 22 = .ok (.iload_n 2, 1) := by decide +kernel
theorem dX8_lay_23 : decode cX8_lay 23 = .ok (.iconst 2, 1) := by decide +kernel
theorem dX8_lay_24 : decode cX8_lay 24 = .ok (.if_icmp .ne 14, 3) := by decide +kernel
theorem dX8_lay_27 : decode cX8_lay 27 = .ok (.iload_n 3, 1) := by decide +kernel
theorem dX8_lay_28 : decode cX8_lay 28 = .ok (.invokestatic 298, 3) := by decide +kernel
theorem dX8_lay_31 : decode cX8_lay 31 = .ok (.ifCond .eq 7, 3) := by decide +kernel
theorem dX8_lay_34 : decode cX8_lay 34 = .ok (.iconst 1, 1) := by decide +kernel
theorem dX8_lay_35 : decode cX8_lay 35 = .ok (.goto 4, 3) := by decide +kernel
theorem dX8_lay_38 : decode cX8_lay 38 = .ok (.iconst 0, 1) := by decide +kernel
theorem dX8_lay_39 : decode cX8_lay 39 = .ok (.istore 4, 2) := by decide +kernel
theorem dX8_lay_41 : decode cX8_lay 41 = .ok (.iload_n 1, 1) := by decide +kernel
theorem dX8_lay_42 : decode cX8_lay 42 = .ok (.invokestatic 315, 3) := by decide +kernel
theorem dX8_lay_45 : decode cX8_lay 45 = .ok (.ifCond .eq 8, 3) := by decide +kernel
theorem dX8_lay_48 : decode cX8_lay 48 = .ok (.iload 4, 2) := by decide +kernel
theorem dX8_lay_50 : decode cX8_lay 50 = .ok (.ifCond .ne 6, 3) := by decide +kernel
theorem dX8_lay_53 : decode cX8_lay 53 = .ok (.ldc 86, 2) := by decide +kernel
theorem dX8_lay_55 : decode cX8_lay 55 = .ok (.ireturn, 1) := by decide +kernel
theorem dX8_lay_56 : decode cX8_lay 56 = .ok (.iload_n 2, 1) := by decide +kernel
theorem dX8_lay_57 : decode cX8_lay 57 = .ok (.iconst 2, 1) := by decide +kernel
theorem dX8_lay_58 : decode cX8_lay 58 = .ok (.if_icmp .ne 16, 3) := by decide +kernel
theorem dX8_lay_61 : decode cX8_lay 61 = .ok (.aload_n 0, 1) := by decide +kernel
theorem dX8_lay_62 : decode cX8_lay 62 = .ok (.getfield 19, 3) := by decide +kernel
theorem dX8_lay_65 : decode cX8_lay 65 = .ok (.iload_n 3, 1) := by decide +kernel
theorem dX8_lay_66 : decode cX8_lay 66 = .ok (.iaload, 1) := by decide +kernel
theorem dX8_lay_67 : decode cX8_lay 67 = .ok (.ifCond .ge 7, 3) := by decide +kernel
theorem dX8_lay_70 : decode cX8_lay 70 = .ok (.ldc_w 304, 3) := by decide +kernel
theorem dX8_lay_73 : decode cX8_lay 73 = .ok (.ireturn, 1) := by decide +kernel
theorem dX8_lay_74 : decode cX8_lay 74 = .ok (.aload_n 0, 1) := by decide +kernel
theorem dX8_lay_75 : decode cX8_lay 75 = .ok (.getfield 28, 3) := by decide +kernel
theorem dX8_lay_78 : decode cX8_lay 78 = .ok (.iload_n 1, 1) := by decide +kernel
theorem dX8_lay_79 : decode cX8_lay 79 = .ok (.iaload, 1) := by decide +kernel
theorem dX8_lay_80 : decode cX8_lay 80 = .ok (.istore 5, 2) := by decide +kernel
theorem dX8_lay_82 : decode cX8_lay 82 = .ok (.aload_n 0, 1) := by decide +kernel
theorem dX8_lay_83 : decode cX8_lay 83 = .ok (.getfield 28, 3) := by decide +kernel
theorem dX8_lay_86 : decode cX8_lay 86 = .ok (.iload_n 1, 1) := by decide +kernel
theorem dX8_lay_87 : decode cX8_lay 87 = .ok (.iload_n 2, 1) := by decide +kernel
theorem dX8_lay_88 : decode cX8_lay 88 = .ok (.iastore, 1) := by decide +kernel
theorem dX8_lay_89 : decode cX8_lay 89 = .ok (.aload_n 0, 1) := by decide +kernel
theorem dX8_lay_90 : decode cX8_lay 90 = .ok (.getfield 31, 3) := by decide +kernel
theorem dX8_lay_93 : decode cX8_lay 93 = .ok (.iload_n 1, 1) := by decide +kernel
theorem dX8_lay_94 : decode cX8_lay 94 = .ok (.iload_n 2, 1) := by decide +kernel
theorem dX8_lay_95 : decode cX8_lay 95 = .ok (.iconst 1, 1) := by decide +kernel
theorem dX8_lay_96 : decode cX8_lay 96 = .ok (.if_icmp .ne 12, 3) := by decide +kernel
theorem dX8_lay_99 : decode cX8_lay 99 = .ok (.aload_n 0, 1) := by decide +kernel
theorem dX8_lay_100 : decode cX8_lay 100 = .ok (.iload_n 3, 1) := by decide +kernel
theorem dX8_lay_101 : decode cX8_lay 101 = .ok (.iconst 0, 1) := by decide +kernel
theorem dX8_lay_102 : decode cX8_lay 102 = .ok (.invokevirtual 98, 3) := by decide +kernel
theorem dX8_lay_105 : decode cX8_lay 105 = .ok (.goto 4, 3) := by decide +kernel
theorem dX8_lay_108 : decode cX8_lay 108 = .ok (.iload_n 3, 1) := by decide +kernel
theorem dX8_lay_109 : decode cX8_lay 109 = .ok (.iastore, 1) := by decide +kernel
theorem dX8_lay_110 : decode cX8_lay 110 = .ok (.aload_n 0, 1) := by decide +kernel
theorem dX8_lay_111 : decode cX8_lay 111 = .ok (.getfield 34, 3) := by decide +kernel
theorem dX8_lay_114 : decode cX8_lay 114 = .ok (.iload_n 1, 1) := by decide +kernel
theorem dX8_lay_115 : decode cX8_lay 115 = .ok (.iload_n 2, 1) := by decide +kernel
theorem dX8_lay_116 : decode cX8_lay 116 = .ok (.iconst 1, 1) := by decide +kernel
theorem dX8_lay_117 : decode cX8_lay 117 = .ok (.if_icmp .ne 11, 3) := by decide +kernel
theorem dX8_lay_120 : decode cX8_lay 120 = .ok (.aload_n 0, 1) := by decide +kernel
theorem dX8_lay_121 : decode cX8_lay 121 = .ok (.iload_n 3, 1) := by decide +kernel
theorem dX8_lay_122 : decode cX8_lay 122 = .ok (.invokevirtual 122, 3) := by decide +kernel
theorem dX8_lay_125 : decode cX8_lay 125 = .ok (.goto 4, 3) := by decide +kernel
theorem dX8_lay_128 : decode cX8_lay 128 = .ok (.iconst 0, 1) := by decide +kernel
theorem dX8_lay_129 : decode cX8_lay 129 = .ok (.iastore, 1) := by decide +kernel
theorem dX8_lay_130 : decode cX8_lay 130 = .ok (.iload_n 2, 1) := by decide +kernel
theorem dX8_lay_131 : decode cX8_lay 131 = .ok (.iconst 2, 1) := by decide +kernel
theorem dX8_lay_132 : decode cX8_lay 132 = .ok (.if_icmp .ne 55, 3) := by decide +kernel
theorem dX8_lay_135 : decode cX8_lay 135 = .ok (.aload_n 0, 1) := by decide +kernel
theorem dX8_lay_136 : decode cX8_lay 136 = .ok (.getfield 37, 3) := by decide +kernel
theorem dX8_lay_139 : decode cX8_lay 139 = .ok (.iload_n 1, 1) := by decide +kernel
theorem dX8_lay_140 : decode cX8_lay 140 = .ok (.aload_n 0, 1) := by decide +kernel
theorem dX8_lay_141 : decode cX8_lay 141 = .ok (.getfield 22, 3) := by decide +kernel
theorem dX8_lay_144 : decode cX8_lay 144 = .ok (.iload_n 3, 1) := by decide +kernel
theorem dX8_lay_145 : decode cX8_lay 145 = .ok (.iaload, 1) := by decide +kernel
theorem dX8_lay_146 : decode cX8_lay 146 = .ok (.iastore, 1) := by decide +kernel
theorem dX8_lay_147 : decode cX8_lay 147 = .ok (.iconst 0, 1) := by decide +kernel
theorem dX8_lay_148 : decode cX8_lay 148 = .ok (.istore 6, 2) := by decide +kernel
theorem dX8_lay_150 : decode cX8_lay 150 = .ok (.iload 6, 2) := by decide +kernel
theorem dX8_lay_152 : decode cX8_lay 152 = .ok (.bipush 24, 2) := by decide +kernel
theorem dX8_lay_154 : decode cX8_lay 154 = .ok (.if_icmp .ge 33, 3) := by decide +kernel
theorem dX8_lay_157 : decode cX8_lay 157 = .ok (.aload_n 0, 1) := by decide +kernel
theorem dX8_lay_158 : decode cX8_lay 158 = .ok (.getfield 40, 3) := by decide +kernel
theorem dX8_lay_161 : decode cX8_lay 161 = .ok (.bipush 24, 2) := by decide +kernel
theorem dX8_lay_163 : decode cX8_lay 163 = .ok (.iload_n 1, 1) := by decide +kernel
theorem dX8_lay_164 : decode cX8_lay 164 = .ok (.imul, 1) := by decide +kernel
theorem dX8_lay_165 : decode cX8_lay 165 = .ok (.iload 6, 2) := by decide +kernel
theorem dX8_lay_167 : decode cX8_lay 167 = .ok (.iadd, 1) := by decide +kernel
theorem dX8_lay_168 : decode cX8_lay 168 = .ok (.aload_n 0, 1) := by decide +kernel
theorem dX8_lay_169 : decode cX8_lay 169 = .ok (.getfield 25, 3) := by decide +kernel
theorem dX8_lay_172 : decode cX8_lay 172 = .ok (.bipush 24, 2) := by decide +kernel
theorem dX8_lay_174 : decode cX8_lay 174 = .ok (.iload_n 3, 1) := by decide +kernel
theorem dX8_lay_175 : decode cX8_lay 175 = .ok (.imul, 1) := by decide +kernel
theorem dX8_lay_176 : decode cX8_lay 176 = .ok (.iload 6, 2) := by decide +kernel
theorem dX8_lay_178 : decode cX8_lay 178 = .ok (.iadd, 1) := by decide +kernel
theorem dX8_lay_179 : decode cX8_lay 179 = .ok (.iaload, 1) := by decide +kernel
theorem dX8_lay_180 : decode cX8_lay 180 = .ok (.iastore, 1) := by decide +kernel
theorem dX8_lay_181 : decode cX8_lay 181 = .ok (.iinc 6 1, 3) := by decide +kernel
theorem dX8_lay_184 : decode cX8_lay 184 = .ok (.goto (-34), 3) := by decide +kernel
theorem dX8_lay_187 : decode cX8_lay 187 = .ok (.iload 5, 2) := by decide +kernel
theorem dX8_lay_189 : decode cX8_lay 189 = .ok (.ireturn, 1) := by decide +kernel
theorem dX8_ask_0 : decode cX8_ask 0 = .ok (.iload_n 1, 1) := by decide +kernel
theorem dX8_ask_1 : decode cX8_ask 1 = .ok (.invokestatic 315, 3) := by decide +kernel
theorem dX8_ask_4 : decode cX8_ask 4 = .ok (.ifCond .eq 15, 3) := by decide +kernel
theorem dX8_ask_7 : decode cX8_ask 7 = .ok (.iload_n 2, 1) := by decide +kernel
theorem dX8_ask_8 : decode cX8_ask 8 = .ok (.i2l, 1) := by decide +kernel
theorem dX8_ask_9 : decode cX8_ask 9 = .ok (.lconst 0, 1) := by decide +kernel
theorem dX8_ask_10 : decode cX8_ask 10 = .ok (.ldc2_w 80, 3) := by decide +kernel
theorem dX8_ask_13 : decode cX8_ask 13 = .ok (.invokestatic 71, 3) := by decide +kernel
theorem dX8_ask_16 : decode cX8_ask 16 = .ok (.ifCond .ne 6, 3) := by decide +kernel
theorem dX8_ask_19 : decode cX8_ask 19 = .ok (.ldc 86, 2) := by decide +kernel
theorem dX8_ask_21 : decode cX8_ask 21 = .ok (.ireturn, 1) := by decide +kernel
theorem dX8_ask_22 : decode cX8_ask 22 = .ok (.aload_n 0, 1) := by decide +kernel
theorem dX8_ask_23 : decode cX8_ask 23 = .ok (.getfield 28, 3) := by decide +kernel
theorem dX8_ask_26 : decode cX8_ask 26 = .ok (.iload_n 1, 1) := by decide +kernel
theorem dX8_ask_27 : decode cX8_ask 27 = .ok (.iaload, 1) := by decide +kernel
theorem dX8_ask_28 : decode cX8_ask 28 = .ok (.ifCond .ne 7, 3) := by decide +kernel
theorem dX8_ask_31 : decode cX8_ask 31 = .ok (.ldc_w 304, 3) := by decide +kernel
theorem dX8_ask_34 : decode cX8_ask 34 = .ok (.ireturn, 1) := by decide +kernel
theorem dX8_ask_35 : decode cX8_ask 35 = .ok (.aload_n 0, 1) := by decide +kernel
theorem dX8_ask_36 : decode cX8_ask 36 = .ok (.getfield 28, 3) := by decide +kernel
theorem dX8_ask_39 : decode cX8_ask 39 = .ok (.iload_n 1, 1) := by decide +kernel
theorem dX8_ask_40 : decode cX8_ask 40 = .ok (.iaload, 1) := by decide +kernel
theorem dX8_ask_41 : decode cX8_ask 41 = .ok (.iconst 1, 1) := by decide +kernel
theorem dX8_ask_42 : decode cX8_ask 42 = .ok (.if_icmp .ne 25, 3) := by decide +kernel
theorem dX8_ask_45 : decode cX8_ask 45 = .ok (.aload_n 0, 1) := by decide +kernel
theorem dX8_ask_46 : decode cX8_ask 46 = .ok (.getfield 31, 3) := by decide +kernel
theorem dX8_ask_49 : decode cX8_ask 49 = .ok (.iload_n 1, 1) := by decide +kernel
theorem dX8_ask_50 : decode cX8_ask 50 = .ok (.iaload, 1) := by decide +kernel
theorem dX8_ask_51 : decode cX8_ask 51 = .ok (.iload_n 2, 1) := by decide +kernel
theorem dX8_ask_52 : decode cX8_ask 52 = .ok (.invokestatic 125, 3) := by decide +kernel
theorem dX8_ask_55 : decode cX8_ask 55 = .ok (.ifCond .eq 12, 3) := by decide +kernel
theorem dX8_ask_58 : decode cX8_ask 58 = .ok (.aload_n 0, 1) := by decide +kernel
theorem dX8_ask_59 : decode cX8_ask 59 = .ok (.getfield 34, 3) := by decide +kernel
theorem dX8_ask_62 : decode cX8_ask 62 = .ok (.iload_n 1, 1) := by decide +kernel
theorem dX8_ask_63 : decode cX8_ask 63 = .ok (.iaload, 1) := by decide +kernel
theorem dX8_ask_64 : decode cX8_ask 64 = .ok (.goto 5, 3) := by decide +kernel
theorem dX8_ask_67 : decode cX8_ask 67 = .ok (.ldc 129, 2) := by decide +kernel
theorem dX8_ask_69 : decode cX8_ask 69 = .ok (.ireturn, 1) := by decide +kernel
theorem dX8_item_0 : decode cX8_item 0 = .ok (.iload_n 1, 1) := by decide +kernel
theorem dX8_item_1 : decode cX8_item 1 = .ok (.invokestatic 315, 3) := by decide +kernel
theorem dX8_item_4 : decode cX8_item 4 = .ok (.ifCond .ne 6, 3) := by decide +kernel
theorem dX8_item_7 : decode cX8_item 7 = .ok (.ldc 86, 2) := by decide +kernel
theorem dX8_item_9 : decode cX8_item 9 = .ok (.ireturn, 1) := by decide +kernel
theorem dX8_item_10 : decode cX8_item 10 = .ok (.aload_n 0, 1) := by decide +kernel
theorem dX8_item_11 : decode cX8_item 11 = .ok (.getfield 28, 3) := by decide +kernel
theorem dX8_item_14 : decode cX8_item 14 = .ok (.iload_n 1, 1) := by decide +kernel
theorem dX8_item_15 : decode cX8_item 15 = .ok (.iaload, 1) := by decide +kernel
theorem dX8_item_16 : decode cX8_item 16 = .ok (.iconst 2, 1) := by decide +kernel
theorem dX8_item_17 : decode cX8_item 17 = .ok (.if_icmp .eq 21, 3) := by decide +kernel
theorem dX8_item_20 : decode cX8_item 20 = .ok (.aload_n 0, 1) := by decide +kernel
theorem dX8_item_21 : decode cX8_item 21 = .ok (.getfield 28, 3) := by decide +kernel
theorem dX8_item_24 : decode cX8_item 24 = .ok (.iload_n 1, 1) := by decide +kernel
theorem dX8_item_25 : decode cX8_item 25 = .ok (.iaload, 1) := by decide +kernel
theorem dX8_item_26 : decode cX8_item 26 = .ok (.ifCond .ne 9, 3) := by decide +kernel
theorem dX8_item_29 : decode cX8_item 29 = .ok (.ldc_w 304, 3) := by decide +kernel
theorem dX8_item_32 : decode cX8_item 32 = .ok (.goto 5, 3) := by decide +kernel
theorem dX8_item_35 : decode cX8_item 35 = .ok (.ldc 129, 2) := by decide +kernel
theorem dX8_item_37 : decode cX8_item 37 = .ok (.ireturn, 1) := by decide +kernel
theorem dX8_item_38 : decode cX8_item 38 = .ok (.iload_n 2, 1) := by decide +kernel
theorem dX8_item_39 : decode cX8_item 39 = .ok (.i2l, 1) := by decide +kernel
theorem dX8_item_40 : decode cX8_item 40 = .ok (.lconst 0, 1) := by decide +kernel
theorem dX8_item_41 : decode cX8_item 41 = .ok (.aload_n 0, 1) := by decide +kernel
theorem dX8_item_42 : decode cX8_item 42 = .ok (.getfield 37, 3) := by decide +kernel
theorem dX8_item_45 : decode cX8_item 45 = .ok (.iload_n 1, 1) := by decide +kernel
theorem dX8_item_46 : decode cX8_item 46 = .ok (.iaload, 1) := by decide +kernel
theorem dX8_item_47 : decode cX8_item 47 = .ok (.iconst 1, 1) := by decide +kernel
theorem dX8_item_48 : decode cX8_item 48 = .ok (.isub, 1) := by decide +kernel
theorem dX8_item_49 : decode cX8_item 49 = .ok (.i2l, 1) := by decide +kernel
theorem dX8_item_50 : decode cX8_item 50 = .ok (.invokestatic 71, 3) := by decide +kernel
theorem dX8_item_53 : decode cX8_item 53 = .ok (.ifCond .ne 7, 3) := by decide +kernel
theorem dX8_item_56 : decode cX8_item 56 = .ok (.ldc_w 305, 3) := by decide +kernel
theorem dX8_item_59 : decode cX8_item 59 = .ok (.ireturn, 1) := by decide +kernel
theorem dX8_item_60 : decode cX8_item 60 = .ok (.aload_n 0, 1) := by decide +kernel
theorem dX8_item_61 : decode cX8_item 61 = .ok (.getfield 40, 3) := by decide +kernel
theorem dX8_item_64 : decode cX8_item 64 = .ok (.bipush 24, 2) := by decide +kernel
theorem dX8_item_66 : decode cX8_item 66 = .ok (.iload_n 1, 1) := by decide +kernel
theorem dX8_item_67 : decode cX8_item 67 = .ok (.imul, 1) := by decide +kernel
theorem dX8_item_68 : decode cX8_item 68 = .ok (.iload_n 2, 1) := by decide +kernel
theorem dX8_item_69 : decode cX8_item 69 = .ok (.iadd, 1) := by decide +kernel
theorem dX8_item_70 : decode cX8_item 70 = .ok (.iaload, 1) := by decide +kernel
theorem dX8_item_71 : decode cX8_item 71 = .ok (.istore_n 3, 1) := by decide +kernel
theorem dX8_item_72 : decode cX8_item 72 = .ok (.iload_n 3, 1) := by decide +kernel
theorem dX8_item_73 : decode cX8_item 73 = .ok (.ldc 70, 2) := by decide +kernel
theorem dX8_item_75 : decode cX8_item 75 = .ok (.if_icmp .ne 8, 3) := by decide +kernel
theorem dX8_item_78 : decode cX8_item 78 = .ok (.ldc 129, 2) := by decide +kernel
theorem dX8_item_80 : decode cX8_item 80 = .ok (.goto 4, 3) := by decide +kernel
theorem dX8_item_83 : decode cX8_item 83 = .ok (.iload_n 3, 1) := by decide +kernel
theorem dX8_item_84 : decode cX8_item 84 = .ok (.ireturn, 1) := by decide +kernel
theorem dX8_rest_0 : decode cX8_rest 0 = .ok (.iload_n 1, 1) := by decide +kernel
theorem dX8_rest_1 : decode cX8_rest 1 = .ok (.invokestatic 315, 3) := by decide +kernel
theorem dX8_rest_4 : decode cX8_rest 4 = .ok (.ifCond .ne 6, 3) := by decide +kernel
theorem dX8_rest_7 : decode cX8_rest 7 = .ok (.ldc 86, 2) := by decide +kernel
theorem dX8_rest_9 : decode cX8_rest 9 = .ok (.ireturn, 1) := by decide +kernel
theorem dX8_rest_10 : decode cX8_rest 10 = .ok (.aload_n 0, 1) := by decide +kernel
theorem dX8_rest_11 : decode cX8_rest 11 = .ok (.getfield 28, 3) := by decide +kernel
theorem dX8_rest_14 : decode cX8_rest 14 = .ok (.iload_n 1, 1) := by decide +kernel
theorem dX8_rest_15 : decode cX8_rest 15 = .ok (.iaload, 1) := by decide +kernel
theorem dX8_rest_16 : decode cX8_rest 16 = .ok (.iconst 3, 1) := by decide +kernel
theorem dX8_rest_17 : decode cX8_rest 17 = .ok (.if_icmp .eq 21, 3) := by decide +kernel
theorem dX8_rest_20 : decode cX8_rest 20 = .ok (.aload_n 0, 1) := by decide +kernel
theorem dX8_rest_21 : decode cX8_rest 21 = .ok (.getfield 28, 3) := by decide +kernel
theorem dX8_rest_24 : decode cX8_rest 24 = .ok (.iload_n 1, 1) := by decide +kernel
theorem dX8_rest_25 : decode cX8_rest 25 = .ok (.iaload, 1) := by decide +kernel
theorem dX8_rest_26 : decode cX8_rest 26 = .ok (.ifCond .ne 9, 3) := by decide +kernel
theorem dX8_rest_29 : decode cX8_rest 29 = .ok (.ldc_w 304, 3) := by decide +kernel
theorem dX8_rest_32 : decode cX8_rest 32 = .ok (.goto 5, 3) := by decide +kernel
theorem dX8_rest_35 : decode cX8_rest 35 = .ok (.ldc 129, 2) := by decide +kernel
theorem dX8_rest_37 : decode cX8_rest 37 = .ok (.ireturn, 1) := by decide +kernel
theorem dX8_rest_38 : decode cX8_rest 38 = .ok (.iload_n 2, 1) := by decide +kernel
theorem dX8_rest_39 : decode cX8_rest 39 = .ok (.ifCond .ne 8, 3) := by decide +kernel
theorem dX8_rest_42 : decode cX8_rest 42 = .ok (.ldc 145, 2) := by decide +kernel
theorem dX8_rest_44 : decode cX8_rest 44 = .ok (.goto 11, 3) := by decide +kernel
theorem dX8_rest_47 : decode cX8_rest 47 = .ok (.aload_n 0, 1) := by decide +kernel
theorem dX8_rest_48 : decode cX8_rest 48 = .ok (.getfield 31, 3) := by decide +kernel
theorem dX8_rest_51 : decode cX8_rest 51 = .ok (.iload_n 1, 1) := by decide +kernel
theorem dX8_rest_52 : decode cX8_rest 52 = .ok (.iaload, 1) := by decide +kernel
theorem dX8_rest_53 : decode cX8_rest 53 = .ok (.iload_n 2, 1) := by decide +kernel
theorem dX8_rest_54 : decode cX8_rest 54 = .ok (.irem, 1) := by decide +kernel
theorem dX8_rest_55 : decode cX8_rest 55 = .ok (.ireturn, 1) := by decide +kernel
theorem dX8_tell_0 : decode cX8_tell 0 = .ok (.aload_n 0, 1) := by decide +kernel
theorem dX8_tell_1 : decode cX8_tell 1 = .ok (.getfield 318, 3) := by decide +kernel
theorem dX8_tell_4 : decode cX8_tell 4 = .ok (.bipush 60, 2) := by decide +kernel
theorem dX8_tell_6 : decode cX8_tell 6 = .ok (.if_icmp .ne 6, 3) := by decide +kernel
theorem dX8_tell_9 : decode cX8_tell 9 = .ok (.ldc 87, 2) := by decide +kernel
theorem dX8_tell_11 : decode cX8_tell 11 = .ok (.ireturn, 1) := by decide +kernel
theorem dX8_tell_12 : decode cX8_tell 12 = .ok (.aload_n 0, 1) := by decide +kernel
theorem dX8_tell_13 : decode cX8_tell 13 = .ok (.getfield 64, 3) := by decide +kernel
theorem dX8_tell_16 : decode cX8_tell 16 = .ok (.aload_n 0, 1) := by decide +kernel
theorem dX8_tell_17 : decode cX8_tell 17 = .ok (.getfield 318, 3) := by decide +kernel
theorem dX8_tell_20 : decode cX8_tell 20 = .ok (.iload_n 1, 1) := by decide +kernel
theorem dX8_tell_21 : decode cX8_tell 21 = .ok (.iastore, 1) := by decide +kernel
theorem dX8_tell_22 : decode cX8_tell 22 = .ok (.aload_n 0, 1) := by decide +kernel
theorem dX8_tell_23 : decode cX8_tell 23 = .ok (.dup, 1) := by decide +kernel
theorem dX8_tell_24 : decode cX8_tell 24 = .ok (.getfield 318, 3) := by decide +kernel
theorem dX8_tell_27 : decode cX8_tell 27 = .ok (.iconst 1, 1) := by decide +kernel
theorem dX8_tell_28 : decode cX8_tell 28 = .ok (.iadd, 1) := by decide +kernel
theorem dX8_tell_29 : decode cX8_tell 29 = .ok (.putfield 318, 3) := by decide +kernel
theorem dX8_tell_32 : decode cX8_tell 32 = .ok (.aload_n 0, 1) := by decide +kernel
theorem dX8_tell_33 : decode cX8_tell 33 = .ok (.getfield 318, 3) := by decide +kernel
theorem dX8_tell_36 : decode cX8_tell 36 = .ok (.ireturn, 1) := by decide +kernel
theorem dX8_setAside_0 : decode cX8_setAside 0 = .ok (.iconst 0, 1) := by decide +kernel
theorem dX8_setAside_1 : decode cX8_setAside 1 = .ok (.istore_n 3, 1) := by decide +kernel
theorem dX8_setAside_2 : decode cX8_setAside 2 = .ok (.iload_n 3, 1) := by decide +kernel
theorem dX8_setAside_3 : decode cX8_setAside 3 = .ok (.sipush 2908, 3) := by decide +kernel
theorem dX8_setAside_6 : decode cX8_setAside 6 = .ok (.if_icmp .ge 15, 3) := by decide +kernel
theorem dX8_setAside_9 : decode cX8_setAside 9 = .ok (.aload_n 2, 1) := by decide +kernel
theorem dX8_setAside_10 : decode cX8_setAside 10 = .ok (.iload_n 3, 1) := by decide +kernel
theorem dX8_setAside_11 : decode cX8_setAside 11 = .ok (.aload_n 1, 1) := by decide +kernel
theorem dX8_setAside_12 : decode cX8_setAside 12 = .ok (.iload_n 3, 1) := by decide +kernel
theorem dX8_setAside_13 : decode cX8_setAside 13 = .ok (.iaload, 1) := by decide +kernel
theorem dX8_setAside_14 : decode cX8_setAside 14 = .ok (.iastore, 1) := by decide +kernel
theorem dX8_setAside_15 : decode cX8_setAside 15 = .ok (.iinc 3 1, 3) := by decide +kernel
theorem dX8_setAside_18 : decode cX8_setAside 18 = .ok (.goto (-16), 3) := by decide +kernel
theorem dX8_setAside_21 : decode cX8_setAside 21 = .ok (.return_, 1) := by decide +kernel
theorem dX8_check_0 : decode cX8_check 0 = .ok (.aload_n 0, 1) := by decide +kernel
theorem dX8_check_1 : decode cX8_check 1 = .ok (.getfield 318, 3) := by decide +kernel
theorem dX8_check_4 : decode cX8_check 4 = .ok (.istore_n 2, 1) := by decide +kernel
theorem dX8_check_5 : decode cX8_check 5 = .ok (.aload_n 0, 1) := by decide +kernel
theorem dX8_check_6 : decode cX8_check 6 = .ok (.iconst 0, 1) := by decide +kernel
theorem dX8_check_7 : decode cX8_check 7 = .ok (.putfield 318, 3) := by decide +kernel
theorem dX8_check_10 : decode cX8_check 10 = .ok (.iload_n 1, 1) := by decide +kernel
theorem dX8_check_11 : decode cX8_check 11 = .ok (.i2l, 1) := by decide +kernel
theorem dX8_check_12 : decode cX8_check 12 = .ok (.lconst 1, 1) := by decide +kernel
theorem dX8_check_13 : decode cX8_check 13 = .ok (.ldc2_w 321, 3) := by decide +kernel
theorem dX8_check_16 : decode cX8_check 16 = .ok (.invokestatic 71, 3) := by decide +kernel
theorem dX8_check_19 : decode cX8_check 19 = .ok (.ifCond .ne 6, 3) := by decide +kernel
theorem dX8_check_22 : decode cX8_check 22 = .ok (.ldc 86, 2) := by decide +kernel
theorem dX8_check_24 : decode cX8_check 24 = .ok (.ireturn, 1) := by decide +kernel
theorem dX8_check_25 : decode cX8_check 25 = .ok (.aload_n 0, 1) := by decide +kernel
theorem dX8_check_26 : decode cX8_check 26 = .ok (.getfield 323, 3) := by decide +kernel
theorem dX8_check_29 : decode cX8_check 29 = .ok (.ifCond .ne 6, 3) := by decide +kernel
theorem dX8_check_32 : decode cX8_check 32 = .ok (.ldc 145, 2) := by decide +kernel
theorem dX8_check_34 : decode cX8_check 34 = .ok (.ireturn, 1) := by decide +kernel
theorem dX8_check_35 : decode cX8_check 35 = .ok (.aload_n 0, 1) := by decide +kernel
theorem dX8_check_36 : decode cX8_check 36 = .ok (.aload_n 0, 1) := by decide +kernel
theorem dX8_check_37 : decode cX8_check 37 = .ok (.getfield 7, 3) := by decide +kernel
theorem dX8_check_40 : decode cX8_check 40 = .ok (.aload_n 0, 1) := by decide +kernel
theorem dX8_check_41 : decode cX8_check 41 = .ok (.getfield 16, 3) := by decide +kernel
theorem dX8_check_44 : decode cX8_check 44 = .ok (.invokevirtual 327, 3) := by decide +kernel
theorem dX8_check_47 : decode cX8_check 47 = .ok (.aload_n 0, 1) := by decide +kernel
theorem dX8_check_48 : decode cX8_check 48 = .ok (.aload_n 0, 1) := by decide +kernel
theorem dX8_check_49 : decode cX8_check 49 = .ok (.getfield 13, 3) := by decide +kernel
theorem dX8_check_52 : decode cX8_check 52 = .ok (.aload_n 0, 1) := by decide +kernel
theorem dX8_check_53 : decode cX8_check 53 = .ok (.getfield 7, 3) := by decide +kernel
theorem dX8_check_56 : decode cX8_check 56 = .ok (.invokevirtual 327, 3) := by decide +kernel
theorem dX8_check_59 : decode cX8_check 59 = .ok (.iconst 0, 1) := by decide +kernel
theorem dX8_check_60 : decode cX8_check 60 = .ok (.istore_n 3, 1) := by decide +kernel
theorem dX8_check_61 : decode cX8_check 61 = .ok (.iconst 0, 1) := by decide +kernel
theorem dX8_check_62 : decode cX8_check 62 = .ok (.istore 4, 2) := by decide +kernel
theorem dX8_check_64 : decode cX8_check 64 = .ok (.iload 4, 2) := by decide +kernel
theorem dX8_check_66 : decode cX8_check 66 = .ok (.iload_n 1, 1) := by decide +kernel
theorem dX8_check_67 : decode cX8_check 67 = .ok (.if_icmp .ge 54, 3) := by decide +kernel
theorem dX8_check_70 : decode cX8_check 70 = .ok (.aload_n 0, 1) := by decide +kernel
theorem dX8_check_71 : decode cX8_check 71 = .ok (.getfield 7, 3) := by decide +kernel
theorem dX8_check_74 : decode cX8_check 74 = .ok (.iconst 2, 1) := by decide +kernel
theorem dX8_check_75 : decode cX8_check 75 = .ok (.iaload, 1) := by decide +kernel
theorem dX8_check_76 : decode cX8_check 76 = .ok (.sipush 9999, 3) := by decide +kernel
theorem dX8_check_79 : decode cX8_check 79 = .ok (.if_icmp .ge 42, 3) := by decide +kernel
theorem dX8_check_82 : decode cX8_check 82 = .ok (.aload_n 0, 1) := by decide +kernel
theorem dX8_check_83 : decode cX8_check 83 = .ok (.invokevirtual 168, 3) := by decide +kernel
theorem dX8_check_86 : decode cX8_check 86 = .ok (.aload_n 0, 1) := by decide +kernel
theorem dX8_check_87 : decode cX8_check 87 = .ok (.getfield 67, 3) := by decide +kernel
theorem dX8_check_90 : decode cX8_check 90 = .ok (.iload_n 3, 1) := by decide +kernel
theorem dX8_check_91 : decode cX8_check 91 = .ok (.aload_n 0, 1) := by decide +kernel
theorem dX8_check_92 : decode cX8_check 92 = .ok (.getfield 7, 3) := by decide +kernel
theorem dX8_check_95 : decode cX8_check 95 = .ok (.iconst 3, 1) := by decide +kernel
theorem dX8_check_96 : decode cX8_check 96 = .ok (.iaload, 1) := by decide +kernel
theorem dX8_check_97 : decode cX8_check 97 = .ok (.iastore, 1) := by decide +kernel
theorem dX8_check_98 : decode cX8_check 98 = .ok (.aload_n 0, 1) := by decide +kernel
theorem dX8_check_99 : decode cX8_check 99 = .ok (.getfield 67, 3) := by decide +kernel
theorem dX8_check_102 : decode cX8_check 102 = .ok (.iload_n 3, 1) := by decide +kernel
theorem dX8_check_103 : decode cX8_check 103 = .ok (.iconst 1, 1) := by decide +kernel
theorem dX8_check_104 : decode cX8_check 104 = .ok (.iadd, 1) := by decide +kernel
theorem dX8_check_105 : decode cX8_check 105 = .ok (.aload_n 0, 1) := by decide +kernel
theorem dX8_check_106 : decode cX8_check 106 = .ok (.getfield 7, 3) := by decide +kernel
theorem dX8_check_109 : decode cX8_check 109 = .ok (.iconst 5, 1) := by decide +kernel
theorem dX8_check_110 : decode cX8_check 110 = .ok (.iaload, 1) := by decide +kernel
theorem dX8_check_111 : decode cX8_check 111 = .ok (.iastore, 1) := by decide +kernel
theorem dX8_check_112 : decode cX8_check 112 = .ok (.iinc 3 2, 3) := by decide +kernel
theorem dX8_check_115 : decode cX8_check 115 = .ok (.iinc 4 1, 3) := by decide +kernel
theorem dX8_check_118 : decode cX8_check 118 = .ok (.goto (-54), 3) := by decide +kernel
theorem dX8_check_121 : decode cX8_check 121 = .ok (.aload_n 0, 1) := by decide +kernel
theorem dX8_check_122 : decode cX8_check 122 = .ok (.aload_n 0, 1) := by decide +kernel
theorem dX8_check_123 : decode cX8_check 123 = .ok (.getfield 16, 3) := by decide +kernel
theorem dX8_check_126 : decode cX8_check 126 = .ok (.aload_n 0, 1) := by decide +kernel
theorem dX8_check_127 : decode cX8_check 127 = .ok (.getfield 7, 3) := by decide +kernel
theorem dX8_check_130 : decode cX8_check 130 = .ok (.invokevirtual 327, 3) := by decide +kernel
theorem dX8_check_133 : decode cX8_check 133 = .ok (.iconst 0, 1) := by decide +kernel
theorem dX8_check_134 : decode cX8_check 134 = .ok (.istore 4, 2) := by decide +kernel
theorem dX8_check_136 : decode cX8_check 136 = .ok (.iload 4, 2) := by decide +kernel
theorem dX8_check_138 : decode cX8_check 138 = .ok (.iload_n 2, 1) := by decide +kernel
theorem dX8_check_139 : decode cX8_check 139 = .ok (.if_icmp .ge 32, 3) := by decide +kernel
theorem dX8_check_142 : decode cX8_check 142 = .ok (.iload 4, 2) := by decide +kernel
theorem dX8_check_144 : decode cX8_check 144 = .ok (.iload_n 3, 1) := by decide +kernel
theorem dX8_check_145 : decode cX8_check 145 = .ok (.if_icmp .ge 26, 3) := by decide +kernel
theorem dX8_check_148 : decode cX8_check 148 = .ok (.aload_n 0, 1) := by decide +kernel
theorem dX8_check_149 : decode cX8_check 149 = .ok (.getfield 64, 3) := by decide +kernel
theorem dX8_check_152 : decode cX8_check 152 = .ok (.iload 4, 2) := by decide +kernel
theorem dX8_check_154 : decode cX8_check 154 = .ok (.iaload, 1) := by decide +kernel
theorem dX8_check_155 : decode cX8_check 155 = .ok (.aload_n 0, 1) := by decide +kernel
theorem dX8_check_156 : decode cX8_check 156 = .ok (.getfield 67, 3) := by decide +kernel
theorem dX8_check_159 : decode cX8_check 159 = .ok (.iload 4, 2) := by decide +kernel
theorem dX8_check_161 : decode cX8_check 161 = .ok (.iaload, 1) := by decide +kernel
theorem dX8_check_162 : decode cX8_check 162 = .ok (.if_icmp .ne 9, 3) := by decide +kernel
theorem dX8_check_165 : decode cX8_check 165 = .ok (.iinc 4 1, 3) := by decide +kernel
theorem dX8_check_168 : decode cX8_check 168 = .ok (.goto (-32), 3) := by decide +kernel
theorem dX8_check_171 : decode cX8_check 171 = .ok (.iload 4, 2) := by decide +kernel
theorem dX8_check_173 : decode cX8_check 173 = .ok (.iload_n 2, 1) := by decide +kernel
theorem dX8_check_174 : decode cX8_check 174 = .ok (.if_icmp .ne 13, 3) := by decide +kernel
theorem dX8_check_177 : decode cX8_check 177 = .ok (.iload 4, 2) := by decide +kernel
theorem dX8_check_179 : decode cX8_check 179 = .ok (.iload_n 3, 1) := by decide +kernel
theorem dX8_check_180 : decode cX8_check 180 = .ok (.if_icmp .ne 7, 3) := by decide +kernel
theorem dX8_check_183 : decode cX8_check 183 = .ok (.iconst 0, 1) := by decide +kernel
theorem dX8_check_184 : decode cX8_check 184 = .ok (.goto 7, 3) := by decide +kernel
theorem dX8_check_187 : decode cX8_check 187 = .ok (.iconst 1, 1) := by decide +kernel
theorem dX8_check_188 : decode cX8_check 188 = .ok (.iload 4, 2) := by decide +kernel
theorem dX8_check_190 : decode cX8_check 190 = .ok (.iadd, 1) := by decide +kernel
theorem dX8_check_191 : decode cX8_check 191 = .ok (.ireturn, 1) := by decide +kernel
theorem dX8_keep_0 : decode cX8_keep 0 = .ok (.aload_n 0, 1) := by decide +kernel
theorem dX8_keep_1 : decode cX8_keep 1 = .ok (.iconst 1, 1) := by decide +kernel
theorem dX8_keep_2 : decode cX8_keep 2 = .ok (.putfield 323, 3) := by decide +kernel
theorem dX8_keep_5 : decode cX8_keep 5 = .ok (.aload_n 0, 1) := by decide +kernel
theorem dX8_keep_6 : decode cX8_keep 6 = .ok (.aload_n 0, 1) := by decide +kernel
theorem dX8_keep_7 : decode cX8_keep 7 = .ok (.getfield 7, 3) := by decide +kernel
theorem dX8_keep_10 : decode cX8_keep 10 = .ok (.aload_n 0, 1) := by decide +kernel
theorem dX8_keep_11 : decode cX8_keep 11 = .ok (.getfield 13, 3) := by decide +kernel
theorem dX8_keep_14 : decode cX8_keep 14 = .ok (.invokevirtual 327, 3) := by decide +kernel
theorem dX8_keep_17 : decode cX8_keep 17 = .ok (.aload_n 0, 1) := by decide +kernel
theorem dX8_keep_18 : decode cX8_keep 18 = .ok (.getfield 7, 3) := by decide +kernel
theorem dX8_keep_21 : decode cX8_keep 21 = .ok (.iconst 0, 1) := by decide +kernel
theorem dX8_keep_22 : decode cX8_keep 22 = .ok (.iaload, 1) := by decide +kernel
theorem dX8_keep_23 : decode cX8_keep 23 = .ok (.ireturn, 1) := by decide +kernel
theorem dX8_back_0 : decode cX8_back 0 = .ok (.aload_n 0, 1) := by decide +kernel
theorem dX8_back_1 : decode cX8_back 1 = .ok (.getfield 323, 3) := by decide +kernel
theorem dX8_back_4 : decode cX8_back 4 = .ok (.ifCond .ne 6, 3) := by decide +kernel
theorem dX8_back_7 : decode cX8_back 7 = .ok (.ldc 145, 2) := by decide +kernel
theorem dX8_back_9 : decode cX8_back 9 = .ok (.ireturn, 1) := by decide +kernel
theorem dX8_back_10 : decode cX8_back 10 = .ok (.aload_n 0, 1) := by decide +kernel
theorem dX8_back_11 : decode cX8_back 11 = .ok (.aload_n 0, 1) := by decide +kernel
theorem dX8_back_12 : decode cX8_back 12 = .ok (.getfield 13, 3) := by decide +kernel
theorem dX8_back_15 : decode cX8_back 15 = .ok (.aload_n 0, 1) := by decide +kernel
theorem dX8_back_16 : decode cX8_back 16 = .ok (.getfield 7, 3) := by decide +kernel
theorem dX8_back_19 : decode cX8_back 19 = .ok (.invokevirtual 327, 3) := by decide +kernel
theorem dX8_back_22 : decode cX8_back 22 = .ok (.aload_n 0, 1) := by decide +kernel
theorem dX8_back_23 : decode cX8_back 23 = .ok (.getfield 7, 3) := by decide +kernel
theorem dX8_back_26 : decode cX8_back 26 = .ok (.iconst 0, 1) := by decide +kernel
theorem dX8_back_27 : decode cX8_back 27 = .ok (.iaload, 1) := by decide +kernel
theorem dX8_back_28 : decode cX8_back 28 = .ok (.ireturn, 1) := by decide +kernel
theorem dX8_count_0 : decode cX8_count 0 = .ok (.iload_n 1, 1) := by decide +kernel
theorem dX8_count_1 : decode cX8_count 1 = .ok (.tableswitch 98 0 7 #[47, 54, 61, 68, 73, 80, 85, 90], 47) := by decide +kernel
theorem dX8_count_48 : decode cX8_count 48 = .ok (.aload_n 0, 1) := by decide +kernel
theorem dX8_count_49 : decode cX8_count 49 = .ok (.getfield 7, 3) := by decide +kernel
theorem dX8_count_52 : decode cX8_count 52 = .ok (.iconst 0, 1) := by decide +kernel
theorem dX8_count_53 : decode cX8_count 53 = .ok (.iaload, 1) := by decide +kernel
theorem dX8_count_54 : decode cX8_count 54 = .ok (.ireturn, 1) := by decide +kernel
theorem dX8_count_55 : decode cX8_count 55 = .ok (.aload_n 0, 1) := by decide +kernel
theorem dX8_count_56 : decode cX8_count 56 = .ok (.getfield 7, 3) := by decide +kernel
theorem dX8_count_59 : decode cX8_count 59 = .ok (.iconst 3, 1) := by decide +kernel
theorem dX8_count_60 : decode cX8_count 60 = .ok (.iaload, 1) := by decide +kernel
theorem dX8_count_61 : decode cX8_count 61 = .ok (.ireturn, 1) := by decide +kernel
theorem dX8_count_62 : decode cX8_count 62 = .ok (.aload_n 0, 1) := by decide +kernel
theorem dX8_count_63 : decode cX8_count 63 = .ok (.getfield 7, 3) := by decide +kernel
theorem dX8_count_66 : decode cX8_count 66 = .ok (.iconst 2, 1) := by decide +kernel
theorem dX8_count_67 : decode cX8_count 67 = .ok (.iaload, 1) := by decide +kernel
theorem dX8_count_68 : decode cX8_count 68 = .ok (.ireturn, 1) := by decide +kernel
theorem dX8_count_69 : decode cX8_count 69 = .ok (.aload_n 0, 1) := by decide +kernel
theorem dX8_count_70 : decode cX8_count 70 = .ok (.invokevirtual 331, 3) := by decide +kernel
theorem dX8_count_73 : decode cX8_count 73 = .ok (.ireturn, 1) := by decide +kernel
theorem dX8_count_74 : decode cX8_count 74 = .ok (.aload_n 0, 1) := by decide +kernel
theorem dX8_count_75 : decode cX8_count 75 = .ok (.getfield 7, 3) := by decide +kernel
theorem dX8_count_78 : decode cX8_count 78 = .ok (.iconst 1, 1) := by decide +kernel
theorem dX8_count_79 : decode cX8_count 79 = .ok (.iaload, 1) := by decide +kernel
theorem dX8_count_80 : decode cX8_count 80 = .ok (.ireturn, 1) := by decide +kernel
theorem dX8_count_81 : decode cX8_count 81 = .ok (.aload_n 0, 1) := by decide +kernel
theorem dX8_count_82 : decode cX8_count 82 = .ok (.getfield 318, 3) := by decide +kernel
theorem dX8_count_85 : decode cX8_count 85 = .ok (.ireturn, 1) := by decide +kernel
theorem dX8_count_86 : decode cX8_count 86 = .ok (.aload_n 0, 1) := by decide +kernel
theorem dX8_count_87 : decode cX8_count 87 = .ok (.getfield 201, 3) := by decide +kernel
theorem dX8_count_90 : decode cX8_count 90 = .ok (.ireturn, 1) := by decide +kernel
theorem dX8_count_91 : decode cX8_count 91 = .ok (.aload_n 0, 1) := by decide +kernel
theorem dX8_count_92 : decode cX8_count 92 = .ok (.getfield 7, 3) := by decide +kernel
theorem dX8_count_95 : decode cX8_count 95 = .ok (.bipush 6, 2) := by decide +kernel
theorem dX8_count_97 : decode cX8_count 97 = .ok (.iaload, 1) := by decide +kernel
theorem dX8_count_98 : decode cX8_count 98 = .ok (.ireturn, 1) := by decide +kernel
theorem dX8_count_99 : decode cX8_count 99 = .ok (.ldc 86, 2) := by decide +kernel
theorem dX8_count_101 : decode cX8_count 101 = .ok (.ireturn, 1) := by decide +kernel
end
section
theorem dL_law_0 : decode cL_law 0 = .ok (.new 7, 3) := by decide +kernel
theorem dL_law_3 : decode cL_law 3 = .ok (.dup, 1) := by decide +kernel
theorem dL_law_4 : decode cL_law 4 = .ok (.invokespecial 9, 3) := by decide +kernel
theorem dL_law_7 : decode cL_law 7 = .ok (.astore_n 1, 1) := by decide +kernel
theorem dL_law_8 : decode cL_law 8 = .ok (.new 10, 3) := by decide +kernel
theorem dL_law_11 : decode cL_law 11 = .ok (.dup, 1) := by decide +kernel
theorem dL_law_12 : decode cL_law 12 = .ok (.invokespecial 12, 3) := by decide +kernel
theorem dL_law_15 : decode cL_law 15 = .ok (.astore_n 2, 1) := by decide +kernel
theorem dL_law_16 : decode cL_law 16 = .ok (.iconst 0, 1) := by decide +kernel
theorem dL_law_17 : decode cL_law 17 = .ok (.istore_n 3, 1) := by decide +kernel
theorem dL_law_18 : decode cL_law 18 = .ok (.iload_n 3, 1) := by decide +kernel
theorem dL_law_19 : decode cL_law 19 = .ok (.aload_n 0, 1) := by decide +kernel
theorem dL_law_20 : decode cL_law 20 = .ok (.arraylength, 1) := by decide +kernel
theorem dL_law_21 : decode cL_law 21 = .ok (.bipush 6, 2) := by decide +kernel
theorem dL_law_23 : decode cL_law 23 = .ok (.isub, 1) := by decide +kernel
theorem dL_law_24 : decode cL_law 24 = .ok (.if_icmp .gt 1407, 3) := by decide +kernel
theorem dL_law_27 : decode cL_law 27 = .ok (.aload_n 0, 1) := by decide +kernel
theorem dL_law_28 : decode cL_law 28 = .ok (.iload_n 3, 1) := by decide +kernel
theorem dL_law_29 : decode cL_law 29 = .ok (.iaload, 1) := by decide +kernel
theorem dL_law_30 : decode cL_law 30 = .ok (.bipush 63, 2) := by decide +kernel
theorem dL_law_32 : decode cL_law 32 = .ok (.iand, 1) := by decide +kernel
theorem dL_law_33 : decode cL_law 33 = .ok (.tableswitch 1392 0 40 #[179, 222, 255, 288, 321, 364, 407, 440, 463, 476, 499, 522, 545, 568, 601, 634, 647, 680, 713, 746, 789, 802, 825, 868, 891, 904, 937, 960, 1003, 1046, 1069, 1092, 1155, 1198, 1231, 1264, 1297, 1320, 1343, 1356, 1369], 179) := by decide +kernel
theorem dL_law_212 : decode cL_law 212 = .ok (.aload_n 1, 1) := by decide +kernel
theorem dL_law_213 : decode cL_law 213 = .ok (.aload_n 0, 1) := by decide +kernel
theorem dL_law_214 : decode cL_law 214 = .ok (.iload_n 3, 1) := by decide +kernel
theorem dL_law_215 : decode cL_law 215 = .ok (.iconst 1, 1) := by decide +kernel
theorem dL_law_216 : decode cL_law 216 = .ok (.iadd, 1) := by decide +kernel
theorem dL_law_217 : decode cL_law 217 = .ok (.iaload, 1) := by decide +kernel
theorem dL_law_218 : decode cL_law 218 = .ok (.aload_n 0, 1) := by decide +kernel
theorem dL_law_219 : decode cL_law 219 = .ok (.iload_n 3, 1) := by decide +kernel
theorem dL_law_220 : decode cL_law 220 = .ok (.iconst 2, 1) := by decide +kernel
theorem dL_law_221 : decode cL_law 221 = .ok (.iadd, 1) := by decide +kernel
theorem dL_law_222 : decode cL_law 222 = .ok (.iaload, 1) := by decide +kernel
theorem dL_law_223 : decode cL_law 223 = .ok (.aload_n 0, 1) := by decide +kernel
theorem dL_law_224 : decode cL_law 224 = .ok (.iload_n 3, 1) := by decide +kernel
theorem dL_law_225 : decode cL_law 225 = .ok (.iconst 3, 1) := by decide +kernel
theorem dL_law_226 : decode cL_law 226 = .ok (.iadd, 1) := by decide +kernel
theorem dL_law_227 : decode cL_law 227 = .ok (.iaload, 1) := by decide +kernel
theorem dL_law_228 : decode cL_law 228 = .ok (.invokevirtual 13, 3) := by decide +kernel
theorem dL_law_231 : decode cL_law 231 = .ok (.aload_n 2, 1) := by decide +kernel
theorem dL_law_232 : decode cL_law 232 = .ok (.aload_n 0, 1) := by decide +kernel
theorem dL_law_233 : decode cL_law 233 = .ok (.iload_n 3, 1) := by decide +kernel
theorem dL_law_234 : decode cL_law 234 = .ok (.iconst 1, 1) := by decide +kernel
theorem dL_law_235 : decode cL_law 235 = .ok (.iadd, 1) := by decide +kernel
theorem dL_law_236 : decode cL_law 236 = .ok (.iaload, 1) := by decide +kernel
theorem dL_law_237 : decode cL_law 237 = .ok (.aload_n 0, 1) := by decide +kernel
theorem dL_law_238 : decode cL_law 238 = .ok (.iload_n 3, 1) := by decide +kernel
theorem dL_law_239 : decode cL_law 239 = .ok (.iconst 2, 1) := by decide +kernel
theorem dL_law_240 : decode cL_law 240 = .ok (.iadd, 1) := by decide +kernel
theorem dL_law_241 : decode cL_law 241 = .ok (.iaload, 1) := by decide +kernel
theorem dL_law_242 : decode cL_law 242 = .ok (.aload_n 0, 1) := by decide +kernel
theorem dL_law_243 : decode cL_law 243 = .ok (.iload_n 3, 1) := by decide +kernel
theorem dL_law_244 : decode cL_law 244 = .ok (.iconst 3, 1) := by decide +kernel
theorem dL_law_245 : decode cL_law 245 = .ok (.iadd, 1) := by decide +kernel
theorem dL_law_246 : decode cL_law 246 = .ok (.iaload, 1) := by decide +kernel
theorem dL_law_247 : decode cL_law 247 = .ok (.invokevirtual 17, 3) := by decide +kernel
theorem dL_law_250 : decode cL_law 250 = .ok (.if_icmp .eq 1175, 3) := by decide +kernel
theorem dL_law_253 : decode cL_law 253 = .ok (.iconst 0, 1) := by decide +kernel
theorem dL_law_254 : decode cL_law 254 = .ok (.ireturn, 1) := by decide +kernel
theorem dL_law_255 : decode cL_law 255 = .ok (.aload_n 1, 1) := by decide +kernel
theorem dL_law_256 : decode cL_law 256 = .ok (.aload_n 0, 1) := by decide +kernel
theorem dL_law_257 : decode cL_law 257 = .ok (.iload_n 3, 1) := by decide +kernel
theorem dL_law_258 : decode cL_law 258 = .ok (.iconst 1, 1) := by decide +kernel
theorem dL_law_259 : decode cL_law 259 = .ok (.iadd, 1) := by decide +kernel
theorem dL_law_260 : decode cL_law 260 = .ok (.iaload, 1) := by decide +kernel
theorem dL_law_261 : decode cL_law 261 = .ok (.aload_n 0, 1) := by decide +kernel
theorem dL_law_262 : decode cL_law 262 = .ok (.iload_n 3, 1) := by decide +kernel
theorem dL_law_263 : decode cL_law 263 = .ok (.iconst 2, 1) := by decide +kernel
theorem dL_law_264 : decode cL_law 264 = .ok (.iadd, 1) := by decide +kernel
theorem dL_law_265 : decode cL_law 265 = .ok (.iaload, 1) := by decide +kernel
theorem dL_law_266 : decode cL_law 266 = .ok (.invokevirtual 18, 3) := by decide +kernel
theorem dL_law_269 : decode cL_law 269 = .ok (.aload_n 2, 1) := by decide +kernel
theorem dL_law_270 : decode cL_law 270 = .ok (.aload_n 0, 1) := by decide +kernel
theorem dL_law_271 : decode cL_law 271 = .ok (.iload_n 3, 1) := by decide +kernel
theorem dL_law_272 : decode cL_law 272 = .ok (.iconst 1, 1) := by decide +kernel
theorem dL_law_273 : decode cL_law 273 = .ok (.iadd, 1) := by decide +kernel
theorem dL_law_274 : decode cL_law 274 = .ok (.iaload, 1) := by decide +kernel
theorem dL_law_275 : decode cL_law 275 = .ok (.aload_n 0, 1) := by decide +kernel
theorem dL_law_276 : decode cL_law 276 = .ok (.iload_n 3, 1) := by decide +kernel
theorem dL_law_277 : decode cL_law 277 = .ok (.iconst 2, 1) := by decide +kernel
theorem dL_law_278 : decode cL_law 278 = .ok (.iadd, 1) := by decide +kernel
theorem dL_law_279 : decode cL_law 279 = .ok (.iaload, 1) := by decide +kernel
theorem dL_law_280 : decode cL_law 280 = .ok (.invokevirtual 22, 3) := by decide +kernel
theorem dL_law_283 : decode cL_law 283 = .ok (.if_icmp .eq 1142, 3) := by decide +kernel
theorem dL_law_286 : decode cL_law 286 = .ok (.iconst 0, 1) := by decide +kernel
theorem dL_law_287 : decode cL_law 287 = .ok (.ireturn, 1) := by decide +kernel
theorem dL_law_288 : decode cL_law 288 = .ok (.aload_n 1, 1) := by decide +kernel
theorem dL_law_289 : decode cL_law 289 = .ok (.aload_n 0, 1) := by decide +kernel
theorem dL_law_290 : decode cL_law 290 = .ok (.iload_n 3, 1) := by decide +kernel
theorem dL_law_291 : decode cL_law 291 = .ok (.iconst 1, 1) := by decide +kernel
theorem dL_law_292 : decode cL_law 292 = .ok (.iadd, 1) := by decide +kernel
theorem dL_law_293 : decode cL_law 293 = .ok (.iaload, 1) := by decide +kernel
theorem dL_law_294 : decode cL_law 294 = .ok (.aload_n 0, 1) := by decide +kernel
theorem dL_law_295 : decode cL_law 295 = .ok (.iload_n 3, 1) := by decide +kernel
theorem dL_law_296 : decode cL_law 296 = .ok (.iconst 2, 1) := by decide +kernel
theorem dL_law_297 : decode cL_law 297 = .ok (.iadd, 1) := by decide +kernel
theorem dL_law_298 : decode cL_law 298 = .ok (.iaload, 1) := by decide +kernel
theorem dL_law_299 : decode cL_law 299 = .ok (.invokevirtual 23, 3) := by decide +kernel
theorem dL_law_302 : decode cL_law 302 = .ok (.aload_n 2, 1) := by decide +kernel
theorem dL_law_303 : decode cL_law 303 = .ok (.aload_n 0, 1) := by decide +kernel
theorem dL_law_304 : decode cL_law 304 = .ok (.iload_n 3, 1) := by decide +kernel
theorem dL_law_305 : decode cL_law 305 = .ok (.iconst 1, 1) := by decide +kernel
theorem dL_law_306 : decode cL_law 306 = .ok (.iadd, 1) := by decide +kernel
theorem dL_law_307 : decode cL_law 307 = .ok (.iaload, 1) := by decide +kernel
theorem dL_law_308 : decode cL_law 308 = .ok (.aload_n 0, 1) := by decide +kernel
theorem dL_law_309 : decode cL_law 309 = .ok (.iload_n 3, 1) := by decide +kernel
theorem dL_law_310 : decode cL_law 310 = .ok (.iconst 2, 1) := by decide +kernel
theorem dL_law_311 : decode cL_law 311 = .ok (.iadd, 1) := by decide +kernel
theorem dL_law_312 : decode cL_law 312 = .ok (.iaload, 1) := by decide +kernel
theorem dL_law_313 : decode cL_law 313 = .ok (.invokevirtual 26, 3) := by decide +kernel
theorem dL_law_316 : decode cL_law 316 = .ok (.if_icmp .eq 1109, 3) := by decide +kernel
theorem dL_law_319 : decode cL_law 319 = .ok (.iconst 0, 1) := by decide +kernel
theorem dL_law_320 : decode cL_law 320 = .ok (.ireturn, 1) := by decide +kernel
theorem dL_law_321 : decode cL_law 321 = .ok (.aload_n 1, 1) := by decide +kernel
theorem dL_law_322 : decode cL_law 322 = .ok (.aload_n 0, 1) := by decide +kernel
theorem dL_law_323 : decode cL_law 323 = .ok (.iload_n 3, 1) := by decide +kernel
theorem dL_law_324 : decode cL_law 324 = .ok (.iconst 1, 1) := by decide +kernel
theorem dL_law_325 : decode cL_law 325 = .ok (.iadd, 1) := by decide +kernel
theorem dL_law_326 : decode cL_law 326 = .ok (.iaload, 1) := by decide +kernel
theorem dL_law_327 : decode cL_law 327 = .ok (.aload_n 0, 1) := by decide +kernel
theorem dL_law_328 : decode cL_law 328 = .ok (.iload_n 3, 1) := by decide +kernel
theorem dL_law_329 : decode cL_law 329 = .ok (.iconst 2, 1) := by decide +kernel
theorem dL_law_330 : decode cL_law 330 = .ok (.iadd, 1) := by decide +kernel
theorem dL_law_331 : decode cL_law 331 = .ok (.iaload, 1) := by decide +kernel
theorem dL_law_332 : decode cL_law 332 = .ok (.invokevirtual 27, 3) := by decide +kernel
theorem dL_law_335 : decode cL_law 335 = .ok (.aload_n 2, 1) := by decide +kernel
theorem dL_law_336 : decode cL_law 336 = .ok (.aload_n 0, 1) := by decide +kernel
theorem dL_law_337 : decode cL_law 337 = .ok (.iload_n 3, 1) := by decide +kernel
theorem dL_law_338 : decode cL_law 338 = .ok (.iconst 1, 1) := by decide +kernel
theorem dL_law_339 : decode cL_law 339 = .ok (.iadd, 1) := by decide +kernel
theorem dL_law_340 : decode cL_law 340 = .ok (.iaload, 1) := by decide +kernel
theorem dL_law_341 : decode cL_law 341 = .ok (.aload_n 0, 1) := by decide +kernel
theorem dL_law_342 : decode cL_law 342 = .ok (.iload_n 3, 1) := by decide +kernel
theorem dL_law_343 : decode cL_law 343 = .ok (.iconst 2, 1) := by decide +kernel
theorem dL_law_344 : decode cL_law 344 = .ok (.iadd, 1) := by decide +kernel
theorem dL_law_345 : decode cL_law 345 = .ok (.iaload, 1) := by decide +kernel
theorem dL_law_346 : decode cL_law 346 = .ok (.invokevirtual 30, 3) := by decide +kernel
theorem dL_law_349 : decode cL_law 349 = .ok (.if_icmp .eq 1076, 3) := by decide +kernel
theorem dL_law_352 : decode cL_law 352 = .ok (.iconst 0, 1) := by decide +kernel
theorem dL_law_353 : decode cL_law 353 = .ok (.ireturn, 1) := by decide +kernel
theorem dL_law_354 : decode cL_law 354 = .ok (.aload_n 1, 1) := by decide +kernel
theorem dL_law_355 : decode cL_law 355 = .ok (.aload_n 0, 1) := by decide +kernel
theorem dL_law_356 : decode cL_law 356 = .ok (.iload_n 3, 1) := by decide +kernel
theorem dL_law_357 : decode cL_law 357 = .ok (.iconst 1, 1) := by decide +kernel
theorem dL_law_358 : decode cL_law 358 = .ok (.iadd, 1) := by decide +kernel
theorem dL_law_359 : decode cL_law 359 = .ok (.iaload, 1) := by decide +kernel
theorem dL_law_360 : decode cL_law 360 = .ok (.aload_n 0, 1) := by decide +kernel
theorem dL_law_361 : decode cL_law 361 = .ok (.iload_n 3, 1) := by decide +kernel
theorem dL_law_362 : decode cL_law 362 = .ok (.iconst 2, 1) := by decide +kernel
theorem dL_law_363 : decode cL_law 363 = .ok (.iadd, 1) := by decide +kernel
theorem dL_law_364 : decode cL_law 364 = .ok (.iaload, 1) := by decide +kernel
theorem dL_law_365 : decode cL_law 365 = .ok (.aload_n 0, 1) := by decide +kernel
theorem dL_law_366 : decode cL_law 366 = .ok (.iload_n 3, 1) := by decide +kernel
theorem dL_law_367 : decode cL_law 367 = .ok (.iconst 3, 1) := by decide +kernel
theorem dL_law_368 : decode cL_law 368 = .ok (.iadd, 1) := by decide +kernel
theorem dL_law_369 : decode cL_law 369 = .ok (.iaload, 1) := by decide +kernel
theorem dL_law_370 : decode cL_law 370 = .ok (.invokevirtual 31, 3) := by decide +kernel
theorem dL_law_373 : decode cL_law 373 = .ok (.aload_n 2, 1) := by decide +kernel
theorem dL_law_374 : decode cL_law 374 = .ok (.aload_n 0, 1) := by decide +kernel
theorem dL_law_375 : decode cL_law 375 = .ok (.iload_n 3, 1) := by decide +kernel
theorem dL_law_376 : decode cL_law 376 = .ok (.iconst 1, 1) := by decide +kernel
theorem dL_law_377 : decode cL_law 377 = .ok (.iadd, 1) := by decide +kernel
theorem dL_law_378 : decode cL_law 378 = .ok (.iaload, 1) := by decide +kernel
theorem dL_law_379 : decode cL_law 379 = .ok (.aload_n 0, 1) := by decide +kernel
theorem dL_law_380 : decode cL_law 380 = .ok (.iload_n 3, 1) := by decide +kernel
theorem dL_law_381 : decode cL_law 381 = .ok (.iconst 2, 1) := by decide +kernel
theorem dL_law_382 : decode cL_law 382 = .ok (.iadd, 1) := by decide +kernel
theorem dL_law_383 : decode cL_law 383 = .ok (.iaload, 1) := by decide +kernel
theorem dL_law_384 : decode cL_law 384 = .ok (.aload_n 0, 1) := by decide +kernel
theorem dL_law_385 : decode cL_law 385 = .ok (.iload_n 3, 1) := by decide +kernel
theorem dL_law_386 : decode cL_law 386 = .ok (.iconst 3, 1) := by decide +kernel
theorem dL_law_387 : decode cL_law 387 = .ok (.iadd, 1) := by decide +kernel
theorem dL_law_388 : decode cL_law 388 = .ok (.iaload, 1) := by decide +kernel
theorem dL_law_389 : decode cL_law 389 = .ok (.invokevirtual 34, 3) := by decide +kernel
theorem dL_law_392 : decode cL_law 392 = .ok (.if_icmp .eq 1033, 3) := by decide +kernel
theorem dL_law_395 : decode cL_law 395 = .ok (.iconst 0, 1) := by decide +kernel
theorem dL_law_396 : decode cL_law 396 = .ok (.ireturn, 1) := by decide +kernel
theorem dL_law_397 : decode cL_law 397 = .ok (.aload_n 1, 1) := by decide +kernel
theorem dL_law_398 : decode cL_law 398 = .ok (.aload_n 0, 1) := by decide +kernel
theorem dL_law_399 : decode cL_law 399 = .ok (.iload_n 3, 1) := by decide +kernel
theorem dL_law_400 : decode cL_law 400 = .ok (.iconst 1, 1) := by decide +kernel
theorem dL_law_401 : decode cL_law 401 = .ok (.iadd, 1) := by decide +kernel
theorem dL_law_402 : decode cL_law 402 = .ok (.iaload, 1) := by decide +kernel
theorem dL_law_403 : decode cL_law 403 = .ok (.aload_n 0, 1) := by decide +kernel
theorem dL_law_404 : decode cL_law 404 = .ok (.iload_n 3, 1) := by decide +kernel
theorem dL_law_405 : decode cL_law 405 = .ok (.iconst 2, 1) := by decide +kernel
theorem dL_law_406 : decode cL_law 406 = .ok (.iadd, 1) := by decide +kernel
theorem dL_law_407 : decode cL_law 407 = .ok (.iaload, 1) := by decide +kernel
theorem dL_law_408 : decode cL_law 408 = .ok (.aload_n 0, 1) := by decide +kernel
theorem dL_law_409 : decode cL_law 409 = .ok (.iload_n 3, 1) := by decide +kernel
theorem dL_law_410 : decode cL_law 410 = .ok (.iconst 3, 1) := by decide +kernel
theorem dL_law_411 : decode cL_law 411 = .ok (.iadd, 1) := by decide +kernel
theorem dL_law_412 : decode cL_law 412 = .ok (.iaload, 1) := by decide +kernel
theorem dL_law_413 : decode cL_law 413 = .ok (.invokevirtual 35, 3) := by decide +kernel
theorem dL_law_416 : decode cL_law 416 = .ok (.aload_n 2, 1) := by decide +kernel
theorem dL_law_417 : decode cL_law 417 = .ok (.aload_n 0, 1) := by decide +kernel
theorem dL_law_418 : decode cL_law 418 = .ok (.iload_n 3, 1) := by decide +kernel
theorem dL_law_419 : decode cL_law 419 = .ok (.iconst 1, 1) := by decide +kernel
theorem dL_law_420 : decode cL_law 420 = .ok (.iadd, 1) := by decide +kernel
theorem dL_law_421 : decode cL_law 421 = .ok (.iaload, 1) := by decide +kernel
theorem dL_law_422 : decode cL_law 422 = .ok (.aload_n 0, 1) := by decide +kernel
theorem dL_law_423 : decode cL_law 423 = .ok (.iload_n 3, 1) := by decide +kernel
theorem dL_law_424 : decode cL_law 424 = .ok (.iconst 2, 1) := by decide +kernel
theorem dL_law_425 : decode cL_law 425 = .ok (.iadd, 1) := by decide +kernel
theorem dL_law_426 : decode cL_law 426 = .ok (.iaload, 1) := by decide +kernel
theorem dL_law_427 : decode cL_law 427 = .ok (.aload_n 0, 1) := by decide +kernel
theorem dL_law_428 : decode cL_law 428 = .ok (.iload_n 3, 1) := by decide +kernel
theorem dL_law_429 : decode cL_law 429 = .ok (.iconst 3, 1) := by decide +kernel
theorem dL_law_430 : decode cL_law 430 = .ok (.iadd, 1) := by decide +kernel
theorem dL_law_431 : decode cL_law 431 = .ok (.iaload, 1) := by decide +kernel
theorem dL_law_432 : decode cL_law 432 = .ok (.invokevirtual 38, 3) := by decide +kernel
theorem dL_law_435 : decode cL_law 435 = .ok (.if_icmp .eq 990, 3) := by decide +kernel
theorem dL_law_438 : decode cL_law 438 = .ok (.iconst 0, 1) := by decide +kernel
theorem dL_law_439 : decode cL_law 439 = .ok (.ireturn, 1) := by decide +kernel
theorem dL_law_440 : decode cL_law 440 = .ok (.aload_n 1, 1) := by decide +kernel
theorem dL_law_441 : decode cL_law 441 = .ok (.aload_n 0, 1) := by decide +kernel
theorem dL_law_442 : decode cL_law 442 = .ok (.iload_n 3, 1) := by decide +kernel
theorem dL_law_443 : decode cL_law 443 = .ok (.iconst 1, 1) := by decide +kernel
theorem dL_law_444 : decode cL_law 444 = .ok (.iadd, 1) := by decide +kernel
theorem dL_law_445 : decode cL_law 445 = .ok (.iaload, 1) := by decide +kernel
theorem dL_law_446 : decode cL_law 446 = .ok (.aload_n 0, 1) := by decide +kernel
theorem dL_law_447 : decode cL_law 447 = .ok (.iload_n 3, 1) := by decide +kernel
theorem dL_law_448 : decode cL_law 448 = .ok (.iconst 2, 1) := by decide +kernel
theorem dL_law_449 : decode cL_law 449 = .ok (.iadd, 1) := by decide +kernel
theorem dL_law_450 : decode cL_law 450 = .ok (.iaload, 1) := by decide +kernel
theorem dL_law_451 : decode cL_law 451 = .ok (.invokevirtual 39, 3) := by decide +kernel
theorem dL_law_454 : decode cL_law 454 = .ok (.aload_n 2, 1) := by decide +kernel
theorem dL_law_455 : decode cL_law 455 = .ok (.aload_n 0, 1) := by decide +kernel
theorem dL_law_456 : decode cL_law 456 = .ok (.iload_n 3, 1) := by decide +kernel
theorem dL_law_457 : decode cL_law 457 = .ok (.iconst 1, 1) := by decide +kernel
theorem dL_law_458 : decode cL_law 458 = .ok (.iadd, 1) := by decide +kernel
theorem dL_law_459 : decode cL_law 459 = .ok (.iaload, 1) := by decide +kernel
theorem dL_law_460 : decode cL_law 460 = .ok (.aload_n 0, 1) := by decide +kernel
theorem dL_law_461 : decode cL_law 461 = .ok (.iload_n 3, 1) := by decide +kernel
theorem dL_law_462 : decode cL_law 462 = .ok (.iconst 2, 1) := by decide +kernel
theorem dL_law_463 : decode cL_law 463 = .ok (.iadd, 1) := by decide +kernel
theorem dL_law_464 : decode cL_law 464 = .ok (.iaload, 1) := by decide +kernel
theorem dL_law_465 : decode cL_law 465 = .ok (.invokevirtual 42, 3) := by decide +kernel
theorem dL_law_468 : decode cL_law 468 = .ok (.if_icmp .eq 957, 3) := by decide +kernel
theorem dL_law_471 : decode cL_law 471 = .ok (.iconst 0, 1) := by decide +kernel
theorem dL_law_472 : decode cL_law 472 = .ok (.ireturn, 1) := by decide +kernel
theorem dL_law_473 : decode cL_law 473 = .ok (.aload_n 1, 1) := by decide +kernel
theorem dL_law_474 : decode cL_law 474 = .ok (.aload_n 0, 1) := by decide +kernel
theorem dL_law_475 : decode cL_law 475 = .ok (.iload_n 3, 1) := by decide +kernel
theorem dL_law_476 : decode cL_law 476 = .ok (.iconst 1, 1) := by decide +kernel
theorem dL_law_477 : decode cL_law 477 = .ok (.iadd, 1) := by decide +kernel
theorem dL_law_478 : decode cL_law 478 = .ok (.iaload, 1) := by decide +kernel
theorem dL_law_479 : decode cL_law 479 = .ok (.invokevirtual 43, 3) := by decide +kernel
theorem dL_law_482 : decode cL_law 482 = .ok (.aload_n 2, 1) := by decide +kernel
theorem dL_law_483 : decode cL_law 483 = .ok (.aload_n 0, 1) := by decide +kernel
theorem dL_law_484 : decode cL_law 484 = .ok (.iload_n 3, 1) := by decide +kernel
theorem dL_law_485 : decode cL_law 485 = .ok (.iconst 1, 1) := by decide +kernel
theorem dL_law_486 : decode cL_law 486 = .ok (.iadd, 1) := by decide +kernel
theorem dL_law_487 : decode cL_law 487 = .ok (.iaload, 1) := by decide +kernel
theorem dL_law_488 : decode cL_law 488 = .ok (.invokevirtual 47, 3) := by decide +kernel
theorem dL_law_491 : decode cL_law 491 = .ok (.if_icmp .eq 934, 3) := by decide +kernel
theorem dL_law_494 : decode cL_law 494 = .ok (.iconst 0, 1) := by decide +kernel
theorem dL_law_495 : decode cL_law 495 = .ok (.ireturn, 1) := by decide +kernel
theorem dL_law_496 : decode cL_law 496 = .ok (.aload_n 1, 1) := by decide +kernel
theorem dL_law_497 : decode cL_law 497 = .ok (.invokevirtual 48, 3) := by decide +kernel
theorem dL_law_500 : decode cL_law 500 = .ok (.aload_n 2, 1) := by decide +kernel
theorem dL_law_501 : decode cL_law 501 = .ok (.invokevirtual 52, 3) := by decide +kernel
theorem dL_law_504 : decode cL_law 504 = .ok (.if_icmp .eq 921, 3) := by decide +kernel
theorem dL_law_507 : decode cL_law 507 = .ok (.iconst 0, 1) := by decide +kernel
theorem dL_law_508 : decode cL_law 508 = .ok (.ireturn, 1) := by decide +kernel
theorem dL_law_509 : decode cL_law 509 = .ok (.aload_n 1, 1) := by decide +kernel
theorem dL_law_510 : decode cL_law 510 = .ok (.aload_n 0, 1) := by decide +kernel
theorem dL_law_511 : decode cL_law 511 = .ok (.iload_n 3, 1) := by decide +kernel
theorem dL_law_512 : decode cL_law 512 = .ok (.iconst 1, 1) := by decide +kernel
theorem dL_law_513 : decode cL_law 513 = .ok (.iadd, 1) := by decide +kernel
theorem dL_law_514 : decode cL_law 514 = .ok (.iaload, 1) := by decide +kernel
theorem dL_law_515 : decode cL_law 515 = .ok (.invokevirtual 53, 3) := by decide +kernel
theorem dL_law_518 : decode cL_law 518 = .ok (.aload_n 2, 1) := by decide +kernel
theorem dL_law_519 : decode cL_law 519 = .ok (.aload_n 0, 1) := by decide +kernel
theorem dL_law_520 : decode cL_law 520 = .ok (.iload_n 3, 1) := by decide +kernel
theorem dL_law_521 : decode cL_law 521 = .ok (.iconst 1, 1) := by decide +kernel
theorem dL_law_522 : decode cL_law 522 = .ok (.iadd, 1) := by decide +kernel
theorem dL_law_523 : decode cL_law 523 = .ok (.iaload, 1) := by decide +kernel
theorem dL_law_524 : decode cL_law 524 = .ok (.invokevirtual 56, 3) := by decide +kernel
theorem dL_law_527 : decode cL_law 527 = .ok (.if_icmp .eq 898, 3) := by decide +kernel
theorem dL_law_530 : decode cL_law 530 = .ok (.iconst 0, 1) := by decide +kernel
theorem dL_law_531 : decode cL_law 531 = .ok (.ireturn, 1) := by decide +kernel
theorem dL_law_532 : decode cL_law 532 = .ok (.aload_n 1, 1) := by decide +kernel
theorem dL_law_533 : decode cL_law 533 = .ok (.aload_n 0, 1) := by decide +kernel
theorem dL_law_534 : decode cL_law 534 = .ok (.iload_n 3, 1) := by decide +kernel
theorem dL_law_535 : decode cL_law 535 = .ok (.iconst 1, 1) := by decide +kernel
theorem dL_law_536 : decode cL_law 536 = .ok (.iadd, 1) := by decide +kernel
theorem dL_law_537 : decode cL_law 537 = .ok (.iaload, 1) := by decide +kernel
theorem dL_law_538 : decode cL_law 538 = .ok (.invokevirtual 57, 3) := by decide +kernel
theorem dL_law_541 : decode cL_law 541 = .ok (.aload_n 2, 1) := by decide +kernel
theorem dL_law_542 : decode cL_law 542 = .ok (.aload_n 0, 1) := by decide +kernel
theorem dL_law_543 : decode cL_law 543 = .ok (.iload_n 3, 1) := by decide +kernel
theorem dL_law_544 : decode cL_law 544 = .ok (.iconst 1, 1) := by decide +kernel
theorem dL_law_545 : decode cL_law 545 = .ok (.iadd, 1) := by decide +kernel
theorem dL_law_546 : decode cL_law 546 = .ok (.iaload, 1) := by decide +kernel
theorem dL_law_547 : decode cL_law 547 = .ok (.invokevirtual 60, 3) := by decide +kernel
theorem dL_law_550 : decode cL_law 550 = .ok (.if_icmp .eq 875, 3) := by decide +kernel
theorem dL_law_553 : decode cL_law 553 = .ok (.iconst 0, 1) := by decide +kernel
theorem dL_law_554 : decode cL_law 554 = .ok (.ireturn, 1) := by decide +kernel
theorem dL_law_555 : decode cL_law 555 = .ok (.aload_n 1, 1) := by decide +kernel
theorem dL_law_556 : decode cL_law 556 = .ok (.aload_n 0, 1) := by decide +kernel
theorem dL_law_557 : decode cL_law 557 = .ok (.iload_n 3, 1) := by decide +kernel
theorem dL_law_558 : decode cL_law 558 = .ok (.iconst 1, 1) := by decide +kernel
theorem dL_law_559 : decode cL_law 559 = .ok (.iadd, 1) := by decide +kernel
theorem dL_law_560 : decode cL_law 560 = .ok (.iaload, 1) := by decide +kernel
theorem dL_law_561 : decode cL_law 561 = .ok (.invokevirtual 61, 3) := by decide +kernel
theorem dL_law_564 : decode cL_law 564 = .ok (.aload_n 2, 1) := by decide +kernel
theorem dL_law_565 : decode cL_law 565 = .ok (.aload_n 0, 1) := by decide +kernel
theorem dL_law_566 : decode cL_law 566 = .ok (.iload_n 3, 1) := by decide +kernel
theorem dL_law_567 : decode cL_law 567 = .ok (.iconst 1, 1) := by decide +kernel
theorem dL_law_568 : decode cL_law 568 = .ok (.iadd, 1) := by decide +kernel
theorem dL_law_569 : decode cL_law 569 = .ok (.iaload, 1) := by decide +kernel
theorem dL_law_570 : decode cL_law 570 = .ok (.invokevirtual 64, 3) := by decide +kernel
theorem dL_law_573 : decode cL_law 573 = .ok (.if_icmp .eq 852, 3) := by decide +kernel
theorem dL_law_576 : decode cL_law 576 = .ok (.iconst 0, 1) := by decide +kernel
theorem dL_law_577 : decode cL_law 577 = .ok (.ireturn, 1) := by decide +kernel
theorem dL_law_578 : decode cL_law 578 = .ok (.aload_n 1, 1) := by decide +kernel
theorem dL_law_579 : decode cL_law 579 = .ok (.aload_n 0, 1) := by decide +kernel
theorem dL_law_580 : decode cL_law 580 = .ok (.iload_n 3, 1) := by decide +kernel
theorem dL_law_581 : decode cL_law 581 = .ok (.iconst 1, 1) := by decide +kernel
theorem dL_law_582 : decode cL_law 582 = .ok (.iadd, 1) := by decide +kernel
theorem dL_law_583 : decode cL_law 583 = .ok (.iaload, 1) := by decide +kernel
theorem dL_law_584 : decode cL_law 584 = .ok (.invokevirtual 65, 3) := by decide +kernel
theorem dL_law_587 : decode cL_law 587 = .ok (.aload_n 2, 1) := by decide +kernel
theorem dL_law_588 : decode cL_law 588 = .ok (.aload_n 0, 1) := by decide +kernel
theorem dL_law_589 : decode cL_law 589 = .ok (.iload_n 3, 1) := by decide +kernel
theorem dL_law_590 : decode cL_law 590 = .ok (.iconst 1, 1) := by decide +kernel
theorem dL_law_591 : decode cL_law 591 = .ok (.iadd, 1) := by decide +kernel
theorem dL_law_592 : decode cL_law 592 = .ok (.iaload, 1) := by decide +kernel
theorem dL_law_593 : decode cL_law 593 = .ok (.invokevirtual 68, 3) := by decide +kernel
theorem dL_law_596 : decode cL_law 596 = .ok (.if_icmp .eq 829, 3) := by decide +kernel
theorem dL_law_599 : decode cL_law 599 = .ok (.iconst 0, 1) := by decide +kernel
theorem dL_law_600 : decode cL_law 600 = .ok (.ireturn, 1) := by decide +kernel
theorem dL_law_601 : decode cL_law 601 = .ok (.aload_n 1, 1) := by decide +kernel
theorem dL_law_602 : decode cL_law 602 = .ok (.aload_n 0, 1) := by decide +kernel
theorem dL_law_603 : decode cL_law 603 = .ok (.iload_n 3, 1) := by decide +kernel
theorem dL_law_604 : decode cL_law 604 = .ok (.iconst 1, 1) := by decide +kernel
theorem dL_law_605 : decode cL_law 605 = .ok (.iadd, 1) := by decide +kernel
theorem dL_law_606 : decode cL_law 606 = .ok (.iaload, 1) := by decide +kernel
theorem dL_law_607 : decode cL_law 607 = .ok (.aload_n 0, 1) := by decide +kernel
theorem dL_law_608 : decode cL_law 608 = .ok (.iload_n 3, 1) := by decide +kernel
theorem dL_law_609 : decode cL_law 609 = .ok (.iconst 2, 1) := by decide +kernel
theorem dL_law_610 : decode cL_law 610 = .ok (.iadd, 1) := by decide +kernel
theorem dL_law_611 : decode cL_law 611 = .ok (.iaload, 1) := by decide +kernel
theorem dL_law_612 : decode cL_law 612 = .ok (.invokevirtual 69, 3) := by decide +kernel
theorem dL_law_615 : decode cL_law 615 = .ok (.aload_n 2, 1) := by decide +kernel
theorem dL_law_616 : decode cL_law 616 = .ok (.aload_n 0, 1) := by decide +kernel
theorem dL_law_617 : decode cL_law 617 = .ok (.iload_n 3, 1) := by decide +kernel
theorem dL_law_618 : decode cL_law 618 = .ok (.iconst 1, 1) := by decide +kernel
theorem dL_law_619 : decode cL_law 619 = .ok (.iadd, 1) := by decide +kernel
theorem dL_law_620 : decode cL_law 620 = .ok (.iaload, 1) := by decide +kernel
theorem dL_law_621 : decode cL_law 621 = .ok (.aload_n 0, 1) := by decide +kernel
theorem dL_law_622 : decode cL_law 622 = .ok (.iload_n 3, 1) := by decide +kernel
theorem dL_law_623 : decode cL_law 623 = .ok (.iconst 2, 1) := by decide +kernel
theorem dL_law_624 : decode cL_law 624 = .ok (.iadd, 1) := by decide +kernel
theorem dL_law_625 : decode cL_law 625 = .ok (.iaload, 1) := by decide +kernel
theorem dL_law_626 : decode cL_law 626 = .ok (.invokevirtual 72, 3) := by decide +kernel
theorem dL_law_629 : decode cL_law 629 = .ok (.if_icmp .eq 796, 3) := by decide +kernel
theorem dL_law_632 : decode cL_law 632 = .ok (.iconst 0, 1) := by decide +kernel
theorem dL_law_633 : decode cL_law 633 = .ok (.ireturn, 1) := by decide +kernel
theorem dL_law_634 : decode cL_law 634 = .ok (.aload_n 1, 1) := by decide +kernel
theorem dL_law_635 : decode cL_law 635 = .ok (.aload_n 0, 1) := by decide +kernel
theorem dL_law_636 : decode cL_law 636 = .ok (.iload_n 3, 1) := by decide +kernel
theorem dL_law_637 : decode cL_law 637 = .ok (.iconst 1, 1) := by decide +kernel
theorem dL_law_638 : decode cL_law 638 = .ok (.iadd, 1) := by decide +kernel
theorem dL_law_639 : decode cL_law 639 = .ok (.iaload, 1) := by decide +kernel
theorem dL_law_640 : decode cL_law 640 = .ok (.aload_n 0, 1) := by decide +kernel
theorem dL_law_641 : decode cL_law 641 = .ok (.iload_n 3, 1) := by decide +kernel
theorem dL_law_642 : decode cL_law 642 = .ok (.iconst 2, 1) := by decide +kernel
theorem dL_law_643 : decode cL_law 643 = .ok (.iadd, 1) := by decide +kernel
theorem dL_law_644 : decode cL_law 644 = .ok (.iaload, 1) := by decide +kernel
theorem dL_law_645 : decode cL_law 645 = .ok (.invokevirtual 73, 3) := by decide +kernel
theorem dL_law_648 : decode cL_law 648 = .ok (.aload_n 2, 1) := by decide +kernel
theorem dL_law_649 : decode cL_law 649 = .ok (.aload_n 0, 1) := by decide +kernel
theorem dL_law_650 : decode cL_law 650 = .ok (.iload_n 3, 1) := by decide +kernel
theorem dL_law_651 : decode cL_law 651 = .ok (.iconst 1, 1) := by decide +kernel
theorem dL_law_652 : decode cL_law 652 = .ok (.iadd, 1) := by decide +kernel
theorem dL_law_653 : decode cL_law 653 = .ok (.iaload, 1) := by decide +kernel
theorem dL_law_654 : decode cL_law 654 = .ok (.aload_n 0, 1) := by decide +kernel
theorem dL_law_655 : decode cL_law 655 = .ok (.iload_n 3, 1) := by decide +kernel
theorem dL_law_656 : decode cL_law 656 = .ok (.iconst 2, 1) := by decide +kernel
theorem dL_law_657 : decode cL_law 657 = .ok (.iadd, 1) := by decide +kernel
theorem dL_law_658 : decode cL_law 658 = .ok (.iaload, 1) := by decide +kernel
theorem dL_law_659 : decode cL_law 659 = .ok (.invokevirtual 76, 3) := by decide +kernel
theorem dL_law_662 : decode cL_law 662 = .ok (.if_icmp .eq 763, 3) := by decide +kernel
theorem dL_law_665 : decode cL_law 665 = .ok (.iconst 0, 1) := by decide +kernel
theorem dL_law_666 : decode cL_law 666 = .ok (.ireturn, 1) := by decide +kernel
theorem dL_law_667 : decode cL_law 667 = .ok (.aload_n 1, 1) := by decide +kernel
theorem dL_law_668 : decode cL_law 668 = .ok (.invokevirtual 77, 3) := by decide +kernel
theorem dL_law_671 : decode cL_law 671 = .ok (.aload_n 2, 1) := by decide +kernel
theorem dL_law_672 : decode cL_law 672 = .ok (.invokevirtual 80, 3) := by decide +kernel
theorem dL_law_675 : decode cL_law 675 = .ok (.if_icmp .eq 750, 3) := by decide +kernel
theorem dL_law_678 : decode cL_law 678 = .ok (.iconst 0, 1) := by decide +kernel
theorem dL_law_679 : decode cL_law 679 = .ok (.ireturn, 1) := by decide +kernel
theorem dL_law_680 : decode cL_law 680 = .ok (.aload_n 1, 1) := by decide +kernel
theorem dL_law_681 : decode cL_law 681 = .ok (.aload_n 0, 1) := by decide +kernel
theorem dL_law_682 : decode cL_law 682 = .ok (.iload_n 3, 1) := by decide +kernel
theorem dL_law_683 : decode cL_law 683 = .ok (.iconst 1, 1) := by decide +kernel
theorem dL_law_684 : decode cL_law 684 = .ok (.iadd, 1) := by decide +kernel
theorem dL_law_685 : decode cL_law 685 = .ok (.iaload, 1) := by decide +kernel
theorem dL_law_686 : decode cL_law 686 = .ok (.aload_n 0, 1) := by decide +kernel
theorem dL_law_687 : decode cL_law 687 = .ok (.iload_n 3, 1) := by decide +kernel
theorem dL_law_688 : decode cL_law 688 = .ok (.iconst 2, 1) := by decide +kernel
theorem dL_law_689 : decode cL_law 689 = .ok (.iadd, 1) := by decide +kernel
theorem dL_law_690 : decode cL_law 690 = .ok (.iaload, 1) := by decide +kernel
theorem dL_law_691 : decode cL_law 691 = .ok (.invokevirtual 81, 3) := by decide +kernel
theorem dL_law_694 : decode cL_law 694 = .ok (.aload_n 2, 1) := by decide +kernel
theorem dL_law_695 : decode cL_law 695 = .ok (.aload_n 0, 1) := by decide +kernel
theorem dL_law_696 : decode cL_law 696 = .ok (.iload_n 3, 1) := by decide +kernel
theorem dL_law_697 : decode cL_law 697 = .ok (.iconst 1, 1) := by decide +kernel
theorem dL_law_698 : decode cL_law 698 = .ok (.iadd, 1) := by decide +kernel
theorem dL_law_699 : decode cL_law 699 = .ok (.iaload, 1) := by decide +kernel
theorem dL_law_700 : decode cL_law 700 = .ok (.aload_n 0, 1) := by decide +kernel
theorem dL_law_701 : decode cL_law 701 = .ok (.iload_n 3, 1) := by decide +kernel
theorem dL_law_702 : decode cL_law 702 = .ok (.iconst 2, 1) := by decide +kernel
theorem dL_law_703 : decode cL_law 703 = .ok (.iadd, 1) := by decide +kernel
theorem dL_law_704 : decode cL_law 704 = .ok (.iaload, 1) := by decide +kernel
theorem dL_law_705 : decode cL_law 705 = .ok (.invokevirtual 84, 3) := by decide +kernel
theorem dL_law_708 : decode cL_law 708 = .ok (.if_icmp .eq 717, 3) := by decide +kernel
theorem dL_law_711 : decode cL_law 711 = .ok (.iconst 0, 1) := by decide +kernel
theorem dL_law_712 : decode cL_law 712 = .ok (.ireturn, 1) := by decide +kernel
theorem dL_law_713 : decode cL_law 713 = .ok (.aload_n 1, 1) := by decide +kernel
theorem dL_law_714 : decode cL_law 714 = .ok (.aload_n 0, 1) := by decide +kernel
theorem dL_law_715 : decode cL_law 715 = .ok (.iload_n 3, 1) := by decide +kernel
theorem dL_law_716 : decode cL_law 716 = .ok (.iconst 1, 1) := by decide +kernel
theorem dL_law_717 : decode cL_law 717 = .ok (.iadd, 1) := by decide +kernel
theorem dL_law_718 : decode cL_law 718 = .ok (.iaload, 1) := by decide +kernel
theorem dL_law_719 : decode cL_law 719 = .ok (.aload_n 0, 1) := by decide +kernel
theorem dL_law_720 : decode cL_law 720 = .ok (.iload_n 3, 1) := by decide +kernel
theorem dL_law_721 : decode cL_law 721 = .ok (.iconst 2, 1) := by decide +kernel
theorem dL_law_722 : decode cL_law 722 = .ok (.iadd, 1) := by decide +kernel
theorem dL_law_723 : decode cL_law 723 = .ok (.iaload, 1) := by decide +kernel
theorem dL_law_724 : decode cL_law 724 = .ok (.invokevirtual 85, 3) := by decide +kernel
theorem dL_law_727 : decode cL_law 727 = .ok (.aload_n 2, 1) := by decide +kernel
theorem dL_law_728 : decode cL_law 728 = .ok (.aload_n 0, 1) := by decide +kernel
theorem dL_law_729 : decode cL_law 729 = .ok (.iload_n 3, 1) := by decide +kernel
theorem dL_law_730 : decode cL_law 730 = .ok (.iconst 1, 1) := by decide +kernel
theorem dL_law_731 : decode cL_law 731 = .ok (.iadd, 1) := by decide +kernel
theorem dL_law_732 : decode cL_law 732 = .ok (.iaload, 1) := by decide +kernel
theorem dL_law_733 : decode cL_law 733 = .ok (.aload_n 0, 1) := by decide +kernel
theorem dL_law_734 : decode cL_law 734 = .ok (.iload_n 3, 1) := by decide +kernel
theorem dL_law_735 : decode cL_law 735 = .ok (.iconst 2, 1) := by decide +kernel
theorem dL_law_736 : decode cL_law 736 = .ok (.iadd, 1) := by decide +kernel
theorem dL_law_737 : decode cL_law 737 = .ok (.iaload, 1) := by decide +kernel
theorem dL_law_738 : decode cL_law 738 = .ok (.invokevirtual 88, 3) := by decide +kernel
theorem dL_law_741 : decode cL_law 741 = .ok (.if_icmp .eq 684, 3) := by decide +kernel
theorem dL_law_744 : decode cL_law 744 = .ok (.iconst 0, 1) := by decide +kernel
theorem dL_law_745 : decode cL_law 745 = .ok (.ireturn, 1) := by decide +kernel
theorem dL_law_746 : decode cL_law 746 = .ok (.aload_n 1, 1) := by decide +kernel
theorem dL_law_747 : decode cL_law 747 = .ok (.aload_n 0, 1) := by decide +kernel
theorem dL_law_748 : decode cL_law 748 = .ok (.iload_n 3, 1) := by decide +kernel
theorem dL_law_749 : decode cL_law 749 = .ok (.iconst 1, 1) := by decide +kernel
theorem dL_law_750 : decode cL_law 750 = .ok (.iadd, 1) := by decide +kernel
theorem dL_law_751 : decode cL_law 751 = .ok (.iaload, 1) := by decide +kernel
theorem dL_law_752 : decode cL_law 752 = .ok (.aload_n 0, 1) := by decide +kernel
theorem dL_law_753 : decode cL_law 753 = .ok (.iload_n 3, 1) := by decide +kernel
theorem dL_law_754 : decode cL_law 754 = .ok (.iconst 2, 1) := by decide +kernel
theorem dL_law_755 : decode cL_law 755 = .ok (.iadd, 1) := by decide +kernel
theorem dL_law_756 : decode cL_law 756 = .ok (.iaload, 1) := by decide +kernel
theorem dL_law_757 : decode cL_law 757 = .ok (.invokevirtual 89, 3) := by decide +kernel
theorem dL_law_760 : decode cL_law 760 = .ok (.aload_n 2, 1) := by decide +kernel
theorem dL_law_761 : decode cL_law 761 = .ok (.aload_n 0, 1) := by decide +kernel
theorem dL_law_762 : decode cL_law 762 = .ok (.iload_n 3, 1) := by decide +kernel
theorem dL_law_763 : decode cL_law 763 = .ok (.iconst 1, 1) := by decide +kernel
theorem dL_law_764 : decode cL_law 764 = .ok (.iadd, 1) := by decide +kernel
theorem dL_law_765 : decode cL_law 765 = .ok (.iaload, 1) := by decide +kernel
theorem dL_law_766 : decode cL_law 766 = .ok (.aload_n 0, 1) := by decide +kernel
theorem dL_law_767 : decode cL_law 767 = .ok (.iload_n 3, 1) := by decide +kernel
theorem dL_law_768 : decode cL_law 768 = .ok (.iconst 2, 1) := by decide +kernel
theorem dL_law_769 : decode cL_law 769 = .ok (.iadd, 1) := by decide +kernel
theorem dL_law_770 : decode cL_law 770 = .ok (.iaload, 1) := by decide +kernel
theorem dL_law_771 : decode cL_law 771 = .ok (.invokevirtual 92, 3) := by decide +kernel
theorem dL_law_774 : decode cL_law 774 = .ok (.if_icmp .eq 651, 3) := by decide +kernel
theorem dL_law_777 : decode cL_law 777 = .ok (.iconst 0, 1) := by decide +kernel
theorem dL_law_778 : decode cL_law 778 = .ok (.ireturn, 1) := by decide +kernel
theorem dL_law_779 : decode cL_law 779 = .ok (.aload_n 1, 1) := by decide +kernel
theorem dL_law_780 : decode cL_law 780 = .ok (.aload_n 0, 1) := by decide +kernel
theorem dL_law_781 : decode cL_law 781 = .ok (.iload_n 3, 1) := by decide +kernel
theorem dL_law_782 : decode cL_law 782 = .ok (.iconst 1, 1) := by decide +kernel
theorem dL_law_783 : decode cL_law 783 = .ok (.iadd, 1) := by decide +kernel
theorem dL_law_784 : decode cL_law 784 = .ok (.iaload, 1) := by decide +kernel
theorem dL_law_785 : decode cL_law 785 = .ok (.aload_n 0, 1) := by decide +kernel
theorem dL_law_786 : decode cL_law 786 = .ok (.iload_n 3, 1) := by decide +kernel
theorem dL_law_787 : decode cL_law 787 = .ok (.iconst 2, 1) := by decide +kernel
theorem dL_law_788 : decode cL_law 788 = .ok (.iadd, 1) := by decide +kernel
theorem dL_law_789 : decode cL_law 789 = .ok (.iaload, 1) := by decide +kernel
theorem dL_law_790 : decode cL_law 790 = .ok (.aload_n 0, 1) := by decide +kernel
theorem dL_law_791 : decode cL_law 791 = .ok (.iload_n 3, 1) := by decide +kernel
theorem dL_law_792 : decode cL_law 792 = .ok (.iconst 3, 1) := by decide +kernel
theorem dL_law_793 : decode cL_law 793 = .ok (.iadd, 1) := by decide +kernel
theorem dL_law_794 : decode cL_law 794 = .ok (.iaload, 1) := by decide +kernel
theorem dL_law_795 : decode cL_law 795 = .ok (.invokevirtual 93, 3) := by decide +kernel
theorem dL_law_798 : decode cL_law 798 = .ok (.aload_n 2, 1) := by decide +kernel
theorem dL_law_799 : decode cL_law 799 = .ok (.aload_n 0, 1) := by decide +kernel
theorem dL_law_800 : decode cL_law 800 = .ok (.iload_n 3, 1) := by decide +kernel
theorem dL_law_801 : decode cL_law 801 = .ok (.iconst 1, 1) := by decide +kernel
theorem dL_law_802 : decode cL_law 802 = .ok (.iadd, 1) := by decide +kernel
theorem dL_law_803 : decode cL_law 803 = .ok (.iaload, 1) := by decide +kernel
theorem dL_law_804 : decode cL_law 804 = .ok (.aload_n 0, 1) := by decide +kernel
theorem dL_law_805 : decode cL_law 805 = .ok (.iload_n 3, 1) := by decide +kernel
theorem dL_law_806 : decode cL_law 806 = .ok (.iconst 2, 1) := by decide +kernel
theorem dL_law_807 : decode cL_law 807 = .ok (.iadd, 1) := by decide +kernel
theorem dL_law_808 : decode cL_law 808 = .ok (.iaload, 1) := by decide +kernel
theorem dL_law_809 : decode cL_law 809 = .ok (.aload_n 0, 1) := by decide +kernel
theorem dL_law_810 : decode cL_law 810 = .ok (.iload_n 3, 1) := by decide +kernel
theorem dL_law_811 : decode cL_law 811 = .ok (.iconst 3, 1) := by decide +kernel
theorem dL_law_812 : decode cL_law 812 = .ok (.iadd, 1) := by decide +kernel
theorem dL_law_813 : decode cL_law 813 = .ok (.iaload, 1) := by decide +kernel
theorem dL_law_814 : decode cL_law 814 = .ok (.invokevirtual 96, 3) := by decide +kernel
theorem dL_law_817 : decode cL_law 817 = .ok (.if_icmp .eq 608, 3) := by decide +kernel
theorem dL_law_820 : decode cL_law 820 = .ok (.iconst 0, 1) := by decide +kernel
theorem dL_law_821 : decode cL_law 821 = .ok (.ireturn, 1) := by decide +kernel
theorem dL_law_822 : decode cL_law 822 = .ok (.aload_n 1, 1) := by decide +kernel
theorem dL_law_823 : decode cL_law 823 = .ok (.invokevirtual 97, 3) := by decide +kernel
theorem dL_law_826 : decode cL_law 826 = .ok (.aload_n 2, 1) := by decide +kernel
theorem dL_law_827 : decode cL_law 827 = .ok (.invokevirtual 100, 3) := by decide +kernel
theorem dL_law_830 : decode cL_law 830 = .ok (.if_icmp .eq 595, 3) := by decide +kernel
theorem dL_law_833 : decode cL_law 833 = .ok (.iconst 0, 1) := by decide +kernel
theorem dL_law_834 : decode cL_law 834 = .ok (.ireturn, 1) := by decide +kernel
theorem dL_law_835 : decode cL_law 835 = .ok (.aload_n 1, 1) := by decide +kernel
theorem dL_law_836 : decode cL_law 836 = .ok (.aload_n 0, 1) := by decide +kernel
theorem dL_law_837 : decode cL_law 837 = .ok (.iload_n 3, 1) := by decide +kernel
theorem dL_law_838 : decode cL_law 838 = .ok (.iconst 1, 1) := by decide +kernel
theorem dL_law_839 : decode cL_law 839 = .ok (.iadd, 1) := by decide +kernel
theorem dL_law_840 : decode cL_law 840 = .ok (.iaload, 1) := by decide +kernel
theorem dL_law_841 : decode cL_law 841 = .ok (.invokevirtual 101, 3) := by decide +kernel
theorem dL_law_844 : decode cL_law 844 = .ok (.aload_n 2, 1) := by decide +kernel
theorem dL_law_845 : decode cL_law 845 = .ok (.aload_n 0, 1) := by decide +kernel
theorem dL_law_846 : decode cL_law 846 = .ok (.iload_n 3, 1) := by decide +kernel
theorem dL_law_847 : decode cL_law 847 = .ok (.iconst 1, 1) := by decide +kernel
theorem dL_law_848 : decode cL_law 848 = .ok (.iadd, 1) := by decide +kernel
theorem dL_law_849 : decode cL_law 849 = .ok (.iaload, 1) := by decide +kernel
theorem dL_law_850 : decode cL_law 850 = .ok (.invokevirtual 104, 3) := by decide +kernel
theorem dL_law_853 : decode cL_law 853 = .ok (.if_icmp .eq 572, 3) := by decide +kernel
theorem dL_law_856 : decode cL_law 856 = .ok (.iconst 0, 1) := by decide +kernel
theorem dL_law_857 : decode cL_law 857 = .ok (.ireturn, 1) := by decide +kernel
theorem dL_law_858 : decode cL_law 858 = .ok (.aload_n 1, 1) := by decide +kernel
theorem dL_law_859 : decode cL_law 859 = .ok (.aload_n 0, 1) := by decide +kernel
theorem dL_law_860 : decode cL_law 860 = .ok (.iload_n 3, 1) := by decide +kernel
theorem dL_law_861 : decode cL_law 861 = .ok (.iconst 1, 1) := by decide +kernel
theorem dL_law_862 : decode cL_law 862 = .ok (.iadd, 1) := by decide +kernel
theorem dL_law_863 : decode cL_law 863 = .ok (.iaload, 1) := by decide +kernel
theorem dL_law_864 : decode cL_law 864 = .ok (.aload_n 0, 1) := by decide +kernel
theorem dL_law_865 : decode cL_law 865 = .ok (.iload_n 3, 1) := by decide +kernel
theorem dL_law_866 : decode cL_law 866 = .ok (.iconst 2, 1) := by decide +kernel
theorem dL_law_867 : decode cL_law 867 = .ok (.iadd, 1) := by decide +kernel
theorem dL_law_868 : decode cL_law 868 = .ok (.iaload, 1) := by decide +kernel
theorem dL_law_869 : decode cL_law 869 = .ok (.aload_n 0, 1) := by decide +kernel
theorem dL_law_870 : decode cL_law 870 = .ok (.iload_n 3, 1) := by decide +kernel
theorem dL_law_871 : decode cL_law 871 = .ok (.iconst 3, 1) := by decide +kernel
theorem dL_law_872 : decode cL_law 872 = .ok (.iadd, 1) := by decide +kernel
theorem dL_law_873 : decode cL_law 873 = .ok (.iaload, 1) := by decide +kernel
theorem dL_law_874 : decode cL_law 874 = .ok (.invokevirtual 105, 3) := by decide +kernel
theorem dL_law_877 : decode cL_law 877 = .ok (.aload_n 2, 1) := by decide +kernel
theorem dL_law_878 : decode cL_law 878 = .ok (.aload_n 0, 1) := by decide +kernel
theorem dL_law_879 : decode cL_law 879 = .ok (.iload_n 3, 1) := by decide +kernel
theorem dL_law_880 : decode cL_law 880 = .ok (.iconst 1, 1) := by decide +kernel
theorem dL_law_881 : decode cL_law 881 = .ok (.iadd, 1) := by decide +kernel
theorem dL_law_882 : decode cL_law 882 = .ok (.iaload, 1) := by decide +kernel
theorem dL_law_883 : decode cL_law 883 = .ok (.aload_n 0, 1) := by decide +kernel
theorem dL_law_884 : decode cL_law 884 = .ok (.iload_n 3, 1) := by decide +kernel
theorem dL_law_885 : decode cL_law 885 = .ok (.iconst 2, 1) := by decide +kernel
theorem dL_law_886 : decode cL_law 886 = .ok (.iadd, 1) := by decide +kernel
theorem dL_law_887 : decode cL_law 887 = .ok (.iaload, 1) := by decide +kernel
theorem dL_law_888 : decode cL_law 888 = .ok (.aload_n 0, 1) := by decide +kernel
theorem dL_law_889 : decode cL_law 889 = .ok (.iload_n 3, 1) := by decide +kernel
theorem dL_law_890 : decode cL_law 890 = .ok (.iconst 3, 1) := by decide +kernel
theorem dL_law_891 : decode cL_law 891 = .ok (.iadd, 1) := by decide +kernel
theorem dL_law_892 : decode cL_law 892 = .ok (.iaload, 1) := by decide +kernel
theorem dL_law_893 : decode cL_law 893 = .ok (.invokevirtual 108, 3) := by decide +kernel
theorem dL_law_896 : decode cL_law 896 = .ok (.if_icmp .eq 529, 3) := by decide +kernel
theorem dL_law_899 : decode cL_law 899 = .ok (.iconst 0, 1) := by decide +kernel
theorem dL_law_900 : decode cL_law 900 = .ok (.ireturn, 1) := by decide +kernel
theorem dL_law_901 : decode cL_law 901 = .ok (.aload_n 1, 1) := by decide +kernel
theorem dL_law_902 : decode cL_law 902 = .ok (.aload_n 0, 1) := by decide +kernel
theorem dL_law_903 : decode cL_law 903 = .ok (.iload_n 3, 1) := by decide +kernel
theorem dL_law_904 : decode cL_law 904 = .ok (.iconst 1, 1) := by decide +kernel
theorem dL_law_905 : decode cL_law 905 = .ok (.iadd, 1) := by decide +kernel
theorem dL_law_906 : decode cL_law 906 = .ok (.iaload, 1) := by decide +kernel
theorem dL_law_907 : decode cL_law 907 = .ok (.invokevirtual 109, 3) := by decide +kernel
theorem dL_law_910 : decode cL_law 910 = .ok (.aload_n 2, 1) := by decide +kernel
theorem dL_law_911 : decode cL_law 911 = .ok (.aload_n 0, 1) := by decide +kernel
theorem dL_law_912 : decode cL_law 912 = .ok (.iload_n 3, 1) := by decide +kernel
theorem dL_law_913 : decode cL_law 913 = .ok (.iconst 1, 1) := by decide +kernel
theorem dL_law_914 : decode cL_law 914 = .ok (.iadd, 1) := by decide +kernel
theorem dL_law_915 : decode cL_law 915 = .ok (.iaload, 1) := by decide +kernel
theorem dL_law_916 : decode cL_law 916 = .ok (.invokevirtual 112, 3) := by decide +kernel
theorem dL_law_919 : decode cL_law 919 = .ok (.if_icmp .eq 506, 3) := by decide +kernel
theorem dL_law_922 : decode cL_law 922 = .ok (.iconst 0, 1) := by decide +kernel
theorem dL_law_923 : decode cL_law 923 = .ok (.ireturn, 1) := by decide +kernel
theorem dL_law_924 : decode cL_law 924 = .ok (.aload_n 1, 1) := by decide +kernel
theorem dL_law_925 : decode cL_law 925 = .ok (.invokevirtual 113, 3) := by decide +kernel
theorem dL_law_928 : decode cL_law 928 = .ok (.aload_n 2, 1) := by decide +kernel
theorem dL_law_929 : decode cL_law 929 = .ok (.invokevirtual 116, 3) := by decide +kernel
theorem dL_law_932 : decode cL_law 932 = .ok (.if_icmp .eq 493, 3) := by decide +kernel
theorem dL_law_935 : decode cL_law 935 = .ok (.iconst 0, 1) := by decide +kernel
theorem dL_law_936 : decode cL_law 936 = .ok (.ireturn, 1) := by decide +kernel
theorem dL_law_937 : decode cL_law 937 = .ok (.aload_n 1, 1) := by decide +kernel
theorem dL_law_938 : decode cL_law 938 = .ok (.aload_n 0, 1) := by decide +kernel
theorem dL_law_939 : decode cL_law 939 = .ok (.iload_n 3, 1) := by decide +kernel
theorem dL_law_940 : decode cL_law 940 = .ok (.iconst 1, 1) := by decide +kernel
theorem dL_law_941 : decode cL_law 941 = .ok (.iadd, 1) := by decide +kernel
theorem dL_law_942 : decode cL_law 942 = .ok (.iaload, 1) := by decide +kernel
theorem dL_law_943 : decode cL_law 943 = .ok (.aload_n 0, 1) := by decide +kernel
theorem dL_law_944 : decode cL_law 944 = .ok (.iload_n 3, 1) := by decide +kernel
theorem dL_law_945 : decode cL_law 945 = .ok (.iconst 2, 1) := by decide +kernel
theorem dL_law_946 : decode cL_law 946 = .ok (.iadd, 1) := by decide +kernel
theorem dL_law_947 : decode cL_law 947 = .ok (.iaload, 1) := by decide +kernel
theorem dL_law_948 : decode cL_law 948 = .ok (.invokevirtual 117, 3) := by decide +kernel
theorem dL_law_951 : decode cL_law 951 = .ok (.aload_n 2, 1) := by decide +kernel
theorem dL_law_952 : decode cL_law 952 = .ok (.aload_n 0, 1) := by decide +kernel
theorem dL_law_953 : decode cL_law 953 = .ok (.iload_n 3, 1) := by decide +kernel
theorem dL_law_954 : decode cL_law 954 = .ok (.iconst 1, 1) := by decide +kernel
theorem dL_law_955 : decode cL_law 955 = .ok (.iadd, 1) := by decide +kernel
theorem dL_law_956 : decode cL_law 956 = .ok (.iaload, 1) := by decide +kernel
theorem dL_law_957 : decode cL_law 957 = .ok (.aload_n 0, 1) := by decide +kernel
theorem dL_law_958 : decode cL_law 958 = .ok (.iload_n 3, 1) := by decide +kernel
theorem dL_law_959 : decode cL_law 959 = .ok (.iconst 2, 1) := by decide +kernel
theorem dL_law_960 : decode cL_law 960 = .ok (.iadd, 1) := by decide +kernel
theorem dL_law_961 : decode cL_law 961 = .ok (.iaload, 1) := by decide +kernel
theorem dL_law_962 : decode cL_law 962 = .ok (.invokevirtual 120, 3) := by decide +kernel
theorem dL_law_965 : decode cL_law 965 = .ok (.if_icmp .eq 460, 3) := by decide +kernel
theorem dL_law_968 : decode cL_law 968 = .ok (.iconst 0, 1) := by decide +kernel
theorem dL_law_969 : decode cL_law 969 = .ok (.ireturn, 1) := by decide +kernel
theorem dL_law_970 : decode cL_law 970 = .ok (.aload_n 1, 1) := by decide +kernel
theorem dL_law_971 : decode cL_law 971 = .ok (.aload_n 0, 1) := by decide +kernel
theorem dL_law_972 : decode cL_law 972 = .ok (.iload_n 3, 1) := by decide +kernel
theorem dL_law_973 : decode cL_law 973 = .ok (.iconst 1, 1) := by decide +kernel
theorem dL_law_974 : decode cL_law 974 = .ok (.iadd, 1) := by decide +kernel
theorem dL_law_975 : decode cL_law 975 = .ok (.iaload, 1) := by decide +kernel
theorem dL_law_976 : decode cL_law 976 = .ok (.invokevirtual 121, 3) := by decide +kernel
theorem dL_law_979 : decode cL_law 979 = .ok (.aload_n 2, 1) := by decide +kernel
theorem dL_law_980 : decode cL_law 980 = .ok (.aload_n 0, 1) := by decide +kernel
theorem dL_law_981 : decode cL_law 981 = .ok (.iload_n 3, 1) := by decide +kernel
theorem dL_law_982 : decode cL_law 982 = .ok (.iconst 1, 1) := by decide +kernel
theorem dL_law_983 : decode cL_law 983 = .ok (.iadd, 1) := by decide +kernel
theorem dL_law_984 : decode cL_law 984 = .ok (.iaload, 1) := by decide +kernel
theorem dL_law_985 : decode cL_law 985 = .ok (.invokevirtual 124, 3) := by decide +kernel
theorem dL_law_988 : decode cL_law 988 = .ok (.if_icmp .eq 437, 3) := by decide +kernel
theorem dL_law_991 : decode cL_law 991 = .ok (.iconst 0, 1) := by decide +kernel
theorem dL_law_992 : decode cL_law 992 = .ok (.ireturn, 1) := by decide +kernel
theorem dL_law_993 : decode cL_law 993 = .ok (.aload_n 1, 1) := by decide +kernel
theorem dL_law_994 : decode cL_law 994 = .ok (.aload_n 0, 1) := by decide +kernel
theorem dL_law_995 : decode cL_law 995 = .ok (.iload_n 3, 1) := by decide +kernel
theorem dL_law_996 : decode cL_law 996 = .ok (.iconst 1, 1) := by decide +kernel
theorem dL_law_997 : decode cL_law 997 = .ok (.iadd, 1) := by decide +kernel
theorem dL_law_998 : decode cL_law 998 = .ok (.iaload, 1) := by decide +kernel
theorem dL_law_999 : decode cL_law 999 = .ok (.aload_n 0, 1) := by decide +kernel
theorem dL_law_1000 : decode cL_law 1000 = .ok (.iload_n 3, 1) := by decide +kernel
theorem dL_law_1001 : decode cL_law 1001 = .ok (.iconst 2, 1) := by decide +kernel
theorem dL_law_1002 : decode cL_law 1002 = .ok (.iadd, 1) := by decide +kernel
theorem dL_law_1003 : decode cL_law 1003 = .ok (.iaload, 1) := by decide +kernel
theorem dL_law_1004 : decode cL_law 1004 = .ok (.aload_n 0, 1) := by decide +kernel
theorem dL_law_1005 : decode cL_law 1005 = .ok (.iload_n 3, 1) := by decide +kernel
theorem dL_law_1006 : decode cL_law 1006 = .ok (.iconst 3, 1) := by decide +kernel
theorem dL_law_1007 : decode cL_law 1007 = .ok (.iadd, 1) := by decide +kernel
theorem dL_law_1008 : decode cL_law 1008 = .ok (.iaload, 1) := by decide +kernel
theorem dL_law_1009 : decode cL_law 1009 = .ok (.invokevirtual 125, 3) := by decide +kernel
theorem dL_law_1012 : decode cL_law 1012 = .ok (.aload_n 2, 1) := by decide +kernel
theorem dL_law_1013 : decode cL_law 1013 = .ok (.aload_n 0, 1) := by decide +kernel
theorem dL_law_1014 : decode cL_law 1014 = .ok (.iload_n 3, 1) := by decide +kernel
theorem dL_law_1015 : decode cL_law 1015 = .ok (.iconst 1, 1) := by decide +kernel
theorem dL_law_1016 : decode cL_law 1016 = .ok (.iadd, 1) := by decide +kernel
theorem dL_law_1017 : decode cL_law 1017 = .ok (.iaload, 1) := by decide +kernel
theorem dL_law_1018 : decode cL_law 1018 = .ok (.aload_n 0, 1) := by decide +kernel
theorem dL_law_1019 : decode cL_law 1019 = .ok (.iload_n 3, 1) := by decide +kernel
theorem dL_law_1020 : decode cL_law 1020 = .ok (.iconst 2, 1) := by decide +kernel
theorem dL_law_1021 : decode cL_law 1021 = .ok (.iadd, 1) := by decide +kernel
theorem dL_law_1022 : decode cL_law 1022 = .ok (.iaload, 1) := by decide +kernel
theorem dL_law_1023 : decode cL_law 1023 = .ok (.aload_n 0, 1) := by decide +kernel
theorem dL_law_1024 : decode cL_law 1024 = .ok (.iload_n 3, 1) := by decide +kernel
theorem dL_law_1025 : decode cL_law 1025 = .ok (.iconst 3, 1) := by decide +kernel
theorem dL_law_1026 : decode cL_law 1026 = .ok (.iadd, 1) := by decide +kernel
theorem dL_law_1027 : decode cL_law 1027 = .ok (.iaload, 1) := by decide +kernel
theorem dL_law_1028 : decode cL_law 1028 = .ok (.invokevirtual 128, 3) := by decide +kernel
theorem dL_law_1031 : decode cL_law 1031 = .ok (.if_icmp .eq 394, 3) := by decide +kernel
theorem dL_law_1034 : decode cL_law 1034 = .ok (.iconst 0, 1) := by decide +kernel
theorem dL_law_1035 : decode cL_law 1035 = .ok (.ireturn, 1) := by decide +kernel
theorem dL_law_1036 : decode cL_law 1036 = .ok (.aload_n 1, 1) := by decide +kernel
theorem dL_law_1037 : decode cL_law 1037 = .ok (.aload_n 0, 1) := by decide +kernel
theorem dL_law_1038 : decode cL_law 1038 = .ok (.iload_n 3, 1) := by decide +kernel
theorem dL_law_1039 : decode cL_law 1039 = .ok (.iconst 1, 1) := by decide +kernel
theorem dL_law_1040 : decode cL_law 1040 = .ok (.iadd, 1) := by decide +kernel
theorem dL_law_1041 : decode cL_law 1041 = .ok (.iaload, 1) := by decide +kernel
theorem dL_law_1042 : decode cL_law 1042 = .ok (.aload_n 0, 1) := by decide +kernel
theorem dL_law_1043 : decode cL_law 1043 = .ok (.iload_n 3, 1) := by decide +kernel
theorem dL_law_1044 : decode cL_law 1044 = .ok (.iconst 2, 1) := by decide +kernel
theorem dL_law_1045 : decode cL_law 1045 = .ok (.iadd, 1) := by decide +kernel
theorem dL_law_1046 : decode cL_law 1046 = .ok (.iaload, 1) := by decide +kernel
theorem dL_law_1047 : decode cL_law 1047 = .ok (.aload_n 0, 1) := by decide +kernel
theorem dL_law_1048 : decode cL_law 1048 = .ok (.iload_n 3, 1) := by decide +kernel
theorem dL_law_1049 : decode cL_law 1049 = .ok (.iconst 3, 1) := by decide +kernel
theorem dL_law_1050 : decode cL_law 1050 = .ok (.iadd, 1) := by decide +kernel
theorem dL_law_1051 : decode cL_law 1051 = .ok (.iaload, 1) := by decide +kernel
theorem dL_law_1052 : decode cL_law 1052 = .ok (.invokevirtual 129, 3) := by decide +kernel
theorem dL_law_1055 : decode cL_law 1055 = .ok (.aload_n 2, 1) := by decide +kernel
theorem dL_law_1056 : decode cL_law 1056 = .ok (.aload_n 0, 1) := by decide +kernel
theorem dL_law_1057 : decode cL_law 1057 = .ok (.iload_n 3, 1) := by decide +kernel
theorem dL_law_1058 : decode cL_law 1058 = .ok (.iconst 1, 1) := by decide +kernel
theorem dL_law_1059 : decode cL_law 1059 = .ok (.iadd, 1) := by decide +kernel
theorem dL_law_1060 : decode cL_law 1060 = .ok (.iaload, 1) := by decide +kernel
theorem dL_law_1061 : decode cL_law 1061 = .ok (.aload_n 0, 1) := by decide +kernel
theorem dL_law_1062 : decode cL_law 1062 = .ok (.iload_n 3, 1) := by decide +kernel
theorem dL_law_1063 : decode cL_law 1063 = .ok (.iconst 2, 1) := by decide +kernel
theorem dL_law_1064 : decode cL_law 1064 = .ok (.iadd, 1) := by decide +kernel
theorem dL_law_1065 : decode cL_law 1065 = .ok (.iaload, 1) := by decide +kernel
theorem dL_law_1066 : decode cL_law 1066 = .ok (.aload_n 0, 1) := by decide +kernel
theorem dL_law_1067 : decode cL_law 1067 = .ok (.iload_n 3, 1) := by decide +kernel
theorem dL_law_1068 : decode cL_law 1068 = .ok (.iconst 3, 1) := by decide +kernel
theorem dL_law_1069 : decode cL_law 1069 = .ok (.iadd, 1) := by decide +kernel
theorem dL_law_1070 : decode cL_law 1070 = .ok (.iaload, 1) := by decide +kernel
theorem dL_law_1071 : decode cL_law 1071 = .ok (.invokevirtual 132, 3) := by decide +kernel
theorem dL_law_1074 : decode cL_law 1074 = .ok (.if_icmp .eq 351, 3) := by decide +kernel
theorem dL_law_1077 : decode cL_law 1077 = .ok (.iconst 0, 1) := by decide +kernel
theorem dL_law_1078 : decode cL_law 1078 = .ok (.ireturn, 1) := by decide +kernel
theorem dL_law_1079 : decode cL_law 1079 = .ok (.aload_n 1, 1) := by decide +kernel
theorem dL_law_1080 : decode cL_law 1080 = .ok (.aload_n 0, 1) := by decide +kernel
theorem dL_law_1081 : decode cL_law 1081 = .ok (.iload_n 3, 1) := by decide +kernel
theorem dL_law_1082 : decode cL_law 1082 = .ok (.iconst 1, 1) := by decide +kernel
theorem dL_law_1083 : decode cL_law 1083 = .ok (.iadd, 1) := by decide +kernel
theorem dL_law_1084 : decode cL_law 1084 = .ok (.iaload, 1) := by decide +kernel
theorem dL_law_1085 : decode cL_law 1085 = .ok (.invokevirtual 133, 3) := by decide +kernel
theorem dL_law_1088 : decode cL_law 1088 = .ok (.aload_n 2, 1) := by decide +kernel
theorem dL_law_1089 : decode cL_law 1089 = .ok (.aload_n 0, 1) := by decide +kernel
theorem dL_law_1090 : decode cL_law 1090 = .ok (.iload_n 3, 1) := by decide +kernel
theorem dL_law_1091 : decode cL_law 1091 = .ok (.iconst 1, 1) := by decide +kernel
theorem dL_law_1092 : decode cL_law 1092 = .ok (.iadd, 1) := by decide +kernel
theorem dL_law_1093 : decode cL_law 1093 = .ok (.iaload, 1) := by decide +kernel
theorem dL_law_1094 : decode cL_law 1094 = .ok (.invokevirtual 136, 3) := by decide +kernel
theorem dL_law_1097 : decode cL_law 1097 = .ok (.if_icmp .eq 328, 3) := by decide +kernel
theorem dL_law_1100 : decode cL_law 1100 = .ok (.iconst 0, 1) := by decide +kernel
theorem dL_law_1101 : decode cL_law 1101 = .ok (.ireturn, 1) := by decide +kernel
theorem dL_law_1102 : decode cL_law 1102 = .ok (.aload_n 1, 1) := by decide +kernel
theorem dL_law_1103 : decode cL_law 1103 = .ok (.aload_n 0, 1) := by decide +kernel
theorem dL_law_1104 : decode cL_law 1104 = .ok (.iload_n 3, 1) := by decide +kernel
theorem dL_law_1105 : decode cL_law 1105 = .ok (.iconst 1, 1) := by decide +kernel
theorem dL_law_1106 : decode cL_law 1106 = .ok (.iadd, 1) := by decide +kernel
theorem dL_law_1107 : decode cL_law 1107 = .ok (.iaload, 1) := by decide +kernel
theorem dL_law_1108 : decode cL_law 1108 = .ok (.invokevirtual 137, 3) := by decide +kernel
theorem dL_law_1111 : decode cL_law 1111 = .ok (.aload_n 2, 1) := by decide +kernel
theorem dL_law_1112 : decode cL_law 1112 = .ok (.aload_n 0, 1) := by decide +kernel
theorem dL_law_1113 : decode cL_law 1113 = .ok (.iload_n 3, 1) := by decide +kernel
theorem dL_law_1114 : decode cL_law 1114 = .ok (.iconst 1, 1) := by decide +kernel
theorem dL_law_1115 : decode cL_law 1115 = .ok (.iadd, 1) := by decide +kernel
theorem dL_law_1116 : decode cL_law 1116 = .ok (.iaload, 1) := by decide +kernel
theorem dL_law_1117 : decode cL_law 1117 = .ok (.invokevirtual 140, 3) := by decide +kernel
theorem dL_law_1120 : decode cL_law 1120 = .ok (.if_icmp .eq 305, 3) := by decide +kernel
theorem dL_law_1123 : decode cL_law 1123 = .ok (.iconst 0, 1) := by decide +kernel
theorem dL_law_1124 : decode cL_law 1124 = .ok (.ireturn, 1) := by decide +kernel
theorem dL_law_1125 : decode cL_law 1125 = .ok (.aload_n 1, 1) := by decide +kernel
theorem dL_law_1126 : decode cL_law 1126 = .ok (.aload_n 0, 1) := by decide +kernel
theorem dL_law_1127 : decode cL_law 1127 = .ok (.iload_n 3, 1) := by decide +kernel
theorem dL_law_1128 : decode cL_law 1128 = .ok (.iconst 1, 1) := by decide +kernel
theorem dL_law_1129 : decode cL_law 1129 = .ok (.iadd, 1) := by decide +kernel
theorem dL_law_1130 : decode cL_law 1130 = .ok (.iaload, 1) := by decide +kernel
theorem dL_law_1131 : decode cL_law 1131 = .ok (.aload_n 0, 1) := by decide +kernel
theorem dL_law_1132 : decode cL_law 1132 = .ok (.iload_n 3, 1) := by decide +kernel
theorem dL_law_1133 : decode cL_law 1133 = .ok (.iconst 2, 1) := by decide +kernel
theorem dL_law_1134 : decode cL_law 1134 = .ok (.iadd, 1) := by decide +kernel
theorem dL_law_1135 : decode cL_law 1135 = .ok (.iaload, 1) := by decide +kernel
theorem dL_law_1136 : decode cL_law 1136 = .ok (.aload_n 0, 1) := by decide +kernel
theorem dL_law_1137 : decode cL_law 1137 = .ok (.iload_n 3, 1) := by decide +kernel
theorem dL_law_1138 : decode cL_law 1138 = .ok (.iconst 3, 1) := by decide +kernel
theorem dL_law_1139 : decode cL_law 1139 = .ok (.iadd, 1) := by decide +kernel
theorem dL_law_1140 : decode cL_law 1140 = .ok (.iaload, 1) := by decide +kernel
theorem dL_law_1141 : decode cL_law 1141 = .ok (.aload_n 0, 1) := by decide +kernel
theorem dL_law_1142 : decode cL_law 1142 = .ok (.iload_n 3, 1) := by decide +kernel
theorem dL_law_1143 : decode cL_law 1143 = .ok (.iconst 4, 1) := by decide +kernel
theorem dL_law_1144 : decode cL_law 1144 = .ok (.iadd, 1) := by decide +kernel
theorem dL_law_1145 : decode cL_law 1145 = .ok (.iaload, 1) := by decide +kernel
theorem dL_law_1146 : decode cL_law 1146 = .ok (.aload_n 0, 1) := by decide +kernel
theorem dL_law_1147 : decode cL_law 1147 = .ok (.iload_n 3, 1) := by decide +kernel
theorem dL_law_1148 : decode cL_law 1148 = .ok (.iconst 5, 1) := by decide +kernel
theorem dL_law_1149 : decode cL_law 1149 = .ok (.iadd, 1) := by decide +kernel
theorem dL_law_1150 : decode cL_law 1150 = .ok (.iaload, 1) := by decide +kernel
theorem dL_law_1151 : decode cL_law 1151 = .ok (.invokevirtual 141, 3) := by decide +kernel
theorem dL_law_1154 : decode cL_law 1154 = .ok (.aload_n 2, 1) := by decide +kernel
theorem dL_law_1155 : decode cL_law 1155 = .ok (.aload_n 0, 1) := by decide +kernel
theorem dL_law_1156 : decode cL_law 1156 = .ok (.iload_n 3, 1) := by decide +kernel
theorem dL_law_1157 : decode cL_law 1157 = .ok (.iconst 1, 1) := by decide +kernel
theorem dL_law_1158 : decode cL_law 1158 = .ok (.iadd, 1) := by decide +kernel
theorem dL_law_1159 : decode cL_law 1159 = .ok (.iaload, 1) := by decide +kernel
theorem dL_law_1160 : decode cL_law 1160 = .ok (.aload_n 0, 1) := by decide +kernel
theorem dL_law_1161 : decode cL_law 1161 = .ok (.iload_n 3, 1) := by decide +kernel
theorem dL_law_1162 : decode cL_law 1162 = .ok (.iconst 2, 1) := by decide +kernel
theorem dL_law_1163 : decode cL_law 1163 = .ok (.iadd, 1) := by decide +kernel
theorem dL_law_1164 : decode cL_law 1164 = .ok (.iaload, 1) := by decide +kernel
theorem dL_law_1165 : decode cL_law 1165 = .ok (.aload_n 0, 1) := by decide +kernel
theorem dL_law_1166 : decode cL_law 1166 = .ok (.iload_n 3, 1) := by decide +kernel
theorem dL_law_1167 : decode cL_law 1167 = .ok (.iconst 3, 1) := by decide +kernel
theorem dL_law_1168 : decode cL_law 1168 = .ok (.iadd, 1) := by decide +kernel
theorem dL_law_1169 : decode cL_law 1169 = .ok (.iaload, 1) := by decide +kernel
theorem dL_law_1170 : decode cL_law 1170 = .ok (.aload_n 0, 1) := by decide +kernel
theorem dL_law_1171 : decode cL_law 1171 = .ok (.iload_n 3, 1) := by decide +kernel
theorem dL_law_1172 : decode cL_law 1172 = .ok (.iconst 4, 1) := by decide +kernel
theorem dL_law_1173 : decode cL_law 1173 = .ok (.iadd, 1) := by decide +kernel
theorem dL_law_1174 : decode cL_law 1174 = .ok (.iaload, 1) := by decide +kernel
theorem dL_law_1175 : decode cL_law 1175 = .ok (.aload_n 0, 1) := by decide +kernel
theorem dL_law_1176 : decode cL_law 1176 = .ok (.iload_n 3, 1) := by decide +kernel
theorem dL_law_1177 : decode cL_law 1177 = .ok (.iconst 5, 1) := by decide +kernel
theorem dL_law_1178 : decode cL_law 1178 = .ok (.iadd, 1) := by decide +kernel
theorem dL_law_1179 : decode cL_law 1179 = .ok (.iaload, 1) := by decide +kernel
theorem dL_law_1180 : decode cL_law 1180 = .ok (.invokevirtual 145, 3) := by decide +kernel
theorem dL_law_1183 : decode cL_law 1183 = .ok (.if_icmp .eq 242, 3) := by decide +kernel
theorem dL_law_1186 : decode cL_law 1186 = .ok (.iconst 0, 1) := by decide +kernel
theorem dL_law_1187 : decode cL_law 1187 = .ok (.ireturn, 1) := by decide +kernel
theorem dL_law_1188 : decode cL_law 1188 = .ok (.aload_n 1, 1) := by decide +kernel
theorem dL_law_1189 : decode cL_law 1189 = .ok (.aload_n 0, 1) := by decide +kernel
theorem dL_law_1190 : decode cL_law 1190 = .ok (.iload_n 3, 1) := by decide +kernel
theorem dL_law_1191 : decode cL_law 1191 = .ok (.iconst 1, 1) := by decide +kernel
theorem dL_law_1192 : decode cL_law 1192 = .ok (.iadd, 1) := by decide +kernel
theorem dL_law_1193 : decode cL_law 1193 = .ok (.iaload, 1) := by decide +kernel
theorem dL_law_1194 : decode cL_law 1194 = .ok (.aload_n 0, 1) := by decide +kernel
theorem dL_law_1195 : decode cL_law 1195 = .ok (.iload_n 3, 1) := by decide +kernel
theorem dL_law_1196 : decode cL_law 1196 = .ok (.iconst 2, 1) := by decide +kernel
theorem dL_law_1197 : decode cL_law 1197 = .ok (.iadd, 1) := by decide +kernel
theorem dL_law_1198 : decode cL_law 1198 = .ok (.iaload, 1) := by decide +kernel
theorem dL_law_1199 : decode cL_law 1199 = .ok (.aload_n 0, 1) := by decide +kernel
theorem dL_law_1200 : decode cL_law 1200 = .ok (.iload_n 3, 1) := by decide +kernel
theorem dL_law_1201 : decode cL_law 1201 = .ok (.iconst 3, 1) := by decide +kernel
theorem dL_law_1202 : decode cL_law 1202 = .ok (.iadd, 1) := by decide +kernel
theorem dL_law_1203 : decode cL_law 1203 = .ok (.iaload, 1) := by decide +kernel
theorem dL_law_1204 : decode cL_law 1204 = .ok (.invokevirtual 146, 3) := by decide +kernel
theorem dL_law_1207 : decode cL_law 1207 = .ok (.aload_n 2, 1) := by decide +kernel
theorem dL_law_1208 : decode cL_law 1208 = .ok (.aload_n 0, 1) := by decide +kernel
theorem dL_law_1209 : decode cL_law 1209 = .ok (.iload_n 3, 1) := by decide +kernel
theorem dL_law_1210 : decode cL_law 1210 = .ok (.iconst 1, 1) := by decide +kernel
theorem dL_law_1211 : decode cL_law 1211 = .ok (.iadd, 1) := by decide +kernel
theorem dL_law_1212 : decode cL_law 1212 = .ok (.iaload, 1) := by decide +kernel
theorem dL_law_1213 : decode cL_law 1213 = .ok (.aload_n 0, 1) := by decide +kernel
theorem dL_law_1214 : decode cL_law 1214 = .ok (.iload_n 3, 1) := by decide +kernel
theorem dL_law_1215 : decode cL_law 1215 = .ok (.iconst 2, 1) := by decide +kernel
theorem dL_law_1216 : decode cL_law 1216 = .ok (.iadd, 1) := by decide +kernel
theorem dL_law_1217 : decode cL_law 1217 = .ok (.iaload, 1) := by decide +kernel
theorem dL_law_1218 : decode cL_law 1218 = .ok (.aload_n 0, 1) := by decide +kernel
theorem dL_law_1219 : decode cL_law 1219 = .ok (.iload_n 3, 1) := by decide +kernel
theorem dL_law_1220 : decode cL_law 1220 = .ok (.iconst 3, 1) := by decide +kernel
theorem dL_law_1221 : decode cL_law 1221 = .ok (.iadd, 1) := by decide +kernel
theorem dL_law_1222 : decode cL_law 1222 = .ok (.iaload, 1) := by decide +kernel
theorem dL_law_1223 : decode cL_law 1223 = .ok (.invokevirtual 149, 3) := by decide +kernel
theorem dL_law_1226 : decode cL_law 1226 = .ok (.if_icmp .eq 199, 3) := by decide +kernel
theorem dL_law_1229 : decode cL_law 1229 = .ok (.iconst 0, 1) := by decide +kernel
theorem dL_law_1230 : decode cL_law 1230 = .ok (.ireturn, 1) := by decide +kernel
theorem dL_law_1231 : decode cL_law 1231 = .ok (.aload_n 1, 1) := by decide +kernel
theorem dL_law_1232 : decode cL_law 1232 = .ok (.aload_n 0, 1) := by decide +kernel
theorem dL_law_1233 : decode cL_law 1233 = .ok (.iload_n 3, 1) := by decide +kernel
theorem dL_law_1234 : decode cL_law 1234 = .ok (.iconst 1, 1) := by decide +kernel
theorem dL_law_1235 : decode cL_law 1235 = .ok (.iadd, 1) := by decide +kernel
theorem dL_law_1236 : decode cL_law 1236 = .ok (.iaload, 1) := by decide +kernel
theorem dL_law_1237 : decode cL_law 1237 = .ok (.aload_n 0, 1) := by decide +kernel
theorem dL_law_1238 : decode cL_law 1238 = .ok (.iload_n 3, 1) := by decide +kernel
theorem dL_law_1239 : decode cL_law 1239 = .ok (.iconst 2, 1) := by decide +kernel
theorem dL_law_1240 : decode cL_law 1240 = .ok (.iadd, 1) := by decide +kernel
theorem dL_law_1241 : decode cL_law 1241 = .ok (.iaload, 1) := by decide +kernel
theorem dL_law_1242 : decode cL_law 1242 = .ok (.invokevirtual 150, 3) := by decide +kernel
theorem dL_law_1245 : decode cL_law 1245 = .ok (.aload_n 2, 1) := by decide +kernel
theorem dL_law_1246 : decode cL_law 1246 = .ok (.aload_n 0, 1) := by decide +kernel
theorem dL_law_1247 : decode cL_law 1247 = .ok (.iload_n 3, 1) := by decide +kernel
theorem dL_law_1248 : decode cL_law 1248 = .ok (.iconst 1, 1) := by decide +kernel
theorem dL_law_1249 : decode cL_law 1249 = .ok (.iadd, 1) := by decide +kernel
theorem dL_law_1250 : decode cL_law 1250 = .ok (.iaload, 1) := by decide +kernel
theorem dL_law_1251 : decode cL_law 1251 = .ok (.aload_n 0, 1) := by decide +kernel
theorem dL_law_1252 : decode cL_law 1252 = .ok (.iload_n 3, 1) := by decide +kernel
theorem dL_law_1253 : decode cL_law 1253 = .ok (.iconst 2, 1) := by decide +kernel
theorem dL_law_1254 : decode cL_law 1254 = .ok (.iadd, 1) := by decide +kernel
theorem dL_law_1255 : decode cL_law 1255 = .ok (.iaload, 1) := by decide +kernel
theorem dL_law_1256 : decode cL_law 1256 = .ok (.invokevirtual 153, 3) := by decide +kernel
theorem dL_law_1259 : decode cL_law 1259 = .ok (.if_icmp .eq 166, 3) := by decide +kernel
theorem dL_law_1262 : decode cL_law 1262 = .ok (.iconst 0, 1) := by decide +kernel
theorem dL_law_1263 : decode cL_law 1263 = .ok (.ireturn, 1) := by decide +kernel
theorem dL_law_1264 : decode cL_law 1264 = .ok (.aload_n 1, 1) := by decide +kernel
theorem dL_law_1265 : decode cL_law 1265 = .ok (.aload_n 0, 1) := by decide +kernel
theorem dL_law_1266 : decode cL_law 1266 = .ok (.iload_n 3, 1) := by decide +kernel
theorem dL_law_1267 : decode cL_law 1267 = .ok (.iconst 1, 1) := by decide +kernel
theorem dL_law_1268 : decode cL_law 1268 = .ok (.iadd, 1) := by decide +kernel
theorem dL_law_1269 : decode cL_law 1269 = .ok (.iaload, 1) := by decide +kernel
theorem dL_law_1270 : decode cL_law 1270 = .ok (.aload_n 0, 1) := by decide +kernel
theorem dL_law_1271 : decode cL_law 1271 = .ok (.iload_n 3, 1) := by decide +kernel
theorem dL_law_1272 : decode cL_law 1272 = .ok (.iconst 2, 1) := by decide +kernel
theorem dL_law_1273 : decode cL_law 1273 = .ok (.iadd, 1) := by decide +kernel
theorem dL_law_1274 : decode cL_law 1274 = .ok (.iaload, 1) := by decide +kernel
theorem dL_law_1275 : decode cL_law 1275 = .ok (.invokevirtual 154, 3) := by decide +kernel
theorem dL_law_1278 : decode cL_law 1278 = .ok (.aload_n 2, 1) := by decide +kernel
theorem dL_law_1279 : decode cL_law 1279 = .ok (.aload_n 0, 1) := by decide +kernel
theorem dL_law_1280 : decode cL_law 1280 = .ok (.iload_n 3, 1) := by decide +kernel
theorem dL_law_1281 : decode cL_law 1281 = .ok (.iconst 1, 1) := by decide +kernel
theorem dL_law_1282 : decode cL_law 1282 = .ok (.iadd, 1) := by decide +kernel
theorem dL_law_1283 : decode cL_law 1283 = .ok (.iaload, 1) := by decide +kernel
theorem dL_law_1284 : decode cL_law 1284 = .ok (.aload_n 0, 1) := by decide +kernel
theorem dL_law_1285 : decode cL_law 1285 = .ok (.iload_n 3, 1) := by decide +kernel
theorem dL_law_1286 : decode cL_law 1286 = .ok (.iconst 2, 1) := by decide +kernel
theorem dL_law_1287 : decode cL_law 1287 = .ok (.iadd, 1) := by decide +kernel
theorem dL_law_1288 : decode cL_law 1288 = .ok (.iaload, 1) := by decide +kernel
theorem dL_law_1289 : decode cL_law 1289 = .ok (.invokevirtual 157, 3) := by decide +kernel
theorem dL_law_1292 : decode cL_law 1292 = .ok (.if_icmp .eq 133, 3) := by decide +kernel
theorem dL_law_1295 : decode cL_law 1295 = .ok (.iconst 0, 1) := by decide +kernel
theorem dL_law_1296 : decode cL_law 1296 = .ok (.ireturn, 1) := by decide +kernel
theorem dL_law_1297 : decode cL_law 1297 = .ok (.aload_n 1, 1) := by decide +kernel
theorem dL_law_1298 : decode cL_law 1298 = .ok (.aload_n 0, 1) := by decide +kernel
theorem dL_law_1299 : decode cL_law 1299 = .ok (.iload_n 3, 1) := by decide +kernel
theorem dL_law_1300 : decode cL_law 1300 = .ok (.iconst 1, 1) := by decide +kernel
theorem dL_law_1301 : decode cL_law 1301 = .ok (.iadd, 1) := by decide +kernel
theorem dL_law_1302 : decode cL_law 1302 = .ok (.iaload, 1) := by decide +kernel
theorem dL_law_1303 : decode cL_law 1303 = .ok (.aload_n 0, 1) := by decide +kernel
theorem dL_law_1304 : decode cL_law 1304 = .ok (.iload_n 3, 1) := by decide +kernel
theorem dL_law_1305 : decode cL_law 1305 = .ok (.iconst 2, 1) := by decide +kernel
theorem dL_law_1306 : decode cL_law 1306 = .ok (.iadd, 1) := by decide +kernel
theorem dL_law_1307 : decode cL_law 1307 = .ok (.iaload, 1) := by decide +kernel
theorem dL_law_1308 : decode cL_law 1308 = .ok (.invokevirtual 158, 3) := by decide +kernel
theorem dL_law_1311 : decode cL_law 1311 = .ok (.aload_n 2, 1) := by decide +kernel
theorem dL_law_1312 : decode cL_law 1312 = .ok (.aload_n 0, 1) := by decide +kernel
theorem dL_law_1313 : decode cL_law 1313 = .ok (.iload_n 3, 1) := by decide +kernel
theorem dL_law_1314 : decode cL_law 1314 = .ok (.iconst 1, 1) := by decide +kernel
theorem dL_law_1315 : decode cL_law 1315 = .ok (.iadd, 1) := by decide +kernel
theorem dL_law_1316 : decode cL_law 1316 = .ok (.iaload, 1) := by decide +kernel
theorem dL_law_1317 : decode cL_law 1317 = .ok (.aload_n 0, 1) := by decide +kernel
theorem dL_law_1318 : decode cL_law 1318 = .ok (.iload_n 3, 1) := by decide +kernel
theorem dL_law_1319 : decode cL_law 1319 = .ok (.iconst 2, 1) := by decide +kernel
theorem dL_law_1320 : decode cL_law 1320 = .ok (.iadd, 1) := by decide +kernel
theorem dL_law_1321 : decode cL_law 1321 = .ok (.iaload, 1) := by decide +kernel
theorem dL_law_1322 : decode cL_law 1322 = .ok (.invokevirtual 161, 3) := by decide +kernel
theorem dL_law_1325 : decode cL_law 1325 = .ok (.if_icmp .eq 100, 3) := by decide +kernel
theorem dL_law_1328 : decode cL_law 1328 = .ok (.iconst 0, 1) := by decide +kernel
theorem dL_law_1329 : decode cL_law 1329 = .ok (.ireturn, 1) := by decide +kernel
theorem dL_law_1330 : decode cL_law 1330 = .ok (.aload_n 1, 1) := by decide +kernel
theorem dL_law_1331 : decode cL_law 1331 = .ok (.aload_n 0, 1) := by decide +kernel
theorem dL_law_1332 : decode cL_law 1332 = .ok (.iload_n 3, 1) := by decide +kernel
theorem dL_law_1333 : decode cL_law 1333 = .ok (.iconst 1, 1) := by decide +kernel
theorem dL_law_1334 : decode cL_law 1334 = .ok (.iadd, 1) := by decide +kernel
theorem dL_law_1335 : decode cL_law 1335 = .ok (.iaload, 1) := by decide +kernel
theorem dL_law_1336 : decode cL_law 1336 = .ok (.invokevirtual 162, 3) := by decide +kernel
theorem dL_law_1339 : decode cL_law 1339 = .ok (.aload_n 2, 1) := by decide +kernel
theorem dL_law_1340 : decode cL_law 1340 = .ok (.aload_n 0, 1) := by decide +kernel
theorem dL_law_1341 : decode cL_law 1341 = .ok (.iload_n 3, 1) := by decide +kernel
theorem dL_law_1342 : decode cL_law 1342 = .ok (.iconst 1, 1) := by decide +kernel
theorem dL_law_1343 : decode cL_law 1343 = .ok (.iadd, 1) := by decide +kernel
theorem dL_law_1344 : decode cL_law 1344 = .ok (.iaload, 1) := by decide +kernel
theorem dL_law_1345 : decode cL_law 1345 = .ok (.invokevirtual 165, 3) := by decide +kernel
theorem dL_law_1348 : decode cL_law 1348 = .ok (.if_icmp .eq 77, 3) := by decide +kernel
theorem dL_law_1351 : decode cL_law 1351 = .ok (.iconst 0, 1) := by decide +kernel
theorem dL_law_1352 : decode cL_law 1352 = .ok (.ireturn, 1) := by decide +kernel
theorem dL_law_1353 : decode cL_law 1353 = .ok (.aload_n 1, 1) := by decide +kernel
theorem dL_law_1354 : decode cL_law 1354 = .ok (.aload_n 0, 1) := by decide +kernel
theorem dL_law_1355 : decode cL_law 1355 = .ok (.iload_n 3, 1) := by decide +kernel
theorem dL_law_1356 : decode cL_law 1356 = .ok (.iconst 1, 1) := by decide +kernel
theorem dL_law_1357 : decode cL_law 1357 = .ok (.iadd, 1) := by decide +kernel
theorem dL_law_1358 : decode cL_law 1358 = .ok (.iaload, 1) := by decide +kernel
theorem dL_law_1359 : decode cL_law 1359 = .ok (.invokevirtual 166, 3) := by decide +kernel
theorem dL_law_1362 : decode cL_law 1362 = .ok (.aload_n 2, 1) := by decide +kernel
theorem dL_law_1363 : decode cL_law 1363 = .ok (.aload_n 0, 1) := by decide +kernel
theorem dL_law_1364 : decode cL_law 1364 = .ok (.iload_n 3, 1) := by decide +kernel
theorem dL_law_1365 : decode cL_law 1365 = .ok (.iconst 1, 1) := by decide +kernel
theorem dL_law_1366 : decode cL_law 1366 = .ok (.iadd, 1) := by decide +kernel
theorem dL_law_1367 : decode cL_law 1367 = .ok (.iaload, 1) := by decide +kernel
theorem dL_law_1368 : decode cL_law 1368 = .ok (.invokevirtual 169, 3) := by decide +kernel
theorem dL_law_1371 : decode cL_law 1371 = .ok (.if_icmp .eq 54, 3) := by decide +kernel
theorem dL_law_1374 : decode cL_law 1374 = .ok (.iconst 0, 1) := by decide +kernel
theorem dL_law_1375 : decode cL_law 1375 = .ok (.ireturn, 1) := by decide +kernel
theorem dL_law_1376 : decode cL_law 1376 = .ok (.aload_n 1, 1) := by decide +kernel
theorem dL_law_1377 : decode cL_law 1377 = .ok (.invokevirtual 170, 3) := by decide +kernel
theorem dL_law_1380 : decode cL_law 1380 = .ok (.aload_n 2, 1) := by decide +kernel
theorem dL_law_1381 : decode cL_law 1381 = .ok (.invokevirtual 173, 3) := by decide +kernel
theorem dL_law_1384 : decode cL_law 1384 = .ok (.if_icmp .eq 41, 3) := by decide +kernel
theorem dL_law_1387 : decode cL_law 1387 = .ok (.iconst 0, 1) := by decide +kernel
theorem dL_law_1388 : decode cL_law 1388 = .ok (.ireturn, 1) := by decide +kernel
theorem dL_law_1389 : decode cL_law 1389 = .ok (.aload_n 1, 1) := by decide +kernel
theorem dL_law_1390 : decode cL_law 1390 = .ok (.invokevirtual 174, 3) := by decide +kernel
theorem dL_law_1393 : decode cL_law 1393 = .ok (.aload_n 2, 1) := by decide +kernel
theorem dL_law_1394 : decode cL_law 1394 = .ok (.invokevirtual 177, 3) := by decide +kernel
theorem dL_law_1397 : decode cL_law 1397 = .ok (.if_icmp .eq 28, 3) := by decide +kernel
theorem dL_law_1400 : decode cL_law 1400 = .ok (.iconst 0, 1) := by decide +kernel
theorem dL_law_1401 : decode cL_law 1401 = .ok (.ireturn, 1) := by decide +kernel
theorem dL_law_1402 : decode cL_law 1402 = .ok (.aload_n 1, 1) := by decide +kernel
theorem dL_law_1403 : decode cL_law 1403 = .ok (.aload_n 0, 1) := by decide +kernel
theorem dL_law_1404 : decode cL_law 1404 = .ok (.iload_n 3, 1) := by decide +kernel
theorem dL_law_1405 : decode cL_law 1405 = .ok (.iconst 1, 1) := by decide +kernel
theorem dL_law_1406 : decode cL_law 1406 = .ok (.iadd, 1) := by decide +kernel
theorem dL_law_1407 : decode cL_law 1407 = .ok (.iaload, 1) := by decide +kernel
theorem dL_law_1408 : decode cL_law 1408 = .ok (.invokevirtual 178, 3) := by decide +kernel
theorem dL_law_1411 : decode cL_law 1411 = .ok (.aload_n 2, 1) := by decide +kernel
theorem dL_law_1412 : decode cL_law 1412 = .ok (.aload_n 0, 1) := by decide +kernel
theorem dL_law_1413 : decode cL_law 1413 = .ok (.iload_n 3, 1) := by decide +kernel
theorem dL_law_1414 : decode cL_law 1414 = .ok (.iconst 1, 1) := by decide +kernel
theorem dL_law_1415 : decode cL_law 1415 = .ok (.iadd, 1) := by decide +kernel
theorem dL_law_1416 : decode cL_law 1416 = .ok (.iaload, 1) := by decide +kernel
theorem dL_law_1417 : decode cL_law 1417 = .ok (.invokevirtual 181, 3) := by decide +kernel
theorem dL_law_1420 : decode cL_law 1420 = .ok (.if_icmp .eq 5, 3) := by decide +kernel
theorem dL_law_1423 : decode cL_law 1423 = .ok (.iconst 0, 1) := by decide +kernel
theorem dL_law_1424 : decode cL_law 1424 = .ok (.ireturn, 1) := by decide +kernel
theorem dL_law_1425 : decode cL_law 1425 = .ok (.iinc 3 6, 3) := by decide +kernel
theorem dL_law_1428 : decode cL_law 1428 = .ok (.goto (-1410), 3) := by decide +kernel
theorem dL_law_1431 : decode cL_law 1431 = .ok (.iconst 1, 1) := by decide +kernel
theorem dL_law_1432 : decode cL_law 1432 = .ok (.ireturn, 1) := by decide +kernel
theorem dJ11_isValidCodePoint_9a6ad_0 : decode cJ11_isValidCodePoint_9a6ad 0 = .ok (.iload_n 0, 1) := by decide +kernel
theorem dJ11_isValidCodePoint_9a6ad_1 : decode cJ11_isValidCodePoint_9a6ad 1 = .ok (.bipush 16, 2) := by decide +kernel
theorem dJ11_isValidCodePoint_9a6ad_3 : decode cJ11_isValidCodePoint_9a6ad 3 = .ok (.iushr, 1) := by decide +kernel
theorem dJ11_isValidCodePoint_9a6ad_4 : decode cJ11_isValidCodePoint_9a6ad 4 = .ok (.istore_n 1, 1) := by decide +kernel
theorem dJ11_isValidCodePoint_9a6ad_5 : decode cJ11_isValidCodePoint_9a6ad 5 = .ok (.iload_n 1, 1) := by decide +kernel
theorem dJ11_isValidCodePoint_9a6ad_6 : decode cJ11_isValidCodePoint_9a6ad 6 = .ok (.bipush 17, 2) := by decide +kernel
theorem dJ11_isValidCodePoint_9a6ad_8 : decode cJ11_isValidCodePoint_9a6ad 8 = .ok (.if_icmp .ge 7, 3) := by decide +kernel
theorem dJ11_isValidCodePoint_9a6ad_11 : decode cJ11_isValidCodePoint_9a6ad 11 = .ok (.iconst 1, 1) := by decide +kernel
theorem dJ11_isValidCodePoint_9a6ad_12 : decode cJ11_isValidCodePoint_9a6ad 12 = .ok (.goto 4, 3) := by decide +kernel
theorem dJ11_isValidCodePoint_9a6ad_15 : decode cJ11_isValidCodePoint_9a6ad 15 = .ok (.iconst 0, 1) := by decide +kernel
theorem dJ11_isValidCodePoint_9a6ad_16 : decode cJ11_isValidCodePoint_9a6ad 16 = .ok (.ireturn, 1) := by decide +kernel
theorem dJ11_highSurrogate_5068e_0 : decode cJ11_highSurrogate_5068e 0 = .ok (.iload_n 0, 1) := by decide +kernel
theorem dJ11_highSurrogate_5068e_1 : decode cJ11_highSurrogate_5068e 1 = .ok (.bipush 10, 2) := by decide +kernel
theorem dJ11_highSurrogate_5068e_3 : decode cJ11_highSurrogate_5068e 3 = .ok (.iushr, 1) := by decide +kernel
theorem dJ11_highSurrogate_5068e_4 : decode cJ11_highSurrogate_5068e 4 = .ok (.ldc 110, 2) := by decide +kernel
theorem dJ11_highSurrogate_5068e_6 : decode cJ11_highSurrogate_5068e 6 = .ok (.iadd, 1) := by decide +kernel
theorem dJ11_highSurrogate_5068e_7 : decode cJ11_highSurrogate_5068e 7 = .ok (.i2c, 1) := by decide +kernel
theorem dJ11_highSurrogate_5068e_8 : decode cJ11_highSurrogate_5068e 8 = .ok (.ireturn, 1) := by decide +kernel
theorem dJ11_lowSurrogate_5068e_0 : decode cJ11_lowSurrogate_5068e 0 = .ok (.iload_n 0, 1) := by decide +kernel
theorem dJ11_lowSurrogate_5068e_1 : decode cJ11_lowSurrogate_5068e 1 = .ok (.sipush 1023, 3) := by decide +kernel
theorem dJ11_lowSurrogate_5068e_4 : decode cJ11_lowSurrogate_5068e 4 = .ok (.iand, 1) := by decide +kernel
theorem dJ11_lowSurrogate_5068e_5 : decode cJ11_lowSurrogate_5068e 5 = .ok (.ldc 76, 2) := by decide +kernel
theorem dJ11_lowSurrogate_5068e_7 : decode cJ11_lowSurrogate_5068e 7 = .ok (.iadd, 1) := by decide +kernel
theorem dJ11_lowSurrogate_5068e_8 : decode cJ11_lowSurrogate_5068e 8 = .ok (.i2c, 1) := by decide +kernel
theorem dJ11_lowSurrogate_5068e_9 : decode cJ11_lowSurrogate_5068e 9 = .ok (.ireturn, 1) := by decide +kernel
theorem dJ9_abs_0f7a4_0 : decode cJ9_abs_0f7a4 0 = .ok (.iload_n 0, 1) := by decide +kernel
theorem dJ9_abs_0f7a4_1 : decode cJ9_abs_0f7a4 1 = .ok (.ifCond .ge 8, 3) := by decide +kernel
theorem dJ9_abs_0f7a4_4 : decode cJ9_abs_0f7a4 4 = .ok (.iload_n 0, 1) := by decide +kernel
theorem dJ9_abs_0f7a4_5 : decode cJ9_abs_0f7a4 5 = .ok (.ineg, 1) := by decide +kernel
theorem dJ9_abs_0f7a4_6 : decode cJ9_abs_0f7a4 6 = .ok (.goto 4, 3) := by decide +kernel
theorem dJ9_abs_0f7a4_9 : decode cJ9_abs_0f7a4 9 = .ok (.iload_n 0, 1) := by decide +kernel
theorem dJ9_abs_0f7a4_10 : decode cJ9_abs_0f7a4 10 = .ok (.ireturn, 1) := by decide +kernel
theorem dJ9_max_7cf53_0 : decode cJ9_max_7cf53 0 = .ok (.iload_n 0, 1) := by decide +kernel
theorem dJ9_max_7cf53_1 : decode cJ9_max_7cf53 1 = .ok (.iload_n 1, 1) := by decide +kernel
theorem dJ9_max_7cf53_2 : decode cJ9_max_7cf53 2 = .ok (.if_icmp .lt 7, 3) := by decide +kernel
theorem dJ9_max_7cf53_5 : decode cJ9_max_7cf53 5 = .ok (.iload_n 0, 1) := by decide +kernel
theorem dJ9_max_7cf53_6 : decode cJ9_max_7cf53 6 = .ok (.goto 4, 3) := by decide +kernel
theorem dJ9_max_7cf53_9 : decode cJ9_max_7cf53 9 = .ok (.iload_n 1, 1) := by decide +kernel
theorem dJ9_max_7cf53_10 : decode cJ9_max_7cf53 10 = .ok (.ireturn, 1) := by decide +kernel
theorem dJ9_min_7cf53_0 : decode cJ9_min_7cf53 0 = .ok (.iload_n 0, 1) := by decide +kernel
theorem dJ9_min_7cf53_1 : decode cJ9_min_7cf53 1 = .ok (.iload_n 1, 1) := by decide +kernel
theorem dJ9_min_7cf53_2 : decode cJ9_min_7cf53 2 = .ok (.if_icmp .gt 7, 3) := by decide +kernel
theorem dJ9_min_7cf53_5 : decode cJ9_min_7cf53 5 = .ok (.iload_n 0, 1) := by decide +kernel
theorem dJ9_min_7cf53_6 : decode cJ9_min_7cf53 6 = .ok (.goto 4, 3) := by decide +kernel
theorem dJ9_min_7cf53_9 : decode cJ9_min_7cf53 9 = .ok (.iload_n 1, 1) := by decide +kernel
theorem dJ9_min_7cf53_10 : decode cJ9_min_7cf53 10 = .ok (.ireturn, 1) := by decide +kernel
theorem dJ0_length_8abf5_0 : decode cJ0_length_8abf5 0 = .ok (.aload_n 0, 1) := by decide +kernel
theorem dJ0_length_8abf5_1 : decode cJ0_length_8abf5 1 = .ok (.getfield 9, 3) := by decide +kernel
theorem dJ0_length_8abf5_4 : decode cJ0_length_8abf5 4 = .ok (.arraylength, 1) := by decide +kernel
theorem dJ0_length_8abf5_5 : decode cJ0_length_8abf5 5 = .ok (.aload_n 0, 1) := by decide +kernel
theorem dJ0_length_8abf5_6 : decode cJ0_length_8abf5 6 = .ok (.invokevirtual 335, 3) := by decide +kernel
theorem dJ0_length_8abf5_9 : decode cJ0_length_8abf5 9 = .ok (.ishr, 1) := by decide +kernel
theorem dJ0_length_8abf5_10 : decode cJ0_length_8abf5 10 = .ok (.ireturn, 1) := by decide +kernel
theorem dJ0_charAt_5068e_0 : decode cJ0_charAt_5068e 0 = .ok (.aload_n 0, 1) := by decide +kernel
theorem dJ0_charAt_5068e_1 : decode cJ0_charAt_5068e 1 = .ok (.invokevirtual 492, 3) := by decide +kernel
theorem dJ0_charAt_5068e_4 : decode cJ0_charAt_5068e 4 = .ok (.ifCond .eq 12, 3) := by decide +kernel
theorem dJ0_charAt_5068e_7 : decode cJ0_charAt_5068e 7 = .ok (.aload_n 0, 1) := by decide +kernel
theorem dJ0_charAt_5068e_8 : decode cJ0_charAt_5068e 8 = .ok (.getfield 9, 3) := by decide +kernel
theorem dJ0_charAt_5068e_11 : decode cJ0_charAt_5068e 11 = .ok (.iload_n 1, 1) := by decide +kernel
theorem dJ0_charAt_5068e_12 : decode cJ0_charAt_5068e 12 = .ok (.invokestatic 495, 3) := by decide +kernel
theorem dJ0_charAt_5068e_15 : decode cJ0_charAt_5068e 15 = .ok (.ireturn, 1) := by decide +kernel
theorem dJ0_charAt_5068e_16 : decode cJ0_charAt_5068e 16 = .ok (.aload_n 0, 1) := by decide +kernel
theorem dJ0_charAt_5068e_17 : decode cJ0_charAt_5068e 17 = .ok (.getfield 9, 3) := by decide +kernel
theorem dJ0_charAt_5068e_20 : decode cJ0_charAt_5068e 20 = .ok (.iload_n 1, 1) := by decide +kernel
theorem dJ0_charAt_5068e_21 : decode cJ0_charAt_5068e 21 = .ok (.invokestatic 498, 3) := by decide +kernel
theorem dJ0_charAt_5068e_24 : decode cJ0_charAt_5068e 24 = .ok (.ireturn, 1) := by decide +kernel
theorem dJ0_indexOf_0f7a4_0 : decode cJ0_indexOf_0f7a4 0 = .ok (.aload_n 0, 1) := by decide +kernel
theorem dJ0_indexOf_0f7a4_1 : decode cJ0_indexOf_0f7a4 1 = .ok (.iload_n 1, 1) := by decide +kernel
theorem dJ0_indexOf_0f7a4_2 : decode cJ0_indexOf_0f7a4 2 = .ok (.iconst 0, 1) := by decide +kernel
theorem dJ0_indexOf_0f7a4_3 : decode cJ0_indexOf_0f7a4 3 = .ok (.invokevirtual 633, 3) := by decide +kernel
theorem dJ0_indexOf_0f7a4_6 : decode cJ0_indexOf_0f7a4 6 = .ok (.ireturn, 1) := by decide +kernel
theorem dJ0_indexOf_7cf53_0 : decode cJ0_indexOf_7cf53 0 = .ok (.aload_n 0, 1) := by decide +kernel
theorem dJ0_indexOf_7cf53_1 : decode cJ0_indexOf_7cf53 1 = .ok (.invokevirtual 492, 3) := by decide +kernel
theorem dJ0_indexOf_7cf53_4 : decode cJ0_indexOf_7cf53 4 = .ok (.ifCond .eq 19, 3) := by decide +kernel
theorem dJ0_indexOf_7cf53_7 : decode cJ0_indexOf_7cf53 7 = .ok (.aload_n 0, 1) := by decide +kernel
theorem dJ0_indexOf_7cf53_8 : decode cJ0_indexOf_7cf53 8 = .ok (.getfield 9, 3) := by decide +kernel
theorem dJ0_indexOf_7cf53_11 : decode cJ0_indexOf_7cf53 11 = .ok (.iload_n 1, 1) := by decide +kernel
theorem dJ0_indexOf_7cf53_12 : decode cJ0_indexOf_7cf53 12 = .ok (.iload_n 2, 1) := by decide +kernel
theorem dJ0_indexOf_7cf53_13 : decode cJ0_indexOf_7cf53 13 = .ok (.aload_n 0, 1) := by decide +kernel
theorem dJ0_indexOf_7cf53_14 : decode cJ0_indexOf_7cf53 14 = .ok (.invokevirtual 505, 3) := by decide +kernel
theorem dJ0_indexOf_7cf53_17 : decode cJ0_indexOf_7cf53 17 = .ok (.invokestatic 637, 3) := by decide +kernel
theorem dJ0_indexOf_7cf53_20 : decode cJ0_indexOf_7cf53 20 = .ok (.goto 16, 3) := by decide +kernel
theorem dJ0_indexOf_7cf53_23 : decode cJ0_indexOf_7cf53 23 = .ok (.aload_n 0, 1) := by decide +kernel
theorem dJ0_indexOf_7cf53_24 : decode cJ0_indexOf_7cf53 24 = .ok (.getfield 9, 3) := by decide +kernel
theorem dJ0_indexOf_7cf53_27 : decode cJ0_indexOf_7cf53 27 = .ok (.iload_n 1, 1) := by decide +kernel
theorem dJ0_indexOf_7cf53_28 : decode cJ0_indexOf_7cf53 28 = .ok (.iload_n 2, 1) := by decide +kernel
theorem dJ0_indexOf_7cf53_29 : decode cJ0_indexOf_7cf53 29 = .ok (.aload_n 0, 1) := by decide +kernel
theorem dJ0_indexOf_7cf53_30 : decode cJ0_indexOf_7cf53 30 = .ok (.invokevirtual 505, 3) := by decide +kernel
theorem dJ0_indexOf_7cf53_33 : decode cJ0_indexOf_7cf53 33 = .ok (.invokestatic 640, 3) := by decide +kernel
theorem dJ0_indexOf_7cf53_36 : decode cJ0_indexOf_7cf53 36 = .ok (.ireturn, 1) := by decide +kernel
theorem dJ0_coder_7d493_0 : decode cJ0_coder_7d493 0 = .ok (.getstatic 38, 3) := by decide +kernel
theorem dJ0_coder_7d493_3 : decode cJ0_coder_7d493 3 = .ok (.ifCond .eq 10, 3) := by decide +kernel
theorem dJ0_coder_7d493_6 : decode cJ0_coder_7d493 6 = .ok (.aload_n 0, 1) := by decide +kernel
theorem dJ0_coder_7d493_7 : decode cJ0_coder_7d493 7 = .ok (.getfield 15, 3) := by decide +kernel
theorem dJ0_coder_7d493_10 : decode cJ0_coder_7d493 10 = .ok (.goto 4, 3) := by decide +kernel
theorem dJ0_coder_7d493_13 : decode cJ0_coder_7d493 13 = .ok (.iconst 1, 1) := by decide +kernel
theorem dJ0_coder_7d493_14 : decode cJ0_coder_7d493 14 = .ok (.ireturn, 1) := by decide +kernel
theorem dJ0_isLatin1_aae02_0 : decode cJ0_isLatin1_aae02 0 = .ok (.getstatic 38, 3) := by decide +kernel
theorem dJ0_isLatin1_aae02_3 : decode cJ0_isLatin1_aae02 3 = .ok (.ifCond .eq 14, 3) := by decide +kernel
theorem dJ0_isLatin1_aae02_6 : decode cJ0_isLatin1_aae02 6 = .ok (.aload_n 0, 1) := by decide +kernel
theorem dJ0_isLatin1_aae02_7 : decode cJ0_isLatin1_aae02 7 = .ok (.getfield 15, 3) := by decide +kernel
theorem dJ0_isLatin1_aae02_10 : decode cJ0_isLatin1_aae02 10 = .ok (.ifCond .ne 7, 3) := by decide +kernel
theorem dJ0_isLatin1_aae02_13 : decode cJ0_isLatin1_aae02 13 = .ok (.iconst 1, 1) := by decide +kernel
theorem dJ0_isLatin1_aae02_14 : decode cJ0_isLatin1_aae02 14 = .ok (.goto 4, 3) := by decide +kernel
theorem dJ0_isLatin1_aae02_17 : decode cJ0_isLatin1_aae02 17 = .ok (.iconst 0, 1) := by decide +kernel
theorem dJ0_isLatin1_aae02_18 : decode cJ0_isLatin1_aae02 18 = .ok (.ireturn, 1) := by decide +kernel
theorem dJ0_checkIndex_df160_0 : decode cJ0_checkIndex_df160 0 = .ok (.iload_n 0, 1) := by decide +kernel
theorem dJ0_checkIndex_df160_1 : decode cJ0_checkIndex_df160 1 = .ok (.iload_n 1, 1) := by decide +kernel
theorem dJ0_checkIndex_df160_2 : decode cJ0_checkIndex_df160 2 = .ok (.getstatic 1053, 3) := by decide +kernel
theorem dJ0_checkIndex_df160_5 : decode cJ0_checkIndex_df160 5 = .ok (.invokestatic 1059, 3) := by decide +kernel
theorem dJ0_checkIndex_df160_8 : decode cJ0_checkIndex_df160 8 = .ok (.pop, 1) := by decide +kernel
theorem dJ0_checkIndex_df160_9 : decode cJ0_checkIndex_df160 9 = .ok (.return_, 1) := by decide +kernel
theorem dJ0_checkBoundsBeginEnd_23922_0 : decode cJ0_checkBoundsBeginEnd_23922 0 = .ok (.iload_n 0, 1) := by decide +kernel
theorem dJ0_checkBoundsBeginEnd_23922_1 : decode cJ0_checkBoundsBeginEnd_23922 1 = .ok (.iload_n 1, 1) := by decide +kernel
theorem dJ0_checkBoundsBeginEnd_23922_2 : decode cJ0_checkBoundsBeginEnd_23922 2 = .ok (.iload_n 2, 1) := by decide +kernel
theorem dJ0_checkBoundsBeginEnd_23922_3 : decode cJ0_checkBoundsBeginEnd_23922 3 = .ok (.getstatic 1053, 3) := by decide +kernel
theorem dJ0_checkBoundsBeginEnd_23922_6 : decode cJ0_checkBoundsBeginEnd_23922 6 = .ok (.invokestatic 1062, 3) := by decide +kernel
theorem dJ0_checkBoundsBeginEnd_23922_9 : decode cJ0_checkBoundsBeginEnd_23922 9 = .ok (.pop, 1) := by decide +kernel
theorem dJ0_checkBoundsBeginEnd_23922_10 : decode cJ0_checkBoundsBeginEnd_23922 10 = .ok (.return_, 1) := by decide +kernel
theorem dJ1_charAt_3b067_0 : decode cJ1_charAt_3b067 0 = .ok (.iload_n 1, 1) := by decide +kernel
theorem dJ1_charAt_3b067_1 : decode cJ1_charAt_3b067 1 = .ok (.aload_n 0, 1) := by decide +kernel
theorem dJ1_charAt_3b067_2 : decode cJ1_charAt_3b067 2 = .ok (.arraylength, 1) := by decide +kernel
theorem dJ1_charAt_3b067_3 : decode cJ1_charAt_3b067 3 = .ok (.invokestatic 9, 3) := by decide +kernel
theorem dJ1_charAt_3b067_6 : decode cJ1_charAt_3b067 6 = .ok (.aload_n 0, 1) := by decide +kernel
theorem dJ1_charAt_3b067_7 : decode cJ1_charAt_3b067 7 = .ok (.iload_n 1, 1) := by decide +kernel
theorem dJ1_charAt_3b067_8 : decode cJ1_charAt_3b067 8 = .ok (.baload, 1) := by decide +kernel
theorem dJ1_charAt_3b067_9 : decode cJ1_charAt_3b067 9 = .ok (.sipush 255, 3) := by decide +kernel
theorem dJ1_charAt_3b067_12 : decode cJ1_charAt_3b067 12 = .ok (.iand, 1) := by decide +kernel
theorem dJ1_charAt_3b067_13 : decode cJ1_charAt_3b067 13 = .ok (.i2c, 1) := by decide +kernel
theorem dJ1_charAt_3b067_14 : decode cJ1_charAt_3b067 14 = .ok (.ireturn, 1) := by decide +kernel
theorem dJ1_canEncode_9a6ad_0 : decode cJ1_canEncode_9a6ad 0 = .ok (.iload_n 0, 1) := by decide +kernel
theorem dJ1_canEncode_9a6ad_1 : decode cJ1_canEncode_9a6ad 1 = .ok (.ifCond .lt 14, 3) := by decide +kernel
theorem dJ1_canEncode_9a6ad_4 : decode cJ1_canEncode_9a6ad 4 = .ok (.iload_n 0, 1) := by decide +kernel
theorem dJ1_canEncode_9a6ad_5 : decode cJ1_canEncode_9a6ad 5 = .ok (.sipush 255, 3) := by decide +kernel
theorem dJ1_canEncode_9a6ad_8 : decode cJ1_canEncode_9a6ad 8 = .ok (.if_icmp .gt 7, 3) := by decide +kernel
theorem dJ1_canEncode_9a6ad_11 : decode cJ1_canEncode_9a6ad 11 = .ok (.iconst 1, 1) := by decide +kernel
theorem dJ1_canEncode_9a6ad_12 : decode cJ1_canEncode_9a6ad 12 = .ok (.goto 4, 3) := by decide +kernel
theorem dJ1_canEncode_9a6ad_15 : decode cJ1_canEncode_9a6ad 15 = .ok (.iconst 0, 1) := by decide +kernel
theorem dJ1_canEncode_9a6ad_16 : decode cJ1_canEncode_9a6ad 16 = .ok (.ireturn, 1) := by decide +kernel
theorem dJ1_indexOf_4cfef_0 : decode cJ1_indexOf_4cfef 0 = .ok (.iload_n 1, 1) := by decide +kernel
theorem dJ1_indexOf_4cfef_1 : decode cJ1_indexOf_4cfef 1 = .ok (.invokestatic 88, 3) := by decide +kernel
theorem dJ1_indexOf_4cfef_4 : decode cJ1_indexOf_4cfef 4 = .ok (.ifCond .ne 5, 3) := by decide +kernel
theorem dJ1_indexOf_4cfef_7 : decode cJ1_indexOf_4cfef 7 = .ok (.iconst (-1), 1) := by decide +kernel
theorem dJ1_indexOf_4cfef_8 : decode cJ1_indexOf_4cfef 8 = .ok (.ireturn, 1) := by decide +kernel
theorem dJ1_indexOf_4cfef_9 : decode cJ1_indexOf_4cfef 9 = .ok (.iload_n 2, 1) := by decide +kernel
theorem dJ1_indexOf_4cfef_10 : decode cJ1_indexOf_4cfef 10 = .ok (.iconst 0, 1) := by decide +kernel
theorem dJ1_indexOf_4cfef_11 : decode cJ1_indexOf_4cfef 11 = .ok (.invokestatic 92, 3) := by decide +kernel
theorem dJ1_indexOf_4cfef_14 : decode cJ1_indexOf_4cfef 14 = .ok (.istore_n 2, 1) := by decide +kernel
theorem dJ1_indexOf_4cfef_15 : decode cJ1_indexOf_4cfef 15 = .ok (.iload_n 3, 1) := by decide +kernel
theorem dJ1_indexOf_4cfef_16 : decode cJ1_indexOf_4cfef 16 = .ok (.aload_n 0, 1) := by decide +kernel
theorem dJ1_indexOf_4cfef_17 : decode cJ1_indexOf_4cfef 17 = .ok (.arraylength, 1) := by decide +kernel
theorem dJ1_indexOf_4cfef_18 : decode cJ1_indexOf_4cfef 18 = .ok (.invokestatic 38, 3) := by decide +kernel
theorem dJ1_indexOf_4cfef_21 : decode cJ1_indexOf_4cfef 21 = .ok (.istore_n 3, 1) := by decide +kernel
theorem dJ1_indexOf_4cfef_22 : decode cJ1_indexOf_4cfef 22 = .ok (.iload_n 2, 1) := by decide +kernel
theorem dJ1_indexOf_4cfef_23 : decode cJ1_indexOf_4cfef 23 = .ok (.iload_n 3, 1) := by decide +kernel
theorem dJ1_indexOf_4cfef_24 : decode cJ1_indexOf_4cfef 24 = .ok (.if_icmp .lt 5, 3) := by decide +kernel
theorem dJ1_indexOf_4cfef_27 : decode cJ1_indexOf_4cfef 27 = .ok (.iconst (-1), 1) := by decide +kernel
theorem dJ1_indexOf_4cfef_28 : decode cJ1_indexOf_4cfef 28 = .ok (.ireturn, 1) := by decide +kernel
theorem dJ1_indexOf_4cfef_29 : decode cJ1_indexOf_4cfef 29 = .ok (.aload_n 0, 1) := by decide +kernel
theorem dJ1_indexOf_4cfef_30 : decode cJ1_indexOf_4cfef 30 = .ok (.iload_n 1, 1) := by decide +kernel
theorem dJ1_indexOf_4cfef_31 : decode cJ1_indexOf_4cfef 31 = .ok (.iload_n 2, 1) := by decide +kernel
theorem dJ1_indexOf_4cfef_32 : decode cJ1_indexOf_4cfef 32 = .ok (.iload_n 3, 1) := by decide +kernel
theorem dJ1_indexOf_4cfef_33 : decode cJ1_indexOf_4cfef 33 = .ok (.invokestatic 95, 3) := by decide +kernel
theorem dJ1_indexOf_4cfef_36 : decode cJ1_indexOf_4cfef 36 = .ok (.ireturn, 1) := by decide +kernel
theorem dJ1_indexOfChar_4cfef_0 : decode cJ1_indexOfChar_4cfef 0 = .ok (.iload_n 1, 1) := by decide +kernel
theorem dJ1_indexOfChar_4cfef_1 : decode cJ1_indexOfChar_4cfef 1 = .ok (.i2b, 1) := by decide +kernel
theorem dJ1_indexOfChar_4cfef_2 : decode cJ1_indexOfChar_4cfef 2 = .ok (.istore 4, 2) := by decide +kernel
theorem dJ1_indexOfChar_4cfef_4 : decode cJ1_indexOfChar_4cfef 4 = .ok (.iload_n 2, 1) := by decide +kernel
theorem dJ1_indexOfChar_4cfef_5 : decode cJ1_indexOfChar_4cfef 5 = .ok (.istore 5, 2) := by decide +kernel
theorem dJ1_indexOfChar_4cfef_7 : decode cJ1_indexOfChar_4cfef 7 = .ok (.iload 5, 2) := by decide +kernel
theorem dJ1_indexOfChar_4cfef_9 : decode cJ1_indexOfChar_4cfef 9 = .ok (.iload_n 3, 1) := by decide +kernel
theorem dJ1_indexOfChar_4cfef_10 : decode cJ1_indexOfChar_4cfef 10 = .ok (.if_icmp .ge 21, 3) := by decide +kernel
theorem dJ1_indexOfChar_4cfef_13 : decode cJ1_indexOfChar_4cfef 13 = .ok (.aload_n 0, 1) := by decide +kernel
theorem dJ1_indexOfChar_4cfef_14 : decode cJ1_indexOfChar_4cfef 14 = .ok (.iload 5, 2) := by decide +kernel
theorem dJ1_indexOfChar_4cfef_16 : decode cJ1_indexOfChar_4cfef 16 = .ok (.baload, 1) := by decide +kernel
theorem dJ1_indexOfChar_4cfef_17 : decode cJ1_indexOfChar_4cfef 17 = .ok (.iload 4, 2) := by decide +kernel
theorem dJ1_indexOfChar_4cfef_19 : decode cJ1_indexOfChar_4cfef 19 = .ok (.if_icmp .ne 6, 3) := by decide +kernel
theorem dJ1_indexOfChar_4cfef_22 : decode cJ1_indexOfChar_4cfef 22 = .ok (.iload 5, 2) := by decide +kernel
theorem dJ1_indexOfChar_4cfef_24 : decode cJ1_indexOfChar_4cfef 24 = .ok (.ireturn, 1) := by decide +kernel
theorem dJ1_indexOfChar_4cfef_25 : decode cJ1_indexOfChar_4cfef 25 = .ok (.iinc 5 1, 3) := by decide +kernel
theorem dJ1_indexOfChar_4cfef_28 : decode cJ1_indexOfChar_4cfef 28 = .ok (.goto (-21), 3) := by decide +kernel
theorem dJ1_indexOfChar_4cfef_31 : decode cJ1_indexOfChar_4cfef 31 = .ok (.iconst (-1), 1) := by decide +kernel
theorem dJ1_indexOfChar_4cfef_32 : decode cJ1_indexOfChar_4cfef 32 = .ok (.ireturn, 1) := by decide +kernel
theorem dJ2_getChar_3b067_0 : decode cJ2_getChar_3b067 0 = .ok (.getstatic 44, 3) := by decide +kernel
theorem dJ2_getChar_3b067_3 : decode cJ2_getChar_3b067 3 = .ok (.ifCond .ne 25, 3) := by decide +kernel
theorem dJ2_getChar_3b067_6 : decode cJ2_getChar_3b067 6 = .ok (.iload_n 1, 1) := by decide +kernel
theorem dJ2_getChar_3b067_7 : decode cJ2_getChar_3b067 7 = .ok (.ifCond .lt 11, 3) := by decide +kernel
theorem dJ2_getChar_3b067_10 : decode cJ2_getChar_3b067 10 = .ok (.iload_n 1, 1) := by decide +kernel
theorem dJ2_getChar_3b067_11 : decode cJ2_getChar_3b067 11 = .ok (.aload_n 0, 1) := by decide +kernel
theorem dJ2_getChar_3b067_12 : decode cJ2_getChar_3b067 12 = .ok (.invokestatic 48, 3) := by decide +kernel
theorem dJ2_getChar_3b067_15 : decode cJ2_getChar_3b067 15 = .ok (.if_icmp .lt 13, 3) := by decide +kernel
theorem dJ2_getChar_3b067_18 : decode cJ2_getChar_3b067 18 = .ok (.new 52, 3) := by decide +kernel
theorem dJ2_getChar_3b067_21 : decode cJ2_getChar_3b067 21 = .ok (.dup, 1) := by decide +kernel
theorem dJ2_getChar_3b067_22 : decode cJ2_getChar_3b067 22 = .ok (.ldc 54, 2) := by decide +kernel
theorem dJ2_getChar_3b067_24 : decode cJ2_getChar_3b067 24 = .ok (.invokespecial 56, 3) := by decide +kernel
theorem dJ2_getChar_3b067_27 : decode cJ2_getChar_3b067 27 = .ok (.athrow, 1) := by decide +kernel
theorem dJ2_getChar_3b067_28 : decode cJ2_getChar_3b067 28 = .ok (.iload_n 1, 1) := by decide +kernel
theorem dJ2_getChar_3b067_29 : decode cJ2_getChar_3b067 29 = .ok (.iconst 1, 1) := by decide +kernel
theorem dJ2_getChar_3b067_30 : decode cJ2_getChar_3b067 30 = .ok (.ishl, 1) := by decide +kernel
theorem dJ2_getChar_3b067_31 : decode cJ2_getChar_3b067 31 = .ok (.istore_n 1, 1) := by decide +kernel
theorem dJ2_getChar_3b067_32 : decode cJ2_getChar_3b067 32 = .ok (.aload_n 0, 1) := by decide +kernel
theorem dJ2_getChar_3b067_33 : decode cJ2_getChar_3b067 33 = .ok (.iload_n 1, 1) := by decide +kernel
theorem dJ2_getChar_3b067_34 : decode cJ2_getChar_3b067 34 = .ok (.iinc 1 1, 3) := by decide +kernel
theorem dJ2_getChar_3b067_37 : decode cJ2_getChar_3b067 37 = .ok (.baload, 1) := by decide +kernel
theorem dJ2_getChar_3b067_38 : decode cJ2_getChar_3b067 38 = .ok (.sipush 255, 3) := by decide +kernel
theorem dJ2_getChar_3b067_41 : decode cJ2_getChar_3b067 41 = .ok (.iand, 1) := by decide +kernel
theorem dJ2_getChar_3b067_42 : decode cJ2_getChar_3b067 42 = .ok (.getstatic 59, 3) := by decide +kernel
theorem dJ2_getChar_3b067_45 : decode cJ2_getChar_3b067 45 = .ok (.ishl, 1) := by decide +kernel
theorem dJ2_getChar_3b067_46 : decode cJ2_getChar_3b067 46 = .ok (.aload_n 0, 1) := by decide +kernel
theorem dJ2_getChar_3b067_47 : decode cJ2_getChar_3b067 47 = .ok (.iload_n 1, 1) := by decide +kernel
theorem dJ2_getChar_3b067_48 : decode cJ2_getChar_3b067 48 = .ok (.baload, 1) := by decide +kernel
theorem dJ2_getChar_3b067_49 : decode cJ2_getChar_3b067 49 = .ok (.sipush 255, 3) := by decide +kernel
theorem dJ2_getChar_3b067_52 : decode cJ2_getChar_3b067 52 = .ok (.iand, 1) := by decide +kernel
theorem dJ2_getChar_3b067_53 : decode cJ2_getChar_3b067 53 = .ok (.getstatic 63, 3) := by decide +kernel
theorem dJ2_getChar_3b067_56 : decode cJ2_getChar_3b067 56 = .ok (.ishl, 1) := by decide +kernel
theorem dJ2_getChar_3b067_57 : decode cJ2_getChar_3b067 57 = .ok (.ior, 1) := by decide +kernel
theorem dJ2_getChar_3b067_58 : decode cJ2_getChar_3b067 58 = .ok (.i2c, 1) := by decide +kernel
theorem dJ2_getChar_3b067_59 : decode cJ2_getChar_3b067 59 = .ok (.ireturn, 1) := by decide +kernel
theorem dJ2_length_9d52b_0 : decode cJ2_length_9d52b 0 = .ok (.aload_n 0, 1) := by decide +kernel
theorem dJ2_length_9d52b_1 : decode cJ2_length_9d52b 1 = .ok (.arraylength, 1) := by decide +kernel
theorem dJ2_length_9d52b_2 : decode cJ2_length_9d52b 2 = .ok (.iconst 1, 1) := by decide +kernel
theorem dJ2_length_9d52b_3 : decode cJ2_length_9d52b 3 = .ok (.ishr, 1) := by decide +kernel
theorem dJ2_length_9d52b_4 : decode cJ2_length_9d52b 4 = .ok (.ireturn, 1) := by decide +kernel
theorem dJ2_indexOf_4cfef_0 : decode cJ2_indexOf_4cfef 0 = .ok (.iload_n 2, 1) := by decide +kernel
theorem dJ2_indexOf_4cfef_1 : decode cJ2_indexOf_4cfef 1 = .ok (.iconst 0, 1) := by decide +kernel
theorem dJ2_indexOf_4cfef_2 : decode cJ2_indexOf_4cfef 2 = .ok (.invokestatic 224, 3) := by decide +kernel
theorem dJ2_indexOf_4cfef_5 : decode cJ2_indexOf_4cfef 5 = .ok (.istore_n 2, 1) := by decide +kernel
theorem dJ2_indexOf_4cfef_6 : decode cJ2_indexOf_4cfef 6 = .ok (.iload_n 3, 1) := by decide +kernel
theorem dJ2_indexOf_4cfef_7 : decode cJ2_indexOf_4cfef 7 = .ok (.aload_n 0, 1) := by decide +kernel
theorem dJ2_indexOf_4cfef_8 : decode cJ2_indexOf_4cfef 8 = .ok (.arraylength, 1) := by decide +kernel
theorem dJ2_indexOf_4cfef_9 : decode cJ2_indexOf_4cfef 9 = .ok (.iconst 1, 1) := by decide +kernel
theorem dJ2_indexOf_4cfef_10 : decode cJ2_indexOf_4cfef 10 = .ok (.ishr, 1) := by decide +kernel
theorem dJ2_indexOf_4cfef_11 : decode cJ2_indexOf_4cfef 11 = .ok (.invokestatic 183, 3) := by decide +kernel
theorem dJ2_indexOf_4cfef_14 : decode cJ2_indexOf_4cfef 14 = .ok (.istore_n 3, 1) := by decide +kernel
theorem dJ2_indexOf_4cfef_15 : decode cJ2_indexOf_4cfef 15 = .ok (.iload_n 2, 1) := by decide +kernel
theorem dJ2_indexOf_4cfef_16 : decode cJ2_indexOf_4cfef 16 = .ok (.iload_n 3, 1) := by decide +kernel
theorem dJ2_indexOf_4cfef_17 : decode cJ2_indexOf_4cfef 17 = .ok (.if_icmp .lt 5, 3) := by decide +kernel
theorem dJ2_indexOf_4cfef_20 : decode cJ2_indexOf_4cfef 20 = .ok (.iconst (-1), 1) := by decide +kernel
theorem dJ2_indexOf_4cfef_21 : decode cJ2_indexOf_4cfef 21 = .ok (.ireturn, 1) := by decide +kernel
theorem dJ2_indexOf_4cfef_22 : decode cJ2_indexOf_4cfef 22 = .ok (.iload_n 1, 1) := by decide +kernel
theorem dJ2_indexOf_4cfef_23 : decode cJ2_indexOf_4cfef 23 = .ok (.ldc 227, 2) := by decide +kernel
theorem dJ2_indexOf_4cfef_25 : decode cJ2_indexOf_4cfef 25 = .ok (.if_icmp .ge 11, 3) := by decide +kernel
theorem dJ2_indexOf_4cfef_28 : decode cJ2_indexOf_4cfef 28 = .ok (.aload_n 0, 1) := by decide +kernel
theorem dJ2_indexOf_4cfef_29 : decode cJ2_indexOf_4cfef 29 = .ok (.iload_n 1, 1) := by decide +kernel
theorem dJ2_indexOf_4cfef_30 : decode cJ2_indexOf_4cfef 30 = .ok (.iload_n 2, 1) := by decide +kernel
theorem dJ2_indexOf_4cfef_31 : decode cJ2_indexOf_4cfef 31 = .ok (.iload_n 3, 1) := by decide +kernel
theorem dJ2_indexOf_4cfef_32 : decode cJ2_indexOf_4cfef 32 = .ok (.invokestatic 228, 3) := by decide +kernel
theorem dJ2_indexOf_4cfef_35 : decode cJ2_indexOf_4cfef 35 = .ok (.ireturn, 1) := by decide +kernel
theorem dJ2_indexOf_4cfef_36 : decode cJ2_indexOf_4cfef 36 = .ok (.aload_n 0, 1) := by decide +kernel
theorem dJ2_indexOf_4cfef_37 : decode cJ2_indexOf_4cfef 37 = .ok (.iload_n 1, 1) := by decide +kernel
theorem dJ2_indexOf_4cfef_38 : decode cJ2_indexOf_4cfef 38 = .ok (.iload_n 2, 1) := by decide +kernel
theorem dJ2_indexOf_4cfef_39 : decode cJ2_indexOf_4cfef 39 = .ok (.iload_n 3, 1) := by decide +kernel
theorem dJ2_indexOf_4cfef_40 : decode cJ2_indexOf_4cfef 40 = .ok (.invokestatic 232, 3) := by decide +kernel
theorem dJ2_indexOf_4cfef_43 : decode cJ2_indexOf_4cfef 43 = .ok (.ireturn, 1) := by decide +kernel
theorem dJ2_indexOfChar_4cfef_0 : decode cJ2_indexOfChar_4cfef 0 = .ok (.iload_n 2, 1) := by decide +kernel
theorem dJ2_indexOfChar_4cfef_1 : decode cJ2_indexOfChar_4cfef 1 = .ok (.iload_n 3, 1) := by decide +kernel
theorem dJ2_indexOfChar_4cfef_2 : decode cJ2_indexOfChar_4cfef 2 = .ok (.aload_n 0, 1) := by decide +kernel
theorem dJ2_indexOfChar_4cfef_3 : decode cJ2_indexOfChar_4cfef 3 = .ok (.invokestatic 96, 3) := by decide +kernel
theorem dJ2_indexOfChar_4cfef_6 : decode cJ2_indexOfChar_4cfef 6 = .ok (.aload_n 0, 1) := by decide +kernel
theorem dJ2_indexOfChar_4cfef_7 : decode cJ2_indexOfChar_4cfef 7 = .ok (.iload_n 1, 1) := by decide +kernel
theorem dJ2_indexOfChar_4cfef_8 : decode cJ2_indexOfChar_4cfef 8 = .ok (.iload_n 2, 1) := by decide +kernel
theorem dJ2_indexOfChar_4cfef_9 : decode cJ2_indexOfChar_4cfef 9 = .ok (.iload_n 3, 1) := by decide +kernel
theorem dJ2_indexOfChar_4cfef_10 : decode cJ2_indexOfChar_4cfef 10 = .ok (.invokestatic 244, 3) := by decide +kernel
theorem dJ2_indexOfChar_4cfef_13 : decode cJ2_indexOfChar_4cfef 13 = .ok (.ireturn, 1) := by decide +kernel
theorem dJ2_indexOfCharUnsafe_4cfef_0 : decode cJ2_indexOfCharUnsafe_4cfef 0 = .ok (.iload_n 2, 1) := by decide +kernel
theorem dJ2_indexOfCharUnsafe_4cfef_1 : decode cJ2_indexOfCharUnsafe_4cfef 1 = .ok (.istore 4, 2) := by decide +kernel
theorem dJ2_indexOfCharUnsafe_4cfef_3 : decode cJ2_indexOfCharUnsafe_4cfef 3 = .ok (.iload 4, 2) := by decide +kernel
theorem dJ2_indexOfCharUnsafe_4cfef_5 : decode cJ2_indexOfCharUnsafe_4cfef 5 = .ok (.iload_n 3, 1) := by decide +kernel
theorem dJ2_indexOfCharUnsafe_4cfef_6 : decode cJ2_indexOfCharUnsafe_4cfef 6 = .ok (.if_icmp .ge 22, 3) := by decide +kernel
theorem dJ2_indexOfCharUnsafe_4cfef_9 : decode cJ2_indexOfCharUnsafe_4cfef 9 = .ok (.aload_n 0, 1) := by decide +kernel
theorem dJ2_indexOfCharUnsafe_4cfef_10 : decode cJ2_indexOfCharUnsafe_4cfef 10 = .ok (.iload 4, 2) := by decide +kernel
theorem dJ2_indexOfCharUnsafe_4cfef_12 : decode cJ2_indexOfCharUnsafe_4cfef 12 = .ok (.invokestatic 71, 3) := by decide +kernel
theorem dJ2_indexOfCharUnsafe_4cfef_15 : decode cJ2_indexOfCharUnsafe_4cfef 15 = .ok (.iload_n 1, 1) := by decide +kernel
theorem dJ2_indexOfCharUnsafe_4cfef_16 : decode cJ2_indexOfCharUnsafe_4cfef 16 = .ok (.if_icmp .ne 6, 3) := by decide +kernel
theorem dJ2_indexOfCharUnsafe_4cfef_19 : decode cJ2_indexOfCharUnsafe_4cfef 19 = .ok (.iload 4, 2) := by decide +kernel
theorem dJ2_indexOfCharUnsafe_4cfef_21 : decode cJ2_indexOfCharUnsafe_4cfef 21 = .ok (.ireturn, 1) := by decide +kernel
theorem dJ2_indexOfCharUnsafe_4cfef_22 : decode cJ2_indexOfCharUnsafe_4cfef 22 = .ok (.iinc 4 1, 3) := by decide +kernel
theorem dJ2_indexOfCharUnsafe_4cfef_25 : decode cJ2_indexOfCharUnsafe_4cfef 25 = .ok (.goto (-22), 3) := by decide +kernel
theorem dJ2_indexOfCharUnsafe_4cfef_28 : decode cJ2_indexOfCharUnsafe_4cfef 28 = .ok (.iconst (-1), 1) := by decide +kernel
theorem dJ2_indexOfCharUnsafe_4cfef_29 : decode cJ2_indexOfCharUnsafe_4cfef 29 = .ok (.ireturn, 1) := by decide +kernel
theorem dJ2_indexOfSupplementary_4cfef_0 : decode cJ2_indexOfSupplementary_4cfef 0 = .ok (.iload_n 1, 1) := by decide +kernel
theorem dJ2_indexOfSupplementary_4cfef_1 : decode cJ2_indexOfSupplementary_4cfef 1 = .ok (.invokestatic 164, 3) := by decide +kernel
theorem dJ2_indexOfSupplementary_4cfef_4 : decode cJ2_indexOfSupplementary_4cfef 4 = .ok (.ifCond .eq 65, 3) := by decide +kernel
theorem dJ2_indexOfSupplementary_4cfef_7 : decode cJ2_indexOfSupplementary_4cfef 7 = .ok (.iload_n 1, 1) := by decide +kernel
theorem dJ2_indexOfSupplementary_4cfef_8 : decode cJ2_indexOfSupplementary_4cfef 8 = .ok (.invokestatic 157, 3) := by decide +kernel
theorem dJ2_indexOfSupplementary_4cfef_11 : decode cJ2_indexOfSupplementary_4cfef 11 = .ok (.istore 4, 2) := by decide +kernel
theorem dJ2_indexOfSupplementary_4cfef_13 : decode cJ2_indexOfSupplementary_4cfef 13 = .ok (.iload_n 1, 1) := by decide +kernel
theorem dJ2_indexOfSupplementary_4cfef_14 : decode cJ2_indexOfSupplementary_4cfef 14 = .ok (.invokestatic 161, 3) := by decide +kernel
theorem dJ2_indexOfSupplementary_4cfef_17 : decode cJ2_indexOfSupplementary_4cfef 17 = .ok (.istore 5, 2) := by decide +kernel
theorem dJ2_indexOfSupplementary_4cfef_19 : decode cJ2_indexOfSupplementary_4cfef 19 = .ok (.iload_n 2, 1) := by decide +kernel
theorem dJ2_indexOfSupplementary_4cfef_20 : decode cJ2_indexOfSupplementary_4cfef 20 = .ok (.iload_n 3, 1) := by decide +kernel
theorem dJ2_indexOfSupplementary_4cfef_21 : decode cJ2_indexOfSupplementary_4cfef 21 = .ok (.aload_n 0, 1) := by decide +kernel
theorem dJ2_indexOfSupplementary_4cfef_22 : decode cJ2_indexOfSupplementary_4cfef 22 = .ok (.invokestatic 96, 3) := by decide +kernel
theorem dJ2_indexOfSupplementary_4cfef_25 : decode cJ2_indexOfSupplementary_4cfef 25 = .ok (.iload_n 2, 1) := by decide +kernel
theorem dJ2_indexOfSupplementary_4cfef_26 : decode cJ2_indexOfSupplementary_4cfef 26 = .ok (.istore 6, 2) := by decide +kernel
theorem dJ2_indexOfSupplementary_4cfef_28 : decode cJ2_indexOfSupplementary_4cfef 28 = .ok (.iload 6, 2) := by decide +kernel
theorem dJ2_indexOfSupplementary_4cfef_30 : decode cJ2_indexOfSupplementary_4cfef 30 = .ok (.iload_n 3, 1) := by decide +kernel
theorem dJ2_indexOfSupplementary_4cfef_31 : decode cJ2_indexOfSupplementary_4cfef 31 = .ok (.iconst 1, 1) := by decide +kernel
theorem dJ2_indexOfSupplementary_4cfef_32 : decode cJ2_indexOfSupplementary_4cfef 32 = .ok (.isub, 1) := by decide +kernel
theorem dJ2_indexOfSupplementary_4cfef_33 : decode cJ2_indexOfSupplementary_4cfef 33 = .ok (.if_icmp .ge 36, 3) := by decide +kernel
theorem dJ2_indexOfSupplementary_4cfef_36 : decode cJ2_indexOfSupplementary_4cfef 36 = .ok (.aload_n 0, 1) := by decide +kernel
theorem dJ2_indexOfSupplementary_4cfef_37 : decode cJ2_indexOfSupplementary_4cfef 37 = .ok (.iload 6, 2) := by decide +kernel
theorem dJ2_indexOfSupplementary_4cfef_39 : decode cJ2_indexOfSupplementary_4cfef 39 = .ok (.invokestatic 71, 3) := by decide +kernel
theorem dJ2_indexOfSupplementary_4cfef_42 : decode cJ2_indexOfSupplementary_4cfef 42 = .ok (.iload 4, 2) := by decide +kernel
theorem dJ2_indexOfSupplementary_4cfef_44 : decode cJ2_indexOfSupplementary_4cfef 44 = .ok (.if_icmp .ne 19, 3) := by decide +kernel
theorem dJ2_indexOfSupplementary_4cfef_47 : decode cJ2_indexOfSupplementary_4cfef 47 = .ok (.aload_n 0, 1) := by decide +kernel
theorem dJ2_indexOfSupplementary_4cfef_48 : decode cJ2_indexOfSupplementary_4cfef 48 = .ok (.iload 6, 2) := by decide +kernel
theorem dJ2_indexOfSupplementary_4cfef_50 : decode cJ2_indexOfSupplementary_4cfef 50 = .ok (.iconst 1, 1) := by decide +kernel
theorem dJ2_indexOfSupplementary_4cfef_51 : decode cJ2_indexOfSupplementary_4cfef 51 = .ok (.iadd, 1) := by decide +kernel
theorem dJ2_indexOfSupplementary_4cfef_52 : decode cJ2_indexOfSupplementary_4cfef 52 = .ok (.invokestatic 71, 3) := by decide +kernel
theorem dJ2_indexOfSupplementary_4cfef_55 : decode cJ2_indexOfSupplementary_4cfef 55 = .ok (.iload 5, 2) := by decide +kernel
theorem dJ2_indexOfSupplementary_4cfef_57 : decode cJ2_indexOfSupplementary_4cfef 57 = .ok (.if_icmp .ne 6, 3) := by decide +kernel
theorem dJ2_indexOfSupplementary_4cfef_60 : decode cJ2_indexOfSupplementary_4cfef 60 = .ok (.iload 6, 2) := by decide +kernel
theorem dJ2_indexOfSupplementary_4cfef_62 : decode cJ2_indexOfSupplementary_4cfef 62 = .ok (.ireturn, 1) := by decide +kernel
theorem dJ2_indexOfSupplementary_4cfef_63 : decode cJ2_indexOfSupplementary_4cfef 63 = .ok (.iinc 6 1, 3) := by decide +kernel
theorem dJ2_indexOfSupplementary_4cfef_66 : decode cJ2_indexOfSupplementary_4cfef 66 = .ok (.goto (-38), 3) := by decide +kernel
theorem dJ2_indexOfSupplementary_4cfef_69 : decode cJ2_indexOfSupplementary_4cfef 69 = .ok (.iconst (-1), 1) := by decide +kernel
theorem dJ2_indexOfSupplementary_4cfef_70 : decode cJ2_indexOfSupplementary_4cfef 70 = .ok (.ireturn, 1) := by decide +kernel
theorem dJ2_charAt_3b067_0 : decode cJ2_charAt_3b067 0 = .ok (.iload_n 1, 1) := by decide +kernel
theorem dJ2_charAt_3b067_1 : decode cJ2_charAt_3b067 1 = .ok (.aload_n 0, 1) := by decide +kernel
theorem dJ2_charAt_3b067_2 : decode cJ2_charAt_3b067 2 = .ok (.invokestatic 67, 3) := by decide +kernel
theorem dJ2_charAt_3b067_5 : decode cJ2_charAt_3b067 5 = .ok (.aload_n 0, 1) := by decide +kernel
theorem dJ2_charAt_3b067_6 : decode cJ2_charAt_3b067 6 = .ok (.iload_n 1, 1) := by decide +kernel
theorem dJ2_charAt_3b067_7 : decode cJ2_charAt_3b067 7 = .ok (.invokestatic 71, 3) := by decide +kernel
theorem dJ2_charAt_3b067_10 : decode cJ2_charAt_3b067 10 = .ok (.ireturn, 1) := by decide +kernel
theorem dJ2_checkIndex_2214a_0 : decode cJ2_checkIndex_2214a 0 = .ok (.iload_n 0, 1) := by decide +kernel
theorem dJ2_checkIndex_2214a_1 : decode cJ2_checkIndex_2214a 1 = .ok (.aload_n 1, 1) := by decide +kernel
theorem dJ2_checkIndex_2214a_2 : decode cJ2_checkIndex_2214a 2 = .ok (.invokestatic 48, 3) := by decide +kernel
theorem dJ2_checkIndex_2214a_5 : decode cJ2_checkIndex_2214a 5 = .ok (.invokestatic 414, 3) := by decide +kernel
theorem dJ2_checkIndex_2214a_8 : decode cJ2_checkIndex_2214a 8 = .ok (.return_, 1) := by decide +kernel
theorem dJ2_checkBoundsBeginEnd_d044e_0 : decode cJ2_checkBoundsBeginEnd_d044e 0 = .ok (.iload_n 0, 1) := by decide +kernel
theorem dJ2_checkBoundsBeginEnd_d044e_1 : decode cJ2_checkBoundsBeginEnd_d044e 1 = .ok (.iload_n 1, 1) := by decide +kernel
theorem dJ2_checkBoundsBeginEnd_d044e_2 : decode cJ2_checkBoundsBeginEnd_d044e 2 = .ok (.aload_n 2, 1) := by decide +kernel
theorem dJ2_checkBoundsBeginEnd_d044e_3 : decode cJ2_checkBoundsBeginEnd_d044e 3 = .ok (.invokestatic 48, 3) := by decide +kernel
theorem dJ2_checkBoundsBeginEnd_d044e_6 : decode cJ2_checkBoundsBeginEnd_d044e 6 = .ok (.invokestatic 241, 3) := by decide +kernel
theorem dJ2_checkBoundsBeginEnd_d044e_9 : decode cJ2_checkBoundsBeginEnd_d044e 9 = .ok (.return_, 1) := by decide +kernel
theorem dJ3_checkIndex_8e157_0 : decode cJ3_checkIndex_8e157 0 = .ok (.iload_n 0, 1) := by decide +kernel
theorem dJ3_checkIndex_8e157_1 : decode cJ3_checkIndex_8e157 1 = .ok (.ifCond .lt 8, 3) := by decide +kernel
theorem dJ3_checkIndex_8e157_4 : decode cJ3_checkIndex_8e157 4 = .ok (.iload_n 0, 1) := by decide +kernel
theorem dJ3_checkIndex_8e157_5 : decode cJ3_checkIndex_8e157 5 = .ok (.iload_n 1, 1) := by decide +kernel
theorem dJ3_checkIndex_8e157_6 : decode cJ3_checkIndex_8e157 6 = .ok (.if_icmp .lt 10, 3) := by decide +kernel
theorem dJ3_checkIndex_8e157_9 : decode cJ3_checkIndex_8e157 9 = .ok (.aload_n 2, 1) := by decide +kernel
theorem dJ3_checkIndex_8e157_10 : decode cJ3_checkIndex_8e157 10 = .ok (.iload_n 0, 1) := by decide +kernel
theorem dJ3_checkIndex_8e157_11 : decode cJ3_checkIndex_8e157 11 = .ok (.iload_n 1, 1) := by decide +kernel
theorem dJ3_checkIndex_8e157_12 : decode cJ3_checkIndex_8e157 12 = .ok (.invokestatic 95, 3) := by decide +kernel
theorem dJ3_checkIndex_8e157_15 : decode cJ3_checkIndex_8e157 15 = .ok (.athrow, 1) := by decide +kernel
theorem dJ3_checkIndex_8e157_16 : decode cJ3_checkIndex_8e157 16 = .ok (.iload_n 0, 1) := by decide +kernel
theorem dJ3_checkIndex_8e157_17 : decode cJ3_checkIndex_8e157 17 = .ok (.ireturn, 1) := by decide +kernel
theorem dJ3_checkFromToIndex_8c36e_0 : decode cJ3_checkFromToIndex_8c36e 0 = .ok (.iload_n 0, 1) := by decide +kernel
theorem dJ3_checkFromToIndex_8c36e_1 : decode cJ3_checkFromToIndex_8c36e 1 = .ok (.ifCond .lt 13, 3) := by decide +kernel
theorem dJ3_checkFromToIndex_8c36e_4 : decode cJ3_checkFromToIndex_8c36e 4 = .ok (.iload_n 0, 1) := by decide +kernel
theorem dJ3_checkFromToIndex_8c36e_5 : decode cJ3_checkFromToIndex_8c36e 5 = .ok (.iload_n 1, 1) := by decide +kernel
theorem dJ3_checkFromToIndex_8c36e_6 : decode cJ3_checkFromToIndex_8c36e 6 = .ok (.if_icmp .gt 8, 3) := by decide +kernel
theorem dJ3_checkFromToIndex_8c36e_9 : decode cJ3_checkFromToIndex_8c36e 9 = .ok (.iload_n 1, 1) := by decide +kernel
theorem dJ3_checkFromToIndex_8c36e_10 : decode cJ3_checkFromToIndex_8c36e 10 = .ok (.iload_n 2, 1) := by decide +kernel
theorem dJ3_checkFromToIndex_8c36e_11 : decode cJ3_checkFromToIndex_8c36e 11 = .ok (.if_icmp .le 11, 3) := by decide +kernel
theorem dJ3_checkFromToIndex_8c36e_14 : decode cJ3_checkFromToIndex_8c36e 14 = .ok (.aload_n 3, 1) := by decide +kernel
theorem dJ3_checkFromToIndex_8c36e_15 : decode cJ3_checkFromToIndex_8c36e 15 = .ok (.iload_n 0, 1) := by decide +kernel
theorem dJ3_checkFromToIndex_8c36e_16 : decode cJ3_checkFromToIndex_8c36e 16 = .ok (.iload_n 1, 1) := by decide +kernel
theorem dJ3_checkFromToIndex_8c36e_17 : decode cJ3_checkFromToIndex_8c36e 17 = .ok (.iload_n 2, 1) := by decide +kernel
theorem dJ3_checkFromToIndex_8c36e_18 : decode cJ3_checkFromToIndex_8c36e 18 = .ok (.invokestatic 99, 3) := by decide +kernel
theorem dJ3_checkFromToIndex_8c36e_21 : decode cJ3_checkFromToIndex_8c36e 21 = .ok (.athrow, 1) := by decide +kernel
theorem dJ3_checkFromToIndex_8c36e_22 : decode cJ3_checkFromToIndex_8c36e 22 = .ok (.iload_n 0, 1) := by decide +kernel
theorem dJ3_checkFromToIndex_8c36e_23 : decode cJ3_checkFromToIndex_8c36e 23 = .ok (.ireturn, 1) := by decide +kernel
end
section
abbrev Mem : Type := Nat → Nat → Nat → Int32
abbrev Rho : Type := Nat → Nat → Nat → Option (Nat × Nat)
def mput (σ : Mem) (g i k : Nat) (v : Int32) : Mem := fun g' i' k' => if g' = g ∧ i' = i ∧ k' = k then v else σ g' i' k'
/-- groups of cells: 0 .. 8 the objects of vwCl's classes, 9 .. 21 the class's arrays, 22 .. 41 the reference's -/
def cnt (g : Nat) : Nat := [3, 15, 1, 35, 1, 9, 5, 1, 1, 1, 1, 15, 3, 3, 3, 3, 3, 1, 1, 1, 9, 1, 1, 1, 1, 1, 1, 1, 1, 1, 1, 1, 1, 1, 1, 1, 1, 1, 1, 1, 1, 1].getD g 0
/-- kinds of arrays: 1 int, 2 byte, 3 short, 4 .. 7 of Law, Person, Sheet, Slot; 0 an object -/
def ak (g : Nat) : Nat := [0, 0, 0, 0, 0, 0, 0, 0, 0, 4, 1, 3, 5, 1, 1, 1, 1, 2, 1, 6, 1, 7, 1, 1, 1, 1, 1, 1, 1, 1, 1, 1, 1, 1, 1, 1, 1, 1, 1, 1, 1, 1].getD g 0
def alen (g : Nat) : Nat := [0, 0, 0, 0, 0, 0, 0, 0, 0, 15, 96, 96, 10, 17, 17, 17, 3, 96, 60, 4, 24, 5, 3108, 3108, 3108, 4, 4, 96, 5, 5, 5, 5, 120, 10, 1024, 108, 96, 128, 100, 24, 60, 60].getD g 0
def nF (g : Nat) : Nat := [13, 4, 2, 5, 6, 3, 4, 12, 33].getD g 0
def pix (g i : Nat) : Nat := match g with
  | 0 => 34 + 16 * i
  | 1 => 4 + 2 * i
  | 2 => 1
  | 3 => if i < 30 then 40 + 16 * (i / 10) + i % 10 else 96 + 4 * (i - 30)
  | 4 => 83
  | 5 => if i < 4 then 86 + 2 * i else 97 + 4 * (i - 4)
  | 6 => 95 + 4 * i
  | 7 => 0
  | 8 => 115
  | 9 => 2
  | 10 => 3
  | 11 => 5 + 2 * i
  | 12 => 35 + 16 * i
  | 13 => 36 + 16 * i
  | 14 => 37 + 16 * i
  | 15 => 38 + 16 * i
  | 16 => 39 + 16 * i
  | 17 => 82
  | 18 => 84
  | 19 => 85
  | 20 => if i < 4 then 87 + 2 * i else 98 + 4 * (i - 4)
  | 21 => 94
  | g => 94 + g
def PL : List (Nat × Nat) := [(7, 0), (2, 0), (9, 0), (10, 0), (1, 0), (11, 0), (1, 1), (11, 1), (1, 2), (11, 2), (1, 3), (11, 3), (1, 4), (11, 4), (1, 5), (11, 5), (1, 6), (11, 6), (1, 7), (11, 7), (1, 8), (11, 8), (1, 9), (11, 9), (1, 10), (11, 10), (1, 11), (11, 11), (1, 12), (11, 12), (1, 13), (11, 13), (1, 14), (11, 14), (0, 0), (12, 0), (13, 0), (14, 0), (15, 0), (16, 0), (3, 0), (3, 1), (3, 2), (3, 3), (3, 4), (3, 5), (3, 6), (3, 7), (3, 8), (3, 9), (0, 1), (12, 1), (13, 1), (14, 1), (15, 1), (16, 1), (3, 10), (3, 11), (3, 12), (3, 13), (3, 14), (3, 15), (3, 16), (3, 17), (3, 18), (3, 19), (0, 2), (12, 2), (13, 2), (14, 2), (15, 2), (16, 2), (3, 20), (3, 21), (3, 22), (3, 23), (3, 24), (3, 25), (3, 26), (3, 27), (3, 28), (3, 29), (17, 0), (4, 0), (18, 0), (19, 0), (5, 0), (20, 0), (5, 1), (20, 1), (5, 2), (20, 2), (5, 3), (20, 3), (21, 0), (6, 0), (3, 30), (5, 4), (20, 4), (6, 1), (3, 31), (5, 5), (20, 5), (6, 2), (3, 32), (5, 6), (20, 6), (6, 3), (3, 33), (5, 7), (20, 7), (6, 4), (3, 34), (5, 8), (20, 8), (8, 0), (22, 0), (23, 0), (24, 0), (25, 0), (26, 0), (27, 0), (28, 0), (29, 0), (30, 0), (31, 0), (32, 0), (33, 0), (34, 0), (35, 0), (36, 0), (37, 0), (38, 0), (39, 0), (40, 0), (41, 0)]
abbrev ALL : Nat := 136
def RR (g i k : Nat) : Option (Nat × Nat) := match g with
  | 0 => match k with
    | 0 => some (2, 0)
    | 1 => some (12, i)
    | 3 => some (13, i)
    | 4 => some (14, i)
    | 5 => some (15, i)
    | 12 => some (16, i)
    | _ => none
  | 1 => match k with
    | 2 => some (11, i)
    | _ => none
  | 2 => match k with
    | 0 => some (9, 0)
    | 1 => some (10, 0)
    | _ => none
  | 4 => match k with
    | 0 => some (17, 0)
    | _ => none
  | 5 => match k with
    | 2 => some (20, i)
    | _ => none
  | 6 => match k with
    | 1 => some (3, 30 + i)
    | 2 => some (5, 4 + i)
    | _ => none
  | 7 => match k with
    | 0 => some (2, 0)
    | 1 => some (0, 0)
    | 2 => some (0, 1)
    | 3 => some (0, 2)
    | 5 => some (17, 0)
    | 7 => some (4, 0)
    | 8 => some (18, 0)
    | 10 => some (19, 0)
    | 11 => some (21, 0)
    | _ => none
  | 8 => match k with
    | 0 => some (22, 0)
    | 1 => some (23, 0)
    | 2 => some (24, 0)
    | 4 => some (25, 0)
    | 5 => some (26, 0)
    | 6 => some (27, 0)
    | 7 => some (28, 0)
    | 8 => some (29, 0)
    | 9 => some (30, 0)
    | 10 => some (31, 0)
    | 11 => some (32, 0)
    | 12 => some (33, 0)
    | 13 => some (34, 0)
    | 14 => some (35, 0)
    | 15 => some (36, 0)
    | 27 => some (37, 0)
    | 28 => some (38, 0)
    | 29 => some (39, 0)
    | 30 => some (40, 0)
    | 32 => some (41, 0)
    | _ => none
  | 9 => some (1, k)
  | 12 => some (3, 10 * i + k)
  | 19 => some (5, k)
  | 21 => some (6, k)
  | _ => none
/-- which fields of objects are references for good (set once, in constructors) -/
def isR (g k : Nat) : Bool := (RR g 0 k).isSome
def refV (B : Nat) (q : Option (Nat × Nat)) : Value := match q with
  | none => .null
  | some q => .ref (B + pix q.1 q.2)
/-- the one reference that changes (Reader.law): 0 is null, n + 1 the Law n -/
def dynV (B : Nat) (v : Int32) : Value := match v.toNatClampNeg with
  | 0 => .null
  | n + 1 => .ref (B + pix 1 n)
def fvE (B : Nat) (ρ : Rho) (σ : Mem) (g i k : Nat) : Value := if g = 4 ∧ k = 2 then dynV B (σ g i k) else if isR g k then refV B (ρ g i k) else .int (σ g i k)
def objE (B : Nat) (ρ : Rho) (σ : Mem) (g i : Nat) : List Value := (List.range (nF g)).map (fvE B ρ σ g i)
/-- base, classes and slots, array classes, static arrays, String constants and their rows, the script: cell, length, contents -/
abbrev Cx : Type := Nat × va_G × (Nat → ClassId) × (Nat → Nat) × (Nat → Nat) × (Nat → Nat) × Nat × Nat × (Nat → Int32)
abbrev xC (X : Cx) : Nat → ClassId := X.2.2.1
abbrev xT (X : Cx) : Nat → Nat := X.2.2.2.1
abbrev xK (X : Cx) : Nat → Nat := X.2.2.2.2.1
abbrev xV (X : Cx) : Nat → Nat := X.2.2.2.2.2.1
abbrev xb (X : Cx) : Nat := X.2.2.2.2.2.2.1
abbrev xL (X : Cx) : Nat := X.2.2.2.2.2.2.2.1
abbrev xs (X : Cx) : Nat → Int32 := X.2.2.2.2.2.2.2.2
def rf (X : Cx) (g i : Nat) : Value := .ref (X.1 + pix g i)
def cellE (X : Cx) (ρ : Rho) (σ : Mem) (g i : Nat) : va_E :=
  if g < 9 then .inr (g, objE X.1 ρ σ g i)
  else if ak g < 4 then .inl (xC X (ak g), alen g, .inl (fun j => σ g i j))
  else .inl (xC X (ak g), alen g, .inr (.inr (.inr (.inr (fun j => (ρ g i j).map (fun q => X.1 + pix q.1 q.2))))))
def wl (X : Cx) (ρ : Rho) (σ : Mem) (a : Nat) : va_W := (PL.take a).map (fun q => (X.1 + pix q.1 q.2, cellE X ρ σ q.1 q.2))
def tysX (X : Cx) : List (ClassId × FieldType) := [(xC X 1, .int), (xC X 2, .byte), (xC X 3, .short), (xC X 4, .object RX1), (xC X 5, .object RX3), (xC X 6, .object RX5), (xC X 7, .object RX6)]
theorem pl_at : ∀ g, g < 42 → ∀ i, i < cnt g → PL[pix g i]? = some (g, i) := by decide +kernel
theorem pl_pix : ∀ n, n < 136 → pix (PL.getD n (0, 0)).1 (PL.getD n (0, 0)).2 = n := by decide +kernel
theorem pl_len : PL.length = 136 := by decide +kernel
theorem pl_lt {g i : Nat} (hg : g < 42) (hi : i < cnt g) : pix g i < 136 := by
  have h := (List.getElem?_eq_some_iff.mp (pl_at g hg i hi)).1
  rw [pl_len] at h
  exact h
theorem wl_at {X : Cx} {ρ : Rho} {σ : Mem} {a g i : Nat} (hg : g < 42) (hi : i < cnt g) (ha : pix g i < a) : (wl X ρ σ a)[pix g i]? = some (X.1 + pix g i, cellE X ρ σ g i) := by
  unfold wl
  rw [List.getElem?_map, List.getElem?_take_of_lt ha, pl_at g hg i hi]
  rfl
theorem wl_inv {X : Cx} {ρ : Rho} {σ : Mem} {a n : Nat} {q : Nat × va_E} (h : (wl X ρ σ a)[n]? = some q) : ∃ g i, n < a ∧ PL[n]? = some (g, i) ∧ pix g i = n ∧ q = (X.1 + n, cellE X ρ σ g i) := by
  unfold wl at h
  rw [List.getElem?_map] at h
  by_cases hn : n < a
  · rw [List.getElem?_take_of_lt hn] at h
    cases hp : PL[n]? with
    | none => rw [hp] at h; cases h
    | some x =>
      rw [hp] at h
      obtain ⟨g, i⟩ := x
      have hlt := (List.getElem?_eq_some_iff.mp hp).1
      rw [pl_len] at hlt
      have h1 := pl_pix n hlt
      rw [List.getD_eq_getElem?_getD, hp] at h1
      have h1 : pix g i = n := h1
      refine ⟨g, i, hn, rfl, h1, ?_⟩
      cases h
      simp only [h1]
  · rw [List.getElem?_take_eq_none (by omega)] at h
    cases h
theorem wl_set {X : Cx} {ρ ρ' : Rho} {σ σ' : Mem} {a g i : Nat} (hg : g < 42) (hi : i < cnt g) (ha : pix g i < a) (ho : ∀ g' i', (g', i') ≠ (g, i) → cellE X ρ' σ' g' i' = cellE X ρ σ g' i') : (wl X ρ σ a).set (pix g i) (X.1 + pix g i, cellE X ρ' σ' g i) = wl X ρ' σ' a := by
  have hlen : (wl X ρ σ a).length = (wl X ρ' σ' a).length := by simp [wl]
  have hl := (List.getElem?_eq_some_iff.mp (wl_at (X := X) (ρ := ρ) (σ := σ) hg hi ha)).1
  apply List.ext_getElem?
  intro n
  by_cases hn : n = pix g i
  · subst hn
    rw [List.getElem?_set_self hl, wl_at hg hi ha]
  · rw [List.getElem?_set_ne (Ne.symm hn)]
    cases h1 : (wl X ρ σ a)[n]? with
    | none =>
      rw [List.getElem?_eq_none_iff] at h1
      symm
      rw [List.getElem?_eq_none_iff]
      omega
    | some q =>
      obtain ⟨g', i', h2, h3, h4, h5⟩ := wl_inv h1
      have hne : (g', i') ≠ (g, i) := by
        intro e
        cases e
        exact hn h4.symm
      symm
      unfold wl
      rw [List.getElem?_map, List.getElem?_take_of_lt h2, h3, h5]
      simp only [Option.map_some, h4, ho g' i' hne]
def Ax (X : Cx) : Nat → Prop := fun q => X.1 ≤ q
theorem wl_D (X : Cx) (ρ : Rho) (σ : Mem) (a : Nat) : va_D (Ax X) (wl X ρ σ a) := by
  refine ⟨fun i j p q hi hj hpq => ?_, fun k q hk => ?_⟩
  · obtain ⟨g, i', -, -, -, e1⟩ := wl_inv hi
    obtain ⟨g2, i2, -, -, -, e2⟩ := wl_inv hj
    subst e1; subst e2
    have hpq : X.1 + i = X.1 + j := hpq
    omega
  · obtain ⟨g, i', -, -, -, e1⟩ := wl_inv hk
    subst e1
    exact Nat.le_add_right _ _
theorem mput_same {σ : Mem} {g i k : Nat} {v : Int32} : mput σ g i k v g i k = v := by simp [mput]
theorem mput_cell {σ : Mem} {g i k g' i' : Nat} {v : Int32} (h : (g', i') ≠ (g, i)) : mput σ g i k v g' i' = σ g' i' := by
  funext k'
  unfold mput
  rw [if_neg]
  rintro ⟨rfl, rfl, -⟩
  exact h rfl
theorem cellE_congr {X : Cx} {ρ ρ' : Rho} {σ σ' : Mem} {g i : Nat} (h1 : σ g i = σ' g i) (h2 : ρ g i = ρ' g i) : cellE X ρ σ g i = cellE X ρ' σ' g i := by
  have hf : fvE X.1 ρ σ g i = fvE X.1 ρ' σ' g i := by
    funext k
    simp only [fvE, h1, h2]
  simp only [cellE, objE, hf, h1, h2]
theorem wl_put {X : Cx} {ρ : Rho} {σ : Mem} {a g i k : Nat} {v : Int32} (hg : g < 42) (hi : i < cnt g) (ha : pix g i < a) : (wl X ρ σ a).set (pix g i) (X.1 + pix g i, cellE X ρ (mput σ g i k v) g i) = wl X ρ (mput σ g i k v) a :=
  wl_set hg hi ha (fun g' i' hne => cellE_congr (mput_cell hne) rfl)
end
section
/-- a method: name, bytes, locals, what it returns -/
abbrev Mi : Type := MethodName × ByteArray × Nat × Option FieldType
def GW : List Cond := lw_tbl.filter goodWord
def isNest : Cond → Bool
  | .fieldLinkNest _ _ _ _ _ _ => true
  | .methodLinkNest _ _ _ _ => true
  | _ => false
def NW : List Cond := lw_tbl.filter isNest
def wsm (M : Mi) : List Cond := Cond.code M.1 M.2.1 M.2.2.1 M.2.2.2 :: GW
def rmd (d : Nat) : Room := { frames := d, cells := 0, slots := 0, locals := 40 * d }
theorem gw_of {w : Cond} (h : w ∈ lw_tbl) (hg : goodWord w = true) : w ∈ GW := List.mem_filter.mpr ⟨h, hg⟩
theorem gw_at (i : Nat) {w : Cond} (h : lw_tbl[i]? = some w) (hg : goodWord w = true) : w ∈ GW := gw_of (List.mem_of_getElem? h) hg
theorem nw_at (i : Nat) {w : Cond} (h : lw_tbl[i]? = some w) (hg : isNest w = true) : w ∈ NW := List.mem_filter.mpr ⟨List.mem_of_getElem? h, hg⟩
theorem gw_good {big : List Cond} (hb : ∀ w ∈ GW, w ∈ big) : GoodIn big GW := fun w hw => ⟨hb w hw, good_of_word (List.mem_filter.mp hw).2⟩
theorem wsm_good {M M' : Mi} (h : Cond.code M'.1 M'.2.1 M'.2.2.1 M'.2.2.2 ∈ GW) : GoodIn (wsm M) (wsm M') := by
  intro w hw
  rcases List.mem_cons.mp hw with rfl | hw
  · exact ⟨List.mem_cons_of_mem _ h, good_of_word (List.mem_filter.mp h).2⟩
  · exact ⟨List.mem_cons_of_mem _ hw, good_of_word (List.mem_filter.mp hw).2⟩
theorem gw_goodM {M' : Mi} (h : Cond.code M'.1 M'.2.1 M'.2.2.1 M'.2.2.2 ∈ GW) : GoodIn GW (wsm M') := by
  intro w hw
  rcases List.mem_cons.mp hw with rfl | hw
  · exact ⟨h, good_of_word (List.mem_filter.mp h).2⟩
  · exact ⟨hw, good_of_word (List.mem_filter.mp hw).2⟩
theorem nest_warm {w : Cond} (hn : isNest w = true) {s U : State} (hW : s.WarmedH U.vm) (h : va_Nw w s) : va_Nw w U := by
  cases w <;> first | exact va_Nw.warmF hW h | exact va_Nw.warmM hW h | cases hn
theorem nest_tabs {w : Cond} (hn : isNest w = true) : w.onTables = true := by
  cases w <;> first | rfl | cases hn
-- the constants that the class reads: three static rows, eleven texts
def stN (k : Nat) : String := ["KIND_ABOVE", "NOON_LATER", "PAYMENT"].getD k ""
def stR (k : Nat) : List Int32 := [[-1, 0, 0, 1, 2, 0], [0, 1, 0, 7, 0, 0], [2, 1, 0, 5, 0, 9]].getD k []
def StK (X : Cx) (U : State) : Prop := va_K X.2.1 vwCl (tysX X) U ∧ (∀ w ∈ NW, va_Nw w U)
def StZ (X : Cx) (U : State) (H : Heap) : Prop := (∀ k, k < 3 → va_Z "NoonVows" (stN k) "[I" (.ref (xT X k)) (Ax X) U H ∧ va_T .int (xT X k) 6 (fun j => .int ((stR k).getD j 0)) (Ax X) U H) ∧ va_Z "java/lang/String" "COMPACT_STRINGS" "Z" (.int 1) (Ax X) U H
def txI : List Nat := [48, 54, 56, 69, 71, 73, 75, 77, 79, 81, 83]
def txS : List String := ["keep", "fee", "fine", "fnw", "kl", "pe", "|", "&", "<=>", "+-", "*/"]
def txL : List Nat := [4, 3, 4, 3, 2, 2, 1, 1, 3, 2, 2]
def txB : List (List Int32) := [[107, 101, 101, 112], [102, 101, 101], [102, 105, 110, 101], [102, 110, 119], [107, 108], [112, 101], [124], [38], [60, 61, 62], [43, 45], [42, 47]]
def StT (X : Cx) (U : State) (H : Heap) : Prop := (∀ i, i < 11 → vk_R RX4 (txI.getD i 0) (txS.getD i "") (xK X i) U) ∧ vk_S 11 txL txB (xK X) (xV X) (Ax X) U H ∧ va_Zq "jdk/internal/util/Preconditions" "SIOOBE_FORMATTER" "Ljava/util/function/BiFunction;" (Ax X) U H
def StS (X : Cx) (U : State) (H : Heap) : Prop := va_X (xb X) (xL X) (xs X) U H ∧ xb X < X.1
def StX (X : Cx) (U : State) : Prop := StK X U ∧ StZ X U U.heap ∧ StS X U U.heap ∧ X.1 ≤ U.heap.size ∧ StT X U U.heap
theorem StX.same {X : Cx} {u U : State} (hv : u.vm = U.vm) (hh : u.heap = U.heap) (h : StX X u) : StX X U := by
  obtain ⟨⟨h1, h2⟩, ⟨h3, h4⟩, ⟨h5, h6⟩, h7, h8, h9, h10⟩ := h
  have ha : u.vm.Alike U.vm := by rw [hv]; exact Vm.Alike.refl U.vm
  refine ⟨⟨va_K.moved ha h1, fun w hw => va_Nw.same (nest_tabs (List.mem_filter.mp hw).2) hv (h2 w hw)⟩, ⟨fun k hk => ?_, ?_⟩, ⟨?_, h6⟩, ?_, fun i hi => vk_R.same hv.symm (h8 i hi), ?_, ?_⟩
  · rw [← hh]
    exact ⟨va_Z.moved ha (h3 k hk).1, va_T.moved ha (h3 k hk).2⟩
  · rw [← hh]; exact va_Z.moved ha h4
  · rw [← hh]; exact va_X.moved ha h5
  · rw [← hh]; exact h7
  · rw [← hh]; exact vk_S.moved ha h9
  · rw [← hh]; exact va_Zq.moved ha h10
theorem StX.call {X : Cx} {s U : State} {H : Heap} {locs : List Loc} (h : StX X s) (hU : U.heap = H) (hW : s.WarmedH U.vm) (hS : va_S (Ax X) s.heap H locs) : StX X U := by
  obtain ⟨⟨h1, h2⟩, ⟨h3, h4⟩, ⟨h5, h6⟩, h7, h8, h9, h10⟩ := h
  subst hU
  have ha := hW.alike
  have hq : ∀ a : Nat, a < s.heap.size → ¬ Ax X a → U.heap[a]? = s.heap[a]? := hS.2.1
  exact ⟨⟨va_K.moved ha h1, fun w hw => nest_warm (List.mem_filter.mp hw).2 hW (h2 w hw)⟩, ⟨fun k hk => ⟨va_Z.kept (va_Z.moved ha (h3 k hk).1) hq, va_T.kept (va_T.moved ha (h3 k hk).2) hq⟩, va_Z.kept (va_Z.moved ha h4) hq⟩, ⟨va_X.kept (va_X.moved ha h5) (hq _ (Nat.lt_of_lt_of_le h6 h7) (Nat.not_le.mpr h6)), h6⟩, Nat.le_trans h7 hS.1, fun i hi => vk_R.warm hW (h8 i hi), vk_S.kept (vk_S.moved ha h9) hq, va_Zq.kept (va_Zq.moved ha h10) hq⟩
def PcX (X : Cx) (as : List Value) (σ : Mem) : Array Value → State → Prop := va_Pc as (fun U => StX X U ∧ va_P X.2.1 vwCl (wl X RR σ ALL) U.heap)
def QcX (X : Cx) (r : Option Value) (σ : Mem) : Array Value → State → Outcome → State → Prop := fun _ st oc t => (oc = .returned r ∧ va_P X.2.1 vwCl (wl X RR σ ALL) t.heap) ∧ va_F (Ax X) st t
theorem PcX.blind (X : Cx) (as : List Value) (σ : Mem) : FrameBlind (PcX X as σ) := by
  intro a U g mk h
  exact ⟨h.1, StX.same (u := U) (U := U.calling g mk a) rfl rfl h.2.1, h.2.2⟩
def Tri (X : Cx) (d : Nat) (M : Mi) (as : List Value) (σ : Mem) (r : Option Value) (σ' : Mem) : Prop :=
  ∀ l : Launch, Met l M.1 (wsm M) (rmd d) (PcX X as σ) (QcX X r σ') 0 0 (Ax X)
/-- what is known of the locals, by place -/
def lvo (lsA : Array Slot) (n : Nat) (ls : List (Option Value)) : Prop := lsA.size = n ∧ lv_wf lsA ∧ ∀ (k : Nat) (v : Value), ls[k]? = some (some v) → lsA[k]? = some (.val v)
abbrev EnvA (X : Cx) (M : Mi) (p : Program) (s : State) (m : MethodId) (args : Array Value) (meth : Method) (c : Code) : Prop :=
  p.tables.exec = Jvm.exec ∧ c.code = M.2.1 ∧ c.maxLocals = M.2.2.1 ∧ s.vm.findClass M.1.cls = some m.cls ∧ (∀ w ∈ GW, w.before args s = true) ∧ meth.sig.returnType = M.2.2.2 ∧ meth.locks = false ∧ StX X s
/-- the machine in method M at pc, with these locals, this stack and this memory, comes to the method's end with r and memory σ' -/
def At (X : Cx) (d : Nat) (M : Mi) (pc : Nat) (ls : List (Option Value)) (st : List Value) (σ : Mem) (r : Option Value) (σ' : Mem) : Prop :=
  ∀ (l : Launch) (p : Program) (e : Env) (s : State) (m : MethodId) (args : Array Value) (below : List Frame) (meth : Method) (c : Code) (H : Heap) (locs : List Loc) (lsA : Array Slot),
    EnvA X M p s m args meth c → va_P X.2.1 vwCl (wl X RR σ ALL) H → va_S (Ax X) s.heap H locs → lvo lsA M.2.2.1 ls →
    W p l e (rmd d) s m args below meth c H locs 0 0 (MQ below (QcX X r σ') args s 0 0 (Ax X)) (F0 m pc lsA st)
def entL (n : Nat) (as : List Value) : List (Option Value) := (as.flatMap fun v => if v.category = 2 then [some v, none] else [some v]) ++ List.replicate (n - (lg_sl as).length) none
theorem entL_aux (as : List Value) : ∀ (b k : Nat) (v : Value), (as.flatMap fun v => if v.category = 2 then [some v, none] else [some v])[k]? = some (some v) → (b + k, v) ∈ lv_args b as := by
  induction as with
  | nil => intro b k v h; simp at h
  | cons x as ih =>
    intro b k v h
    rw [List.flatMap_cons] at h
    by_cases hc : x.category = 2
    · rw [if_pos hc] at h
      match k, h with
      | 0, h =>
        simp at h
        subst h
        exact List.mem_cons_self
      | 1, h => simp at h
      | k + 2, h =>
        have h1 := ih (b + 2) k v (by simpa using h)
        rw [lv_args, if_pos hc]
        have e : b + (k + 2) = b + 2 + k := by omega
        rw [e]
        exact List.mem_cons_of_mem _ h1
    · rw [if_neg hc] at h
      match k, h with
      | 0, h =>
        simp at h
        subst h
        exact List.mem_cons_self
      | k + 1, h =>
        have h1 := ih (b + 1) k v (by simpa using h)
        rw [lv_args, if_neg hc]
        have e : b + (k + 1) = b + 1 + k := by omega
        rw [e]
        exact List.mem_cons_of_mem _ h1
theorem entL_in (n : Nat) (as : List Value) (k : Nat) (v : Value) (h : (entL n as)[k]? = some (some v)) : (k, v) ∈ lv_args 0 as := by
  unfold entL at h
  by_cases hk : k < (as.flatMap fun v => if v.category = 2 then [some v, none] else [some v]).length
  · rw [List.getElem?_append_left hk] at h
    have h1 := entL_aux as 0 k v h
    rw [Nat.zero_add] at h1
    exact h1
  · rw [List.getElem?_append_right (by omega)] at h
    rw [List.getElem?_replicate] at h
    split at h
    · cases h
    · cases h
/-- a method's contract out of its walk -/
theorem Tri.of {X : Cx} {d : Nat} {M : Mi} {as : List Value} {σ σ' : Mem} {r : Option Value} {ls : List (Option Value)} (hy : plainName M.1.cls = true) (hn : (lg_sl as).length ≤ M.2.2.1) (hls : entL M.2.2.1 as = ls) (h : At X d M 0 ls [] σ r σ') : Tri X d M as σ r σ' := by
  intro l
  refine Met.ofW (cc := M.2.1) (maxL := M.2.2.1) (ret := M.2.2.2) hy rfl ?_
  intro p e s m args below meth c s₁ B hml hv
  obtain ⟨rfl, hSt, hP⟩ := hv
  have hts := atoms_spec (ws := wsm M) B.pre
  have hown : s.vm.findClass M.1.cls = some m.cls := findClass_of_methodNamed B.named
  have hl := lv_entry as (n := M.2.2.1) hn
  rw [lg_entry_eq]
  refine h l p e s m _ below meth c s.heap [] _ ⟨B.exec, B.bytes, hml, hown, fun w hw => hts w (List.mem_cons_of_mem _ hw), B.returns, B.notSynchronized, hSt⟩ hP va_S.rf ⟨hl.1, hl.2.1, fun k v hk => ?_⟩
  subst hls
  exact hl.2.2 (k, v) (entL_in _ _ k v hk)
section AT
variable {X : Cx} {d : Nat} {M : Mi} {pc : Nat} {ls : List (Option Value)} {st : List Value} {σ σ' : Mem} {r : Option Value}
theorem lvo.get {lsA : Array Slot} {n k : Nat} {ls : List (Option Value)} {v : Value} (h : lvo lsA n ls) (hk : ls[k]? = some (some v)) : lsA[k]? = some (.val v) := h.2.2 k v hk
/-- fewer locals known -/
theorem At.sub {ls' : List (Option Value)} (hs : ∀ (k : Nat) (v : Value), ls'[k]? = some (some v) → ls[k]? = some (some v)) (h : At X d M pc ls' st σ r σ') : At X d M pc ls st σ r σ' := by
  intro l p e s m args below meth c H locs lsA E hP hS hl
  exact h l p e s m args below meth c H locs lsA E hP hS ⟨hl.1, hl.2.1, fun k v hk => hl.2.2 k v (hs k v hk)⟩
theorem lvo.store {lsA : Array Slot} {n k : Nat} {ls : List (Option Value)} {v : Value} (h : lvo lsA n ls) (hn : k < n) (hc : v.category = 1) (hp : ∀ (j : Nat) (w : Value), ls[j]? = some (some w) → j + 1 = k → w.category = 1) : ∃ ls', storeLocals lsA k v = some ls' ∧ lvo ls' n (ls.set k (some v)) := by
  have hh : lv_has lsA n ((List.range ls.length).filterMap (fun j => match ls[j]? with | some (some w) => some (j, w) | _ => none)) := by
    refine ⟨h.1, h.2.1, fun q hq => ?_⟩
    obtain ⟨j, -, hj⟩ := List.mem_filterMap.mp hq
    split at hj
    · next w hw => cases hj; exact h.2.2 j w hw
    · cases hj
  obtain ⟨ls', e1, h1⟩ := lv_store1 (v := v) hh hn hc
  refine ⟨ls', e1, h1.1, h1.2.1, fun j w hj => ?_⟩
  by_cases hjk : j = k
  · subst hjk
    have hlt : j < ls.length := by
      have := (List.getElem?_eq_some_iff.mp hj).1
      simpa using this
    rw [List.getElem?_set_self hlt] at hj
    cases hj
    exact h1.2.2 (j, v) List.mem_cons_self
  · rw [List.getElem?_set_ne (Ne.symm hjk)] at hj
    refine h1.2.2 (j, w) (List.mem_cons_of_mem _ (List.mem_filter.mpr ⟨List.mem_filterMap.mpr ⟨j, List.mem_range.mpr (List.getElem?_eq_some_iff.mp hj).1, by rw [hj]⟩, ?_⟩))
    have hcw : j + 1 = k → w.category = 1 := hp j w hj
    by_cases hj1 : j + 1 = k
    · simp [hjk, hj1, hcw hj1]
    · simp [hjk, hj1]
-- ROWS: an instruction each
theorem i_iconst {n : Int} {v : Int32} (hd : decode M.2.1 pc = .ok (.iconst n, 1)) (hv : Int32.ofInt n = v) (h : At X d M (pc + 1) ls (.int v :: st) σ r σ') : At X d M pc ls (st) σ r σ' := by
  intro l p e s m args below meth c H locs lsA E hP hS hl
  exact lv_iconst E.1 E.2.1 hd hv (h l p e s m args below meth c H locs lsA E hP hS hl)
theorem i_bipush {n : Int} {v : Int32} (hd : decode M.2.1 pc = .ok (.bipush n, 2)) (hv : (Int8.ofInt n).toInt32 = v) (h : At X d M (pc + 2) ls (.int v :: st) σ r σ') : At X d M pc ls (st) σ r σ' := by
  intro l p e s m args below meth c H locs lsA E hP hS hl
  exact lv_bipush E.1 E.2.1 hd hv (h l p e s m args below meth c H locs lsA E hP hS hl)
theorem i_sipush {n : Int} {v : Int32} (hd : decode M.2.1 pc = .ok (.sipush n, 3)) (hv : (Int16.ofInt n).toInt32 = v) (h : At X d M (pc + 3) ls (.int v :: st) σ r σ') : At X d M pc ls (st) σ r σ' := by
  intro l p e s m args below meth c H locs lsA E hP hS hl
  exact lv_sipush E.1 E.2.1 hd hv (h l p e s m args below meth c H locs lsA E hP hS hl)
theorem i_lconst {n : Fin 2} {v : Int64} (hd : decode M.2.1 pc = .ok (.lconst n, 1)) (hv : Int64.ofNat (n : Nat) = v) (h : At X d M (pc + 1) ls (.long v :: st) σ r σ') : At X d M pc ls (st) σ r σ' := by
  intro l p e s m args below meth c H locs lsA E hP hS hl
  exact lv_lconst E.1 E.2.1 hd hv (h l p e s m args below meth c H locs lsA E hP hS hl)
theorem i_ldc {n : Nat} {v : Int32} (hd : decode M.2.1 pc = .ok (.ldc n, 2)) (hw : Cond.constant M.1.cls n v ∈ GW) (h : At X d M (pc + 2) ls (.int v :: st) σ r σ') : At X d M pc ls (st) σ r σ' := by
  intro l p e s m args below meth c H locs lsA E hP hS hl
  exact lv_ldc E.1 E.2.1 E.2.2.2.1 (E.2.2.2.2.1 _ hw) hd (h l p e s m args below meth c H locs lsA E hP hS hl)
theorem i_ldcw {n : Nat} {v : Int32} (hd : decode M.2.1 pc = .ok (.ldc_w n, 3)) (hw : Cond.constant M.1.cls n v ∈ GW) (h : At X d M (pc + 3) ls (.int v :: st) σ r σ') : At X d M pc ls (st) σ r σ' := by
  intro l p e s m args below meth c H locs lsA E hP hS hl
  exact lv_ldcw E.1 E.2.1 E.2.2.2.1 (E.2.2.2.2.1 _ hw) hd (h l p e s m args below meth c H locs lsA E hP hS hl)
theorem i_ldc2 {n : Nat} {v : Int64} (hd : decode M.2.1 pc = .ok (.ldc2_w n, 3)) (hw : Cond.constantLong M.1.cls n v ∈ GW) (h : At X d M (pc + 3) ls (.long v :: st) σ r σ') : At X d M pc ls (st) σ r σ' := by
  intro l p e s m args below meth c H locs lsA E hP hS hl
  exact lv_ldc2 E.1 E.2.1 E.2.2.2.1 (E.2.2.2.2.1 _ hw) hd (h l p e s m args below meth c H locs lsA E hP hS hl)
theorem i_iload_n {k : Fin 4} {x : Int32} (hd : decode M.2.1 pc = .ok (.iload_n k, 1)) (hk : ls[(k : Nat)]? = some (some (.int x))) (h : At X d M (pc + 1) ls (.int x :: st) σ r σ') : At X d M pc ls (st) σ r σ' := by
  intro l p e s m args below meth c H locs lsA E hP hS hl
  exact lv_iload_n E.1 E.2.1 hd rfl (hl.get hk) (h l p e s m args below meth c H locs lsA E hP hS hl)
theorem i_iload {k : Nat} {x : Int32} (hd : decode M.2.1 pc = .ok (.iload k, 2)) (hk : ls[k]? = some (some (.int x))) (h : At X d M (pc + 2) ls (.int x :: st) σ r σ') : At X d M pc ls (st) σ r σ' := by
  intro l p e s m args below meth c H locs lsA E hP hS hl
  exact lv_iload E.1 E.2.1 hd (hl.get hk) (h l p e s m args below meth c H locs lsA E hP hS hl)
theorem i_lload_n {k : Fin 4} {x : Int64} (hd : decode M.2.1 pc = .ok (.lload_n k, 1)) (hk : ls[(k : Nat)]? = some (some (.long x))) (h : At X d M (pc + 1) ls (.long x :: st) σ r σ') : At X d M pc ls (st) σ r σ' := by
  intro l p e s m args below meth c H locs lsA E hP hS hl
  exact lv_lload_n E.1 E.2.1 hd rfl (hl.get hk) (h l p e s m args below meth c H locs lsA E hP hS hl)
theorem i_lload {k : Nat} {x : Int64} (hd : decode M.2.1 pc = .ok (.lload k, 2)) (hk : ls[k]? = some (some (.long x))) (h : At X d M (pc + 2) ls (.long x :: st) σ r σ') : At X d M pc ls (st) σ r σ' := by
  intro l p e s m args below meth c H locs lsA E hP hS hl
  exact lv_lload E.1 E.2.1 hd (hl.get hk) (h l p e s m args below meth c H locs lsA E hP hS hl)
theorem i_aload_n {k : Fin 4} {g i : Nat} (hd : decode M.2.1 pc = .ok (.aload_n k, 1)) (hk : ls[(k : Nat)]? = some (some (rf X g i))) (h : At X d M (pc + 1) ls (rf X g i :: st) σ r σ') : At X d M pc ls (st) σ r σ' := by
  intro l p e s m args below meth c H locs lsA E hP hS hl
  exact lv_aload_n E.1 E.2.1 hd rfl (hl.get hk) (h l p e s m args below meth c H locs lsA E hP hS hl)
theorem i_aload {k : Nat} {g i : Nat} (hd : decode M.2.1 pc = .ok (.aload k, 2)) (hk : ls[k]? = some (some (rf X g i))) (h : At X d M (pc + 2) ls (rf X g i :: st) σ r σ') : At X d M pc ls (st) σ r σ' := by
  intro l p e s m args below meth c H locs lsA E hP hS hl
  exact lv_aload E.1 E.2.1 hd (hl.get hk) (h l p e s m args below meth c H locs lsA E hP hS hl)
theorem i_xload_n {k : Fin 4} {a : Nat} (hd : decode M.2.1 pc = .ok (.aload_n k, 1)) (hk : ls[(k : Nat)]? = some (some (.ref a))) (h : At X d M (pc + 1) ls (.ref a :: st) σ r σ') : At X d M pc ls (st) σ r σ' := by
  intro l p e s m args below meth c H locs lsA E hP hS hl
  exact lv_aload_n E.1 E.2.1 hd rfl (hl.get hk) (h l p e s m args below meth c H locs lsA E hP hS hl)
theorem i_xload {k : Nat} {a : Nat} (hd : decode M.2.1 pc = .ok (.aload k, 2)) (hk : ls[k]? = some (some (.ref a))) (h : At X d M (pc + 2) ls (.ref a :: st) σ r σ') : At X d M pc ls (st) σ r σ' := by
  intro l p e s m args below meth c H locs lsA E hP hS hl
  exact lv_aload E.1 E.2.1 hd (hl.get hk) (h l p e s m args below meth c H locs lsA E hP hS hl)
theorem i_istore_n {k : Fin 4} {x : Int32} {ls' : List (Option Value)} (hd : decode M.2.1 pc = .ok (.istore_n k, 1)) (hk : (k : Nat) < M.2.2.1) (hp : ∀ (j : Nat) (w : Value), ls[j]? = some (some w) → j + 1 = (k : Nat) → w.category = 1) (he : ls.set (k : Nat) (some (.int x)) = ls') (h : At X d M (pc + 1) ls' st σ r σ') : At X d M pc ls (.int x :: st) σ r σ' := by
  intro l p e s m args below meth c H locs lsA E hP hS hl
  obtain ⟨ls2, e2, h2⟩ := hl.store (k := (k : Nat)) (v := .int x) hk rfl hp
  subst he
  have hx := E.1
  have hb := E.2.1
  intro T hT Z
  obtain ⟨t, a, b⟩ := h l p e s m args below meth c H locs ls2 E hP hS h2 T hT Z
  refine ⟨t, ?_, b⟩
  jvm_step Z.here [Z.here.top, ↓top_set Z.here.top, hx, hb, hd, e2]
  exact a
theorem i_istore {k : Nat} {x : Int32} {ls' : List (Option Value)} (hd : decode M.2.1 pc = .ok (.istore k, 2)) (hk : k < M.2.2.1) (hp : ∀ (j : Nat) (w : Value), ls[j]? = some (some w) → j + 1 = k → w.category = 1) (he : ls.set k (some (.int x)) = ls') (h : At X d M (pc + 2) ls' st σ r σ') : At X d M pc ls (.int x :: st) σ r σ' := by
  intro l p e s m args below meth c H locs lsA E hP hS hl
  obtain ⟨ls2, e2, h2⟩ := hl.store (k := k) (v := .int x) hk rfl hp
  subst he
  have hx := E.1
  have hb := E.2.1
  intro T hT Z
  obtain ⟨t, a, b⟩ := h l p e s m args below meth c H locs ls2 E hP hS h2 T hT Z
  refine ⟨t, ?_, b⟩
  jvm_step Z.here [Z.here.top, ↓top_set Z.here.top, hx, hb, hd, e2]
  exact a
theorem i_astore_n {k : Fin 4} {x : Nat} {ls' : List (Option Value)} (hd : decode M.2.1 pc = .ok (.astore_n k, 1)) (hk : (k : Nat) < M.2.2.1) (hp : ∀ (j : Nat) (w : Value), ls[j]? = some (some w) → j + 1 = (k : Nat) → w.category = 1) (he : ls.set (k : Nat) (some (.ref x)) = ls') (h : At X d M (pc + 1) ls' st σ r σ') : At X d M pc ls (.ref x :: st) σ r σ' := by
  intro l p e s m args below meth c H locs lsA E hP hS hl
  obtain ⟨ls2, e2, h2⟩ := hl.store (k := (k : Nat)) (v := .ref x) hk rfl hp
  subst he
  have hx := E.1
  have hb := E.2.1
  intro T hT Z
  obtain ⟨t, a, b⟩ := h l p e s m args below meth c H locs ls2 E hP hS h2 T hT Z
  refine ⟨t, ?_, b⟩
  jvm_step Z.here [Z.here.top, ↓top_set Z.here.top, hx, hb, hd, e2]
  exact ⟨rfl, a⟩
theorem i_astore {k : Nat} {x : Nat} {ls' : List (Option Value)} (hd : decode M.2.1 pc = .ok (.astore k, 2)) (hk : k < M.2.2.1) (hp : ∀ (j : Nat) (w : Value), ls[j]? = some (some w) → j + 1 = k → w.category = 1) (he : ls.set k (some (.ref x)) = ls') (h : At X d M (pc + 2) ls' st σ r σ') : At X d M pc ls (.ref x :: st) σ r σ' := by
  intro l p e s m args below meth c H locs lsA E hP hS hl
  obtain ⟨ls2, e2, h2⟩ := hl.store (k := k) (v := .ref x) hk rfl hp
  subst he
  have hx := E.1
  have hb := E.2.1
  intro T hT Z
  obtain ⟨t, a, b⟩ := h l p e s m args below meth c H locs ls2 E hP hS h2 T hT Z
  refine ⟨t, ?_, b⟩
  jvm_step Z.here [Z.here.top, ↓top_set Z.here.top, hx, hb, hd, e2]
  exact ⟨rfl, a⟩
theorem i_iinc {k : Nat} {n : Int} {x v : Int32} {ls' : List (Option Value)} (hd : decode M.2.1 pc = .ok (.iinc k n, 3)) (hk : ls[k]? = some (some (.int x))) (hv : x + Int32.ofInt n = v) (hn : k < M.2.2.1) (hp : ∀ (j : Nat) (w : Value), ls[j]? = some (some w) → j + 1 = k → w.category = 1) (he : ls.set k (some (.int v)) = ls') (h : At X d M (pc + 3) ls' st σ r σ') : At X d M pc ls st σ r σ' := by
  intro l p e s m args below meth c H locs lsA E hP hS hl
  obtain ⟨ls2, e2, h2⟩ := hl.store (k := k) (v := .int v) hn rfl hp
  subst he
  subst hv
  have hx := E.1
  have hb := E.2.1
  have hg := hl.get hk
  intro T hT Z
  obtain ⟨t, a, b⟩ := h l p e s m args below meth c H locs ls2 E hP hS h2 T hT Z
  refine ⟨t, ?_, b⟩
  jvm_step Z.here [Z.here.top, ↓top_set Z.here.top, hx, hb, hd, hg, e2]
  exact a
end AT
end
section
section AR
variable {X : Cx} {d : Nat} {M : Mi} {pc : Nat} {ls : List (Option Value)} {st : List Value} {σ σ' : Mem} {r : Option Value}
theorem i_iadd {x y : Int32} (hd : decode M.2.1 pc = .ok (.iadd, 1)) (h : At X d M (pc + 1) ls (.int (x + y) :: st) σ r σ') : At X d M pc ls (.int y :: .int x :: st) σ r σ' := by
  intro l p e s m args below meth c H locs lsA E hP hS hl
  exact lv_iadd E.1 E.2.1 hd (h l p e s m args below meth c H locs lsA E hP hS hl)
theorem i_isub {x y : Int32} (hd : decode M.2.1 pc = .ok (.isub, 1)) (h : At X d M (pc + 1) ls (.int (x - y) :: st) σ r σ') : At X d M pc ls (.int y :: .int x :: st) σ r σ' := by
  intro l p e s m args below meth c H locs lsA E hP hS hl
  exact lv_isub E.1 E.2.1 hd (h l p e s m args below meth c H locs lsA E hP hS hl)
theorem i_imul {x y : Int32} (hd : decode M.2.1 pc = .ok (.imul, 1)) (h : At X d M (pc + 1) ls (.int (x * y) :: st) σ r σ') : At X d M pc ls (.int y :: .int x :: st) σ r σ' := by
  intro l p e s m args below meth c H locs lsA E hP hS hl
  exact lv_imul E.1 E.2.1 hd (h l p e s m args below meth c H locs lsA E hP hS hl)
theorem i_iand {x y : Int32} (hd : decode M.2.1 pc = .ok (.iand, 1)) (h : At X d M (pc + 1) ls (.int (x &&& y) :: st) σ r σ') : At X d M pc ls (.int y :: .int x :: st) σ r σ' := by
  intro l p e s m args below meth c H locs lsA E hP hS hl
  exact lv_iand E.1 E.2.1 hd (h l p e s m args below meth c H locs lsA E hP hS hl)
theorem i_ior {x y : Int32} (hd : decode M.2.1 pc = .ok (.ior, 1)) (h : At X d M (pc + 1) ls (.int (x ||| y) :: st) σ r σ') : At X d M pc ls (.int y :: .int x :: st) σ r σ' := by
  intro l p e s m args below meth c H locs lsA E hP hS hl
  exact lv_ior E.1 E.2.1 hd (h l p e s m args below meth c H locs lsA E hP hS hl)
theorem i_ixor {x y : Int32} (hd : decode M.2.1 pc = .ok (.ixor, 1)) (h : At X d M (pc + 1) ls (.int (x ^^^ y) :: st) σ r σ') : At X d M pc ls (.int y :: .int x :: st) σ r σ' := by
  intro l p e s m args below meth c H locs lsA E hP hS hl
  exact lv_ixor E.1 E.2.1 hd (h l p e s m args below meth c H locs lsA E hP hS hl)
theorem i_ishl {x y : Int32} (hd : decode M.2.1 pc = .ok (.ishl, 1)) (h : At X d M (pc + 1) ls (.int (x <<< (y &&& 31)) :: st) σ r σ') : At X d M pc ls (.int y :: .int x :: st) σ r σ' := by
  intro l p e s m args below meth c H locs lsA E hP hS hl
  exact lv_ishl E.1 E.2.1 hd (h l p e s m args below meth c H locs lsA E hP hS hl)
theorem i_ishr {x y : Int32} (hd : decode M.2.1 pc = .ok (.ishr, 1)) (h : At X d M (pc + 1) ls (.int (x >>> (y &&& 31)) :: st) σ r σ') : At X d M pc ls (.int y :: .int x :: st) σ r σ' := by
  intro l p e s m args below meth c H locs lsA E hP hS hl
  exact lv_ishr E.1 E.2.1 hd (h l p e s m args below meth c H locs lsA E hP hS hl)
theorem i_idiv {x y : Int32} (hd : decode M.2.1 pc = .ok (.idiv, 1)) (hne : ¬ y = 0) (h : At X d M (pc + 1) ls (.int (x / y) :: st) σ r σ') : At X d M pc ls (.int y :: .int x :: st) σ r σ' := by
  intro l p e s m args below meth c H locs lsA E hP hS hl
  exact lv_idiv E.1 E.2.1 hd hne (h l p e s m args below meth c H locs lsA E hP hS hl)
theorem i_irem {x y : Int32} (hd : decode M.2.1 pc = .ok (.irem, 1)) (hne : ¬ y = 0) (h : At X d M (pc + 1) ls (.int (x - x / y * y) :: st) σ r σ') : At X d M pc ls (.int y :: .int x :: st) σ r σ' := by
  intro l p e s m args below meth c H locs lsA E hP hS hl
  exact lv_irem E.1 E.2.1 hd hne (h l p e s m args below meth c H locs lsA E hP hS hl)
theorem i_iushr {x y : Int32} (hd : decode M.2.1 pc = .ok (.iushr, 1)) (h : At X d M (pc + 1) ls (.int ((x.toUInt32 >>> (y.toUInt32 &&& Int32.toUInt32 31)).toInt32) :: st) σ r σ') : At X d M pc ls (.int y :: .int x :: st) σ r σ' := by
  intro l p e s m args below meth c H locs lsA E hP hS hl
  exact lv_iushr E.1 E.2.1 hd rfl (h l p e s m args below meth c H locs lsA E hP hS hl)
theorem i_ineg {x : Int32} (hd : decode M.2.1 pc = .ok (.ineg, 1)) (h : At X d M (pc + 1) ls (.int (-x) :: st) σ r σ') : At X d M pc ls (.int x :: st) σ r σ' := by
  intro l p e s m args below meth c H locs lsA E hP hS hl
  exact lv_ineg E.1 E.2.1 hd (h l p e s m args below meth c H locs lsA E hP hS hl)
theorem i_i2l {x : Int32} (hd : decode M.2.1 pc = .ok (.i2l, 1)) (h : At X d M (pc + 1) ls (.long x.toInt64 :: st) σ r σ') : At X d M pc ls (.int x :: st) σ r σ' := by
  intro l p e s m args below meth c H locs lsA E hP hS hl
  exact lv_i2l E.1 E.2.1 hd rfl (h l p e s m args below meth c H locs lsA E hP hS hl)
theorem i_i2b {x : Int32} (hd : decode M.2.1 pc = .ok (.i2b, 1)) (h : At X d M (pc + 1) ls (.int x.toInt8.toInt32 :: st) σ r σ') : At X d M pc ls (.int x :: st) σ r σ' := by
  intro l p e s m args below meth c H locs lsA E hP hS hl
  exact lv_i2b E.1 E.2.1 hd rfl (h l p e s m args below meth c H locs lsA E hP hS hl)
theorem i_i2s {x : Int32} (hd : decode M.2.1 pc = .ok (.i2s, 1)) (h : At X d M (pc + 1) ls (.int x.toInt16.toInt32 :: st) σ r σ') : At X d M pc ls (.int x :: st) σ r σ' := by
  intro l p e s m args below meth c H locs lsA E hP hS hl
  exact lv_i2s E.1 E.2.1 hd rfl (h l p e s m args below meth c H locs lsA E hP hS hl)
theorem i_i2c {x : Int32} (hd : decode M.2.1 pc = .ok (.i2c, 1)) (h : At X d M (pc + 1) ls (.int (x.toUInt32 % 65536).toInt32 :: st) σ r σ') : At X d M pc ls (.int x :: st) σ r σ' := by
  intro l p e s m args below meth c H locs lsA E hP hS hl
  exact lv_i2c E.1 E.2.1 hd rfl (h l p e s m args below meth c H locs lsA E hP hS hl)
theorem i_ladd {x y : Int64} (hd : decode M.2.1 pc = .ok (.ladd, 1)) (h : At X d M (pc + 1) ls (.long (x + y) :: st) σ r σ') : At X d M pc ls (.long y :: .long x :: st) σ r σ' := by
  intro l p e s m args below meth c H locs lsA E hP hS hl
  exact lv_ladd E.1 E.2.1 hd (h l p e s m args below meth c H locs lsA E hP hS hl)
theorem i_lcmp {x y : Int64} (hd : decode M.2.1 pc = .ok (.lcmp, 1)) (h : At X d M (pc + 1) ls (.int (lg_cmp x y) :: st) σ r σ') : At X d M pc ls (.long y :: .long x :: st) σ r σ' := by
  intro l p e s m args below meth c H locs lsA E hP hS hl
  exact W.lcmp E.1 E.2.1 hd (h l p e s m args below meth c H locs lsA E hP hS hl)
theorem i_dup {a : Value} (hd : decode M.2.1 pc = .ok (.dup, 1)) (ha : a.category = 1) (h : At X d M (pc + 1) ls (a :: a :: st) σ r σ') : At X d M pc ls (a :: st) σ r σ' := by
  intro l p e s m args below meth c H locs lsA E hP hS hl
  exact lv_dup E.1 E.2.1 hd ha (h l p e s m args below meth c H locs lsA E hP hS hl)
theorem i_pop {a : Value} (hd : decode M.2.1 pc = .ok (.pop, 1)) (ha : a.category = 1) (h : At X d M (pc + 1) ls (st) σ r σ') : At X d M pc ls (a :: st) σ r σ' := by
  intro l p e s m args below meth c H locs lsA E hP hS hl
  exact lv_pop E.1 E.2.1 hd ha (h l p e s m args below meth c H locs lsA E hP hS hl)
theorem i_dup2 {a b : Value} (hd : decode M.2.1 pc = .ok (.dup2, 1)) (ha : a.category = 1) (hb : b.category = 1) (h : At X d M (pc + 1) ls (a :: b :: a :: b :: st) σ r σ') : At X d M pc ls (a :: b :: st) σ r σ' := by
  intro l p e s m args below meth c H locs lsA E hP hS hl
  exact lv_dup2_11 E.1 E.2.1 hd ha hb (h l p e s m args below meth c H locs lsA E hP hS hl)
theorem i_dup_x1 {a b : Value} (hd : decode M.2.1 pc = .ok (.dup_x1, 1)) (ha : a.category = 1) (hb : b.category = 1) (h : At X d M (pc + 1) ls (a :: b :: a :: st) σ r σ') : At X d M pc ls (a :: b :: st) σ r σ' := by
  intro l p e s m args below meth c H locs lsA E hP hS hl
  exact lv_dup_x1 E.1 E.2.1 hd ha hb (h l p e s m args below meth c H locs lsA E hP hS hl)
theorem i_icmp_eq {x y : Int32} {off : Int} {tgt : Nat} (hd : decode M.2.1 pc = .ok (.if_icmp .eq off, 3)) (ht : (pc : Int) + off = (tgt : Int)) (h1 : x = y → At X d M tgt ls st σ r σ') (h2 : ¬ x = y → At X d M (pc + 3) ls st σ r σ') : At X d M pc ls (.int y :: .int x :: st) σ r σ' := by
  intro l p e s m args below meth c H locs lsA E hP hS hl
  exact lv_icmp_eq E.1 E.2.1 hd ht (fun q => h1 q l p e s m args below meth c H locs lsA E hP hS hl) (fun q => h2 q l p e s m args below meth c H locs lsA E hP hS hl)
theorem i_if_eq {x : Int32} {off : Int} {tgt : Nat} (hd : decode M.2.1 pc = .ok (.ifCond .eq off, 3)) (ht : (pc : Int) + off = (tgt : Int)) (h1 : x = 0 → At X d M tgt ls st σ r σ') (h2 : ¬ x = 0 → At X d M (pc + 3) ls st σ r σ') : At X d M pc ls (.int x :: st) σ r σ' := by
  intro l p e s m args below meth c H locs lsA E hP hS hl
  exact lv_if_eq E.1 E.2.1 hd ht (fun q => h1 q l p e s m args below meth c H locs lsA E hP hS hl) (fun q => h2 q l p e s m args below meth c H locs lsA E hP hS hl)
theorem i_icmp_ne {x y : Int32} {off : Int} {tgt : Nat} (hd : decode M.2.1 pc = .ok (.if_icmp .ne off, 3)) (ht : (pc : Int) + off = (tgt : Int)) (h1 : ¬ x = y → At X d M tgt ls st σ r σ') (h2 : x = y → At X d M (pc + 3) ls st σ r σ') : At X d M pc ls (.int y :: .int x :: st) σ r σ' := by
  intro l p e s m args below meth c H locs lsA E hP hS hl
  exact lv_icmp_ne E.1 E.2.1 hd ht (fun q => h1 q l p e s m args below meth c H locs lsA E hP hS hl) (fun q => h2 q l p e s m args below meth c H locs lsA E hP hS hl)
theorem i_if_ne {x : Int32} {off : Int} {tgt : Nat} (hd : decode M.2.1 pc = .ok (.ifCond .ne off, 3)) (ht : (pc : Int) + off = (tgt : Int)) (h1 : ¬ x = 0 → At X d M tgt ls st σ r σ') (h2 : x = 0 → At X d M (pc + 3) ls st σ r σ') : At X d M pc ls (.int x :: st) σ r σ' := by
  intro l p e s m args below meth c H locs lsA E hP hS hl
  exact lv_if_ne E.1 E.2.1 hd ht (fun q => h1 q l p e s m args below meth c H locs lsA E hP hS hl) (fun q => h2 q l p e s m args below meth c H locs lsA E hP hS hl)
theorem i_icmp_lt {x y : Int32} {off : Int} {tgt : Nat} (hd : decode M.2.1 pc = .ok (.if_icmp .lt off, 3)) (ht : (pc : Int) + off = (tgt : Int)) (h1 : x < y → At X d M tgt ls st σ r σ') (h2 : ¬ x < y → At X d M (pc + 3) ls st σ r σ') : At X d M pc ls (.int y :: .int x :: st) σ r σ' := by
  intro l p e s m args below meth c H locs lsA E hP hS hl
  exact lv_icmp_lt E.1 E.2.1 hd ht (fun q => h1 q l p e s m args below meth c H locs lsA E hP hS hl) (fun q => h2 q l p e s m args below meth c H locs lsA E hP hS hl)
theorem i_if_lt {x : Int32} {off : Int} {tgt : Nat} (hd : decode M.2.1 pc = .ok (.ifCond .lt off, 3)) (ht : (pc : Int) + off = (tgt : Int)) (h1 : x < 0 → At X d M tgt ls st σ r σ') (h2 : ¬ x < 0 → At X d M (pc + 3) ls st σ r σ') : At X d M pc ls (.int x :: st) σ r σ' := by
  intro l p e s m args below meth c H locs lsA E hP hS hl
  exact lv_if_lt E.1 E.2.1 hd ht (fun q => h1 q l p e s m args below meth c H locs lsA E hP hS hl) (fun q => h2 q l p e s m args below meth c H locs lsA E hP hS hl)
theorem i_icmp_ge {x y : Int32} {off : Int} {tgt : Nat} (hd : decode M.2.1 pc = .ok (.if_icmp .ge off, 3)) (ht : (pc : Int) + off = (tgt : Int)) (h1 : y ≤ x → At X d M tgt ls st σ r σ') (h2 : ¬ y ≤ x → At X d M (pc + 3) ls st σ r σ') : At X d M pc ls (.int y :: .int x :: st) σ r σ' := by
  intro l p e s m args below meth c H locs lsA E hP hS hl
  exact lv_icmp_ge E.1 E.2.1 hd ht (fun q => h1 q l p e s m args below meth c H locs lsA E hP hS hl) (fun q => h2 q l p e s m args below meth c H locs lsA E hP hS hl)
theorem i_if_ge {x : Int32} {off : Int} {tgt : Nat} (hd : decode M.2.1 pc = .ok (.ifCond .ge off, 3)) (ht : (pc : Int) + off = (tgt : Int)) (h1 : 0 ≤ x → At X d M tgt ls st σ r σ') (h2 : ¬ 0 ≤ x → At X d M (pc + 3) ls st σ r σ') : At X d M pc ls (.int x :: st) σ r σ' := by
  intro l p e s m args below meth c H locs lsA E hP hS hl
  exact lv_if_ge E.1 E.2.1 hd ht (fun q => h1 q l p e s m args below meth c H locs lsA E hP hS hl) (fun q => h2 q l p e s m args below meth c H locs lsA E hP hS hl)
theorem i_icmp_gt {x y : Int32} {off : Int} {tgt : Nat} (hd : decode M.2.1 pc = .ok (.if_icmp .gt off, 3)) (ht : (pc : Int) + off = (tgt : Int)) (h1 : y < x → At X d M tgt ls st σ r σ') (h2 : ¬ y < x → At X d M (pc + 3) ls st σ r σ') : At X d M pc ls (.int y :: .int x :: st) σ r σ' := by
  intro l p e s m args below meth c H locs lsA E hP hS hl
  exact lv_icmp_gt E.1 E.2.1 hd ht (fun q => h1 q l p e s m args below meth c H locs lsA E hP hS hl) (fun q => h2 q l p e s m args below meth c H locs lsA E hP hS hl)
theorem i_if_gt {x : Int32} {off : Int} {tgt : Nat} (hd : decode M.2.1 pc = .ok (.ifCond .gt off, 3)) (ht : (pc : Int) + off = (tgt : Int)) (h1 : 0 < x → At X d M tgt ls st σ r σ') (h2 : ¬ 0 < x → At X d M (pc + 3) ls st σ r σ') : At X d M pc ls (.int x :: st) σ r σ' := by
  intro l p e s m args below meth c H locs lsA E hP hS hl
  exact lv_if_gt E.1 E.2.1 hd ht (fun q => h1 q l p e s m args below meth c H locs lsA E hP hS hl) (fun q => h2 q l p e s m args below meth c H locs lsA E hP hS hl)
theorem i_icmp_le {x y : Int32} {off : Int} {tgt : Nat} (hd : decode M.2.1 pc = .ok (.if_icmp .le off, 3)) (ht : (pc : Int) + off = (tgt : Int)) (h1 : x ≤ y → At X d M tgt ls st σ r σ') (h2 : ¬ x ≤ y → At X d M (pc + 3) ls st σ r σ') : At X d M pc ls (.int y :: .int x :: st) σ r σ' := by
  intro l p e s m args below meth c H locs lsA E hP hS hl
  exact lv_icmp_le E.1 E.2.1 hd ht (fun q => h1 q l p e s m args below meth c H locs lsA E hP hS hl) (fun q => h2 q l p e s m args below meth c H locs lsA E hP hS hl)
theorem i_if_le {x : Int32} {off : Int} {tgt : Nat} (hd : decode M.2.1 pc = .ok (.ifCond .le off, 3)) (ht : (pc : Int) + off = (tgt : Int)) (h1 : x ≤ 0 → At X d M tgt ls st σ r σ') (h2 : ¬ x ≤ 0 → At X d M (pc + 3) ls st σ r σ') : At X d M pc ls (.int x :: st) σ r σ' := by
  intro l p e s m args below meth c H locs lsA E hP hS hl
  exact lv_if_le E.1 E.2.1 hd ht (fun q => h1 q l p e s m args below meth c H locs lsA E hP hS hl) (fun q => h2 q l p e s m args below meth c H locs lsA E hP hS hl)
theorem i_goto {off : Int} {tgt : Nat} (hd : decode M.2.1 pc = .ok (.goto off, 3)) (ht : (pc : Int) + off = (tgt : Int)) (h : At X d M tgt ls st σ r σ') : At X d M pc ls st σ r σ' := by
  intro l p e s m args below meth c H locs lsA E hP hS hl
  exact lv_goto E.1 E.2.1 hd ht (h l p e s m args below meth c H locs lsA E hP hS hl)
theorem i_tin {dflt lo hi : Int} {offs : Array Int} {len : Nat} {x : Int32} {off : Int} {tgt : Nat} (hd : decode M.2.1 pc = .ok (.tableswitch dflt lo hi offs, len)) (v : Int32) (hx : x = v) (h1 : ¬ v.toInt < lo) (h2 : ¬ hi < v.toInt) (ho : offs[(v.toInt - lo).toNat]? = some off) (ht : (pc : Int) + off = (tgt : Int)) (h : At X d M tgt ls st σ r σ') : At X d M pc ls (.int x :: st) σ r σ' := by
  subst hx
  intro l p e s m args below meth c H locs lsA E hP hS hl
  exact lv_tableIn E.1 E.2.1 hd h1 h2 ho ht (h l p e s m args below meth c H locs lsA E hP hS hl)
theorem i_tout {dflt lo hi : Int} {offs : Array Int} {len : Nat} {x : Int32} {tgt : Nat} (hd : decode M.2.1 pc = .ok (.tableswitch dflt lo hi offs, len)) (h1 : x.toInt < lo ∨ hi < x.toInt) (ht : (pc : Int) + dflt = (tgt : Int)) (h : At X d M tgt ls st σ r σ') : At X d M pc ls (.int x :: st) σ r σ' := by
  intro l p e s m args below meth c H locs lsA E hP hS hl
  exact lv_tableOut E.1 E.2.1 hd h1 ht (h l p e s m args below meth c H locs lsA E hP hS hl)
theorem i_look {dflt : Int} {ps : Array (Int × Int)} {len : Nat} {x : Int32} {off : Int} {tgt : Nat} (hd : decode M.2.1 pc = .ok (.lookupswitch dflt ps, len)) (hp : (ps.toList.zip (ps.toList.drop 1)).all (fun (a, next) => a.1 < next.1) = true) (ho : Op.lookupswitch.offset ps.toList dflt x.toInt = off) (ht : (pc : Int) + off = (tgt : Int)) (h : At X d M tgt ls st σ r σ') : At X d M pc ls (.int x :: st) σ r σ' := by
  intro l p e s m args below meth c H locs lsA E hP hS hl
  exact lv_lookup E.1 E.2.1 hd hp ho ht (h l p e s m args below meth c H locs lsA E hP hS hl)
theorem ne_toInt {x v : Int32} (h : ¬ x = v) {n : Int} (hn : v.toInt = n) : x.toInt ≠ n := fun e => h (Int32.toInt_inj.mp (e.trans hn.symm))
-- fields
theorem objE_get {B : Nat} {ρ : Rho} {σ : Mem} {g i k : Nat} (hk : k < nF g) : (objE B ρ σ g i)[k]? = some (fvE B ρ σ g i k) := by
  unfold objE
  rw [List.getElem?_map, List.getElem?_range hk]
  rfl
theorem objE_len {B : Nat} {ρ : Rho} {σ : Mem} {g i : Nat} : (objE B ρ σ g i).length = nF g := by simp [objE]
theorem objE_set {B : Nat} {ρ ρ' : Rho} {σ σ' : Mem} {g i k : Nat} {v : Value} (hv : k < nF g → fvE B ρ' σ' g i k = v) (ho : ∀ k', k' ≠ k → fvE B ρ' σ' g i k' = fvE B ρ σ g i k') : (objE B ρ σ g i).set k v = objE B ρ' σ' g i := by
  apply List.ext_getElem?
  intro n
  by_cases hn : n < nF g
  · rw [objE_get hn]
    by_cases hk : n = k
    · subst hk
      rw [List.getElem?_set_self (by rw [objE_len]; exact hn), hv hn]
    · rw [List.getElem?_set_ne (Ne.symm hk), objE_get hn, ho n hk]
  · rw [List.getElem?_eq_none_iff.mpr (by rw [List.length_set, objE_len]; omega), List.getElem?_eq_none_iff.mpr (by rw [objE_len]; omega)]
theorem cellE_obj {X : Cx} {ρ : Rho} {σ : Mem} {g i : Nat} (hg : g < 9) : cellE X ρ σ g i = .inr (g, objE X.1 ρ σ g i) := if_pos hg
theorem cellE_arr {X : Cx} {ρ : Rho} {σ : Mem} {g i : Nat} (hg : 9 ≤ g) (ha : ak g < 4) : cellE X ρ σ g i = .inl (xC X (ak g), alen g, .inl (fun j => σ g i j)) := by
  unfold cellE
  rw [if_neg (by omega), if_pos ha]
theorem cellE_ref {X : Cx} {ρ : Rho} {σ : Mem} {g i : Nat} (hg : 9 ≤ g) (ha : ¬ ak g < 4) : cellE X ρ σ g i = .inl (xC X (ak g), alen g, .inr (.inr (.inr (.inr (fun j => (ρ g i j).map (fun q => X.1 + pix q.1 q.2)))))) := by
  unfold cellE
  rw [if_neg (by omega), if_neg ha]
theorem i_get (g i k : Nat) {C : String} {T : u_T} {N idx : Nat} (hc : vwCl[g]? = some (C, T, N)) (hN : nF g = N) (hg : g < 9) (hi : i < cnt g) (hk : k < N) (hin : ∀ w ∈ u_ws C T N, w ∈ GW) (hw : Cond.fieldLink M.1.cls idx (T k).1 (T k).2.1 (T k).2.2.1 ∈ GW) {v : Value} (hv : fvE X.1 RR σ g i k = v) (hd : decode M.2.1 pc = .ok (.getfield idx, 3)) (h : At X d M (pc + 3) ls (v :: st) σ r σ') : At X d M pc ls (rf X g i :: st) σ r σ' := by
  intro l p e s m args below meth c H locs lsA E hP hS hl
  have he : (wl X RR σ ALL)[pix g i]? = some (X.1 + pix g i, .inr (g, objE X.1 RR σ g i)) := by
    rw [wl_at (by omega) hi (pl_lt (by omega) hi), cellE_obj hg]
  exact va_get E.1 E.2.1 E.2.2.2.2.1 hin E.2.2.2.1 E.2.2.2.2.2.2.2.1.1 hP (pix g i) he hc k hk (E.2.2.2.2.1 _ hw) (fun _ h9 => h9) (by rw [objE_get (by omega), hv]) hd (h l p e s m args below meth c H locs lsA E hP hS hl)
theorem i_getN (g i k : Nat) {C host : String} {T : u_T} {N idx : Nat} (hc : vwCl[g]? = some (C, T, N)) (hN : nF g = N) (hg : g < 9) (hi : i < cnt g) (hk : k < N) (hin : ∀ w ∈ u_ws C T N, w ∈ GW) (hw : Cond.fieldLinkNest M.1.cls idx (T k).1 (T k).2.1 (T k).2.2.1 host ∈ NW) {v : Value} (hv : fvE X.1 RR σ g i k = v) (hd : decode M.2.1 pc = .ok (.getfield idx, 3)) (h : At X d M (pc + 3) ls (v :: st) σ r σ') : At X d M pc ls (rf X g i :: st) σ r σ' := by
  intro l p e s m args below meth c H locs lsA E hP hS hl
  have he : (wl X RR σ ALL)[pix g i]? = some (X.1 + pix g i, .inr (g, objE X.1 RR σ g i)) := by
    rw [wl_at (by omega) hi (pl_lt (by omega) hi), cellE_obj hg]
  exact va_getN E.1 E.2.1 E.2.2.2.2.1 hin E.2.2.2.1 E.2.2.2.2.2.2.2.1.1 hP (pix g i) he hc k hk (va_Nw.use rfl (E.2.2.2.2.2.2.2.1.2 _ hw)) (fun _ h9 => h9) (by rw [objE_get (by omega), hv]) hd (h l p e s m args below meth c H locs lsA E hP hS hl)
theorem i_put (g i k : Nat) {C host : String} {T : u_T} {N idx : Nat} (ty0 : Nat → FieldType) (hty : ∀ k, k < N → parseFieldDescriptor (T k).2.2.1 = some (ty0 k)) (hnm : ∀ a, a < N → ∀ b, b < N → a ≠ b → (T a).2.1 ≠ (T b).2.1) (hc : vwCl[g]? = some (C, T, N)) (hN : nF g = N) (hg : g < 9) (hi : i < cnt g) (hk : k < N) (hin : ∀ w ∈ u_ws C T N, w ∈ GW) (hw : Cond.fieldLink M.1.cls idx (T k).1 (T k).2.1 (T k).2.2.1 ∈ GW) (hfin : (T k).2.2.2 = false) {v : Value} {x : Int32} (hx : fvE X.1 RR (mput σ g i k x) g i k = v) (ho : ∀ k', k' ≠ k → fvE X.1 RR (mput σ g i k x) g i k' = fvE X.1 RR σ g i k') (hnar : narrow (ty0 k) v = v) (hfit : fits (ty0 k) v = true) (hd : decode M.2.1 pc = .ok (.putfield idx, 3)) (h : At X d M (pc + 3) ls st (mput σ g i k x) r σ') : At X d M pc ls (v :: rf X g i :: st) σ r σ' := by
  intro l p e s m args below meth c H locs lsA E hP hS hl
  have he : (wl X RR σ ALL)[pix g i]? = some (X.1 + pix g i, .inr (g, objE X.1 RR σ g i)) := by
    rw [wl_at (by omega) hi (pl_lt (by omega) hi), cellE_obj hg]
  refine va_put E.1 E.2.1 E.2.2.2.2.1 hin ty0 hty hnm E.2.2.2.1 E.2.2.2.2.2.2.2.1.1 hP (wl_D X RR σ ALL) hS (pix g i) he hc k hk (E.2.2.2.2.1 _ hw) (fun _ h9 => h9) hfin (ty := ty0 k) (hty k hk) hnar hfit (by rw [objE_len]; omega) hd (fun H1 locs1 hP1 _ hS1 => ?_)
  rw [objE_set (ρ' := RR) (σ' := mput σ g i k x) (fun _ => hx) ho, ← cellE_obj (X := X) hg, wl_put (by omega) hi (pl_lt (by omega) hi)] at hP1
  exact h l p e s m args below meth c H1 locs1 lsA E hP1 hS1 hl
theorem i_putN (g i k : Nat) {C host : String} {T : u_T} {N idx : Nat} (ty0 : Nat → FieldType) (hty : ∀ k, k < N → parseFieldDescriptor (T k).2.2.1 = some (ty0 k)) (hnm : ∀ a, a < N → ∀ b, b < N → a ≠ b → (T a).2.1 ≠ (T b).2.1) (hc : vwCl[g]? = some (C, T, N)) (hN : nF g = N) (hg : g < 9) (hi : i < cnt g) (hk : k < N) (hin : ∀ w ∈ u_ws C T N, w ∈ GW) (hw : Cond.fieldLinkNest M.1.cls idx (T k).1 (T k).2.1 (T k).2.2.1 host ∈ NW) (hfin : (T k).2.2.2 = false) {v : Value} {x : Int32} (hx : fvE X.1 RR (mput σ g i k x) g i k = v) (ho : ∀ k', k' ≠ k → fvE X.1 RR (mput σ g i k x) g i k' = fvE X.1 RR σ g i k') (hnar : narrow (ty0 k) v = v) (hfit : fits (ty0 k) v = true) (hd : decode M.2.1 pc = .ok (.putfield idx, 3)) (h : At X d M (pc + 3) ls st (mput σ g i k x) r σ') : At X d M pc ls (v :: rf X g i :: st) σ r σ' := by
  intro l p e s m args below meth c H locs lsA E hP hS hl
  have he : (wl X RR σ ALL)[pix g i]? = some (X.1 + pix g i, .inr (g, objE X.1 RR σ g i)) := by
    rw [wl_at (by omega) hi (pl_lt (by omega) hi), cellE_obj hg]
  refine va_putN E.1 E.2.1 E.2.2.2.2.1 hin ty0 hty hnm E.2.2.2.1 E.2.2.2.2.2.2.2.1.1 hP (wl_D X RR σ ALL) hS (pix g i) he hc k hk (va_Nw.use rfl (E.2.2.2.2.2.2.2.1.2 _ hw)) (fun _ h9 => h9) hfin (ty := ty0 k) (hty k hk) hnar hfit (by rw [objE_len]; omega) hd (fun H1 locs1 hP1 _ hS1 => ?_)
  rw [objE_set (ρ' := RR) (σ' := mput σ g i k x) (fun _ => hx) ho, ← cellE_obj (X := X) hg, wl_put (by omega) hi (pl_lt (by omega) hi)] at hP1
  exact h l p e s m args below meth c H1 locs1 lsA E hP1 hS1 hl
theorem fvE_off {B : Nat} {ρ : Rho} {σ : Mem} {g i k k' : Nat} {x : Int32} (h : k' ≠ k) : fvE B ρ (mput σ g i k x) g i k' = fvE B ρ σ g i k' := by
  have e : mput σ g i k x g i k' = σ g i k' := by
    unfold mput
    rw [if_neg]
    rintro ⟨-, -, e⟩
    exact h e
  simp only [fvE, e]
theorem fvE_on {B : Nat} {ρ : Rho} {σ : Mem} {g i k : Nat} {x : Int32} (h1 : isR g k = false) (h2 : ¬ (g = 4 ∧ k = 2)) : fvE B ρ (mput σ g i k x) g i k = .int x := by
  unfold fvE
  rw [if_neg h2, h1, mput_same]
  rfl
-- arrays
def ix (n : Nat) (v : Int32) : Option Nat := if v < 0 ∨ n ≤ v.toNatClampNeg then none else some v.toNatClampNeg
theorem ix_in {n j : Nat} {v : Int32} (h : ix n v = some j) : vp_in v n ∧ v.toNatClampNeg = j ∧ j < n := by
  unfold ix at h
  split at h
  · cases h
  · next hn =>
    cases h
    exact ⟨hn, rfl, Nat.not_le.mp (fun q => hn (Or.inr q))⟩
theorem ix_lt {n j : Nat} {v : Int32} (h : ix n v = some j) : j < n := (ix_in h).2.2
theorem tys_at {X : Cx} {g : Nat} {ty : FieldType} (k : Nat) (hk : ak g = k + 1) (h : (tysX X)[k]? = some (xC X (k + 1), ty)) : (tysX X)[k]? = some (xC X (ak g), ty) := by rw [hk]; exact h
theorem mput_fun {σ : Mem} {g i k : Nat} {v : Int32} : (fun j => mput σ g i k v g i j) = upd (fun j => σ g i j) k v := by
  funext j
  unfold mput upd
  by_cases h : j = k
  · simp [h]
  · simp [h]
theorem i_iald {g i n j : Nat} {v : Int32} (hd : decode M.2.1 pc = .ok (.iaload, 1)) (hg : 9 ≤ g ∧ g < 42) (hk : ak g = 0 + 1) (hn : alen g = n) (hi : i < cnt g) (hx : ix n v = some j) (h : At X d M (pc + 1) ls (.int (σ g i j) :: st) σ r σ') : At X d M pc ls (.int v :: rf X g i :: st) σ r σ' := by
  subst hn
  obtain ⟨x1, x2, x3⟩ := ix_in hx
  subst x2
  intro l p e s m args below meth c H locs lsA E hP hS hl
  have he : (wl X RR σ ALL)[pix g i]? = some (X.1 + pix g i, .inl (xC X (ak g), alen g, .inl (fun j => σ g i j))) := by
    rw [wl_at hg.2 hi (pl_lt hg.2 hi), cellE_arr hg.1 (by omega)]
  exact va_iald E.1 E.2.1 E.2.2.2.2.2.2.2.1.1 hP (pix g i) 0 he (tys_at 0 hk rfl) x1 hd (h l p e s m args below meth c H locs lsA E hP hS hl)
theorem i_bald {g i n j : Nat} {v : Int32} (hd : decode M.2.1 pc = .ok (.baload, 1)) (hg : 9 ≤ g ∧ g < 42) (hk : ak g = 1 + 1) (hn : alen g = n) (hi : i < cnt g) (hx : ix n v = some j) (h : At X d M (pc + 1) ls (.int (σ g i j) :: st) σ r σ') : At X d M pc ls (.int v :: rf X g i :: st) σ r σ' := by
  subst hn
  obtain ⟨x1, x2, x3⟩ := ix_in hx
  subst x2
  intro l p e s m args below meth c H locs lsA E hP hS hl
  have he : (wl X RR σ ALL)[pix g i]? = some (X.1 + pix g i, .inl (xC X (ak g), alen g, .inl (fun j => σ g i j))) := by
    rw [wl_at hg.2 hi (pl_lt hg.2 hi), cellE_arr hg.1 (by omega)]
  exact va_bald E.1 E.2.1 E.2.2.2.2.2.2.2.1.1 hP (pix g i) 1 he (tys_at 1 hk rfl) x1 hd (h l p e s m args below meth c H locs lsA E hP hS hl)
theorem i_sald {g i n j : Nat} {v : Int32} (hd : decode M.2.1 pc = .ok (.saload, 1)) (hg : 9 ≤ g ∧ g < 42) (hk : ak g = 2 + 1) (hn : alen g = n) (hi : i < cnt g) (hx : ix n v = some j) (h : At X d M (pc + 1) ls (.int (σ g i j) :: st) σ r σ') : At X d M pc ls (.int v :: rf X g i :: st) σ r σ' := by
  subst hn
  obtain ⟨x1, x2, x3⟩ := ix_in hx
  subst x2
  intro l p e s m args below meth c H locs lsA E hP hS hl
  have he : (wl X RR σ ALL)[pix g i]? = some (X.1 + pix g i, .inl (xC X (ak g), alen g, .inl (fun j => σ g i j))) := by
    rw [wl_at hg.2 hi (pl_lt hg.2 hi), cellE_arr hg.1 (by omega)]
  exact va_sald E.1 E.2.1 E.2.2.2.2.2.2.2.1.1 hP (pix g i) 2 he (tys_at 2 hk rfl) x1 hd (h l p e s m args below meth c H locs lsA E hP hS hl)
theorem i_iast {g i n j : Nat} {v x : Int32} (hd : decode M.2.1 pc = .ok (.iastore, 1)) (hg : 9 ≤ g ∧ g < 42) (hk : ak g = 0 + 1) (hn : alen g = n) (hi : i < cnt g) (hx : ix n v = some j) (h : At X d M (pc + 1) ls st (mput σ g i j (x)) r σ') : At X d M pc ls (.int x :: .int v :: rf X g i :: st) σ r σ' := by
  subst hn
  obtain ⟨x1, x2, x3⟩ := ix_in hx
  subst x2
  intro l p e s m args below meth c H locs lsA E hP hS hl
  have he : (wl X RR σ ALL)[pix g i]? = some (X.1 + pix g i, .inl (xC X (ak g), alen g, .inl (fun j => σ g i j))) := by
    rw [wl_at hg.2 hi (pl_lt hg.2 hi), cellE_arr hg.1 (by omega)]
  refine va_iast E.1 E.2.1 E.2.2.2.2.2.2.2.1.1 hP (wl_D X RR σ ALL) hS (pix g i) 0 he (tys_at 0 hk rfl) x1 hd (fun H1 locs1 hP1 _ hS1 => ?_)
  rw [← mput_fun, ← cellE_arr (X := X) (ρ := RR) hg.1 (by omega), wl_put hg.2 hi (pl_lt hg.2 hi)] at hP1
  exact h l p e s m args below meth c H1 locs1 lsA E hP1 hS1 hl
theorem i_bast {g i n j : Nat} {v x : Int32} (hd : decode M.2.1 pc = .ok (.bastore, 1)) (hg : 9 ≤ g ∧ g < 42) (hk : ak g = 1 + 1) (hn : alen g = n) (hi : i < cnt g) (hx : ix n v = some j) (h : At X d M (pc + 1) ls st (mput σ g i j (x.toInt8.toInt32)) r σ') : At X d M pc ls (.int x :: .int v :: rf X g i :: st) σ r σ' := by
  subst hn
  obtain ⟨x1, x2, x3⟩ := ix_in hx
  subst x2
  intro l p e s m args below meth c H locs lsA E hP hS hl
  have he : (wl X RR σ ALL)[pix g i]? = some (X.1 + pix g i, .inl (xC X (ak g), alen g, .inl (fun j => σ g i j))) := by
    rw [wl_at hg.2 hi (pl_lt hg.2 hi), cellE_arr hg.1 (by omega)]
  refine va_bast E.1 E.2.1 E.2.2.2.2.2.2.2.1.1 hP (wl_D X RR σ ALL) hS (pix g i) 1 he (tys_at 1 hk rfl) x1 hd (fun H1 locs1 hP1 _ hS1 => ?_)
  rw [vp_nar_byte, ← mput_fun, ← cellE_arr (X := X) (ρ := RR) hg.1 (by omega), wl_put hg.2 hi (pl_lt hg.2 hi)] at hP1
  exact h l p e s m args below meth c H1 locs1 lsA E hP1 hS1 hl
theorem i_sast {g i n j : Nat} {v x : Int32} (hd : decode M.2.1 pc = .ok (.sastore, 1)) (hg : 9 ≤ g ∧ g < 42) (hk : ak g = 2 + 1) (hn : alen g = n) (hi : i < cnt g) (hx : ix n v = some j) (h : At X d M (pc + 1) ls st (mput σ g i j (x.toInt16.toInt32)) r σ') : At X d M pc ls (.int x :: .int v :: rf X g i :: st) σ r σ' := by
  subst hn
  obtain ⟨x1, x2, x3⟩ := ix_in hx
  subst x2
  intro l p e s m args below meth c H locs lsA E hP hS hl
  have he : (wl X RR σ ALL)[pix g i]? = some (X.1 + pix g i, .inl (xC X (ak g), alen g, .inl (fun j => σ g i j))) := by
    rw [wl_at hg.2 hi (pl_lt hg.2 hi), cellE_arr hg.1 (by omega)]
  refine va_sast E.1 E.2.1 E.2.2.2.2.2.2.2.1.1 hP (wl_D X RR σ ALL) hS (pix g i) 2 he (tys_at 2 hk rfl) x1 hd (fun H1 locs1 hP1 _ hS1 => ?_)
  rw [vp_nar_short, ← mput_fun, ← cellE_arr (X := X) (ρ := RR) hg.1 (by omega), wl_put hg.2 hi (pl_lt hg.2 hi)] at hP1
  exact h l p e s m args below meth c H1 locs1 lsA E hP1 hS1 hl
theorem i_aald {g i n j g' i' : Nat} {v : Int32} {C : String} (kk : Nat) (hd : decode M.2.1 pc = .ok (.aaload, 1)) (hg : 9 ≤ g ∧ g < 42) (hk : ak g = kk + 1) (h4 : 3 ≤ kk) (ht : (tysX X)[kk]? = some (xC X (kk + 1), .object C)) (hn : alen g = n) (hi : i < cnt g) (hx : ix n v = some j) (hr : RR g i j = some (g', i')) (h : At X d M (pc + 1) ls (rf X g' i' :: st) σ r σ') : At X d M pc ls (.int v :: rf X g i :: st) σ r σ' := by
  subst hn
  obtain ⟨x1, x2, x3⟩ := ix_in hx
  subst x2
  intro l p e s m args below meth c H locs lsA E hP hS hl
  have he : (wl X RR σ ALL)[pix g i]? = some (X.1 + pix g i, .inl (xC X (ak g), alen g, .inr (.inr (.inr (.inr (fun j => (RR g i j).map (fun q => X.1 + pix q.1 q.2))))))) := by
    rw [wl_at hg.2 hi (pl_lt hg.2 hi), cellE_ref hg.1 (by omega)]
  refine va_aldq E.1 E.2.1 E.2.2.2.2.2.2.2.1.1 hP (pix g i) kk he (tys_at kk hk ht) x1 hd ?_
  rw [hr]
  exact h l p e s m args below meth c H locs lsA E hP hS hl
-- static rows
theorem i_gets {idx : Nat} (k : Nat) (hk : k < 3) (hd : decode M.2.1 pc = .ok (.getstatic idx, 3)) (hw : Cond.fieldLink M.1.cls idx "NoonVows" (stN k) "[I" ∈ GW) (h : At X d M (pc + 3) ls (.ref (xT X k) :: st) σ r σ') : At X d M pc ls st σ r σ' := by
  intro l p e s m args below meth c H locs lsA E hP hS hl
  exact va_gets E.1 E.2.1 (E.2.2.2.2.2.2.2.2.1.1 k hk).1 hS E.2.2.2.1 (E.2.2.2.2.1 _ hw) (fun _ h9 => h9) hd (h l p e s m args below meth c H locs lsA E hP hS hl)
theorem i_getsN {idx : Nat} {host : String} (k : Nat) (hk : k < 3) (hd : decode M.2.1 pc = .ok (.getstatic idx, 3)) (hw : Cond.fieldLinkNest M.1.cls idx "NoonVows" (stN k) "[I" host ∈ NW) (h : At X d M (pc + 3) ls (.ref (xT X k) :: st) σ r σ') : At X d M pc ls st σ r σ' := by
  intro l p e s m args below meth c H locs lsA E hP hS hl
  exact va_getsN E.1 E.2.1 (E.2.2.2.2.2.2.2.2.1.1 k hk).1 hS E.2.2.2.1 (va_Nw.use rfl (E.2.2.2.2.2.2.2.1.2 _ hw)) (fun _ h9 => h9) hd (h l p e s m args below meth c H locs lsA E hP hS hl)
theorem i_tld {j : Nat} {v : Int32} (k : Nat) (hk : k < 3) (hd : decode M.2.1 pc = .ok (.iaload, 1)) (hx : ix 6 v = some j) (h : At X d M (pc + 1) ls (.int ((stR k).getD j 0) :: st) σ r σ') : At X d M pc ls (.int v :: .ref (xT X k) :: st) σ r σ' := by
  obtain ⟨x1, x2, x3⟩ := ix_in hx
  subst x2
  intro l p e s m args below meth c H locs lsA E hP hS hl
  exact va_ti E.1 E.2.1 (E.2.2.2.2.2.2.2.2.1.1 k hk).2 hS x1 rfl hd (h l p e s m args below meth c H locs lsA E hP hS hl)
-- the script
theorem i_sld {j : Nat} {v : Int32} (hd : decode M.2.1 pc = .ok (.iaload, 1)) (hx : ix (xL X) v = some j) (h : At X d M (pc + 1) ls (.int (xs X j) :: st) σ r σ') : At X d M pc ls (.int v :: .ref (xb X) :: st) σ r σ' := by
  obtain ⟨x1, x2, x3⟩ := ix_in hx
  subst x2
  intro l p e s m args below meth c H locs lsA E hP hS hl
  obtain ⟨hX, hb⟩ := E.2.2.2.2.2.2.2.2.2.1
  exact va_sld E.1 E.2.1 hX (Nat.lt_of_lt_of_le hb E.2.2.2.2.2.2.2.2.2.2.1) (Nat.not_le.mpr hb) hS x1 hd (h l p e s m args below meth c H locs lsA E hP hS hl)
theorem i_slen (hd : decode M.2.1 pc = .ok (.arraylength, 1)) (h : At X d M (pc + 1) ls (.int (Int32.ofNat (xL X)) :: st) σ r σ') : At X d M pc ls (.ref (xb X) :: st) σ r σ' := by
  intro l p e s m args below meth c H locs lsA E hP hS hl
  obtain ⟨hX, hb⟩ := E.2.2.2.2.2.2.2.2.2.1
  exact va_slen E.1 E.2.1 hX (Nat.lt_of_lt_of_le hb E.2.2.2.2.2.2.2.2.2.2.1) (Nat.not_le.mpr hb) hS hd (h l p e s m args below meth c H locs lsA E hP hS hl)
-- ends
theorem i_ireturn {x : Int32} (hr : M.2.2.2 = some .int) (hd : decode M.2.1 pc = .ok (.ireturn, 1)) (hq : r = some (.int x) ∧ σ = σ') : At X d M pc ls [.int x] σ r σ' := by
  obtain ⟨rfl, rfl⟩ := hq
  intro l p e s m args below meth c H locs lsA E hP hS hl
  exact W.iret E.1 E.2.1 (E.2.2.2.2.2.1.trans hr) (fun t ht hW => ⟨⟨rfl, by rw [ht]; exact hP⟩, hS.F ht⟩) hS.2.2 hd E.2.2.2.2.2.2.1
theorem i_zreturn {x : Int32} {ty : FieldType} (hr : M.2.2.2 = some ty) (hx : narrow ty (.int x) = .int x) (hd : decode M.2.1 pc = .ok (.ireturn, 1)) (hq : r = some (.int x) ∧ σ = σ') : At X d M pc ls [.int x] σ r σ' := by
  obtain ⟨rfl, rfl⟩ := hq
  intro l p e s m args below meth c H locs lsA E hP hS hl
  exact W.zret E.1 E.2.1 (E.2.2.2.2.2.1.trans hr) hx (fun t ht hW => ⟨⟨rfl, by rw [ht]; exact hP⟩, hS.F ht⟩) hS.2.2 hd E.2.2.2.2.2.2.1
theorem i_return (hr : M.2.2.2 = none) (hd : decode M.2.1 pc = .ok (.return_, 1)) (hq : r = none ∧ σ = σ') : At X d M pc ls [] σ r σ' := by
  obtain ⟨rfl, rfl⟩ := hq
  intro l p e s m args below meth c H locs lsA E hP hS hl
  exact W.vret E.1 E.2.1 (E.2.2.2.2.2.1.trans hr) (fun t ht hW => ⟨⟨rfl, by rw [ht]; exact hP⟩, hS.F ht⟩) hS.2.2 hd E.2.2.2.2.2.2.1
end AR
end
section
section AC
variable {X : Cx} {d : Nat} {M : Mi} {pc : Nat} {ls : List (Option Value)} {st : List Value} {σ σ' : Mem} {r : Option Value}
theorem call_go {p : Program} {l : Launch} {e : Env} {R : Room} {s : State} {m : MethodId} {args : Array Value} {below : List Frame} {meth : Method} {c : Code} {H : Heap} {locs : List Loc} {lsA : Array Slot} {st0 rest : List Value} {r1 : Option Value} {σ1 : Mem} {a : Array Value} {Q : State → Prop} (hr : va_Run p l e R s m args below meth c H locs 0 0 0 0 (F0 m pc lsA st0) rest (QcX X r1 σ1 a) (Ax X)) (hS : va_S (Ax X) s.heap H locs)
    (kk : ∀ (H1 : Heap) (locs1 : List Loc), va_P X.2.1 vwCl (wl X RR σ1 ALL) H1 → va_S (Ax X) s.heap H1 locs1 → W p l e R s m args below meth c H1 locs1 0 0 Q (F0 m (pc + 3) lsA (r1.toList ++ rest))) : W p l e R s m args below meth c H locs 0 0 Q (F0 m pc lsA st0) := by
  intro T hT Z
  obtain ⟨v, st₀, t, T', L, h0, Z', hL, e1, e2, ⟨⟨hv, hp⟩, hz, hk⟩, sg⟩ := hr T hT Z
  cases hv
  rw [h0] at hz hk
  obtain ⟨t2, a1, b1⟩ := kk T'.heap (locs ++ L) (by rw [e1]; exact hp)
    ⟨Nat.le_trans hS.1 (by rw [e1]; exact hz), fun q h1 h2 => by rw [e1, hk q (Nat.lt_of_lt_of_le h1 hS.1) h2]; exact hS.2.1 q h1 h2, fun q hq => by
      rcases List.mem_append.mp hq with h | h
      · exact hS.2.2 q h
      · exact hL q h⟩ T' rfl Z'
  exact ⟨t2, sg t2 a1, b1⟩
/-- a call's words: the link, the class, the code, how many arguments -/
def CwB (own : String) (idx : Nat) (M' : Mi) (n : Nat) : Prop := Cond.methodLink own idx M'.1 ∈ GW ∧ Cond.initialized M'.1.cls ∈ GW ∧ Cond.code M'.1 M'.2.1 M'.2.2.1 M'.2.2.2 ∈ GW ∧ (M'.1.cls ≠ "java/lang/invoke/MethodHandle" ∧ M'.1.cls ≠ "java/lang/invoke/VarHandle" ∧ (parseMethodDescriptor M'.1.desc).map (fun d => d.parameters.length) = some n) ∧ M'.2.2.1 ≤ 21
def CwN (own : String) (idx : Nat) (host : String) (M' : Mi) (n : Nat) : Prop := Cond.methodLinkNest own idx M'.1 host ∈ NW ∧ Cond.initialized M'.1.cls ∈ GW ∧ Cond.code M'.1 M'.2.1 M'.2.2.1 M'.2.2.2 ∈ GW ∧ (M'.1.cls ≠ "java/lang/invoke/MethodHandle" ∧ M'.1.cls ≠ "java/lang/invoke/VarHandle" ∧ (parseMethodDescriptor M'.1.desc).map (fun d => d.parameters.length) = some n) ∧ M'.2.2.1 ≤ 21
def CwI (M' : Mi) : Prop := Cond.instanceMethod M'.1 ∈ GW ∧ Cond.selects M'.1.cls M'.1 M'.1 ∈ GW
theorem room_of {d d' n : Nat} (h : d' + 1 ≤ d) (hn : n ≤ 21) : (rmd d').frames + 1 ≤ (rmd d).frames ∧ 8 + (n + 11) + (rmd d').locals ≤ (rmd d).locals := by
  refine ⟨h, ?_⟩
  show 8 + (n + 11) + 40 * d' ≤ 40 * d
  omega
theorem cb_of {own : String} {idx n d' : Nat} {M' : Mi} {s : State} {args : Array Value} (hts : ∀ w ∈ GW, w.before args s = true) (hw : CwB own idx M' n) (hd : d' + 1 ≤ d) : CallB (rmd d) s args own idx M'.1 M'.2.1 M'.2.2.1 M'.2.2.2 (wsm M') (rmd d') 0 0 n :=
  callB_of n hts (gw_goodM hw.2.2.1) rfl rfl rfl (hts _ hw.2.1) (hts _ hw.1) hw.2.2.2.1 (room_of hd hw.2.2.2.2)
theorem cn_of {own host : String} {idx n d' : Nat} {M' : Mi} {s : State} {args : Array Value} (hts : ∀ w ∈ GW, w.before args s = true) (hN : ∀ w ∈ NW, va_Nw w s) (hw : CwN own idx host M' n) (hd : d' + 1 ≤ d) : va_CN (rmd d) s args own idx M'.1 host M'.2.1 M'.2.2.1 M'.2.2.2 (wsm M') (rmd d') 0 0 n :=
  va_cnB n hts (gw_goodM hw.2.2.1) rfl rfl rfl (hN _ hw.1) (hts _ hw.2.1) hw.2.2.2.1 (room_of hd hw.2.2.2.2)
theorem i_callV {host : String} {idx n : Nat} {M' : Mi} {d' g i : Nat} {As rest : List Value} {v1 : Value} {σ1 : Mem} {C : String} {T : u_T} {N : Nat} (hd : decode M.2.1 pc = .ok (.invokevirtual idx, 3)) (hw : CwB M.1.cls idx M' n) (hwi : CwI M') (hc : vwCl[g]? = some (C, T, N)) (hq : C = M'.1.cls) (hg : g < 9) (hi : i < cnt g) (hM : Tri X d' M' (rf X g i :: As) σ (some v1) σ1) (hdd : d' + 1 ≤ d) (hn : As.length = n) (hst : st = As.reverse ++ rf X g i :: rest) (hW : (rest.map fun v => v.category).sum ≤ 8) (h : At X d M (pc + 3) ls (v1 :: rest) σ1 r σ') : At X d M pc ls st σ r σ' := by
  subst hst
  subst hq
  intro l p e s m args below meth c H locs lsA E hP hS hl
  have he : (wl X RR σ ALL)[pix g i]? = some (X.1 + pix g i, .inr (g, objE X.1 RR σ g i)) := by
    rw [wl_at (by omega) hi (pl_lt (by omega) hi), cellE_obj hg]
  have hrv := va_recv E.2.2.2.2.2.2.2.1.1 hP hc he
  refine call_go (va_runV (l := l) (Ts := GW) (own := M.1.cls) (C := M'.1.cls) (As := As) (rest := rest) (b := X.1 + pix g i) ⟨E.1, E.2.1, E.2.2.1, E.2.2.2.1, E.2.2.2.2.1⟩ (hM l) ⟨cb_of E.2.2.2.2.1 hw hdd, E.2.2.2.2.1 _ hwi.1, E.2.2.2.2.1 _ hwi.2⟩ ⟨PcX.blind X _ _, hrv, fun U hU hW => ⟨rfl, E.2.2.2.2.2.2.2.call hU hW hS, by rw [hU]; exact hP⟩⟩ rfl hn hl.1 rfl (lv_room hW) hd ⟨Nat.le_refl _, Nat.le_refl _⟩) hS (fun H1 locs1 hP1 hS1 => ?_)
  exact h l p e s m args below meth c H1 locs1 lsA E hP1 hS1 hl
theorem i_callVz {host : String} {idx n : Nat} {M' : Mi} {d' g i : Nat} {As rest : List Value} {v1 : Value} {σ1 : Mem} {C : String} {T : u_T} {N : Nat} (hd : decode M.2.1 pc = .ok (.invokevirtual idx, 3)) (hw : CwB M.1.cls idx M' n) (hwi : CwI M') (hc : vwCl[g]? = some (C, T, N)) (hq : C = M'.1.cls) (hg : g < 9) (hi : i < cnt g) (hM : Tri X d' M' (rf X g i :: As) σ none σ1) (hdd : d' + 1 ≤ d) (hn : As.length = n) (hst : st = As.reverse ++ rf X g i :: rest) (hW : (rest.map fun v => v.category).sum ≤ 8) (h : At X d M (pc + 3) ls rest σ1 r σ') : At X d M pc ls st σ r σ' := by
  subst hst
  subst hq
  intro l p e s m args below meth c H locs lsA E hP hS hl
  have he : (wl X RR σ ALL)[pix g i]? = some (X.1 + pix g i, .inr (g, objE X.1 RR σ g i)) := by
    rw [wl_at (by omega) hi (pl_lt (by omega) hi), cellE_obj hg]
  have hrv := va_recv E.2.2.2.2.2.2.2.1.1 hP hc he
  refine call_go (va_runV (l := l) (Ts := GW) (own := M.1.cls) (C := M'.1.cls) (As := As) (rest := rest) (b := X.1 + pix g i) ⟨E.1, E.2.1, E.2.2.1, E.2.2.2.1, E.2.2.2.2.1⟩ (hM l) ⟨cb_of E.2.2.2.2.1 hw hdd, E.2.2.2.2.1 _ hwi.1, E.2.2.2.2.1 _ hwi.2⟩ ⟨PcX.blind X _ _, hrv, fun U hU hW => ⟨rfl, E.2.2.2.2.2.2.2.call hU hW hS, by rw [hU]; exact hP⟩⟩ rfl hn hl.1 rfl (lv_room hW) hd ⟨Nat.le_refl _, Nat.le_refl _⟩) hS (fun H1 locs1 hP1 hS1 => ?_)
  exact h l p e s m args below meth c H1 locs1 lsA E hP1 hS1 hl
theorem i_callVN {host : String} {idx n : Nat} {M' : Mi} {d' g i : Nat} {As rest : List Value} {v1 : Value} {σ1 : Mem} {C : String} {T : u_T} {N : Nat} (hd : decode M.2.1 pc = .ok (.invokevirtual idx, 3)) (hw : CwN M.1.cls idx host M' n) (hwi : CwI M') (hc : vwCl[g]? = some (C, T, N)) (hq : C = M'.1.cls) (hg : g < 9) (hi : i < cnt g) (hM : Tri X d' M' (rf X g i :: As) σ (some v1) σ1) (hdd : d' + 1 ≤ d) (hn : As.length = n) (hst : st = As.reverse ++ rf X g i :: rest) (hW : (rest.map fun v => v.category).sum ≤ 8) (h : At X d M (pc + 3) ls (v1 :: rest) σ1 r σ') : At X d M pc ls st σ r σ' := by
  subst hst
  subst hq
  intro l p e s m args below meth c H locs lsA E hP hS hl
  have he : (wl X RR σ ALL)[pix g i]? = some (X.1 + pix g i, .inr (g, objE X.1 RR σ g i)) := by
    rw [wl_at (by omega) hi (pl_lt (by omega) hi), cellE_obj hg]
  have hrv := va_recv E.2.2.2.2.2.2.2.1.1 hP hc he
  refine call_go (va_runVN (l := l) (Ts := GW) (own := M.1.cls) (C := M'.1.cls) (As := As) (rest := rest) (b := X.1 + pix g i) ⟨E.1, E.2.1, E.2.2.1, E.2.2.2.1, E.2.2.2.2.1⟩ (hM l) ⟨cn_of E.2.2.2.2.1 E.2.2.2.2.2.2.2.1.2 hw hdd, E.2.2.2.2.1 _ hwi.1, E.2.2.2.2.1 _ hwi.2⟩ ⟨PcX.blind X _ _, hrv, fun U hU hW => ⟨rfl, E.2.2.2.2.2.2.2.call hU hW hS, by rw [hU]; exact hP⟩⟩ rfl hn hl.1 rfl (lv_room hW) hd ⟨Nat.le_refl _, Nat.le_refl _⟩) hS (fun H1 locs1 hP1 hS1 => ?_)
  exact h l p e s m args below meth c H1 locs1 lsA E hP1 hS1 hl
theorem i_callVNz {host : String} {idx n : Nat} {M' : Mi} {d' g i : Nat} {As rest : List Value} {v1 : Value} {σ1 : Mem} {C : String} {T : u_T} {N : Nat} (hd : decode M.2.1 pc = .ok (.invokevirtual idx, 3)) (hw : CwN M.1.cls idx host M' n) (hwi : CwI M') (hc : vwCl[g]? = some (C, T, N)) (hq : C = M'.1.cls) (hg : g < 9) (hi : i < cnt g) (hM : Tri X d' M' (rf X g i :: As) σ none σ1) (hdd : d' + 1 ≤ d) (hn : As.length = n) (hst : st = As.reverse ++ rf X g i :: rest) (hW : (rest.map fun v => v.category).sum ≤ 8) (h : At X d M (pc + 3) ls rest σ1 r σ') : At X d M pc ls st σ r σ' := by
  subst hst
  subst hq
  intro l p e s m args below meth c H locs lsA E hP hS hl
  have he : (wl X RR σ ALL)[pix g i]? = some (X.1 + pix g i, .inr (g, objE X.1 RR σ g i)) := by
    rw [wl_at (by omega) hi (pl_lt (by omega) hi), cellE_obj hg]
  have hrv := va_recv E.2.2.2.2.2.2.2.1.1 hP hc he
  refine call_go (va_runVN (l := l) (Ts := GW) (own := M.1.cls) (C := M'.1.cls) (As := As) (rest := rest) (b := X.1 + pix g i) ⟨E.1, E.2.1, E.2.2.1, E.2.2.2.1, E.2.2.2.2.1⟩ (hM l) ⟨cn_of E.2.2.2.2.1 E.2.2.2.2.2.2.2.1.2 hw hdd, E.2.2.2.2.1 _ hwi.1, E.2.2.2.2.1 _ hwi.2⟩ ⟨PcX.blind X _ _, hrv, fun U hU hW => ⟨rfl, E.2.2.2.2.2.2.2.call hU hW hS, by rw [hU]; exact hP⟩⟩ rfl hn hl.1 rfl (lv_room hW) hd ⟨Nat.le_refl _, Nat.le_refl _⟩) hS (fun H1 locs1 hP1 hS1 => ?_)
  exact h l p e s m args below meth c H1 locs1 lsA E hP1 hS1 hl
theorem i_callS {host : String} {idx n : Nat} {M' : Mi} {d' : Nat} {As rest : List Value} {v1 : Value} {σ1 : Mem} (hd : decode M.2.1 pc = .ok (.invokestatic idx, 3)) (hw : CwB M.1.cls idx M' n) (hws : Cond.static M'.1 ∈ GW) (hM : Tri X d' M' As σ (some v1) σ1) (hdd : d' + 1 ≤ d) (hn : As.length = n) (hst : st = As.reverse ++ rest) (hW : (rest.map fun v => v.category).sum ≤ 8) (h : At X d M (pc + 3) ls (v1 :: rest) σ1 r σ') : At X d M pc ls st σ r σ' := by
  subst hst
  intro l p e s m args below meth c H locs lsA E hP hS hl
  refine call_go (va_runS (l := l) (Ts := GW) (own := M.1.cls) (As := As) (rest := rest) ⟨E.1, E.2.1, E.2.2.1, E.2.2.2.1, E.2.2.2.2.1⟩ (hM l) ⟨cb_of E.2.2.2.2.1 hw hdd, E.2.2.2.2.1 _ hws⟩ ⟨PcX.blind X _ _, fun U hU hW => ⟨rfl, E.2.2.2.2.2.2.2.call hU hW hS, by rw [hU]; exact hP⟩⟩ rfl hn hl.1 rfl (lv_room hW) hd ⟨Nat.le_refl _, Nat.le_refl _⟩) hS (fun H1 locs1 hP1 hS1 => ?_)
  exact h l p e s m args below meth c H1 locs1 lsA E hP1 hS1 hl
theorem i_callSz {host : String} {idx n : Nat} {M' : Mi} {d' : Nat} {As rest : List Value} {v1 : Value} {σ1 : Mem} (hd : decode M.2.1 pc = .ok (.invokestatic idx, 3)) (hw : CwB M.1.cls idx M' n) (hws : Cond.static M'.1 ∈ GW) (hM : Tri X d' M' As σ none σ1) (hdd : d' + 1 ≤ d) (hn : As.length = n) (hst : st = As.reverse ++ rest) (hW : (rest.map fun v => v.category).sum ≤ 8) (h : At X d M (pc + 3) ls rest σ1 r σ') : At X d M pc ls st σ r σ' := by
  subst hst
  intro l p e s m args below meth c H locs lsA E hP hS hl
  refine call_go (va_runS (l := l) (Ts := GW) (own := M.1.cls) (As := As) (rest := rest) ⟨E.1, E.2.1, E.2.2.1, E.2.2.2.1, E.2.2.2.2.1⟩ (hM l) ⟨cb_of E.2.2.2.2.1 hw hdd, E.2.2.2.2.1 _ hws⟩ ⟨PcX.blind X _ _, fun U hU hW => ⟨rfl, E.2.2.2.2.2.2.2.call hU hW hS, by rw [hU]; exact hP⟩⟩ rfl hn hl.1 rfl (lv_room hW) hd ⟨Nat.le_refl _, Nat.le_refl _⟩) hS (fun H1 locs1 hP1 hS1 => ?_)
  exact h l p e s m args below meth c H1 locs1 lsA E hP1 hS1 hl
theorem i_callSN {host : String} {idx n : Nat} {M' : Mi} {d' : Nat} {As rest : List Value} {v1 : Value} {σ1 : Mem} (hd : decode M.2.1 pc = .ok (.invokestatic idx, 3)) (hw : CwN M.1.cls idx host M' n) (hws : Cond.static M'.1 ∈ GW) (hM : Tri X d' M' As σ (some v1) σ1) (hdd : d' + 1 ≤ d) (hn : As.length = n) (hst : st = As.reverse ++ rest) (hW : (rest.map fun v => v.category).sum ≤ 8) (h : At X d M (pc + 3) ls (v1 :: rest) σ1 r σ') : At X d M pc ls st σ r σ' := by
  subst hst
  intro l p e s m args below meth c H locs lsA E hP hS hl
  refine call_go (va_runSN (l := l) (Ts := GW) (own := M.1.cls) (As := As) (rest := rest) ⟨E.1, E.2.1, E.2.2.1, E.2.2.2.1, E.2.2.2.2.1⟩ (hM l) ⟨cn_of E.2.2.2.2.1 E.2.2.2.2.2.2.2.1.2 hw hdd, E.2.2.2.2.1 _ hws, trivial⟩ ⟨PcX.blind X _ _, fun U hU hW => ⟨rfl, E.2.2.2.2.2.2.2.call hU hW hS, by rw [hU]; exact hP⟩⟩ rfl hn hl.1 rfl (lv_room hW) hd ⟨Nat.le_refl _, Nat.le_refl _⟩) hS (fun H1 locs1 hP1 hS1 => ?_)
  exact h l p e s m args below meth c H1 locs1 lsA E hP1 hS1 hl
theorem i_callSNz {host : String} {idx n : Nat} {M' : Mi} {d' : Nat} {As rest : List Value} {v1 : Value} {σ1 : Mem} (hd : decode M.2.1 pc = .ok (.invokestatic idx, 3)) (hw : CwN M.1.cls idx host M' n) (hws : Cond.static M'.1 ∈ GW) (hM : Tri X d' M' As σ none σ1) (hdd : d' + 1 ≤ d) (hn : As.length = n) (hst : st = As.reverse ++ rest) (hW : (rest.map fun v => v.category).sum ≤ 8) (h : At X d M (pc + 3) ls rest σ1 r σ') : At X d M pc ls st σ r σ' := by
  subst hst
  intro l p e s m args below meth c H locs lsA E hP hS hl
  refine call_go (va_runSN (l := l) (Ts := GW) (own := M.1.cls) (As := As) (rest := rest) ⟨E.1, E.2.1, E.2.2.1, E.2.2.2.1, E.2.2.2.2.1⟩ (hM l) ⟨cn_of E.2.2.2.2.1 E.2.2.2.2.2.2.2.1.2 hw hdd, E.2.2.2.2.1 _ hws, trivial⟩ ⟨PcX.blind X _ _, fun U hU hW => ⟨rfl, E.2.2.2.2.2.2.2.call hU hW hS, by rw [hU]; exact hP⟩⟩ rfl hn hl.1 rfl (lv_room hW) hd ⟨Nat.le_refl _, Nat.le_refl _⟩) hS (fun H1 locs1 hP1 hS1 => ?_)
  exact h l p e s m args below meth c H1 locs1 lsA E hP1 hS1 hl
end AC
section AM
variable {X : Cx} {d : Nat} {M : Mi} {pc : Nat} {ls : List (Option Value)} {st : List Value} {σ σ' : Mem} {r : Option Value}
theorem w_Math : Cond.initialized "java/lang/Math" ∈ GW := gw_at 115 (by decide +kernel) (by decide +kernel)
theorem w_mmax : Cond.static Lib.Math.max.name ∈ GW ∧ Cond.code Lib.Math.max.name Lib.Math.max.code 2 (some .int) ∈ GW := ⟨gw_at 488 (by decide +kernel) (by decide +kernel), gw_at 489 (by decide +kernel) (by decide +kernel)⟩
theorem i_mmax {idx : Nat} {x y : Int32} (hd : decode M.2.1 pc = .ok (.invokestatic idx, 3)) (hw : Cond.methodLink M.1.cls idx Lib.Math.max.name ∈ GW) (h1 : 1 ≤ d) (hW : (st.map fun v => v.category).sum ≤ 27) (h : At X d M (pc + 3) ls (.int (if x < y then y else x) :: st) σ r σ') : At X d M pc ls (.int y :: .int x :: st) σ r σ' := by
  intro l p e s m args below meth c H locs lsA E hP hS hl
  have hloc : (st.map fun v => v.category).sum + 13 ≤ (rmd d).locals := by
    show _ ≤ 40 * d
    omega
  exact va_mmax E.1 E.2.1 (E.2.2.1.trans hl.1.symm) E.2.2.2.1 (E.2.2.2.2.1 _ hw) (E.2.2.2.2.1 _ w_mmax.1) (E.2.2.2.2.1 _ w_Math) (E.2.2.2.2.1 _ w_mmax.2) h1 hloc (Nat.le_refl _) (Nat.le_refl _) hd (h l p e s m args below meth c H locs lsA E hP hS hl)
theorem w_mmin : Cond.static Lib.Math.min.name ∈ GW ∧ Cond.code Lib.Math.min.name Lib.Math.min.code 2 (some .int) ∈ GW := ⟨gw_at 501 (by decide +kernel) (by decide +kernel), gw_at 502 (by decide +kernel) (by decide +kernel)⟩
theorem i_mmin {idx : Nat} {x y : Int32} (hd : decode M.2.1 pc = .ok (.invokestatic idx, 3)) (hw : Cond.methodLink M.1.cls idx Lib.Math.min.name ∈ GW) (h1 : 1 ≤ d) (hW : (st.map fun v => v.category).sum ≤ 27) (h : At X d M (pc + 3) ls (.int (if y < x then y else x) :: st) σ r σ') : At X d M pc ls (.int y :: .int x :: st) σ r σ' := by
  intro l p e s m args below meth c H locs lsA E hP hS hl
  have hloc : (st.map fun v => v.category).sum + 13 ≤ (rmd d).locals := by
    show _ ≤ 40 * d
    omega
  exact va_mmin E.1 E.2.1 (E.2.2.1.trans hl.1.symm) E.2.2.2.1 (E.2.2.2.2.1 _ hw) (E.2.2.2.2.1 _ w_mmin.1) (E.2.2.2.2.1 _ w_Math) (E.2.2.2.2.1 _ w_mmin.2) h1 hloc (Nat.le_refl _) (Nat.le_refl _) hd (h l p e s m args below meth c H locs lsA E hP hS hl)
theorem w_mabs : Cond.static Lib.Math.abs.name ∈ GW ∧ Cond.code Lib.Math.abs.name Lib.Math.abs.code 1 (some .int) ∈ GW := ⟨gw_at 645 (by decide +kernel) (by decide +kernel), gw_at 646 (by decide +kernel) (by decide +kernel)⟩
theorem i_mabs {idx : Nat} {x y : Int32} (hd : decode M.2.1 pc = .ok (.invokestatic idx, 3)) (hw : Cond.methodLink M.1.cls idx Lib.Math.abs.name ∈ GW) (h1 : 1 ≤ d) (hW : (st.map fun v => v.category).sum ≤ 27) (h : At X d M (pc + 3) ls (.int (if 0 ≤ x then x else 0 - x) :: st) σ r σ') : At X d M pc ls (.int x :: st) σ r σ' := by
  intro l p e s m args below meth c H locs lsA E hP hS hl
  have hloc : (st.map fun v => v.category).sum + 13 ≤ (rmd d).locals := by
    show _ ≤ 40 * d
    omega
  exact va_mabs E.1 E.2.1 (E.2.2.1.trans hl.1.symm) E.2.2.2.1 (E.2.2.2.2.1 _ hw) (E.2.2.2.2.1 _ w_mabs.1) (E.2.2.2.2.1 _ w_Math) (E.2.2.2.2.1 _ w_mabs.2) h1 hloc (Nat.le_refl _) (Nat.le_refl _) hd (h l p e s m args below meth c H locs lsA E hP hS hl)
theorem w_acp : Cond.native arraycopyName ∈ GW ∧ Cond.static arraycopyName ∈ GW ∧ Cond.initialized "java/lang/System" ∈ GW := ⟨gw_at 468 (by decide +kernel) (by decide +kernel), gw_at 467 (by decide +kernel) (by decide +kernel), gw_at 114 (by decide +kernel) (by decide +kernel)⟩
def cpOK (sp dp n : Int32) (n0 n1 : Nat) : Bool := decide (¬ sp < 0 ∧ ¬ dp < 0 ∧ ¬ n < 0 ∧ sp.toNatClampNeg + n.toNatClampNeg ≤ n0 ∧ dp.toNatClampNeg + n.toNatClampNeg ≤ n1)
def mcopy (σ : Mem) (g0 i0 sp g1 i1 dp n : Nat) : Mem := fun g i k => if g = g1 ∧ i = i1 then (if dp ≤ k ∧ k < dp + n then σ g0 i0 (sp + (k - dp)) else σ g i k) else σ g i k
theorem mcopy_fun {σ : Mem} {g0 i0 sp g1 i1 dp n : Nat} : (fun j => mcopy σ g0 i0 sp g1 i1 dp n g1 i1 j) = va_cpy (fun j => σ g0 i0 j) (fun j => σ g1 i1 j) sp dp n := by
  funext j
  unfold mcopy va_cpy
  rw [if_pos ⟨rfl, rfl⟩]
theorem mcopy_off {σ : Mem} {g0 i0 sp g1 i1 dp n g i : Nat} (h : (g, i) ≠ (g1, i1)) : mcopy σ g0 i0 sp g1 i1 dp n g i = σ g i := by
  funext k
  unfold mcopy
  rw [if_neg]
  rintro ⟨rfl, rfl⟩
  exact h rfl
theorem i_acopy {idx g0 i0 g1 i1 n0 n1 : Nat} {sp dp n : Int32} (hd : decode M.2.1 pc = .ok (.invokestatic idx, 3)) (hw : Cond.methodLink M.1.cls idx arraycopyName ∈ GW) (hg0 : 9 ≤ g0 ∧ g0 < 42) (hg1 : 9 ≤ g1 ∧ g1 < 42) (hk0 : ak g0 = 1) (hk1 : ak g1 = 1) (hn0 : alen g0 = n0) (hn1 : alen g1 = n1) (hi0 : i0 < cnt g0) (hi1 : i1 < cnt g1) (hok : cpOK sp dp n n0 n1 = true) (h1 : 1 ≤ d) (hW : (st.map fun v => v.category).sum + (nativeFrameWords "java/lang/System" "arraycopy" 5 + 11) ≤ 40 * d) (h : At X d M (pc + 3) ls st (mcopy σ g0 i0 sp.toNatClampNeg g1 i1 dp.toNatClampNeg n.toNatClampNeg) r σ') : At X d M pc ls (.int n :: .int dp :: rf X g1 i1 :: .int sp :: rf X g0 i0 :: st) σ r σ' := by
  subst hn0
  subst hn1
  obtain ⟨q1, q2, q3, q4, q5⟩ := of_decide_eq_true hok
  intro l p e s m args below meth c H locs lsA E hP hS hl
  have he0 : (wl X RR σ ALL)[pix g0 i0]? = some (X.1 + pix g0 i0, .inl (xC X (ak g0), alen g0, .inl (fun j => σ g0 i0 j))) := by
    rw [wl_at hg0.2 hi0 (pl_lt hg0.2 hi0), cellE_arr hg0.1 (by omega)]
  have he1 : (wl X RR σ ALL)[pix g1 i1]? = some (X.1 + pix g1 i1, .inl (xC X (ak g1), alen g1, .inl (fun j => σ g1 i1 j))) := by
    rw [wl_at hg1.2 hi1 (pl_lt hg1.2 hi1), cellE_arr hg1.1 (by omega)]
  refine va_copyi E.1 E.2.1 (E.2.2.1.trans hl.1.symm) E.2.2.2.1 (E.2.2.2.2.1 _ hw) (E.2.2.2.2.1 _ w_acp.1) (E.2.2.2.2.1 _ w_acp.2.1) (E.2.2.2.2.1 _ w_acp.2.2) E.2.2.2.2.2.2.2.1.1 hP (wl_D X RR σ ALL) hS (pix g0 i0) (pix g1 i1) 0 0 he0 he1 (tys_at 0 hk0 rfl) (tys_at 0 hk1 rfl) rfl q1 q2 q3 q4 q5 (fun _ _ => rfl) h1 hW hd (fun H1 locs1 hP1 _ hS1 => ?_)
  rw [← mcopy_fun, ← cellE_arr (X := X) (ρ := RR) hg1.1 (by omega), wl_set hg1.2 hi1 (pl_lt hg1.2 hi1) (fun g' i' hne => cellE_congr (mcopy_off hne) rfl)] at hP1
  exact h l p e s m args below meth c H1 locs1 lsA E hP1 hS1 hl
theorem i_ldcS {idx : Nat} (k : Nat) (hk : k < 11) (hM : M.1.cls = RX4) (hx : txI.getD k 0 = idx) (hd : decode M.2.1 pc = .ok (.ldc idx, 2)) (h : At X d M (pc + 2) ls (.ref (xK X k) :: st) σ r σ') : At X d M pc ls st σ r σ' := by
  subst hx
  intro l p e s m args below meth c H locs lsA E hP hS hl
  exact va_ldcS E.1 E.2.1 (by rw [← hM]; exact E.2.2.2.1) (E.2.2.2.2.2.2.2.2.2.2.2.1 k hk) hd (h l p e s m args below meth c H locs lsA E hP hS hl)
theorem i_areturn {a : Nat} (hr : M.2.2.2 = some (.object "java/lang/String")) (hd : decode M.2.1 pc = .ok (.areturn, 1)) (hq : r = some (.ref a) ∧ σ = σ') : At X d M pc ls [.ref a] σ r σ' := by
  obtain ⟨rfl, rfl⟩ := hq
  intro l p e s m args below meth c H locs lsA E hP hS hl
  exact W.aret E.1 E.2.1 (E.2.2.2.2.2.1.trans hr) (Or.inl ⟨_, rfl⟩) (Or.inr ⟨_, rfl⟩) (fun t ht hW => ⟨⟨rfl, by rw [ht]; exact hP⟩, hS.F ht⟩) hS.2.2 hd E.2.2.2.2.2.2.1
end AM
end
