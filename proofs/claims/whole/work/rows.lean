section
/-- a private method of a class that the tables say can be made, by its rows of tables_1 -/
def lw_okq (q : MethodName × Nat) : Prop := (q.1.cls ≠ "java/lang/invoke/MethodHandle" ∧ q.1.cls ≠ "java/lang/invoke/VarHandle") ∧ Cond.instantiable q.1.cls q.2 ∈ tables_1 ∧ Cond.privateMethod q.1 ∈ tables_1 ∧ Cond.instanceMethod q.1 ∈ tables_1
theorem lw_p0 : lw_okq (⟨"ShuffleMaps", "enter", "(I)V"⟩, 8) := ⟨⟨by decide +kernel, by decide +kernel⟩, List.mem_of_getElem? (i := 11) (by decide +kernel), List.mem_of_getElem? (i := 47) (by decide +kernel), List.mem_of_getElem? (i := 48) (by decide +kernel)⟩
theorem lw_p1 : lw_okq (⟨"ShuffleMaps$Field", "fillSums", "()V"⟩, 9) := ⟨⟨by decide +kernel, by decide +kernel⟩, List.mem_of_getElem? (i := 50) (by decide +kernel), List.mem_of_getElem? (i := 61) (by decide +kernel), List.mem_of_getElem? (i := 62) (by decide +kernel)⟩
theorem lw_p2 : lw_okq (⟨"ShuffleMaps$Field", "digitwise", "(II)I"⟩, 9) := ⟨⟨by decide +kernel, by decide +kernel⟩, List.mem_of_getElem? (i := 50) (by decide +kernel), List.mem_of_getElem? (i := 65) (by decide +kernel), List.mem_of_getElem? (i := 66) (by decide +kernel)⟩
theorem lw_p3 : lw_okq (⟨"ShuffleMaps$Field", "fillProducts", "()V"⟩, 9) := ⟨⟨by decide +kernel, by decide +kernel⟩, List.mem_of_getElem? (i := 50) (by decide +kernel), List.mem_of_getElem? (i := 69) (by decide +kernel), List.mem_of_getElem? (i := 70) (by decide +kernel)⟩
theorem lw_p4 : lw_okq (⟨"ShuffleMaps$Field", "polynomialProduct", "(II)I"⟩, 9) := ⟨⟨by decide +kernel, by decide +kernel⟩, List.mem_of_getElem? (i := 50) (by decide +kernel), List.mem_of_getElem? (i := 73) (by decide +kernel), List.mem_of_getElem? (i := 74) (by decide +kernel)⟩
theorem lw_p5 : lw_okq (⟨"ShuffleMaps$Field", "timesZ", "(I)I"⟩, 9) := ⟨⟨by decide +kernel, by decide +kernel⟩, List.mem_of_getElem? (i := 50) (by decide +kernel), List.mem_of_getElem? (i := 77) (by decide +kernel), List.mem_of_getElem? (i := 78) (by decide +kernel)⟩
theorem lw_p6 : lw_okq (⟨"ShuffleMaps$Field", "repeated", "(II)I"⟩, 9) := ⟨⟨by decide +kernel, by decide +kernel⟩, List.mem_of_getElem? (i := 50) (by decide +kernel), List.mem_of_getElem? (i := 81) (by decide +kernel), List.mem_of_getElem? (i := 82) (by decide +kernel)⟩
theorem lw_p7 : lw_okq (⟨"ShuffleMaps$Field", "fillPowers", "()V"⟩, 9) := ⟨⟨by decide +kernel, by decide +kernel⟩, List.mem_of_getElem? (i := 50) (by decide +kernel), List.mem_of_getElem? (i := 89) (by decide +kernel), List.mem_of_getElem? (i := 90) (by decide +kernel)⟩
theorem lw_p8 : lw_okq (⟨"ShuffleMaps", "isNumber", "(I)Z"⟩, 8) := ⟨⟨by decide +kernel, by decide +kernel⟩, List.mem_of_getElem? (i := 11) (by decide +kernel), List.mem_of_getElem? (i := 162) (by decide +kernel), List.mem_of_getElem? (i := 163) (by decide +kernel)⟩
theorem lw_p9 : lw_okq (⟨"ShuffleMaps", "coefficientOf", "([II)I"⟩, 8) := ⟨⟨by decide +kernel, by decide +kernel⟩, List.mem_of_getElem? (i := 11) (by decide +kernel), List.mem_of_getElem? (i := 195) (by decide +kernel), List.mem_of_getElem? (i := 196) (by decide +kernel)⟩
theorem lw_p10 : lw_okq (⟨"ShuffleMaps", "isRecipe", "(IIIII)Z"⟩, 8) := ⟨⟨by decide +kernel, by decide +kernel⟩, List.mem_of_getElem? (i := 11) (by decide +kernel), List.mem_of_getElem? (i := 219) (by decide +kernel), List.mem_of_getElem? (i := 220) (by decide +kernel)⟩
theorem lw_p11 : lw_okq (⟨"ShuffleMaps$Recipe", "power", "(LShuffleMaps$Field;I)I"⟩, 5) := ⟨⟨by decide +kernel, by decide +kernel⟩, List.mem_of_getElem? (i := 23) (by decide +kernel), List.mem_of_getElem? (i := 231) (by decide +kernel), List.mem_of_getElem? (i := 232) (by decide +kernel)⟩
theorem lw_p12 : lw_okq (⟨"ShuffleMaps$Recipe", "dressed", "(LShuffleMaps$Field;I)I"⟩, 5) := ⟨⟨by decide +kernel, by decide +kernel⟩, List.mem_of_getElem? (i := 23) (by decide +kernel), List.mem_of_getElem? (i := 236) (by decide +kernel), List.mem_of_getElem? (i := 237) (by decide +kernel)⟩
theorem lw_p13 : lw_okq (⟨"ShuffleMaps$Recipe", "twice", "(LShuffleMaps$Field;I)I"⟩, 5) := ⟨⟨by decide +kernel, by decide +kernel⟩, List.mem_of_getElem? (i := 23) (by decide +kernel), List.mem_of_getElem? (i := 242) (by decide +kernel), List.mem_of_getElem? (i := 243) (by decide +kernel)⟩
theorem lw_p14 : lw_okq (⟨"ShuffleMaps", "putSpare", "(I)V"⟩, 8) := ⟨⟨by decide +kernel, by decide +kernel⟩, List.mem_of_getElem? (i := 11) (by decide +kernel), List.mem_of_getElem? (i := 254) (by decide +kernel), List.mem_of_getElem? (i := 255) (by decide +kernel)⟩
theorem lw_p15 : lw_okq (⟨"ShuffleMaps", "isShuffle", "([I)Z"⟩, 8) := ⟨⟨by decide +kernel, by decide +kernel⟩, List.mem_of_getElem? (i := 11) (by decide +kernel), List.mem_of_getElem? (i := 265) (by decide +kernel), List.mem_of_getElem? (i := 266) (by decide +kernel)⟩
def lw_privs_1 : List (MethodName × Nat) := [(⟨"ShuffleMaps", "enter", "(I)V"⟩, 8), (⟨"ShuffleMaps$Field", "fillSums", "()V"⟩, 9), (⟨"ShuffleMaps$Field", "digitwise", "(II)I"⟩, 9), (⟨"ShuffleMaps$Field", "fillProducts", "()V"⟩, 9), (⟨"ShuffleMaps$Field", "polynomialProduct", "(II)I"⟩, 9), (⟨"ShuffleMaps$Field", "timesZ", "(I)I"⟩, 9), (⟨"ShuffleMaps$Field", "repeated", "(II)I"⟩, 9), (⟨"ShuffleMaps$Field", "fillPowers", "()V"⟩, 9), (⟨"ShuffleMaps", "isNumber", "(I)Z"⟩, 8), (⟨"ShuffleMaps", "coefficientOf", "([II)I"⟩, 8), (⟨"ShuffleMaps", "isRecipe", "(IIIII)Z"⟩, 8), (⟨"ShuffleMaps$Recipe", "power", "(LShuffleMaps$Field;I)I"⟩, 5), (⟨"ShuffleMaps$Recipe", "dressed", "(LShuffleMaps$Field;I)I"⟩, 5), (⟨"ShuffleMaps$Recipe", "twice", "(LShuffleMaps$Field;I)I"⟩, 5), (⟨"ShuffleMaps", "putSpare", "(I)V"⟩, 8), (⟨"ShuffleMaps", "isShuffle", "([I)Z"⟩, 8)]
theorem lw_r1 : ∀ q ∈ lw_privs_1, lw_okq q := List.forall_mem_cons.mpr ⟨lw_p0, List.forall_mem_cons.mpr ⟨lw_p1, List.forall_mem_cons.mpr ⟨lw_p2, List.forall_mem_cons.mpr ⟨lw_p3, List.forall_mem_cons.mpr ⟨lw_p4, List.forall_mem_cons.mpr ⟨lw_p5, List.forall_mem_cons.mpr ⟨lw_p6, List.forall_mem_cons.mpr ⟨lw_p7, List.forall_mem_cons.mpr ⟨lw_p8, List.forall_mem_cons.mpr ⟨lw_p9, List.forall_mem_cons.mpr ⟨lw_p10, List.forall_mem_cons.mpr ⟨lw_p11, List.forall_mem_cons.mpr ⟨lw_p12, List.forall_mem_cons.mpr ⟨lw_p13, List.forall_mem_cons.mpr ⟨lw_p14, List.forall_mem_cons.mpr ⟨lw_p15, fun _ h => absurd h List.not_mem_nil⟩⟩⟩⟩⟩⟩⟩⟩⟩⟩⟩⟩⟩⟩⟩⟩
theorem lw_p16 : lw_okq (⟨"ShuffleMaps", "imageSize", "([I)I"⟩, 8) := ⟨⟨by decide +kernel, by decide +kernel⟩, List.mem_of_getElem? (i := 11) (by decide +kernel), List.mem_of_getElem? (i := 269) (by decide +kernel), List.mem_of_getElem? (i := 270) (by decide +kernel)⟩
theorem lw_p17 : lw_okq (⟨"ShuffleMaps", "timesTaken", "([II)I"⟩, 8) := ⟨⟨by decide +kernel, by decide +kernel⟩, List.mem_of_getElem? (i := 11) (by decide +kernel), List.mem_of_getElem? (i := 289) (by decide +kernel), List.mem_of_getElem? (i := 290) (by decide +kernel)⟩
theorem lw_p18 : lw_okq (⟨"ShuffleMaps", "roundOf", "([II)I"⟩, 8) := ⟨⟨by decide +kernel, by decide +kernel⟩, List.mem_of_getElem? (i := 11) (by decide +kernel), List.mem_of_getElem? (i := 305) (by decide +kernel), List.mem_of_getElem? (i := 306) (by decide +kernel)⟩
theorem lw_p19 : lw_okq (⟨"ShuffleMaps", "differenceAt", "([III)I"⟩, 8) := ⟨⟨by decide +kernel, by decide +kernel⟩, List.mem_of_getElem? (i := 11) (by decide +kernel), List.mem_of_getElem? (i := 320) (by decide +kernel), List.mem_of_getElem? (i := 321) (by decide +kernel)⟩
theorem lw_p20 : lw_okq (⟨"ShuffleMaps", "greatestSpread", "([I)I"⟩, 8) := ⟨⟨by decide +kernel, by decide +kernel⟩, List.mem_of_getElem? (i := 11) (by decide +kernel), List.mem_of_getElem? (i := 328) (by decide +kernel), List.mem_of_getElem? (i := 329) (by decide +kernel)⟩
theorem lw_p21 : lw_okq (⟨"ShuffleMaps", "hasBits", "()Z"⟩, 8) := ⟨⟨by decide +kernel, by decide +kernel⟩, List.mem_of_getElem? (i := 11) (by decide +kernel), List.mem_of_getElem? (i := 343) (by decide +kernel), List.mem_of_getElem? (i := 344) (by decide +kernel)⟩
theorem lw_p22 : lw_okq (⟨"ShuffleMaps", "walkOf", "([III)I"⟩, 8) := ⟨⟨by decide +kernel, by decide +kernel⟩, List.mem_of_getElem? (i := 11) (by decide +kernel), List.mem_of_getElem? (i := 348) (by decide +kernel), List.mem_of_getElem? (i := 349) (by decide +kernel)⟩
theorem lw_p23 : lw_okq (⟨"ShuffleMaps", "isDress", "([I[IIII)Z"⟩, 8) := ⟨⟨by decide +kernel, by decide +kernel⟩, List.mem_of_getElem? (i := 11) (by decide +kernel), List.mem_of_getElem? (i := 363) (by decide +kernel), List.mem_of_getElem? (i := 364) (by decide +kernel)⟩
theorem lw_p24 : lw_okq (⟨"ShuffleMaps", "dressedAt", "([IIIII)I"⟩, 8) := ⟨⟨by decide +kernel, by decide +kernel⟩, List.mem_of_getElem? (i := 11) (by decide +kernel), List.mem_of_getElem? (i := 367) (by decide +kernel), List.mem_of_getElem? (i := 368) (by decide +kernel)⟩
theorem lw_p25 : lw_okq (⟨"ShuffleMaps", "keepIfLess", "([IIII)V"⟩, 8) := ⟨⟨by decide +kernel, by decide +kernel⟩, List.mem_of_getElem? (i := 11) (by decide +kernel), List.mem_of_getElem? (i := 375) (by decide +kernel), List.mem_of_getElem? (i := 376) (by decide +kernel)⟩
theorem lw_p26 : lw_okq (⟨"ShuffleMaps$Field", "listed", "(I)LShuffleMaps$Listing;"⟩, 9) := ⟨⟨by decide +kernel, by decide +kernel⟩, List.mem_of_getElem? (i := 50) (by decide +kernel), List.mem_of_getElem? (i := 394) (by decide +kernel), List.mem_of_getElem? (i := 395) (by decide +kernel)⟩
theorem lw_p27 : lw_okq (⟨"ShuffleMaps$Field", "polynomialShuffles", "(I)Z"⟩, 9) := ⟨⟨by decide +kernel, by decide +kernel⟩, List.mem_of_getElem? (i := 50) (by decide +kernel), List.mem_of_getElem? (i := 417) (by decide +kernel), List.mem_of_getElem? (i := 418) (by decide +kernel)⟩
theorem lw_p28 : lw_okq (⟨"ShuffleMaps", "shufflingMaps", "()I"⟩, 8) := ⟨⟨by decide +kernel, by decide +kernel⟩, List.mem_of_getElem? (i := 11) (by decide +kernel), List.mem_of_getElem? (i := 453) (by decide +kernel), List.mem_of_getElem? (i := 454) (by decide +kernel)⟩
theorem lw_p29 : lw_okq (⟨"ShuffleMapsModel", "begins", "(I)V"⟩, 10) := ⟨⟨by decide +kernel, by decide +kernel⟩, List.mem_of_getElem? (i := 461) (by decide +kernel), List.mem_of_getElem? (i := 467) (by decide +kernel), List.mem_of_getElem? (i := 468) (by decide +kernel)⟩
theorem lw_p30 : lw_okq (⟨"ShuffleMapsModel", "sumOf", "(II)I"⟩, 10) := ⟨⟨by decide +kernel, by decide +kernel⟩, List.mem_of_getElem? (i := 461) (by decide +kernel), List.mem_of_getElem? (i := 471) (by decide +kernel), List.mem_of_getElem? (i := 472) (by decide +kernel)⟩
theorem lw_p31 : lw_okq (⟨"ShuffleMapsModel", "productOf", "(II)I"⟩, 10) := ⟨⟨by decide +kernel, by decide +kernel⟩, List.mem_of_getElem? (i := 461) (by decide +kernel), List.mem_of_getElem? (i := 475) (by decide +kernel), List.mem_of_getElem? (i := 476) (by decide +kernel)⟩
def lw_privs_2 : List (MethodName × Nat) := [(⟨"ShuffleMaps", "imageSize", "([I)I"⟩, 8), (⟨"ShuffleMaps", "timesTaken", "([II)I"⟩, 8), (⟨"ShuffleMaps", "roundOf", "([II)I"⟩, 8), (⟨"ShuffleMaps", "differenceAt", "([III)I"⟩, 8), (⟨"ShuffleMaps", "greatestSpread", "([I)I"⟩, 8), (⟨"ShuffleMaps", "hasBits", "()Z"⟩, 8), (⟨"ShuffleMaps", "walkOf", "([III)I"⟩, 8), (⟨"ShuffleMaps", "isDress", "([I[IIII)Z"⟩, 8), (⟨"ShuffleMaps", "dressedAt", "([IIIII)I"⟩, 8), (⟨"ShuffleMaps", "keepIfLess", "([IIII)V"⟩, 8), (⟨"ShuffleMaps$Field", "listed", "(I)LShuffleMaps$Listing;"⟩, 9), (⟨"ShuffleMaps$Field", "polynomialShuffles", "(I)Z"⟩, 9), (⟨"ShuffleMaps", "shufflingMaps", "()I"⟩, 8), (⟨"ShuffleMapsModel", "begins", "(I)V"⟩, 10), (⟨"ShuffleMapsModel", "sumOf", "(II)I"⟩, 10), (⟨"ShuffleMapsModel", "productOf", "(II)I"⟩, 10)]
theorem lw_r2 : ∀ q ∈ lw_privs_2, lw_okq q := List.forall_mem_cons.mpr ⟨lw_p16, List.forall_mem_cons.mpr ⟨lw_p17, List.forall_mem_cons.mpr ⟨lw_p18, List.forall_mem_cons.mpr ⟨lw_p19, List.forall_mem_cons.mpr ⟨lw_p20, List.forall_mem_cons.mpr ⟨lw_p21, List.forall_mem_cons.mpr ⟨lw_p22, List.forall_mem_cons.mpr ⟨lw_p23, List.forall_mem_cons.mpr ⟨lw_p24, List.forall_mem_cons.mpr ⟨lw_p25, List.forall_mem_cons.mpr ⟨lw_p26, List.forall_mem_cons.mpr ⟨lw_p27, List.forall_mem_cons.mpr ⟨lw_p28, List.forall_mem_cons.mpr ⟨lw_p29, List.forall_mem_cons.mpr ⟨lw_p30, List.forall_mem_cons.mpr ⟨lw_p31, fun _ h => absurd h List.not_mem_nil⟩⟩⟩⟩⟩⟩⟩⟩⟩⟩⟩⟩⟩⟩⟩⟩
theorem lw_p32 : lw_okq (⟨"ShuffleMapsModel", "isNumber", "(I)Z"⟩, 10) := ⟨⟨by decide +kernel, by decide +kernel⟩, List.mem_of_getElem? (i := 461) (by decide +kernel), List.mem_of_getElem? (i := 521) (by decide +kernel), List.mem_of_getElem? (i := 522) (by decide +kernel)⟩
theorem lw_p33 : lw_okq (⟨"ShuffleMapsModel", "add", "(II)I"⟩, 10) := ⟨⟨by decide +kernel, by decide +kernel⟩, List.mem_of_getElem? (i := 461) (by decide +kernel), List.mem_of_getElem? (i := 525) (by decide +kernel), List.mem_of_getElem? (i := 526) (by decide +kernel)⟩
theorem lw_p34 : lw_okq (⟨"ShuffleMapsModel", "by", "(II)I"⟩, 10) := ⟨⟨by decide +kernel, by decide +kernel⟩, List.mem_of_getElem? (i := 461) (by decide +kernel), List.mem_of_getElem? (i := 533) (by decide +kernel), List.mem_of_getElem? (i := 534) (by decide +kernel)⟩
theorem lw_p35 : lw_okq (⟨"ShuffleMapsModel", "coefficientOf", "(II)I"⟩, 10) := ⟨⟨by decide +kernel, by decide +kernel⟩, List.mem_of_getElem? (i := 461) (by decide +kernel), List.mem_of_getElem? (i := 556) (by decide +kernel), List.mem_of_getElem? (i := 557) (by decide +kernel)⟩
theorem lw_p36 : lw_okq (⟨"ShuffleMapsModel", "power", "(II)I"⟩, 10) := ⟨⟨by decide +kernel, by decide +kernel⟩, List.mem_of_getElem? (i := 461) (by decide +kernel), List.mem_of_getElem? (i := 560) (by decide +kernel), List.mem_of_getElem? (i := 561) (by decide +kernel)⟩
theorem lw_p37 : lw_okq (⟨"ShuffleMapsModel", "minus", "(I)I"⟩, 10) := ⟨⟨by decide +kernel, by decide +kernel⟩, List.mem_of_getElem? (i := 461) (by decide +kernel), List.mem_of_getElem? (i := 564) (by decide +kernel), List.mem_of_getElem? (i := 565) (by decide +kernel)⟩
theorem lw_p38 : lw_okq (⟨"ShuffleMapsModel", "isRecipe", "(IIIII)Z"⟩, 10) := ⟨⟨by decide +kernel, by decide +kernel⟩, List.mem_of_getElem? (i := 461) (by decide +kernel), List.mem_of_getElem? (i := 580) (by decide +kernel), List.mem_of_getElem? (i := 581) (by decide +kernel)⟩
theorem lw_p39 : lw_okq (⟨"ShuffleMapsModel", "tasteOf", "(IIIIII)I"⟩, 10) := ⟨⟨by decide +kernel, by decide +kernel⟩, List.mem_of_getElem? (i := 461) (by decide +kernel), List.mem_of_getElem? (i := 584) (by decide +kernel), List.mem_of_getElem? (i := 585) (by decide +kernel)⟩
theorem lw_p40 : lw_okq (⟨"ShuffleMapsModel", "dressed", "(IIIII)I"⟩, 10) := ⟨⟨by decide +kernel, by decide +kernel⟩, List.mem_of_getElem? (i := 461) (by decide +kernel), List.mem_of_getElem? (i := 588) (by decide +kernel), List.mem_of_getElem? (i := 589) (by decide +kernel)⟩
theorem lw_p41 : lw_okq (⟨"ShuffleMapsModel", "lays", "(I)V"⟩, 10) := ⟨⟨by decide +kernel, by decide +kernel⟩, List.mem_of_getElem? (i := 461) (by decide +kernel), List.mem_of_getElem? (i := 602) (by decide +kernel), List.mem_of_getElem? (i := 603) (by decide +kernel)⟩
theorem lw_p42 : lw_okq (⟨"ShuffleMapsModel", "isShuffle", "(I)Z"⟩, 10) := ⟨⟨by decide +kernel, by decide +kernel⟩, List.mem_of_getElem? (i := 461) (by decide +kernel), List.mem_of_getElem? (i := 610) (by decide +kernel), List.mem_of_getElem? (i := 611) (by decide +kernel)⟩
theorem lw_p43 : lw_okq (⟨"ShuffleMapsModel", "imageOf", "(I)I"⟩, 10) := ⟨⟨by decide +kernel, by decide +kernel⟩, List.mem_of_getElem? (i := 461) (by decide +kernel), List.mem_of_getElem? (i := 614) (by decide +kernel), List.mem_of_getElem? (i := 615) (by decide +kernel)⟩
theorem lw_p44 : lw_okq (⟨"ShuffleMapsModel", "differenceOf", "(III)I"⟩, 10) := ⟨⟨by decide +kernel, by decide +kernel⟩, List.mem_of_getElem? (i := 461) (by decide +kernel), List.mem_of_getElem? (i := 642) (by decide +kernel), List.mem_of_getElem? (i := 643) (by decide +kernel)⟩
theorem lw_p45 : lw_okq (⟨"ShuffleMapsModel", "spreadOf", "(I)I"⟩, 10) := ⟨⟨by decide +kernel, by decide +kernel⟩, List.mem_of_getElem? (i := 461) (by decide +kernel), List.mem_of_getElem? (i := 650) (by decide +kernel), List.mem_of_getElem? (i := 651) (by decide +kernel)⟩
theorem lw_p46 : lw_okq (⟨"ShuffleMapsModel", "isTwos", "()Z"⟩, 10) := ⟨⟨by decide +kernel, by decide +kernel⟩, List.mem_of_getElem? (i := 461) (by decide +kernel), List.mem_of_getElem? (i := 662) (by decide +kernel), List.mem_of_getElem? (i := 663) (by decide +kernel)⟩
theorem lw_p47 : lw_okq (⟨"ShuffleMapsModel", "walkOf", "(III)I"⟩, 10) := ⟨⟨by decide +kernel, by decide +kernel⟩, List.mem_of_getElem? (i := 461) (by decide +kernel), List.mem_of_getElem? (i := 666) (by decide +kernel), List.mem_of_getElem? (i := 667) (by decide +kernel)⟩
def lw_privs_3 : List (MethodName × Nat) := [(⟨"ShuffleMapsModel", "isNumber", "(I)Z"⟩, 10), (⟨"ShuffleMapsModel", "add", "(II)I"⟩, 10), (⟨"ShuffleMapsModel", "by", "(II)I"⟩, 10), (⟨"ShuffleMapsModel", "coefficientOf", "(II)I"⟩, 10), (⟨"ShuffleMapsModel", "power", "(II)I"⟩, 10), (⟨"ShuffleMapsModel", "minus", "(I)I"⟩, 10), (⟨"ShuffleMapsModel", "isRecipe", "(IIIII)Z"⟩, 10), (⟨"ShuffleMapsModel", "tasteOf", "(IIIIII)I"⟩, 10), (⟨"ShuffleMapsModel", "dressed", "(IIIII)I"⟩, 10), (⟨"ShuffleMapsModel", "lays", "(I)V"⟩, 10), (⟨"ShuffleMapsModel", "isShuffle", "(I)Z"⟩, 10), (⟨"ShuffleMapsModel", "imageOf", "(I)I"⟩, 10), (⟨"ShuffleMapsModel", "differenceOf", "(III)I"⟩, 10), (⟨"ShuffleMapsModel", "spreadOf", "(I)I"⟩, 10), (⟨"ShuffleMapsModel", "isTwos", "()Z"⟩, 10), (⟨"ShuffleMapsModel", "walkOf", "(III)I"⟩, 10)]
theorem lw_r3 : ∀ q ∈ lw_privs_3, lw_okq q := List.forall_mem_cons.mpr ⟨lw_p32, List.forall_mem_cons.mpr ⟨lw_p33, List.forall_mem_cons.mpr ⟨lw_p34, List.forall_mem_cons.mpr ⟨lw_p35, List.forall_mem_cons.mpr ⟨lw_p36, List.forall_mem_cons.mpr ⟨lw_p37, List.forall_mem_cons.mpr ⟨lw_p38, List.forall_mem_cons.mpr ⟨lw_p39, List.forall_mem_cons.mpr ⟨lw_p40, List.forall_mem_cons.mpr ⟨lw_p41, List.forall_mem_cons.mpr ⟨lw_p42, List.forall_mem_cons.mpr ⟨lw_p43, List.forall_mem_cons.mpr ⟨lw_p44, List.forall_mem_cons.mpr ⟨lw_p45, List.forall_mem_cons.mpr ⟨lw_p46, List.forall_mem_cons.mpr ⟨lw_p47, fun _ h => absurd h List.not_mem_nil⟩⟩⟩⟩⟩⟩⟩⟩⟩⟩⟩⟩⟩⟩⟩⟩
theorem lw_p48 : lw_okq (⟨"ShuffleMapsModel", "allOf", "(I)I"⟩, 10) := ⟨⟨by decide +kernel, by decide +kernel⟩, List.mem_of_getElem? (i := 461) (by decide +kernel), List.mem_of_getElem? (i := 690) (by decide +kernel), List.mem_of_getElem? (i := 691) (by decide +kernel)⟩
theorem lw_p49 : lw_okq (⟨"ShuffleMapsModel", "shufflesAt", "(II)Z"⟩, 10) := ⟨⟨by decide +kernel, by decide +kernel⟩, List.mem_of_getElem? (i := 461) (by decide +kernel), List.mem_of_getElem? (i := 694) (by decide +kernel), List.mem_of_getElem? (i := 695) (by decide +kernel)⟩
def lw_privs_4 : List (MethodName × Nat) := [(⟨"ShuffleMapsModel", "allOf", "(I)I"⟩, 10), (⟨"ShuffleMapsModel", "shufflesAt", "(II)Z"⟩, 10)]
theorem lw_r4 : ∀ q ∈ lw_privs_4, lw_okq q := List.forall_mem_cons.mpr ⟨lw_p48, List.forall_mem_cons.mpr ⟨lw_p49, fun _ h => absurd h List.not_mem_nil⟩⟩
def lw_privs : List (MethodName × Nat) := lw_privs_1 ++ (lw_privs_2 ++ (lw_privs_3 ++ (lw_privs_4)))
def lw_tbl : List Cond := k2_sels lw_privs ++ tables_1
theorem lw_privs_ok : ∀ q ∈ lw_privs, lw_okq q := by
  show ∀ q ∈ lw_privs_1 ++ (lw_privs_2 ++ (lw_privs_3 ++ (lw_privs_4))), lw_okq q
  exact List.forall_mem_append.mpr ⟨lw_r1, List.forall_mem_append.mpr ⟨lw_r2, List.forall_mem_append.mpr ⟨lw_r3, lw_r4⟩⟩⟩
end
section
def RX0 : String := "ShuffleMaps$Field"
def TX0 : u_T := fun k => match k with
  | 0 => ("ShuffleMaps$Field", "p", "I", true)
  | 1 => ("ShuffleMaps$Field", "q", "I", true)
  | 2 => ("ShuffleMaps$Field", "sums", "[I", true)
  | 3 => ("ShuffleMaps$Field", "products", "[I", true)
  | 4 => ("ShuffleMaps$Field", "powers", "[I", true)
  | 5 => ("ShuffleMaps$Field", "negatives", "[I", true)
  | 6 => ("ShuffleMaps$Field", "inverses", "[I", true)
  | 7 => ("ShuffleMaps$Field", "coefficients", "[I", true)
  | _ => ("ShuffleMaps$Field", "listings", "[LShuffleMaps$Listing;", true)
def tyX0 : Nat → FieldType := fun k => match k with
  | 0 => .int
  | 1 => .int
  | 2 => .array .int
  | 3 => .array .int
  | 4 => .array .int
  | 5 => .array .int
  | 6 => .array .int
  | 7 => .array .int
  | _ => .array (.object "ShuffleMaps$Listing")
abbrev wsX00 : List Cond := u_ws RX0 TX0 9
theorem nmX0 : ∀ a, a < 9 → ∀ b, b < 9 → a ≠ b → (TX0 a).2.1 ≠ (TX0 b).2.1 := by decide +kernel
theorem tyX0_ok : ∀ k, k < 9 → parseFieldDescriptor (TX0 k).2.2.1 = some (tyX0 k) := by decide +kernel
abbrev cX0_init : ByteArray := prog_2_method_1_code
def yX0_init : MethodName := ⟨RX0, "<init>", "(I)V"⟩
abbrev cX0_sum : ByteArray := prog_2_method_2_code
def yX0_sum : MethodName := ⟨RX0, "sum", "(II)I"⟩
abbrev cX0_less : ByteArray := prog_2_method_3_code
def yX0_less : MethodName := ⟨RX0, "less", "(II)I"⟩
abbrev cX0_product : ByteArray := prog_2_method_4_code
def yX0_product : MethodName := ⟨RX0, "product", "(II)I"⟩
abbrev cX0_inverse : ByteArray := prog_2_method_5_code
def yX0_inverse : MethodName := ⟨RX0, "inverse", "(I)I"⟩
abbrev cX0_raised : ByteArray := prog_2_method_6_code
def yX0_raised : MethodName := ⟨RX0, "raised", "(II)I"⟩
abbrev cX0_primeOf : ByteArray := prog_2_method_7_code
def yX0_primeOf : MethodName := ⟨RX0, "primeOf", "(I)I"⟩
abbrev cX0_fillSums : ByteArray := prog_2_method_8_code
def yX0_fillSums : MethodName := ⟨RX0, "fillSums", "()V"⟩
abbrev cX0_digitwise : ByteArray := prog_2_method_9_code
def yX0_digitwise : MethodName := ⟨RX0, "digitwise", "(II)I"⟩
abbrev cX0_fillProducts : ByteArray := prog_2_method_10_code
def yX0_fillProducts : MethodName := ⟨RX0, "fillProducts", "()V"⟩
abbrev cX0_polynomialProduct : ByteArray := prog_2_method_11_code
def yX0_polynomialProduct : MethodName := ⟨RX0, "polynomialProduct", "(II)I"⟩
abbrev cX0_timesZ : ByteArray := prog_2_method_12_code
def yX0_timesZ : MethodName := ⟨RX0, "timesZ", "(I)I"⟩
abbrev cX0_repeated : ByteArray := prog_2_method_13_code
def yX0_repeated : MethodName := ⟨RX0, "repeated", "(II)I"⟩
abbrev cX0_fillPowers : ByteArray := prog_2_method_14_code
def yX0_fillPowers : MethodName := ⟨RX0, "fillPowers", "()V"⟩
abbrev cX0_polynomials : ByteArray := prog_2_method_15_code
def yX0_polynomials : MethodName := ⟨RX0, "polynomials", "(I)I"⟩
abbrev cX0_listing : ByteArray := prog_2_method_16_code
def yX0_listing : MethodName := ⟨RX0, "listing", "(I)LShuffleMaps$Listing;"⟩
abbrev cX0_listed : ByteArray := prog_2_method_17_code
def yX0_listed : MethodName := ⟨RX0, "listed", "(I)LShuffleMaps$Listing;"⟩
abbrev cX0_writePolynomial : ByteArray := prog_2_method_18_code
def yX0_writePolynomial : MethodName := ⟨RX0, "writePolynomial", "(II)V"⟩
abbrev cX0_polynomialAt : ByteArray := prog_2_method_19_code
def yX0_polynomialAt : MethodName := ⟨RX0, "polynomialAt", "(II)I"⟩
abbrev cX0_polynomialShuffles : ByteArray := prog_2_method_20_code
def yX0_polynomialShuffles : MethodName := ⟨RX0, "polynomialShuffles", "(I)Z"⟩
def RX1 : String := "ShuffleMaps$Listing"
def TX1 : u_T := fun k => match k with
  | 0 => ("ShuffleMaps$Listing", "numbers", "[I", false)
  | _ => ("ShuffleMaps$Listing", "size", "I", false)
def tyX1 : Nat → FieldType := fun k => match k with
  | 0 => .array .int
  | _ => .int
abbrev wsX10 : List Cond := u_ws RX1 TX1 2
theorem nmX1 : ∀ a, a < 2 → ∀ b, b < 2 → a ≠ b → (TX1 a).2.1 ≠ (TX1 b).2.1 := by decide +kernel
theorem tyX1_ok : ∀ k, k < 2 → parseFieldDescriptor (TX1 k).2.2.1 = some (tyX1 k) := by decide +kernel
abbrev cX1_init : ByteArray := prog_3_method_1_code
def yX1_init : MethodName := ⟨RX1, "<init>", "()V"⟩
abbrev cX1_append : ByteArray := prog_3_method_2_code
def yX1_append : MethodName := ⟨RX1, "append", "(I)V"⟩
def RX2 : String := "ShuffleMaps$Recipe"
def TX2 : u_T := fun k => match k with
  | 0 => ("ShuffleMaps$Recipe", "e", "I", false)
  | 1 => ("ShuffleMaps$Recipe", "a", "I", false)
  | 2 => ("ShuffleMaps$Recipe", "b", "I", false)
  | 3 => ("ShuffleMaps$Recipe", "c", "I", false)
  | _ => ("ShuffleMaps$Recipe", "asked", "I", false)
def tyX2 : Nat → FieldType := fun k => match k with
  | 0 => .int
  | 1 => .int
  | 2 => .int
  | 3 => .int
  | _ => .int
abbrev wsX20 : List Cond := u_ws RX2 TX2 5
theorem nmX2 : ∀ a, a < 5 → ∀ b, b < 5 → a ≠ b → (TX2 a).2.1 ≠ (TX2 b).2.1 := by decide +kernel
theorem tyX2_ok : ∀ k, k < 5 → parseFieldDescriptor (TX2 k).2.2.1 = some (tyX2 k) := by decide +kernel
abbrev cX2_init : ByteArray := prog_4_method_1_code
def yX2_init : MethodName := ⟨RX2, "<init>", "()V"⟩
abbrev cX2_write : ByteArray := prog_4_method_2_code
def yX2_write : MethodName := ⟨RX2, "write", "(IIII)V"⟩
abbrev cX2_takes : ByteArray := prog_4_method_3_code
def yX2_takes : MethodName := ⟨RX2, "takes", "(LShuffleMaps$Field;II)I"⟩
abbrev cX2_power : ByteArray := prog_4_method_4_code
def yX2_power : MethodName := ⟨RX2, "power", "(LShuffleMaps$Field;I)I"⟩
abbrev cX2_dressed : ByteArray := prog_4_method_5_code
def yX2_dressed : MethodName := ⟨RX2, "dressed", "(LShuffleMaps$Field;I)I"⟩
abbrev cX2_twice : ByteArray := prog_4_method_6_code
def yX2_twice : MethodName := ⟨RX2, "twice", "(LShuffleMaps$Field;I)I"⟩
def RX3 : String := "ShuffleMaps"
def TX3 : u_T := fun k => match k with
  | 0 => ("ShuffleMaps", "fields", "[LShuffleMaps$Field;", true)
  | 1 => ("ShuffleMaps", "maps", "[[I", true)
  | 2 => ("ShuffleMaps", "spare", "[I", true)
  | 3 => ("ShuffleMaps", "tally", "[I", true)
  | 4 => ("ShuffleMaps", "recipe", "LShuffleMaps$Recipe;", true)
  | 5 => ("ShuffleMaps", "here", "LShuffleMaps$Field;", false)
  | 6 => ("ShuffleMaps", "q", "I", false)
  | _ => ("ShuffleMaps", "asked", "J", false)
def tyX3 : Nat → FieldType := fun k => match k with
  | 0 => .array (.object "ShuffleMaps$Field")
  | 1 => .array (.array .int)
  | 2 => .array .int
  | 3 => .array .int
  | 4 => .object "ShuffleMaps$Recipe"
  | 5 => .object "ShuffleMaps$Field"
  | 6 => .int
  | _ => .long
abbrev wsX30 : List Cond := u_ws RX3 TX3 8
theorem nmX3 : ∀ a, a < 8 → ∀ b, b < 8 → a ≠ b → (TX3 a).2.1 ≠ (TX3 b).2.1 := by decide +kernel
theorem tyX3_ok : ∀ k, k < 8 → parseFieldDescriptor (TX3 k).2.2.1 = some (tyX3 k) := by decide +kernel
abbrev cX3_init : ByteArray := prog_1_method_1_code
def yX3_init : MethodName := ⟨RX3, "<init>", "()V"⟩
abbrev cX3_field : ByteArray := prog_1_method_2_code
def yX3_field : MethodName := ⟨RX3, "field", "(I)I"⟩
abbrev cX3_plus : ByteArray := prog_1_method_3_code
def yX3_plus : MethodName := ⟨RX3, "plus", "(II)I"⟩
abbrev cX3_times : ByteArray := prog_1_method_4_code
def yX3_times : MethodName := ⟨RX3, "times", "(II)I"⟩
abbrev cX3_over : ByteArray := prog_1_method_5_code
def yX3_over : MethodName := ⟨RX3, "over", "(I)I"⟩
abbrev cX3_set : ByteArray := prog_1_method_6_code
def yX3_set : MethodName := ⟨RX3, "set", "(III)I"⟩
abbrev cX3_at : ByteArray := prog_1_method_7_code
def yX3_at : MethodName := ⟨RX3, "at", "(II)I"⟩
abbrev cX3_coefficient : ByteArray := prog_1_method_8_code
def yX3_coefficient : MethodName := ⟨RX3, "coefficient", "(II)I"⟩
abbrev cX3_change : ByteArray := prog_1_method_9_code
def yX3_change : MethodName := ⟨RX3, "change", "(III)I"⟩
abbrev cX3_degree : ByteArray := prog_1_method_10_code
def yX3_degree : MethodName := ⟨RX3, "degree", "(I)I"⟩
abbrev cX3_make : ByteArray := prog_1_method_11_code
def yX3_make : MethodName := ⟨RX3, "make", "(IIIIII)I"⟩
abbrev cX3_taste : ByteArray := prog_1_method_12_code
def yX3_taste : MethodName := ⟨RX3, "taste", "(IIIIII)I"⟩
abbrev cX3_chain : ByteArray := prog_1_method_13_code
def yX3_chain : MethodName := ⟨RX3, "chain", "(III)I"⟩
abbrev cX3_shuffles : ByteArray := prog_1_method_14_code
def yX3_shuffles : MethodName := ⟨RX3, "shuffles", "(I)I"⟩
abbrev cX3_fails : ByteArray := prog_1_method_15_code
def yX3_fails : MethodName := ⟨RX3, "fails", "(I)I"⟩
abbrev cX3_image : ByteArray := prog_1_method_16_code
def yX3_image : MethodName := ⟨RX3, "image", "(I)I"⟩
abbrev cX3_turn : ByteArray := prog_1_method_17_code
def yX3_turn : MethodName := ⟨RX3, "turn", "(I)I"⟩
abbrev cX3_order : ByteArray := prog_1_method_18_code
def yX3_order : MethodName := ⟨RX3, "order", "(I)I"⟩
abbrev cX3_fixed : ByteArray := prog_1_method_19_code
def yX3_fixed : MethodName := ⟨RX3, "fixed", "(I)I"⟩
abbrev cX3_difference : ByteArray := prog_1_method_20_code
def yX3_difference : MethodName := ⟨RX3, "difference", "(III)I"⟩
abbrev cX3_spread : ByteArray := prog_1_method_21_code
def yX3_spread : MethodName := ⟨RX3, "spread", "(I)I"⟩
abbrev cX3_planar : ByteArray := prog_1_method_22_code
def yX3_planar : MethodName := ⟨RX3, "planar", "(I)I"⟩
abbrev cX3_walk : ByteArray := prog_1_method_23_code
def yX3_walk : MethodName := ⟨RX3, "walk", "(III)I"⟩
abbrev cX3_linear : ByteArray := prog_1_method_24_code
def yX3_linear : MethodName := ⟨RX3, "linear", "(I)I"⟩
abbrev cX3_like : ByteArray := prog_1_method_25_code
def yX3_like : MethodName := ⟨RX3, "like", "(II)I"⟩
abbrev cX3_least : ByteArray := prog_1_method_26_code
def yX3_least : MethodName := ⟨RX3, "least", "(I)I"⟩
abbrev cX3_many : ByteArray := prog_1_method_27_code
def yX3_many : MethodName := ⟨RX3, "many", "(I)I"⟩
abbrev cX3_pick : ByteArray := prog_1_method_28_code
def yX3_pick : MethodName := ⟨RX3, "pick", "(III)I"⟩
abbrev cX3_count : ByteArray := prog_1_method_29_code
def yX3_count : MethodName := ⟨RX3, "count", "(I)I"⟩
abbrev cX3_trace : ByteArray := prog_1_method_30_code
def yX3_trace : MethodName := ⟨RX3, "trace", "()J"⟩
abbrev cX3_isFieldSize : ByteArray := prog_1_method_31_code
def yX3_isFieldSize : MethodName := ⟨RX3, "isFieldSize", "(I)Z"⟩
abbrev cX3_isMap : ByteArray := prog_1_method_32_code
def yX3_isMap : MethodName := ⟨RX3, "isMap", "(I)Z"⟩
abbrev cX3_isListDegree : ByteArray := prog_1_method_33_code
def yX3_isListDegree : MethodName := ⟨RX3, "isListDegree", "(I)Z"⟩
abbrev cX3_isNumber : ByteArray := prog_1_method_34_code
def yX3_isNumber : MethodName := ⟨RX3, "isNumber", "(I)Z"⟩
abbrev cX3_isRecipe : ByteArray := prog_1_method_35_code
def yX3_isRecipe : MethodName := ⟨RX3, "isRecipe", "(IIIII)Z"⟩
abbrev cX3_hasBits : ByteArray := prog_1_method_36_code
def yX3_hasBits : MethodName := ⟨RX3, "hasBits", "()Z"⟩
abbrev cX3_truth : ByteArray := prog_1_method_37_code
def yX3_truth : MethodName := ⟨RX3, "truth", "(Z)I"⟩
abbrev cX3_enter : ByteArray := prog_1_method_38_code
def yX3_enter : MethodName := ⟨RX3, "enter", "(I)V"⟩
abbrev cX3_putSpare : ByteArray := prog_1_method_39_code
def yX3_putSpare : MethodName := ⟨RX3, "putSpare", "(I)V"⟩
abbrev cX3_shufflingMaps : ByteArray := prog_1_method_40_code
def yX3_shufflingMaps : MethodName := ⟨RX3, "shufflingMaps", "()I"⟩
abbrev cX3_coefficientOf : ByteArray := prog_1_method_41_code
def yX3_coefficientOf : MethodName := ⟨RX3, "coefficientOf", "([II)I"⟩
abbrev cX3_imageSize : ByteArray := prog_1_method_42_code
def yX3_imageSize : MethodName := ⟨RX3, "imageSize", "([I)I"⟩
abbrev cX3_isShuffle : ByteArray := prog_1_method_43_code
def yX3_isShuffle : MethodName := ⟨RX3, "isShuffle", "([I)Z"⟩
abbrev cX3_timesTaken : ByteArray := prog_1_method_44_code
def yX3_timesTaken : MethodName := ⟨RX3, "timesTaken", "([II)I"⟩
abbrev cX3_roundOf : ByteArray := prog_1_method_45_code
def yX3_roundOf : MethodName := ⟨RX3, "roundOf", "([II)I"⟩
abbrev cX3_leastCommonMultiple : ByteArray := prog_1_method_46_code
def yX3_leastCommonMultiple : MethodName := ⟨RX3, "leastCommonMultiple", "(II)I"⟩
abbrev cX3_differenceAt : ByteArray := prog_1_method_47_code
def yX3_differenceAt : MethodName := ⟨RX3, "differenceAt", "([III)I"⟩
abbrev cX3_greatestSpread : ByteArray := prog_1_method_48_code
def yX3_greatestSpread : MethodName := ⟨RX3, "greatestSpread", "([I)I"⟩
abbrev cX3_walkOf : ByteArray := prog_1_method_49_code
def yX3_walkOf : MethodName := ⟨RX3, "walkOf", "([III)I"⟩
abbrev cX3_dressedAt : ByteArray := prog_1_method_50_code
def yX3_dressedAt : MethodName := ⟨RX3, "dressedAt", "([IIIII)I"⟩
abbrev cX3_isDress : ByteArray := prog_1_method_51_code
def yX3_isDress : MethodName := ⟨RX3, "isDress", "([I[IIII)Z"⟩
abbrev cX3_keepIfLess : ByteArray := prog_1_method_52_code
def yX3_keepIfLess : MethodName := ⟨RX3, "keepIfLess", "([IIII)V"⟩
def RX4 : String := "ShuffleMapsModel"
def TX4 : u_T := fun k => match k with
  | 0 => ("ShuffleMapsModel", "thrown", "I", false)
  | 1 => ("ShuffleMapsModel", "trace", "J", false)
  | 2 => ("ShuffleMapsModel", "q", "I", false)
  | 3 => ("ShuffleMapsModel", "p", "I", false)
  | 4 => ("ShuffleMapsModel", "sums", "[I", true)
  | 5 => ("ShuffleMapsModel", "products", "[I", true)
  | 6 => ("ShuffleMapsModel", "maps", "[I", true)
  | 7 => ("ShuffleMapsModel", "row", "[I", true)
  | 8 => ("ShuffleMapsModel", "best", "[I", true)
  | _ => ("ShuffleMapsModel", "digits", "[I", true)
def tyX4 : Nat → FieldType := fun k => match k with
  | 0 => .int
  | 1 => .long
  | 2 => .int
  | 3 => .int
  | 4 => .array .int
  | 5 => .array .int
  | 6 => .array .int
  | 7 => .array .int
  | 8 => .array .int
  | _ => .array .int
abbrev wsX40 : List Cond := u_ws RX4 TX4 10
theorem nmX4 : ∀ a, a < 10 → ∀ b, b < 10 → a ≠ b → (TX4 a).2.1 ≠ (TX4 b).2.1 := by decide +kernel
theorem tyX4_ok : ∀ k, k < 10 → parseFieldDescriptor (TX4 k).2.2.1 = some (tyX4 k) := by decide +kernel
abbrev cX4_init : ByteArray := prog_6_method_1_code
def yX4_init : MethodName := ⟨RX4, "<init>", "()V"⟩
abbrev cX4_in : ByteArray := prog_6_method_3_code
def yX4_in : MethodName := ⟨RX4, "in", "(III)Z"⟩
abbrev cX4_sumOf : ByteArray := prog_6_method_4_code
def yX4_sumOf : MethodName := ⟨RX4, "sumOf", "(II)I"⟩
abbrev cX4_productOf : ByteArray := prog_6_method_5_code
def yX4_productOf : MethodName := ⟨RX4, "productOf", "(II)I"⟩
abbrev cX4_begins : ByteArray := prog_6_method_6_code
def yX4_begins : MethodName := ⟨RX4, "begins", "(I)V"⟩
abbrev cX4_add : ByteArray := prog_6_method_7_code
def yX4_add : MethodName := ⟨RX4, "add", "(II)I"⟩
abbrev cX4_by : ByteArray := prog_6_method_8_code
def yX4_by : MethodName := ⟨RX4, "by", "(II)I"⟩
abbrev cX4_minus : ByteArray := prog_6_method_9_code
def yX4_minus : MethodName := ⟨RX4, "minus", "(I)I"⟩
abbrev cX4_isNumber : ByteArray := prog_6_method_10_code
def yX4_isNumber : MethodName := ⟨RX4, "isNumber", "(I)Z"⟩
abbrev cX4_isMap : ByteArray := prog_6_method_11_code
def yX4_isMap : MethodName := ⟨RX4, "isMap", "(I)Z"⟩
abbrev cX4_power : ByteArray := prog_6_method_12_code
def yX4_power : MethodName := ⟨RX4, "power", "(II)I"⟩
abbrev cX4_field : ByteArray := prog_6_method_13_code
def yX4_field : MethodName := ⟨RX4, "field", "(I)I"⟩
abbrev cX4_plus : ByteArray := prog_6_method_14_code
def yX4_plus : MethodName := ⟨RX4, "plus", "(II)I"⟩
abbrev cX4_times : ByteArray := prog_6_method_15_code
def yX4_times : MethodName := ⟨RX4, "times", "(II)I"⟩
abbrev cX4_over : ByteArray := prog_6_method_16_code
def yX4_over : MethodName := ⟨RX4, "over", "(I)I"⟩
abbrev cX4_set : ByteArray := prog_6_method_17_code
def yX4_set : MethodName := ⟨RX4, "set", "(III)I"⟩
abbrev cX4_at : ByteArray := prog_6_method_18_code
def yX4_at : MethodName := ⟨RX4, "at", "(II)I"⟩
abbrev cX4_coefficientOf : ByteArray := prog_6_method_19_code
def yX4_coefficientOf : MethodName := ⟨RX4, "coefficientOf", "(II)I"⟩
abbrev cX4_coefficient : ByteArray := prog_6_method_20_code
def yX4_coefficient : MethodName := ⟨RX4, "coefficient", "(II)I"⟩
abbrev cX4_change : ByteArray := prog_6_method_21_code
def yX4_change : MethodName := ⟨RX4, "change", "(III)I"⟩
abbrev cX4_degree : ByteArray := prog_6_method_22_code
def yX4_degree : MethodName := ⟨RX4, "degree", "(I)I"⟩
abbrev cX4_isRecipe : ByteArray := prog_6_method_23_code
def yX4_isRecipe : MethodName := ⟨RX4, "isRecipe", "(IIIII)Z"⟩
abbrev cX4_dressed : ByteArray := prog_6_method_24_code
def yX4_dressed : MethodName := ⟨RX4, "dressed", "(IIIII)I"⟩
abbrev cX4_tasteOf : ByteArray := prog_6_method_25_code
def yX4_tasteOf : MethodName := ⟨RX4, "tasteOf", "(IIIIII)I"⟩
abbrev cX4_make : ByteArray := prog_6_method_26_code
def yX4_make : MethodName := ⟨RX4, "make", "(IIIIII)I"⟩
abbrev cX4_taste : ByteArray := prog_6_method_27_code
def yX4_taste : MethodName := ⟨RX4, "taste", "(IIIIII)I"⟩
abbrev cX4_chain : ByteArray := prog_6_method_28_code
def yX4_chain : MethodName := ⟨RX4, "chain", "(III)I"⟩
abbrev cX4_lays : ByteArray := prog_6_method_29_code
def yX4_lays : MethodName := ⟨RX4, "lays", "(I)V"⟩
abbrev cX4_imageOf : ByteArray := prog_6_method_30_code
def yX4_imageOf : MethodName := ⟨RX4, "imageOf", "(I)I"⟩
abbrev cX4_isShuffle : ByteArray := prog_6_method_31_code
def yX4_isShuffle : MethodName := ⟨RX4, "isShuffle", "(I)Z"⟩
abbrev cX4_shuffles : ByteArray := prog_6_method_32_code
def yX4_shuffles : MethodName := ⟨RX4, "shuffles", "(I)I"⟩
abbrev cX4_fails : ByteArray := prog_6_method_33_code
def yX4_fails : MethodName := ⟨RX4, "fails", "(I)I"⟩
abbrev cX4_image : ByteArray := prog_6_method_34_code
def yX4_image : MethodName := ⟨RX4, "image", "(I)I"⟩
abbrev cX4_turn : ByteArray := prog_6_method_35_code
def yX4_turn : MethodName := ⟨RX4, "turn", "(I)I"⟩
abbrev cX4_order : ByteArray := prog_6_method_36_code
def yX4_order : MethodName := ⟨RX4, "order", "(I)I"⟩
abbrev cX4_fixed : ByteArray := prog_6_method_37_code
def yX4_fixed : MethodName := ⟨RX4, "fixed", "(I)I"⟩
abbrev cX4_differenceOf : ByteArray := prog_6_method_38_code
def yX4_differenceOf : MethodName := ⟨RX4, "differenceOf", "(III)I"⟩
abbrev cX4_difference : ByteArray := prog_6_method_39_code
def yX4_difference : MethodName := ⟨RX4, "difference", "(III)I"⟩
abbrev cX4_spreadOf : ByteArray := prog_6_method_40_code
def yX4_spreadOf : MethodName := ⟨RX4, "spreadOf", "(I)I"⟩
abbrev cX4_spread : ByteArray := prog_6_method_41_code
def yX4_spread : MethodName := ⟨RX4, "spread", "(I)I"⟩
abbrev cX4_planar : ByteArray := prog_6_method_42_code
def yX4_planar : MethodName := ⟨RX4, "planar", "(I)I"⟩
abbrev cX4_isTwos : ByteArray := prog_6_method_43_code
def yX4_isTwos : MethodName := ⟨RX4, "isTwos", "()Z"⟩
abbrev cX4_odd : ByteArray := prog_6_method_44_code
def yX4_odd : MethodName := ⟨RX4, "odd", "(I)I"⟩
abbrev cX4_walkOf : ByteArray := prog_6_method_45_code
def yX4_walkOf : MethodName := ⟨RX4, "walkOf", "(III)I"⟩
abbrev cX4_walk : ByteArray := prog_6_method_46_code
def yX4_walk : MethodName := ⟨RX4, "walk", "(III)I"⟩
abbrev cX4_linear : ByteArray := prog_6_method_47_code
def yX4_linear : MethodName := ⟨RX4, "linear", "(I)I"⟩
abbrev cX4_like : ByteArray := prog_6_method_48_code
def yX4_like : MethodName := ⟨RX4, "like", "(II)I"⟩
abbrev cX4_least : ByteArray := prog_6_method_49_code
def yX4_least : MethodName := ⟨RX4, "least", "(I)I"⟩
abbrev cX4_allOf : ByteArray := prog_6_method_50_code
def yX4_allOf : MethodName := ⟨RX4, "allOf", "(I)I"⟩
abbrev cX4_shufflesAt : ByteArray := prog_6_method_51_code
def yX4_shufflesAt : MethodName := ⟨RX4, "shufflesAt", "(II)Z"⟩
abbrev cX4_many : ByteArray := prog_6_method_52_code
def yX4_many : MethodName := ⟨RX4, "many", "(I)I"⟩
abbrev cX4_pick : ByteArray := prog_6_method_53_code
def yX4_pick : MethodName := ⟨RX4, "pick", "(III)I"⟩
abbrev cX4_count : ByteArray := prog_6_method_54_code
def yX4_count : MethodName := ⟨RX4, "count", "(I)I"⟩
abbrev cX4_trace : ByteArray := prog_6_method_55_code
def yX4_trace : MethodName := ⟨RX4, "trace", "()J"⟩
def RJx8e188 : String := "java/lang/Cloneable"
def TJx8e188 : u_T := fun k => match k with
  | _ => ("", "", "", false)
def tyJx8e188 : Nat → FieldType := fun k => match k with
  | _ => .int
abbrev wsJx8e1880 : List Cond := u_ws RJx8e188 TJx8e188 0
theorem nmJx8e188 : ∀ a, a < 0 → ∀ b, b < 0 → a ≠ b → (TJx8e188 a).2.1 ≠ (TJx8e188 b).2.1 := by decide +kernel
theorem tyJx8e188_ok : ∀ k, k < 0 → parseFieldDescriptor (TJx8e188 k).2.2.1 = some (tyJx8e188 k) := by decide +kernel
def RJ6 : String := "java/lang/Integer"
def TJ6 : u_T := fun k => match k with
  | _ => ("", "", "", false)
def tyJ6 : Nat → FieldType := fun k => match k with
  | _ => .int
abbrev wsJ60 : List Cond := u_ws RJ6 TJ6 0
theorem nmJ6 : ∀ a, a < 0 → ∀ b, b < 0 → a ≠ b → (TJ6 a).2.1 ≠ (TJ6 b).2.1 := by decide +kernel
theorem tyJ6_ok : ∀ k, k < 0 → parseFieldDescriptor (TJ6 k).2.2.1 = some (tyJ6 k) := by decide +kernel
abbrev cJ6_bitCount_0f7a4 : ByteArray := prog_8_method_49_code
def yJ6_bitCount_0f7a4 : MethodName := ⟨RJ6, "bitCount", "(I)I"⟩
def RJ9 : String := "java/lang/Math"
def TJ9 : u_T := fun k => match k with
  | _ => ("", "", "", false)
def tyJ9 : Nat → FieldType := fun k => match k with
  | _ => .int
abbrev wsJ90 : List Cond := u_ws RJ9 TJ9 0
theorem nmJ9 : ∀ a, a < 0 → ∀ b, b < 0 → a ≠ b → (TJ9 a).2.1 ≠ (TJ9 b).2.1 := by decide +kernel
theorem tyJ9_ok : ∀ k, k < 0 → parseFieldDescriptor (TJ9 k).2.2.1 = some (tyJ9 k) := by decide +kernel
abbrev cJ9_abs_0f7a4 : ByteArray := prog_9_method_59_code
def yJ9_abs_0f7a4 : MethodName := ⟨RJ9, "abs", "(I)I"⟩
abbrev cJ9_max_7cf53 : ByteArray := prog_9_method_65_code
def yJ9_max_7cf53 : MethodName := ⟨RJ9, "max", "(II)I"⟩
abbrev cJ9_min_7cf53 : ByteArray := prog_9_method_69_code
def yJ9_min_7cf53 : MethodName := ⟨RJ9, "min", "(II)I"⟩
def RJ10 : String := "java/lang/System"
def TJ10 : u_T := fun k => match k with
  | _ => ("", "", "", false)
def tyJ10 : Nat → FieldType := fun k => match k with
  | _ => .int
abbrev wsJ100 : List Cond := u_ws RJ10 TJ10 0
theorem nmJ10 : ∀ a, a < 0 → ∀ b, b < 0 → a ≠ b → (TJ10 a).2.1 ≠ (TJ10 b).2.1 := by decide +kernel
theorem tyJ10_ok : ∀ k, k < 0 → parseFieldDescriptor (TJ10 k).2.2.1 = some (tyJ10 k) := by decide +kernel
def RJ7 : String := "java/util/Arrays"
def TJ7 : u_T := fun k => match k with
  | _ => ("", "", "", false)
def tyJ7 : Nat → FieldType := fun k => match k with
  | _ => .int
abbrev wsJ70 : List Cond := u_ws RJ7 TJ7 0
theorem nmJ7 : ∀ a, a < 0 → ∀ b, b < 0 → a ≠ b → (TJ7 a).2.1 ≠ (TJ7 b).2.1 := by decide +kernel
theorem tyJ7_ok : ∀ k, k < 0 → parseFieldDescriptor (TJ7 k).2.2.1 = some (tyJ7 k) := by decide +kernel
abbrev cJ7_fill_53178 : ByteArray := prog_11_method_103_code
def yJ7_fill_53178 : MethodName := ⟨RJ7, "fill", "([II)V"⟩
abbrev cJ7_copyOf_59c91 : ByteArray := prog_11_method_123_code
def yJ7_copyOf_59c91 : MethodName := ⟨RJ7, "copyOf", "([II)[I"⟩
def RL : String := "ShuffleMapsLaw"
abbrev cL_law : ByteArray := code
def yL_law : MethodName := ⟨RL, "law", "([I)Z"⟩
abbrev vwCl : List vw_C := [(RX0, TX0, 9), (RX1, TX1, 2), (RX2, TX2, 5), (RX3, TX3, 8), (RX4, TX4, 10)]
end
section
theorem dX0_init_0 : decode cX0_init 0 = .ok (.aload_n 0, 1) := by decide +kernel
theorem dX0_init_1 : decode cX0_init 1 = .ok (.invokespecial 3, 3) := by decide +kernel
theorem dX0_init_4 : decode cX0_init 4 = .ok (.aload_n 0, 1) := by decide +kernel
theorem dX0_init_5 : decode cX0_init 5 = .ok (.bipush 6, 2) := by decide +kernel
theorem dX0_init_7 : decode cX0_init 7 = .ok (.newarray .int, 2) := by decide +kernel
theorem dX0_init_9 : decode cX0_init 9 = .ok (.putfield 9, 3) := by decide +kernel
theorem dX0_init_12 : decode cX0_init 12 = .ok (.aload_n 0, 1) := by decide +kernel
theorem dX0_init_13 : decode cX0_init 13 = .ok (.bipush 6, 2) := by decide +kernel
theorem dX0_init_15 : decode cX0_init 15 = .ok (.anewarray 15, 3) := by decide +kernel
theorem dX0_init_18 : decode cX0_init 18 = .ok (.putfield 17, 3) := by decide +kernel
theorem dX0_init_21 : decode cX0_init 21 = .ok (.aload_n 0, 1) := by decide +kernel
theorem dX0_init_22 : decode cX0_init 22 = .ok (.iload_n 1, 1) := by decide +kernel
theorem dX0_init_23 : decode cX0_init 23 = .ok (.putfield 21, 3) := by decide +kernel
theorem dX0_init_26 : decode cX0_init 26 = .ok (.aload_n 0, 1) := by decide +kernel
theorem dX0_init_27 : decode cX0_init 27 = .ok (.iload_n 1, 1) := by decide +kernel
theorem dX0_init_28 : decode cX0_init 28 = .ok (.invokestatic 25, 3) := by decide +kernel
theorem dX0_init_31 : decode cX0_init 31 = .ok (.putfield 29, 3) := by decide +kernel
theorem dX0_init_34 : decode cX0_init 34 = .ok (.aload_n 0, 1) := by decide +kernel
theorem dX0_init_35 : decode cX0_init 35 = .ok (.iload_n 1, 1) := by decide +kernel
theorem dX0_init_36 : decode cX0_init 36 = .ok (.iload_n 1, 1) := by decide +kernel
theorem dX0_init_37 : decode cX0_init 37 = .ok (.imul, 1) := by decide +kernel
theorem dX0_init_38 : decode cX0_init 38 = .ok (.newarray .int, 2) := by decide +kernel
theorem dX0_init_40 : decode cX0_init 40 = .ok (.putfield 32, 3) := by decide +kernel
theorem dX0_init_43 : decode cX0_init 43 = .ok (.aload_n 0, 1) := by decide +kernel
theorem dX0_init_44 : decode cX0_init 44 = .ok (.iload_n 1, 1) := by decide +kernel
theorem dX0_init_45 : decode cX0_init 45 = .ok (.iload_n 1, 1) := by decide +kernel
theorem dX0_init_46 : decode cX0_init 46 = .ok (.imul, 1) := by decide +kernel
theorem dX0_init_47 : decode cX0_init 47 = .ok (.newarray .int, 2) := by decide +kernel
theorem dX0_init_49 : decode cX0_init 49 = .ok (.putfield 35, 3) := by decide +kernel
theorem dX0_init_52 : decode cX0_init 52 = .ok (.aload_n 0, 1) := by decide +kernel
theorem dX0_init_53 : decode cX0_init 53 = .ok (.iload_n 1, 1) := by decide +kernel
theorem dX0_init_54 : decode cX0_init 54 = .ok (.iload_n 1, 1) := by decide +kernel
theorem dX0_init_55 : decode cX0_init 55 = .ok (.imul, 1) := by decide +kernel
theorem dX0_init_56 : decode cX0_init 56 = .ok (.newarray .int, 2) := by decide +kernel
theorem dX0_init_58 : decode cX0_init 58 = .ok (.putfield 38, 3) := by decide +kernel
theorem dX0_init_61 : decode cX0_init 61 = .ok (.aload_n 0, 1) := by decide +kernel
theorem dX0_init_62 : decode cX0_init 62 = .ok (.iload_n 1, 1) := by decide +kernel
theorem dX0_init_63 : decode cX0_init 63 = .ok (.newarray .int, 2) := by decide +kernel
theorem dX0_init_65 : decode cX0_init 65 = .ok (.putfield 41, 3) := by decide +kernel
theorem dX0_init_68 : decode cX0_init 68 = .ok (.aload_n 0, 1) := by decide +kernel
theorem dX0_init_69 : decode cX0_init 69 = .ok (.iload_n 1, 1) := by decide +kernel
theorem dX0_init_70 : decode cX0_init 70 = .ok (.newarray .int, 2) := by decide +kernel
theorem dX0_init_72 : decode cX0_init 72 = .ok (.putfield 44, 3) := by decide +kernel
theorem dX0_init_75 : decode cX0_init 75 = .ok (.aload_n 0, 1) := by decide +kernel
theorem dX0_init_76 : decode cX0_init 76 = .ok (.invokevirtual 47, 3) := by decide +kernel
theorem dX0_init_79 : decode cX0_init 79 = .ok (.aload_n 0, 1) := by decide +kernel
theorem dX0_init_80 : decode cX0_init 80 = .ok (.invokevirtual 50, 3) := by decide +kernel
theorem dX0_init_83 : decode cX0_init 83 = .ok (.aload_n 0, 1) := by decide +kernel
theorem dX0_init_84 : decode cX0_init 84 = .ok (.invokevirtual 53, 3) := by decide +kernel
theorem dX0_init_87 : decode cX0_init 87 = .ok (.return_, 1) := by decide +kernel
theorem dX0_sum_0 : decode cX0_sum 0 = .ok (.aload_n 0, 1) := by decide +kernel
theorem dX0_sum_1 : decode cX0_sum 1 = .ok (.getfield 32, 3) := by decide +kernel
theorem dX0_sum_4 : decode cX0_sum 4 = .ok (.iload_n 1, 1) := by decide +kernel
theorem dX0_sum_5 : decode cX0_sum 5 = .ok (.aload_n 0, 1) := by decide +kernel
theorem dX0_sum_6 : decode cX0_sum 6 = .ok (.getfield 21, 3) := by decide +kernel
theorem dX0_sum_9 : decode cX0_sum 9 = .ok (.imul, 1) := by decide +kernel
theorem dX0_sum_10 : decode cX0_sum 10 = .ok (.iload_n 2, 1) := by decide +kernel
theorem dX0_sum_11 : decode cX0_sum 11 = .ok (.iadd, 1) := by decide +kernel
theorem dX0_sum_12 : decode cX0_sum 12 = .ok (.iaload, 1) := by decide +kernel
theorem dX0_sum_13 : decode cX0_sum 13 = .ok (.ireturn, 1) := by decide +kernel
theorem dX0_less_0 : decode cX0_less 0 = .ok (.aload_n 0, 1) := by decide +kernel
theorem dX0_less_1 : decode cX0_less 1 = .ok (.getfield 32, 3) := by decide +kernel
theorem dX0_less_4 : decode cX0_less 4 = .ok (.iload_n 1, 1) := by decide +kernel
theorem dX0_less_5 : decode cX0_less 5 = .ok (.aload_n 0, 1) := by decide +kernel
theorem dX0_less_6 : decode cX0_less 6 = .ok (.getfield 21, 3) := by decide +kernel
theorem dX0_less_9 : decode cX0_less 9 = .ok (.imul, 1) := by decide +kernel
theorem dX0_less_10 : decode cX0_less 10 = .ok (.aload_n 0, 1) := by decide +kernel
theorem dX0_less_11 : decode cX0_less 11 = .ok (.getfield 41, 3) := by decide +kernel
theorem dX0_less_14 : decode cX0_less 14 = .ok (.iload_n 2, 1) := by decide +kernel
theorem dX0_less_15 : decode cX0_less 15 = .ok (.iaload, 1) := by decide +kernel
theorem dX0_less_16 : decode cX0_less 16 = .ok (.iadd, 1) := by decide +kernel
theorem dX0_less_17 : decode cX0_less 17 = .ok (.iaload, 1) := by decide +kernel
theorem dX0_less_18 : decode cX0_less 18 = .ok (.ireturn, 1) := by decide +kernel
theorem dX0_product_0 : decode cX0_product 0 = .ok (.aload_n 0, 1) := by decide +kernel
theorem dX0_product_1 : decode cX0_product 1 = .ok (.getfield 35, 3) := by decide +kernel
theorem dX0_product_4 : decode cX0_product 4 = .ok (.iload_n 1, 1) := by decide +kernel
theorem dX0_product_5 : decode cX0_product 5 = .ok (.aload_n 0, 1) := by decide +kernel
theorem dX0_product_6 : decode cX0_product 6 = .ok (.getfield 21, 3) := by decide +kernel
theorem dX0_product_9 : decode cX0_product 9 = .ok (.imul, 1) := by decide +kernel
theorem dX0_product_10 : decode cX0_product 10 = .ok (.iload_n 2, 1) := by decide +kernel
theorem dX0_product_11 : decode cX0_product 11 = .ok (.iadd, 1) := by decide +kernel
theorem dX0_product_12 : decode cX0_product 12 = .ok (.iaload, 1) := by decide +kernel
theorem dX0_product_13 : decode cX0_product 13 = .ok (.ireturn, 1) := by decide +kernel
theorem dX0_inverse_0 : decode cX0_inverse 0 = .ok (.aload_n 0, 1) := by decide +kernel
theorem dX0_inverse_1 : decode cX0_inverse 1 = .ok (.getfield 44, 3) := by decide +kernel
theorem dX0_inverse_4 : decode cX0_inverse 4 = .ok (.iload_n 1, 1) := by decide +kernel
theorem dX0_inverse_5 : decode cX0_inverse 5 = .ok (.iaload, 1) := by decide +kernel
theorem dX0_inverse_6 : decode cX0_inverse 6 = .ok (.ireturn, 1) := by decide +kernel
theorem dX0_raised_0 : decode cX0_raised 0 = .ok (.aload_n 0, 1) := by decide +kernel
theorem dX0_raised_1 : decode cX0_raised 1 = .ok (.getfield 38, 3) := by decide +kernel
theorem dX0_raised_4 : decode cX0_raised 4 = .ok (.iload_n 1, 1) := by decide +kernel
theorem dX0_raised_5 : decode cX0_raised 5 = .ok (.aload_n 0, 1) := by decide +kernel
theorem dX0_raised_6 : decode cX0_raised 6 = .ok (.getfield 21, 3) := by decide +kernel
theorem dX0_raised_9 : decode cX0_raised 9 = .ok (.imul, 1) := by decide +kernel
theorem dX0_raised_10 : decode cX0_raised 10 = .ok (.iload_n 2, 1) := by decide +kernel
theorem dX0_raised_11 : decode cX0_raised 11 = .ok (.aload_n 0, 1) := by decide +kernel
theorem dX0_raised_12 : decode cX0_raised 12 = .ok (.getfield 21, 3) := by decide +kernel
theorem dX0_raised_15 : decode cX0_raised 15 = .ok (.if_icmp .ge 7, 3) := by decide +kernel
theorem dX0_raised_18 : decode cX0_raised 18 = .ok (.iload_n 2, 1) := by decide +kernel
theorem dX0_raised_19 : decode cX0_raised 19 = .ok (.goto 15, 3) := by decide +kernel
theorem dX0_raised_22 : decode cX0_raised 22 = .ok (.iconst 1, 1) := by decide +kernel
theorem dX0_raised_23 : decode cX0_raised 23 = .ok (.iload_n 2, 1) := by decide +kernel
theorem dX0_raised_24 : decode cX0_raised 24 = .ok (.iconst 1, 1) := by decide +kernel
theorem dX0_raised_25 : decode cX0_raised 25 = .ok (.isub, 1) := by decide +kernel
theorem dX0_raised_26 : decode cX0_raised 26 = .ok (.aload_n 0, 1) := by decide +kernel
theorem dX0_raised_27 : decode cX0_raised 27 = .ok (.getfield 21, 3) := by decide +kernel
theorem dX0_raised_30 : decode cX0_raised 30 = .ok (.iconst 1, 1) := by decide +kernel
theorem dX0_raised_31 : decode cX0_raised 31 = .ok (.isub, 1) := by decide +kernel
theorem dX0_raised_32 : decode cX0_raised 32 = .ok (.irem, 1) := by decide +kernel
theorem dX0_raised_33 : decode cX0_raised 33 = .ok (.iadd, 1) := by decide +kernel
theorem dX0_raised_34 : decode cX0_raised 34 = .ok (.iadd, 1) := by decide +kernel
theorem dX0_raised_35 : decode cX0_raised 35 = .ok (.iaload, 1) := by decide +kernel
theorem dX0_raised_36 : decode cX0_raised 36 = .ok (.ireturn, 1) := by decide +kernel
theorem dX0_primeOf_0 : decode cX0_primeOf 0 = .ok (.iload_n 0, 1) := by decide +kernel
theorem dX0_primeOf_1 : decode cX0_primeOf 1 = .ok (.lookupswitch 47 #[(4, 43), (8, 43), (9, 45), (16, 43)], 43) := by decide +kernel
theorem dX0_primeOf_44 : decode cX0_primeOf 44 = .ok (.iconst 2, 1) := by decide +kernel
theorem dX0_primeOf_45 : decode cX0_primeOf 45 = .ok (.ireturn, 1) := by decide +kernel
theorem dX0_primeOf_46 : decode cX0_primeOf 46 = .ok (.iconst 3, 1) := by decide +kernel
theorem dX0_primeOf_47 : decode cX0_primeOf 47 = .ok (.ireturn, 1) := by decide +kernel
theorem dX0_primeOf_48 : decode cX0_primeOf 48 = .ok (.iload_n 0, 1) := by decide +kernel
theorem dX0_primeOf_49 : decode cX0_primeOf 49 = .ok (.ireturn, 1) := by decide +kernel
theorem dX0_fillSums_0 : decode cX0_fillSums 0 = .ok (.iconst 0, 1) := by decide +kernel
theorem dX0_fillSums_1 : decode cX0_fillSums 1 = .ok (.istore_n 1, 1) := by decide +kernel
theorem dX0_fillSums_2 : decode cX0_fillSums 2 = .ok (.iload_n 1, 1) := by decide +kernel
theorem dX0_fillSums_3 : decode cX0_fillSums 3 = .ok (.aload_n 0, 1) := by decide +kernel
theorem dX0_fillSums_4 : decode cX0_fillSums 4 = .ok (.getfield 21, 3) := by decide +kernel
theorem dX0_fillSums_7 : decode cX0_fillSums 7 = .ok (.if_icmp .ge 57, 3) := by decide +kernel
theorem dX0_fillSums_10 : decode cX0_fillSums 10 = .ok (.iconst 0, 1) := by decide +kernel
theorem dX0_fillSums_11 : decode cX0_fillSums 11 = .ok (.istore_n 2, 1) := by decide +kernel
theorem dX0_fillSums_12 : decode cX0_fillSums 12 = .ok (.iload_n 2, 1) := by decide +kernel
theorem dX0_fillSums_13 : decode cX0_fillSums 13 = .ok (.aload_n 0, 1) := by decide +kernel
theorem dX0_fillSums_14 : decode cX0_fillSums 14 = .ok (.getfield 21, 3) := by decide +kernel
theorem dX0_fillSums_17 : decode cX0_fillSums 17 = .ok (.if_icmp .ge 41, 3) := by decide +kernel
theorem dX0_fillSums_20 : decode cX0_fillSums 20 = .ok (.aload_n 0, 1) := by decide +kernel
theorem dX0_fillSums_21 : decode cX0_fillSums 21 = .ok (.iload_n 1, 1) := by decide +kernel
theorem dX0_fillSums_22 : decode cX0_fillSums 22 = .ok (.iload_n 2, 1) := by decide +kernel
theorem dX0_fillSums_23 : decode cX0_fillSums 23 = .ok (.invokevirtual 56, 3) := by decide +kernel
theorem dX0_fillSums_26 : decode cX0_fillSums 26 = .ok (.istore_n 3, 1) := by decide +kernel
theorem dX0_fillSums_27 : decode cX0_fillSums 27 = .ok (.aload_n 0, 1) := by decide +kernel
theorem dX0_fillSums_28 : decode cX0_fillSums 28 = .ok (.getfield 32, 3) := by decide +kernel
theorem dX0_fillSums_31 : decode cX0_fillSums 31 = .ok (.iload_n 1, 1) := by decide +kernel
theorem dX0_fillSums_32 : decode cX0_fillSums 32 = .ok (.aload_n 0, 1) := by decide +kernel
theorem dX0_fillSums_33 : decode cX0_fillSums 33 = .ok (.getfield 21, 3) := by decide +kernel
theorem dX0_fillSums_36 : decode cX0_fillSums 36 = .ok (.imul, 1) := by decide +kernel
theorem dX0_fillSums_37 : decode cX0_fillSums 37 = .ok (.iload_n 2, 1) := by decide +kernel
theorem dX0_fillSums_38 : decode cX0_fillSums 38 = .ok (.iadd, 1) := by decide +kernel
theorem dX0_fillSums_39 : decode cX0_fillSums 39 = .ok (.iload_n 3, 1) := by decide +kernel
theorem dX0_fillSums_40 : decode cX0_fillSums 40 = .ok (.iastore, 1) := by decide +kernel
theorem dX0_fillSums_41 : decode cX0_fillSums 41 = .ok (.iload_n 3, 1) := by decide +kernel
theorem dX0_fillSums_42 : decode cX0_fillSums 42 = .ok (.ifCond .ne 10, 3) := by decide +kernel
theorem dX0_fillSums_45 : decode cX0_fillSums 45 = .ok (.aload_n 0, 1) := by decide +kernel
theorem dX0_fillSums_46 : decode cX0_fillSums 46 = .ok (.getfield 41, 3) := by decide +kernel
theorem dX0_fillSums_49 : decode cX0_fillSums 49 = .ok (.iload_n 1, 1) := by decide +kernel
theorem dX0_fillSums_50 : decode cX0_fillSums 50 = .ok (.iload_n 2, 1) := by decide +kernel
theorem dX0_fillSums_51 : decode cX0_fillSums 51 = .ok (.iastore, 1) := by decide +kernel
theorem dX0_fillSums_52 : decode cX0_fillSums 52 = .ok (.iinc 2 1, 3) := by decide +kernel
theorem dX0_fillSums_55 : decode cX0_fillSums 55 = .ok (.goto (-43), 3) := by decide +kernel
theorem dX0_fillSums_58 : decode cX0_fillSums 58 = .ok (.iinc 1 1, 3) := by decide +kernel
theorem dX0_fillSums_61 : decode cX0_fillSums 61 = .ok (.goto (-59), 3) := by decide +kernel
theorem dX0_fillSums_64 : decode cX0_fillSums 64 = .ok (.return_, 1) := by decide +kernel
theorem dX0_digitwise_0 : decode cX0_digitwise 0 = .ok (.iconst 0, 1) := by decide +kernel
theorem dX0_digitwise_1 : decode cX0_digitwise 1 = .ok (.istore_n 3, 1) := by decide +kernel
theorem dX0_digitwise_2 : decode cX0_digitwise 2 = .ok (.iconst 1, 1) := by decide +kernel
theorem dX0_digitwise_3 : decode cX0_digitwise 3 = .ok (.istore 4, 2) := by decide +kernel
theorem dX0_digitwise_5 : decode cX0_digitwise 5 = .ok (.iload 4, 2) := by decide +kernel
theorem dX0_digitwise_7 : decode cX0_digitwise 7 = .ok (.aload_n 0, 1) := by decide +kernel
theorem dX0_digitwise_8 : decode cX0_digitwise 8 = .ok (.getfield 21, 3) := by decide +kernel
theorem dX0_digitwise_11 : decode cX0_digitwise 11 = .ok (.if_icmp .ge 35, 3) := by decide +kernel
theorem dX0_digitwise_14 : decode cX0_digitwise 14 = .ok (.iload_n 3, 1) := by decide +kernel
theorem dX0_digitwise_15 : decode cX0_digitwise 15 = .ok (.iload_n 1, 1) := by decide +kernel
theorem dX0_digitwise_16 : decode cX0_digitwise 16 = .ok (.iload 4, 2) := by decide +kernel
theorem dX0_digitwise_18 : decode cX0_digitwise 18 = .ok (.idiv, 1) := by decide +kernel
theorem dX0_digitwise_19 : decode cX0_digitwise 19 = .ok (.iload_n 2, 1) := by decide +kernel
theorem dX0_digitwise_20 : decode cX0_digitwise 20 = .ok (.iload 4, 2) := by decide +kernel
theorem dX0_digitwise_22 : decode cX0_digitwise 22 = .ok (.idiv, 1) := by decide +kernel
theorem dX0_digitwise_23 : decode cX0_digitwise 23 = .ok (.iadd, 1) := by decide +kernel
theorem dX0_digitwise_24 : decode cX0_digitwise 24 = .ok (.aload_n 0, 1) := by decide +kernel
theorem dX0_digitwise_25 : decode cX0_digitwise 25 = .ok (.getfield 29, 3) := by decide +kernel
theorem dX0_digitwise_28 : decode cX0_digitwise 28 = .ok (.irem, 1) := by decide +kernel
theorem dX0_digitwise_29 : decode cX0_digitwise 29 = .ok (.iload 4, 2) := by decide +kernel
theorem dX0_digitwise_31 : decode cX0_digitwise 31 = .ok (.imul, 1) := by decide +kernel
theorem dX0_digitwise_32 : decode cX0_digitwise 32 = .ok (.iadd, 1) := by decide +kernel
theorem dX0_digitwise_33 : decode cX0_digitwise 33 = .ok (.istore_n 3, 1) := by decide +kernel
theorem dX0_digitwise_34 : decode cX0_digitwise 34 = .ok (.iload 4, 2) := by decide +kernel
theorem dX0_digitwise_36 : decode cX0_digitwise 36 = .ok (.aload_n 0, 1) := by decide +kernel
theorem dX0_digitwise_37 : decode cX0_digitwise 37 = .ok (.getfield 29, 3) := by decide +kernel
theorem dX0_digitwise_40 : decode cX0_digitwise 40 = .ok (.imul, 1) := by decide +kernel
theorem dX0_digitwise_41 : decode cX0_digitwise 41 = .ok (.istore 4, 2) := by decide +kernel
theorem dX0_digitwise_43 : decode cX0_digitwise 43 = .ok (.goto (-38), 3) := by decide +kernel
theorem dX0_digitwise_46 : decode cX0_digitwise 46 = .ok (.iload_n 3, 1) := by decide +kernel
theorem dX0_digitwise_47 : decode cX0_digitwise 47 = .ok (.ireturn, 1) := by decide +kernel
theorem dX0_fillProducts_0 : decode cX0_fillProducts 0 = .ok (.iconst 0, 1) := by decide +kernel
theorem dX0_fillProducts_1 : decode cX0_fillProducts 1 = .ok (.istore_n 1, 1) := by decide +kernel
theorem dX0_fillProducts_2 : decode cX0_fillProducts 2 = .ok (.iload_n 1, 1) := by decide +kernel
theorem dX0_fillProducts_3 : decode cX0_fillProducts 3 = .ok (.aload_n 0, 1) := by decide +kernel
theorem dX0_fillProducts_4 : decode cX0_fillProducts 4 = .ok (.getfield 21, 3) := by decide +kernel
theorem dX0_fillProducts_7 : decode cX0_fillProducts 7 = .ok (.if_icmp .ge 80, 3) := by decide +kernel
theorem dX0_fillProducts_10 : decode cX0_fillProducts 10 = .ok (.iconst 0, 1) := by decide +kernel
theorem dX0_fillProducts_11 : decode cX0_fillProducts 11 = .ok (.istore_n 2, 1) := by decide +kernel
theorem dX0_fillProducts_12 : decode cX0_fillProducts 12 = .ok (.iload_n 2, 1) := by decide +kernel
theorem dX0_fillProducts_13 : decode cX0_fillProducts 13 = .ok (.aload_n 0, 1) := by decide +kernel
theorem dX0_fillProducts_14 : decode cX0_fillProducts 14 = .ok (.getfield 21, 3) := by decide +kernel
theorem dX0_fillProducts_17 : decode cX0_fillProducts 17 = .ok (.if_icmp .ge 64, 3) := by decide +kernel
theorem dX0_fillProducts_20 : decode cX0_fillProducts 20 = .ok (.aload_n 0, 1) := by decide +kernel
theorem dX0_fillProducts_21 : decode cX0_fillProducts 21 = .ok (.getfield 29, 3) := by decide +kernel
theorem dX0_fillProducts_24 : decode cX0_fillProducts 24 = .ok (.aload_n 0, 1) := by decide +kernel
theorem dX0_fillProducts_25 : decode cX0_fillProducts 25 = .ok (.getfield 21, 3) := by decide +kernel
theorem dX0_fillProducts_28 : decode cX0_fillProducts 28 = .ok (.if_icmp .ne 14, 3) := by decide +kernel
theorem dX0_fillProducts_31 : decode cX0_fillProducts 31 = .ok (.iload_n 1, 1) := by decide +kernel
theorem dX0_fillProducts_32 : decode cX0_fillProducts 32 = .ok (.iload_n 2, 1) := by decide +kernel
theorem dX0_fillProducts_33 : decode cX0_fillProducts 33 = .ok (.imul, 1) := by decide +kernel
theorem dX0_fillProducts_34 : decode cX0_fillProducts 34 = .ok (.aload_n 0, 1) := by decide +kernel
theorem dX0_fillProducts_35 : decode cX0_fillProducts 35 = .ok (.getfield 21, 3) := by decide +kernel
theorem dX0_fillProducts_38 : decode cX0_fillProducts 38 = .ok (.irem, 1) := by decide +kernel
theorem dX0_fillProducts_39 : decode cX0_fillProducts 39 = .ok (.goto 9, 3) := by decide +kernel
theorem dX0_fillProducts_42 : decode cX0_fillProducts 42 = .ok (.aload_n 0, 1) := by decide +kernel
theorem dX0_fillProducts_43 : decode cX0_fillProducts 43 = .ok (.iload_n 1, 1) := by decide +kernel
theorem dX0_fillProducts_44 : decode cX0_fillProducts 44 = .ok (.iload_n 2, 1) := by decide +kernel
theorem dX0_fillProducts_45 : decode cX0_fillProducts 45 = .ok (.invokevirtual 60, 3) := by decide +kernel
theorem dX0_fillProducts_48 : decode cX0_fillProducts 48 = .ok (.istore_n 3, 1) := by decide +kernel
theorem dX0_fillProducts_49 : decode cX0_fillProducts 49 = .ok (.aload_n 0, 1) := by decide +kernel
theorem dX0_fillProducts_50 : decode cX0_fillProducts 50 = .ok (.getfield 35, 3) := by decide +kernel
theorem dX0_fillProducts_53 : decode cX0_fillProducts 53 = .ok (.iload_n 1, 1) := by decide +kernel
theorem dX0_fillProducts_54 : decode cX0_fillProducts 54 = .ok (.aload_n 0, 1) := by decide +kernel
theorem dX0_fillProducts_55 : decode cX0_fillProducts 55 = .ok (.getfield 21, 3) := by decide +kernel
theorem dX0_fillProducts_58 : decode cX0_fillProducts 58 = .ok (.imul, 1) := by decide +kernel
theorem dX0_fillProducts_59 : decode cX0_fillProducts 59 = .ok (.iload_n 2, 1) := by decide +kernel
theorem dX0_fillProducts_60 : decode cX0_fillProducts 60 = .ok (.iadd, 1) := by decide +kernel
theorem dX0_fillProducts_61 : decode cX0_fillProducts 61 = .ok (.iload_n 3, 1) := by decide +kernel
theorem dX0_fillProducts_62 : decode cX0_fillProducts 62 = .ok (.iastore, 1) := by decide +kernel
theorem dX0_fillProducts_63 : decode cX0_fillProducts 63 = .ok (.iload_n 3, 1) := by decide +kernel
theorem dX0_fillProducts_64 : decode cX0_fillProducts 64 = .ok (.iconst 1, 1) := by decide +kernel
theorem dX0_fillProducts_65 : decode cX0_fillProducts 65 = .ok (.if_icmp .ne 10, 3) := by decide +kernel
theorem dX0_fillProducts_68 : decode cX0_fillProducts 68 = .ok (.aload_n 0, 1) := by decide +kernel
theorem dX0_fillProducts_69 : decode cX0_fillProducts 69 = .ok (.getfield 44, 3) := by decide +kernel
theorem dX0_fillProducts_72 : decode cX0_fillProducts 72 = .ok (.iload_n 1, 1) := by decide +kernel
theorem dX0_fillProducts_73 : decode cX0_fillProducts 73 = .ok (.iload_n 2, 1) := by decide +kernel
theorem dX0_fillProducts_74 : decode cX0_fillProducts 74 = .ok (.iastore, 1) := by decide +kernel
theorem dX0_fillProducts_75 : decode cX0_fillProducts 75 = .ok (.iinc 2 1, 3) := by decide +kernel
theorem dX0_fillProducts_78 : decode cX0_fillProducts 78 = .ok (.goto (-66), 3) := by decide +kernel
theorem dX0_fillProducts_81 : decode cX0_fillProducts 81 = .ok (.iinc 1 1, 3) := by decide +kernel
theorem dX0_fillProducts_84 : decode cX0_fillProducts 84 = .ok (.goto (-82), 3) := by decide +kernel
theorem dX0_fillProducts_87 : decode cX0_fillProducts 87 = .ok (.return_, 1) := by decide +kernel
theorem dX0_polynomialProduct_0 : decode cX0_polynomialProduct 0 = .ok (.iconst 0, 1) := by decide +kernel
theorem dX0_polynomialProduct_1 : decode cX0_polynomialProduct 1 = .ok (.istore_n 3, 1) := by decide +kernel
theorem dX0_polynomialProduct_2 : decode cX0_polynomialProduct 2 = .ok (.aload_n 0, 1) := by decide +kernel
theorem dX0_polynomialProduct_3 : decode cX0_polynomialProduct 3 = .ok (.getfield 21, 3) := by decide +kernel
theorem dX0_polynomialProduct_6 : decode cX0_polynomialProduct 6 = .ok (.aload_n 0, 1) := by decide +kernel
theorem dX0_polynomialProduct_7 : decode cX0_polynomialProduct 7 = .ok (.getfield 29, 3) := by decide +kernel
theorem dX0_polynomialProduct_10 : decode cX0_polynomialProduct 10 = .ok (.idiv, 1) := by decide +kernel
theorem dX0_polynomialProduct_11 : decode cX0_polynomialProduct 11 = .ok (.istore 4, 2) := by decide +kernel
theorem dX0_polynomialProduct_13 : decode cX0_polynomialProduct 13 = .ok (.iload 4, 2) := by decide +kernel
theorem dX0_polynomialProduct_15 : decode cX0_polynomialProduct 15 = .ok (.ifCond .le 39, 3) := by decide +kernel
theorem dX0_polynomialProduct_18 : decode cX0_polynomialProduct 18 = .ok (.aload_n 0, 1) := by decide +kernel
theorem dX0_polynomialProduct_19 : decode cX0_polynomialProduct 19 = .ok (.aload_n 0, 1) := by decide +kernel
theorem dX0_polynomialProduct_20 : decode cX0_polynomialProduct 20 = .ok (.iload_n 3, 1) := by decide +kernel
theorem dX0_polynomialProduct_21 : decode cX0_polynomialProduct 21 = .ok (.invokevirtual 63, 3) := by decide +kernel
theorem dX0_polynomialProduct_24 : decode cX0_polynomialProduct 24 = .ok (.aload_n 0, 1) := by decide +kernel
theorem dX0_polynomialProduct_25 : decode cX0_polynomialProduct 25 = .ok (.iload_n 1, 1) := by decide +kernel
theorem dX0_polynomialProduct_26 : decode cX0_polynomialProduct 26 = .ok (.iload_n 2, 1) := by decide +kernel
theorem dX0_polynomialProduct_27 : decode cX0_polynomialProduct 27 = .ok (.iload 4, 2) := by decide +kernel
theorem dX0_polynomialProduct_29 : decode cX0_polynomialProduct 29 = .ok (.idiv, 1) := by decide +kernel
theorem dX0_polynomialProduct_30 : decode cX0_polynomialProduct 30 = .ok (.aload_n 0, 1) := by decide +kernel
theorem dX0_polynomialProduct_31 : decode cX0_polynomialProduct 31 = .ok (.getfield 29, 3) := by decide +kernel
theorem dX0_polynomialProduct_34 : decode cX0_polynomialProduct 34 = .ok (.irem, 1) := by decide +kernel
theorem dX0_polynomialProduct_35 : decode cX0_polynomialProduct 35 = .ok (.invokevirtual 66, 3) := by decide +kernel
theorem dX0_polynomialProduct_38 : decode cX0_polynomialProduct 38 = .ok (.invokevirtual 69, 3) := by decide +kernel
theorem dX0_polynomialProduct_41 : decode cX0_polynomialProduct 41 = .ok (.istore_n 3, 1) := by decide +kernel
theorem dX0_polynomialProduct_42 : decode cX0_polynomialProduct 42 = .ok (.iload 4, 2) := by decide +kernel
theorem dX0_polynomialProduct_44 : decode cX0_polynomialProduct 44 = .ok (.aload_n 0, 1) := by decide +kernel
theorem dX0_polynomialProduct_45 : decode cX0_polynomialProduct 45 = .ok (.getfield 29, 3) := by decide +kernel
theorem dX0_polynomialProduct_48 : decode cX0_polynomialProduct 48 = .ok (.idiv, 1) := by decide +kernel
theorem dX0_polynomialProduct_49 : decode cX0_polynomialProduct 49 = .ok (.istore 4, 2) := by decide +kernel
theorem dX0_polynomialProduct_51 : decode cX0_polynomialProduct 51 = .ok (.goto (-38), 3) := by decide +kernel
theorem dX0_polynomialProduct_54 : decode cX0_polynomialProduct 54 = .ok (.iload_n 3, 1) := by decide +kernel
theorem dX0_polynomialProduct_55 : decode cX0_polynomialProduct 55 = .ok (.ireturn, 1) := by decide +kernel
theorem dX0_timesZ_0 : decode cX0_timesZ 0 = .ok (.aload_n 0, 1) := by decide +kernel
theorem dX0_timesZ_1 : decode cX0_timesZ 1 = .ok (.getfield 21, 3) := by decide +kernel
theorem dX0_timesZ_4 : decode cX0_timesZ 4 = .ok (.aload_n 0, 1) := by decide +kernel
theorem dX0_timesZ_5 : decode cX0_timesZ 5 = .ok (.getfield 29, 3) := by decide +kernel
theorem dX0_timesZ_8 : decode cX0_timesZ 8 = .ok (.idiv, 1) := by decide +kernel
theorem dX0_timesZ_9 : decode cX0_timesZ 9 = .ok (.istore_n 2, 1) := by decide +kernel
theorem dX0_timesZ_10 : decode cX0_timesZ 10 = .ok (.aload_n 0, 1) := by decide +kernel
theorem dX0_timesZ_11 : decode cX0_timesZ 11 = .ok (.getfield 29, 3) := by decide +kernel
theorem dX0_timesZ_14 : decode cX0_timesZ 14 = .ok (.iconst 2, 1) := by decide +kernel
theorem dX0_timesZ_15 : decode cX0_timesZ 15 = .ok (.if_icmp .ne 7, 3) := by decide +kernel
theorem dX0_timesZ_18 : decode cX0_timesZ 18 = .ok (.iconst 3, 1) := by decide +kernel
theorem dX0_timesZ_19 : decode cX0_timesZ 19 = .ok (.goto 4, 3) := by decide +kernel
theorem dX0_timesZ_22 : decode cX0_timesZ 22 = .ok (.iconst 2, 1) := by decide +kernel
theorem dX0_timesZ_23 : decode cX0_timesZ 23 = .ok (.istore_n 3, 1) := by decide +kernel
theorem dX0_timesZ_24 : decode cX0_timesZ 24 = .ok (.aload_n 0, 1) := by decide +kernel
theorem dX0_timesZ_25 : decode cX0_timesZ 25 = .ok (.iload_n 1, 1) := by decide +kernel
theorem dX0_timesZ_26 : decode cX0_timesZ 26 = .ok (.iload_n 2, 1) := by decide +kernel
theorem dX0_timesZ_27 : decode cX0_timesZ 27 = .ok (.irem, 1) := by decide +kernel
theorem dX0_timesZ_28 : decode cX0_timesZ 28 = .ok (.aload_n 0, 1) := by decide +kernel
theorem dX0_timesZ_29 : decode cX0_timesZ 29 = .ok (.getfield 29, 3) := by decide +kernel
theorem dX0_timesZ_32 : decode cX0_timesZ 32 = .ok (.imul, 1) := by decide +kernel
theorem dX0_timesZ_33 : decode cX0_timesZ 33 = .ok (.aload_n 0, 1) := by decide +kernel
theorem dX0_timesZ_34 : decode cX0_timesZ 34 = .ok (.iload_n 3, 1) := by decide +kernel
theorem dX0_timesZ_35 : decode cX0_timesZ 35 = .ok (.iload_n 1, 1) := by decide +kernel
theorem dX0_timesZ_36 : decode cX0_timesZ 36 = .ok (.iload_n 2, 1) := by decide +kernel
theorem dX0_timesZ_37 : decode cX0_timesZ 37 = .ok (.idiv, 1) := by decide +kernel
theorem dX0_timesZ_38 : decode cX0_timesZ 38 = .ok (.invokevirtual 66, 3) := by decide +kernel
theorem dX0_timesZ_41 : decode cX0_timesZ 41 = .ok (.invokevirtual 69, 3) := by decide +kernel
theorem dX0_timesZ_44 : decode cX0_timesZ 44 = .ok (.ireturn, 1) := by decide +kernel
theorem dX0_repeated_0 : decode cX0_repeated 0 = .ok (.iconst 0, 1) := by decide +kernel
theorem dX0_repeated_1 : decode cX0_repeated 1 = .ok (.istore_n 3, 1) := by decide +kernel
theorem dX0_repeated_2 : decode cX0_repeated 2 = .ok (.iconst 0, 1) := by decide +kernel
theorem dX0_repeated_3 : decode cX0_repeated 3 = .ok (.istore 4, 2) := by decide +kernel
theorem dX0_repeated_5 : decode cX0_repeated 5 = .ok (.iload 4, 2) := by decide +kernel
theorem dX0_repeated_7 : decode cX0_repeated 7 = .ok (.iload_n 2, 1) := by decide +kernel
theorem dX0_repeated_8 : decode cX0_repeated 8 = .ok (.if_icmp .ge 23, 3) := by decide +kernel
theorem dX0_repeated_11 : decode cX0_repeated 11 = .ok (.aload_n 0, 1) := by decide +kernel
theorem dX0_repeated_12 : decode cX0_repeated 12 = .ok (.getfield 32, 3) := by decide +kernel
theorem dX0_repeated_15 : decode cX0_repeated 15 = .ok (.iload_n 3, 1) := by decide +kernel
theorem dX0_repeated_16 : decode cX0_repeated 16 = .ok (.aload_n 0, 1) := by decide +kernel
theorem dX0_repeated_17 : decode cX0_repeated 17 = .ok (.getfield 21, 3) := by decide +kernel
theorem dX0_repeated_20 : decode cX0_repeated 20 = .ok (.imul, 1) := by decide +kernel
theorem dX0_repeated_21 : decode cX0_repeated 21 = .ok (.iload_n 1, 1) := by decide +kernel
theorem dX0_repeated_22 : decode cX0_repeated 22 = .ok (.iadd, 1) := by decide +kernel
theorem dX0_repeated_23 : decode cX0_repeated 23 = .ok (.iaload, 1) := by decide +kernel
theorem dX0_repeated_24 : decode cX0_repeated 24 = .ok (.istore_n 3, 1) := by decide +kernel
theorem dX0_repeated_25 : decode cX0_repeated 25 = .ok (.iinc 4 1, 3) := by decide +kernel
theorem dX0_repeated_28 : decode cX0_repeated 28 = .ok (.goto (-23), 3) := by decide +kernel
theorem dX0_repeated_31 : decode cX0_repeated 31 = .ok (.iload_n 3, 1) := by decide +kernel
theorem dX0_repeated_32 : decode cX0_repeated 32 = .ok (.ireturn, 1) := by decide +kernel
theorem dX0_fillPowers_0 : decode cX0_fillPowers 0 = .ok (.iconst 0, 1) := by decide +kernel
theorem dX0_fillPowers_1 : decode cX0_fillPowers 1 = .ok (.istore_n 1, 1) := by decide +kernel
theorem dX0_fillPowers_2 : decode cX0_fillPowers 2 = .ok (.iload_n 1, 1) := by decide +kernel
theorem dX0_fillPowers_3 : decode cX0_fillPowers 3 = .ok (.aload_n 0, 1) := by decide +kernel
theorem dX0_fillPowers_4 : decode cX0_fillPowers 4 = .ok (.getfield 21, 3) := by decide +kernel
theorem dX0_fillPowers_7 : decode cX0_fillPowers 7 = .ok (.if_icmp .ge 48, 3) := by decide +kernel
theorem dX0_fillPowers_10 : decode cX0_fillPowers 10 = .ok (.iconst 1, 1) := by decide +kernel
theorem dX0_fillPowers_11 : decode cX0_fillPowers 11 = .ok (.istore_n 2, 1) := by decide +kernel
theorem dX0_fillPowers_12 : decode cX0_fillPowers 12 = .ok (.iconst 0, 1) := by decide +kernel
theorem dX0_fillPowers_13 : decode cX0_fillPowers 13 = .ok (.istore_n 3, 1) := by decide +kernel
theorem dX0_fillPowers_14 : decode cX0_fillPowers 14 = .ok (.iload_n 3, 1) := by decide +kernel
theorem dX0_fillPowers_15 : decode cX0_fillPowers 15 = .ok (.aload_n 0, 1) := by decide +kernel
theorem dX0_fillPowers_16 : decode cX0_fillPowers 16 = .ok (.getfield 21, 3) := by decide +kernel
theorem dX0_fillPowers_19 : decode cX0_fillPowers 19 = .ok (.if_icmp .ge 30, 3) := by decide +kernel
theorem dX0_fillPowers_22 : decode cX0_fillPowers 22 = .ok (.aload_n 0, 1) := by decide +kernel
theorem dX0_fillPowers_23 : decode cX0_fillPowers 23 = .ok (.getfield 38, 3) := by decide +kernel
theorem dX0_fillPowers_26 : decode cX0_fillPowers 26 = .ok (.iload_n 1, 1) := by decide +kernel
theorem dX0_fillPowers_27 : decode cX0_fillPowers 27 = .ok (.aload_n 0, 1) := by decide +kernel
theorem dX0_fillPowers_28 : decode cX0_fillPowers 28 = .ok (.getfield 21, 3) := by decide +kernel
theorem dX0_fillPowers_31 : decode cX0_fillPowers 31 = .ok (.imul, 1) := by decide +kernel
theorem dX0_fillPowers_32 : decode cX0_fillPowers 32 = .ok (.iload_n 3, 1) := by decide +kernel
theorem dX0_fillPowers_33 : decode cX0_fillPowers 33 = .ok (.iadd, 1) := by decide +kernel
theorem dX0_fillPowers_34 : decode cX0_fillPowers 34 = .ok (.iload_n 2, 1) := by decide +kernel
theorem dX0_fillPowers_35 : decode cX0_fillPowers 35 = .ok (.iastore, 1) := by decide +kernel
theorem dX0_fillPowers_36 : decode cX0_fillPowers 36 = .ok (.aload_n 0, 1) := by decide +kernel
theorem dX0_fillPowers_37 : decode cX0_fillPowers 37 = .ok (.iload_n 2, 1) := by decide +kernel
theorem dX0_fillPowers_38 : decode cX0_fillPowers 38 = .ok (.iload_n 1, 1) := by decide +kernel
theorem dX0_fillPowers_39 : decode cX0_fillPowers 39 = .ok (.invokevirtual 72, 3) := by decide +kernel
theorem dX0_fillPowers_42 : decode cX0_fillPowers 42 = .ok (.istore_n 2, 1) := by decide +kernel
theorem dX0_fillPowers_43 : decode cX0_fillPowers 43 = .ok (.iinc 3 1, 3) := by decide +kernel
theorem dX0_fillPowers_46 : decode cX0_fillPowers 46 = .ok (.goto (-32), 3) := by decide +kernel
theorem dX0_fillPowers_49 : decode cX0_fillPowers 49 = .ok (.iinc 1 1, 3) := by decide +kernel
theorem dX0_fillPowers_52 : decode cX0_fillPowers 52 = .ok (.goto (-50), 3) := by decide +kernel
theorem dX0_fillPowers_55 : decode cX0_fillPowers 55 = .ok (.return_, 1) := by decide +kernel
theorem dX0_polynomials_0 : decode cX0_polynomials 0 = .ok (.iconst 1, 1) := by decide +kernel
theorem dX0_polynomials_1 : decode cX0_polynomials 1 = .ok (.istore_n 2, 1) := by decide +kernel
theorem dX0_polynomials_2 : decode cX0_polynomials 2 = .ok (.iconst 1, 1) := by decide +kernel
theorem dX0_polynomials_3 : decode cX0_polynomials 3 = .ok (.istore_n 3, 1) := by decide +kernel
theorem dX0_polynomials_4 : decode cX0_polynomials 4 = .ok (.iload_n 3, 1) := by decide +kernel
theorem dX0_polynomials_5 : decode cX0_polynomials 5 = .ok (.iload_n 1, 1) := by decide +kernel
theorem dX0_polynomials_6 : decode cX0_polynomials 6 = .ok (.if_icmp .ge 16, 3) := by decide +kernel
theorem dX0_polynomials_9 : decode cX0_polynomials 9 = .ok (.iload_n 2, 1) := by decide +kernel
theorem dX0_polynomials_10 : decode cX0_polynomials 10 = .ok (.aload_n 0, 1) := by decide +kernel
theorem dX0_polynomials_11 : decode cX0_polynomials 11 = .ok (.getfield 21, 3) := by decide +kernel
theorem dX0_polynomials_14 : decode cX0_polynomials 14 = .ok (.imul, 1) := by decide +kernel
theorem dX0_polynomials_15 : decode cX0_polynomials 15 = .ok (.istore_n 2, 1) := by decide +kernel
theorem dX0_polynomials_16 : decode cX0_polynomials 16 = .ok (.iinc 3 1, 3) := by decide +kernel
theorem dX0_polynomials_19 : decode cX0_polynomials 19 = .ok (.goto (-15), 3) := by decide +kernel
theorem dX0_polynomials_22 : decode cX0_polynomials 22 = .ok (.iload_n 2, 1) := by decide +kernel
theorem dX0_polynomials_23 : decode cX0_polynomials 23 = .ok (.ireturn, 1) := by decide +kernel
theorem dX0_listing_0 : decode cX0_listing 0 = .ok (.aload_n 0, 1) := by decide +kernel
theorem dX0_listing_1 : decode cX0_listing 1 = .ok (.getfield 17, 3) := by decide +kernel
theorem dX0_listing_4 : decode cX0_listing 4 = .ok (.iload_n 1, 1) := by decide +kernel
theorem dX0_listing_5 : decode cX0_listing 5 = .ok (.aaload, 1) := by decide +kernel
theorem dX0_listing_6 : decode cX0_listing 6 = .ok (.ifnonnull 14, 3) := by decide +kernel
theorem dX0_listing_9 : decode cX0_listing 9 = .ok (.aload_n 0, 1) := by decide +kernel
theorem dX0_listing_10 : decode cX0_listing 10 = .ok (.getfield 17, 3) := by decide +kernel
theorem dX0_listing_13 : decode cX0_listing 13 = .ok (.iload_n 1, 1) := by decide +kernel
theorem dX0_listing_14 : decode cX0_listing 14 = .ok (.aload_n 0, 1) := by decide +kernel
theorem dX0_listing_15 : decode cX0_listing 15 = .ok (.iload_n 1, 1) := by decide +kernel
theorem dX0_listing_16 : decode cX0_listing 16 = .ok (.invokevirtual 75, 3) := by decide +kernel
theorem dX0_listing_19 : decode cX0_listing 19 = .ok (.aastore, 1) := by decide +kernel
theorem dX0_listing_20 : decode cX0_listing 20 = .ok (.aload_n 0, 1) := by decide +kernel
theorem dX0_listing_21 : decode cX0_listing 21 = .ok (.getfield 17, 3) := by decide +kernel
theorem dX0_listing_24 : decode cX0_listing 24 = .ok (.iload_n 1, 1) := by decide +kernel
theorem dX0_listing_25 : decode cX0_listing 25 = .ok (.aaload, 1) := by decide +kernel
theorem dX0_listing_26 : decode cX0_listing 26 = .ok (.areturn, 1) := by decide +kernel
theorem dX0_listed_0 : decode cX0_listed 0 = .ok (.new 15, 3) := by decide +kernel
theorem dX0_listed_3 : decode cX0_listed 3 = .ok (.dup, 1) := by decide +kernel
theorem dX0_listed_4 : decode cX0_listed 4 = .ok (.invokespecial 79, 3) := by decide +kernel
theorem dX0_listed_7 : decode cX0_listed 7 = .ok (.astore_n 2, 1) := by decide +kernel
theorem dX0_listed_8 : decode cX0_listed 8 = .ok (.aload_n 0, 1) := by decide +kernel
theorem dX0_listed_9 : decode cX0_listed 9 = .ok (.iload_n 1, 1) := by decide +kernel
theorem dX0_listed_10 : decode cX0_listed 10 = .ok (.invokevirtual 80, 3) := by decide +kernel
theorem dX0_listed_13 : decode cX0_listed 13 = .ok (.istore_n 3, 1) := by decide +kernel
theorem dX0_listed_14 : decode cX0_listed 14 = .ok (.iconst 0, 1) := by decide +kernel
theorem dX0_listed_15 : decode cX0_listed 15 = .ok (.istore 4, 2) := by decide +kernel
theorem dX0_listed_17 : decode cX0_listed 17 = .ok (.iload 4, 2) := by decide +kernel
theorem dX0_listed_19 : decode cX0_listed 19 = .ok (.iload_n 3, 1) := by decide +kernel
theorem dX0_listed_20 : decode cX0_listed 20 = .ok (.if_icmp .ge 30, 3) := by decide +kernel
theorem dX0_listed_23 : decode cX0_listed 23 = .ok (.aload_n 0, 1) := by decide +kernel
theorem dX0_listed_24 : decode cX0_listed 24 = .ok (.iload_n 1, 1) := by decide +kernel
theorem dX0_listed_25 : decode cX0_listed 25 = .ok (.iload 4, 2) := by decide +kernel
theorem dX0_listed_27 : decode cX0_listed 27 = .ok (.invokevirtual 83, 3) := by decide +kernel
theorem dX0_listed_30 : decode cX0_listed 30 = .ok (.aload_n 0, 1) := by decide +kernel
theorem dX0_listed_31 : decode cX0_listed 31 = .ok (.iload_n 1, 1) := by decide +kernel
theorem dX0_listed_32 : decode cX0_listed 32 = .ok (.invokevirtual 87, 3) := by decide +kernel
theorem dX0_listed_35 : decode cX0_listed 35 = .ok (.ifCond .eq 9, 3) := by decide +kernel
theorem dX0_listed_38 : decode cX0_listed 38 = .ok (.aload_n 2, 1) := by decide +kernel
theorem dX0_listed_39 : decode cX0_listed 39 = .ok (.iload 4, 2) := by decide +kernel
theorem dX0_listed_41 : decode cX0_listed 41 = .ok (.invokevirtual 91, 3) := by decide +kernel
theorem dX0_listed_44 : decode cX0_listed 44 = .ok (.iinc 4 1, 3) := by decide +kernel
theorem dX0_listed_47 : decode cX0_listed 47 = .ok (.goto (-30), 3) := by decide +kernel
theorem dX0_listed_50 : decode cX0_listed 50 = .ok (.aload_n 2, 1) := by decide +kernel
theorem dX0_listed_51 : decode cX0_listed 51 = .ok (.areturn, 1) := by decide +kernel
theorem dX0_writePolynomial_0 : decode cX0_writePolynomial 0 = .ok (.iload_n 2, 1) := by decide +kernel
theorem dX0_writePolynomial_1 : decode cX0_writePolynomial 1 = .ok (.istore_n 3, 1) := by decide +kernel
theorem dX0_writePolynomial_2 : decode cX0_writePolynomial 2 = .ok (.iconst 1, 1) := by decide +kernel
theorem dX0_writePolynomial_3 : decode cX0_writePolynomial 3 = .ok (.istore 4, 2) := by decide +kernel
theorem dX0_writePolynomial_5 : decode cX0_writePolynomial 5 = .ok (.iload 4, 2) := by decide +kernel
theorem dX0_writePolynomial_7 : decode cX0_writePolynomial 7 = .ok (.iload_n 1, 1) := by decide +kernel
theorem dX0_writePolynomial_8 : decode cX0_writePolynomial 8 = .ok (.if_icmp .ge 29, 3) := by decide +kernel
theorem dX0_writePolynomial_11 : decode cX0_writePolynomial 11 = .ok (.aload_n 0, 1) := by decide +kernel
theorem dX0_writePolynomial_12 : decode cX0_writePolynomial 12 = .ok (.getfield 9, 3) := by decide +kernel
theorem dX0_writePolynomial_15 : decode cX0_writePolynomial 15 = .ok (.iload 4, 2) := by decide +kernel
theorem dX0_writePolynomial_17 : decode cX0_writePolynomial 17 = .ok (.iload_n 3, 1) := by decide +kernel
theorem dX0_writePolynomial_18 : decode cX0_writePolynomial 18 = .ok (.aload_n 0, 1) := by decide +kernel
theorem dX0_writePolynomial_19 : decode cX0_writePolynomial 19 = .ok (.getfield 21, 3) := by decide +kernel
theorem dX0_writePolynomial_22 : decode cX0_writePolynomial 22 = .ok (.irem, 1) := by decide +kernel
theorem dX0_writePolynomial_23 : decode cX0_writePolynomial 23 = .ok (.iastore, 1) := by decide +kernel
theorem dX0_writePolynomial_24 : decode cX0_writePolynomial 24 = .ok (.iload_n 3, 1) := by decide +kernel
theorem dX0_writePolynomial_25 : decode cX0_writePolynomial 25 = .ok (.aload_n 0, 1) := by decide +kernel
theorem dX0_writePolynomial_26 : decode cX0_writePolynomial 26 = .ok (.getfield 21, 3) := by decide +kernel
theorem dX0_writePolynomial_29 : decode cX0_writePolynomial 29 = .ok (.idiv, 1) := by decide +kernel
theorem dX0_writePolynomial_30 : decode cX0_writePolynomial 30 = .ok (.istore_n 3, 1) := by decide +kernel
theorem dX0_writePolynomial_31 : decode cX0_writePolynomial 31 = .ok (.iinc 4 1, 3) := by decide +kernel
theorem dX0_writePolynomial_34 : decode cX0_writePolynomial 34 = .ok (.goto (-29), 3) := by decide +kernel
theorem dX0_writePolynomial_37 : decode cX0_writePolynomial 37 = .ok (.aload_n 0, 1) := by decide +kernel
theorem dX0_writePolynomial_38 : decode cX0_writePolynomial 38 = .ok (.getfield 9, 3) := by decide +kernel
theorem dX0_writePolynomial_41 : decode cX0_writePolynomial 41 = .ok (.iload_n 1, 1) := by decide +kernel
theorem dX0_writePolynomial_42 : decode cX0_writePolynomial 42 = .ok (.iconst 1, 1) := by decide +kernel
theorem dX0_writePolynomial_43 : decode cX0_writePolynomial 43 = .ok (.iastore, 1) := by decide +kernel
theorem dX0_writePolynomial_44 : decode cX0_writePolynomial 44 = .ok (.return_, 1) := by decide +kernel
theorem dX0_polynomialAt_0 : decode cX0_polynomialAt 0 = .ok (.iconst 0, 1) := by decide +kernel
theorem dX0_polynomialAt_1 : decode cX0_polynomialAt 1 = .ok (.istore_n 3, 1) := by decide +kernel
theorem dX0_polynomialAt_2 : decode cX0_polynomialAt 2 = .ok (.iload_n 1, 1) := by decide +kernel
theorem dX0_polynomialAt_3 : decode cX0_polynomialAt 3 = .ok (.istore 4, 2) := by decide +kernel
theorem dX0_polynomialAt_5 : decode cX0_polynomialAt 5 = .ok (.iload 4, 2) := by decide +kernel
theorem dX0_polynomialAt_7 : decode cX0_polynomialAt 7 = .ok (.ifCond .le 27, 3) := by decide +kernel
theorem dX0_polynomialAt_10 : decode cX0_polynomialAt 10 = .ok (.aload_n 0, 1) := by decide +kernel
theorem dX0_polynomialAt_11 : decode cX0_polynomialAt 11 = .ok (.aload_n 0, 1) := by decide +kernel
theorem dX0_polynomialAt_12 : decode cX0_polynomialAt 12 = .ok (.iload_n 3, 1) := by decide +kernel
theorem dX0_polynomialAt_13 : decode cX0_polynomialAt 13 = .ok (.aload_n 0, 1) := by decide +kernel
theorem dX0_polynomialAt_14 : decode cX0_polynomialAt 14 = .ok (.getfield 9, 3) := by decide +kernel
theorem dX0_polynomialAt_17 : decode cX0_polynomialAt 17 = .ok (.iload 4, 2) := by decide +kernel
theorem dX0_polynomialAt_19 : decode cX0_polynomialAt 19 = .ok (.iaload, 1) := by decide +kernel
theorem dX0_polynomialAt_20 : decode cX0_polynomialAt 20 = .ok (.invokevirtual 69, 3) := by decide +kernel
theorem dX0_polynomialAt_23 : decode cX0_polynomialAt 23 = .ok (.iload_n 2, 1) := by decide +kernel
theorem dX0_polynomialAt_24 : decode cX0_polynomialAt 24 = .ok (.invokevirtual 72, 3) := by decide +kernel
theorem dX0_polynomialAt_27 : decode cX0_polynomialAt 27 = .ok (.istore_n 3, 1) := by decide +kernel
theorem dX0_polynomialAt_28 : decode cX0_polynomialAt 28 = .ok (.iinc 4 (-1), 3) := by decide +kernel
theorem dX0_polynomialAt_31 : decode cX0_polynomialAt 31 = .ok (.goto (-26), 3) := by decide +kernel
theorem dX0_polynomialAt_34 : decode cX0_polynomialAt 34 = .ok (.iload_n 3, 1) := by decide +kernel
theorem dX0_polynomialAt_35 : decode cX0_polynomialAt 35 = .ok (.ireturn, 1) := by decide +kernel
theorem dX0_polynomialShuffles_0 : decode cX0_polynomialShuffles 0 = .ok (.iconst 0, 1) := by decide +kernel
theorem dX0_polynomialShuffles_1 : decode cX0_polynomialShuffles 1 = .ok (.istore_n 2, 1) := by decide +kernel
theorem dX0_polynomialShuffles_2 : decode cX0_polynomialShuffles 2 = .ok (.iconst 0, 1) := by decide +kernel
theorem dX0_polynomialShuffles_3 : decode cX0_polynomialShuffles 3 = .ok (.istore_n 3, 1) := by decide +kernel
theorem dX0_polynomialShuffles_4 : decode cX0_polynomialShuffles 4 = .ok (.iload_n 3, 1) := by decide +kernel
theorem dX0_polynomialShuffles_5 : decode cX0_polynomialShuffles 5 = .ok (.aload_n 0, 1) := by decide +kernel
theorem dX0_polynomialShuffles_6 : decode cX0_polynomialShuffles 6 = .ok (.getfield 21, 3) := by decide +kernel
theorem dX0_polynomialShuffles_9 : decode cX0_polynomialShuffles 9 = .ok (.if_icmp .ge 33, 3) := by decide +kernel
theorem dX0_polynomialShuffles_12 : decode cX0_polynomialShuffles 12 = .ok (.iconst 1, 1) := by decide +kernel
theorem dX0_polynomialShuffles_13 : decode cX0_polynomialShuffles 13 = .ok (.aload_n 0, 1) := by decide +kernel
theorem dX0_polynomialShuffles_14 : decode cX0_polynomialShuffles 14 = .ok (.iload_n 1, 1) := by decide +kernel
theorem dX0_polynomialShuffles_15 : decode cX0_polynomialShuffles 15 = .ok (.iload_n 3, 1) := by decide +kernel
theorem dX0_polynomialShuffles_16 : decode cX0_polynomialShuffles 16 = .ok (.invokevirtual 95, 3) := by decide +kernel
theorem dX0_polynomialShuffles_19 : decode cX0_polynomialShuffles 19 = .ok (.ishl, 1) := by decide +kernel
theorem dX0_polynomialShuffles_20 : decode cX0_polynomialShuffles 20 = .ok (.istore 4, 2) := by decide +kernel
theorem dX0_polynomialShuffles_22 : decode cX0_polynomialShuffles 22 = .ok (.iload_n 2, 1) := by decide +kernel
theorem dX0_polynomialShuffles_23 : decode cX0_polynomialShuffles 23 = .ok (.iload 4, 2) := by decide +kernel
theorem dX0_polynomialShuffles_25 : decode cX0_polynomialShuffles 25 = .ok (.iand, 1) := by decide +kernel
theorem dX0_polynomialShuffles_26 : decode cX0_polynomialShuffles 26 = .ok (.ifCond .eq 5, 3) := by decide +kernel
theorem dX0_polynomialShuffles_29 : decode cX0_polynomialShuffles 29 = .ok (.iconst 0, 1) := by decide +kernel
theorem dX0_polynomialShuffles_30 : decode cX0_polynomialShuffles 30 = .ok (.ireturn, 1) := by decide +kernel
theorem dX0_polynomialShuffles_31 : decode cX0_polynomialShuffles 31 = .ok (.iload_n 2, 1) := by decide +kernel
theorem dX0_polynomialShuffles_32 : decode cX0_polynomialShuffles 32 = .ok (.iload 4, 2) := by decide +kernel
theorem dX0_polynomialShuffles_34 : decode cX0_polynomialShuffles 34 = .ok (.ior, 1) := by decide +kernel
theorem dX0_polynomialShuffles_35 : decode cX0_polynomialShuffles 35 = .ok (.istore_n 2, 1) := by decide +kernel
theorem dX0_polynomialShuffles_36 : decode cX0_polynomialShuffles 36 = .ok (.iinc 3 1, 3) := by decide +kernel
theorem dX0_polynomialShuffles_39 : decode cX0_polynomialShuffles 39 = .ok (.goto (-35), 3) := by decide +kernel
theorem dX0_polynomialShuffles_42 : decode cX0_polynomialShuffles 42 = .ok (.iconst 1, 1) := by decide +kernel
theorem dX0_polynomialShuffles_43 : decode cX0_polynomialShuffles 43 = .ok (.ireturn, 1) := by decide +kernel
theorem dX1_init_0 : decode cX1_init 0 = .ok (.aload_n 0, 1) := by decide +kernel
theorem dX1_init_1 : decode cX1_init 1 = .ok (.invokespecial 1, 3) := by decide +kernel
theorem dX1_init_4 : decode cX1_init 4 = .ok (.aload_n 0, 1) := by decide +kernel
theorem dX1_init_5 : decode cX1_init 5 = .ok (.bipush 8, 2) := by decide +kernel
theorem dX1_init_7 : decode cX1_init 7 = .ok (.newarray .int, 2) := by decide +kernel
theorem dX1_init_9 : decode cX1_init 9 = .ok (.putfield 9, 3) := by decide +kernel
theorem dX1_init_12 : decode cX1_init 12 = .ok (.return_, 1) := by decide +kernel
theorem dX1_append_0 : decode cX1_append 0 = .ok (.aload_n 0, 1) := by decide +kernel
theorem dX1_append_1 : decode cX1_append 1 = .ok (.getfield 13, 3) := by decide +kernel
theorem dX1_append_4 : decode cX1_append 4 = .ok (.aload_n 0, 1) := by decide +kernel
theorem dX1_append_5 : decode cX1_append 5 = .ok (.getfield 9, 3) := by decide +kernel
theorem dX1_append_8 : decode cX1_append 8 = .ok (.arraylength, 1) := by decide +kernel
theorem dX1_append_9 : decode cX1_append 9 = .ok (.if_icmp .ne 20, 3) := by decide +kernel
theorem dX1_append_12 : decode cX1_append 12 = .ok (.aload_n 0, 1) := by decide +kernel
theorem dX1_append_13 : decode cX1_append 13 = .ok (.aload_n 0, 1) := by decide +kernel
theorem dX1_append_14 : decode cX1_append 14 = .ok (.getfield 9, 3) := by decide +kernel
theorem dX1_append_17 : decode cX1_append 17 = .ok (.iconst 2, 1) := by decide +kernel
theorem dX1_append_18 : decode cX1_append 18 = .ok (.aload_n 0, 1) := by decide +kernel
theorem dX1_append_19 : decode cX1_append 19 = .ok (.getfield 13, 3) := by decide +kernel
theorem dX1_append_22 : decode cX1_append 22 = .ok (.imul, 1) := by decide +kernel
theorem dX1_append_23 : decode cX1_append 23 = .ok (.invokestatic 17, 3) := by decide +kernel
theorem dX1_append_26 : decode cX1_append 26 = .ok (.putfield 9, 3) := by decide +kernel
theorem dX1_append_29 : decode cX1_append 29 = .ok (.aload_n 0, 1) := by decide +kernel
theorem dX1_append_30 : decode cX1_append 30 = .ok (.getfield 9, 3) := by decide +kernel
theorem dX1_append_33 : decode cX1_append 33 = .ok (.aload_n 0, 1) := by decide +kernel
theorem dX1_append_34 : decode cX1_append 34 = .ok (.getfield 13, 3) := by decide +kernel
theorem dX1_append_37 : decode cX1_append 37 = .ok (.iload_n 1, 1) := by decide +kernel
theorem dX1_append_38 : decode cX1_append 38 = .ok (.iastore, 1) := by decide +kernel
theorem dX1_append_39 : decode cX1_append 39 = .ok (.aload_n 0, 1) := by decide +kernel
theorem dX1_append_40 : decode cX1_append 40 = .ok (.dup, 1) := by decide +kernel
theorem dX1_append_41 : decode cX1_append 41 = .ok (.getfield 13, 3) := by decide +kernel
theorem dX1_append_44 : decode cX1_append 44 = .ok (.iconst 1, 1) := by decide +kernel
theorem dX1_append_45 : decode cX1_append 45 = .ok (.iadd, 1) := by decide +kernel
theorem dX1_append_46 : decode cX1_append 46 = .ok (.putfield 13, 3) := by decide +kernel
theorem dX1_append_49 : decode cX1_append 49 = .ok (.return_, 1) := by decide +kernel
theorem dX2_init_0 : decode cX2_init 0 = .ok (.aload_n 0, 1) := by decide +kernel
theorem dX2_init_1 : decode cX2_init 1 = .ok (.invokespecial 3, 3) := by decide +kernel
theorem dX2_init_4 : decode cX2_init 4 = .ok (.return_, 1) := by decide +kernel
theorem dX2_write_0 : decode cX2_write 0 = .ok (.aload_n 0, 1) := by decide +kernel
theorem dX2_write_1 : decode cX2_write 1 = .ok (.iload_n 1, 1) := by decide +kernel
theorem dX2_write_2 : decode cX2_write 2 = .ok (.putfield 9, 3) := by decide +kernel
theorem dX2_write_5 : decode cX2_write 5 = .ok (.aload_n 0, 1) := by decide +kernel
theorem dX2_write_6 : decode cX2_write 6 = .ok (.iload_n 2, 1) := by decide +kernel
theorem dX2_write_7 : decode cX2_write 7 = .ok (.putfield 15, 3) := by decide +kernel
theorem dX2_write_10 : decode cX2_write 10 = .ok (.aload_n 0, 1) := by decide +kernel
theorem dX2_write_11 : decode cX2_write 11 = .ok (.iload_n 3, 1) := by decide +kernel
theorem dX2_write_12 : decode cX2_write 12 = .ok (.putfield 18, 3) := by decide +kernel
theorem dX2_write_15 : decode cX2_write 15 = .ok (.aload_n 0, 1) := by decide +kernel
theorem dX2_write_16 : decode cX2_write 16 = .ok (.iload 4, 2) := by decide +kernel
theorem dX2_write_18 : decode cX2_write 18 = .ok (.putfield 21, 3) := by decide +kernel
theorem dX2_write_21 : decode cX2_write 21 = .ok (.aload_n 0, 1) := by decide +kernel
theorem dX2_write_22 : decode cX2_write 22 = .ok (.iconst 0, 1) := by decide +kernel
theorem dX2_write_23 : decode cX2_write 23 = .ok (.putfield 24, 3) := by decide +kernel
theorem dX2_write_26 : decode cX2_write 26 = .ok (.return_, 1) := by decide +kernel
theorem dX2_takes_0 : decode cX2_takes 0 = .ok (.iload_n 2, 1) := by decide +kernel
theorem dX2_takes_1 : decode cX2_takes 1 = .ok (.lookupswitch 41 #[(0, 27), (1, 34)], 27) := by decide +kernel
theorem dX2_takes_28 : decode cX2_takes 28 = .ok (.aload_n 0, 1) := by decide +kernel
theorem dX2_takes_29 : decode cX2_takes 29 = .ok (.aload_n 1, 1) := by decide +kernel
theorem dX2_takes_30 : decode cX2_takes 30 = .ok (.iload_n 3, 1) := by decide +kernel
theorem dX2_takes_31 : decode cX2_takes 31 = .ok (.invokevirtual 27, 3) := by decide +kernel
theorem dX2_takes_34 : decode cX2_takes 34 = .ok (.ireturn, 1) := by decide +kernel
theorem dX2_takes_35 : decode cX2_takes 35 = .ok (.aload_n 0, 1) := by decide +kernel
theorem dX2_takes_36 : decode cX2_takes 36 = .ok (.aload_n 1, 1) := by decide +kernel
theorem dX2_takes_37 : decode cX2_takes 37 = .ok (.iload_n 3, 1) := by decide +kernel
theorem dX2_takes_38 : decode cX2_takes 38 = .ok (.invokevirtual 31, 3) := by decide +kernel
theorem dX2_takes_41 : decode cX2_takes 41 = .ok (.ireturn, 1) := by decide +kernel
theorem dX2_takes_42 : decode cX2_takes 42 = .ok (.aload_n 0, 1) := by decide +kernel
theorem dX2_takes_43 : decode cX2_takes 43 = .ok (.aload_n 1, 1) := by decide +kernel
theorem dX2_takes_44 : decode cX2_takes 44 = .ok (.iload_n 3, 1) := by decide +kernel
theorem dX2_takes_45 : decode cX2_takes 45 = .ok (.invokevirtual 34, 3) := by decide +kernel
theorem dX2_takes_48 : decode cX2_takes 48 = .ok (.ireturn, 1) := by decide +kernel
theorem dX2_power_0 : decode cX2_power 0 = .ok (.aload_n 0, 1) := by decide +kernel
theorem dX2_power_1 : decode cX2_power 1 = .ok (.dup, 1) := by decide +kernel
theorem dX2_power_2 : decode cX2_power 2 = .ok (.getfield 24, 3) := by decide +kernel
theorem dX2_power_5 : decode cX2_power 5 = .ok (.iconst 1, 1) := by decide +kernel
theorem dX2_power_6 : decode cX2_power 6 = .ok (.iadd, 1) := by decide +kernel
theorem dX2_power_7 : decode cX2_power 7 = .ok (.putfield 24, 3) := by decide +kernel
theorem dX2_power_10 : decode cX2_power 10 = .ok (.aload_n 1, 1) := by decide +kernel
theorem dX2_power_11 : decode cX2_power 11 = .ok (.iload_n 2, 1) := by decide +kernel
theorem dX2_power_12 : decode cX2_power 12 = .ok (.aload_n 0, 1) := by decide +kernel
theorem dX2_power_13 : decode cX2_power 13 = .ok (.getfield 9, 3) := by decide +kernel
theorem dX2_power_16 : decode cX2_power 16 = .ok (.invokevirtual 37, 3) := by decide +kernel
theorem dX2_power_19 : decode cX2_power 19 = .ok (.ireturn, 1) := by decide +kernel
theorem dX2_dressed_0 : decode cX2_dressed 0 = .ok (.aload_n 0, 1) := by decide +kernel
theorem dX2_dressed_1 : decode cX2_dressed 1 = .ok (.dup, 1) := by decide +kernel
theorem dX2_dressed_2 : decode cX2_dressed 2 = .ok (.getfield 24, 3) := by decide +kernel
theorem dX2_dressed_5 : decode cX2_dressed 5 = .ok (.bipush 10, 2) := by decide +kernel
theorem dX2_dressed_7 : decode cX2_dressed 7 = .ok (.iadd, 1) := by decide +kernel
theorem dX2_dressed_8 : decode cX2_dressed 8 = .ok (.putfield 24, 3) := by decide +kernel
theorem dX2_dressed_11 : decode cX2_dressed 11 = .ok (.aload_n 1, 1) := by decide +kernel
theorem dX2_dressed_12 : decode cX2_dressed 12 = .ok (.aload_n 1, 1) := by decide +kernel
theorem dX2_dressed_13 : decode cX2_dressed 13 = .ok (.aload_n 0, 1) := by decide +kernel
theorem dX2_dressed_14 : decode cX2_dressed 14 = .ok (.getfield 15, 3) := by decide +kernel
theorem dX2_dressed_17 : decode cX2_dressed 17 = .ok (.aload_n 0, 1) := by decide +kernel
theorem dX2_dressed_18 : decode cX2_dressed 18 = .ok (.aload_n 1, 1) := by decide +kernel
theorem dX2_dressed_19 : decode cX2_dressed 19 = .ok (.aload_n 1, 1) := by decide +kernel
theorem dX2_dressed_20 : decode cX2_dressed 20 = .ok (.iload_n 2, 1) := by decide +kernel
theorem dX2_dressed_21 : decode cX2_dressed 21 = .ok (.aload_n 0, 1) := by decide +kernel
theorem dX2_dressed_22 : decode cX2_dressed 22 = .ok (.getfield 18, 3) := by decide +kernel
theorem dX2_dressed_25 : decode cX2_dressed 25 = .ok (.invokevirtual 43, 3) := by decide +kernel
theorem dX2_dressed_28 : decode cX2_dressed 28 = .ok (.invokevirtual 27, 3) := by decide +kernel
theorem dX2_dressed_31 : decode cX2_dressed 31 = .ok (.invokevirtual 46, 3) := by decide +kernel
theorem dX2_dressed_34 : decode cX2_dressed 34 = .ok (.aload_n 0, 1) := by decide +kernel
theorem dX2_dressed_35 : decode cX2_dressed 35 = .ok (.getfield 21, 3) := by decide +kernel
theorem dX2_dressed_38 : decode cX2_dressed 38 = .ok (.invokevirtual 43, 3) := by decide +kernel
theorem dX2_dressed_41 : decode cX2_dressed 41 = .ok (.ireturn, 1) := by decide +kernel
theorem dX2_twice_0 : decode cX2_twice 0 = .ok (.aload_n 0, 1) := by decide +kernel
theorem dX2_twice_1 : decode cX2_twice 1 = .ok (.dup, 1) := by decide +kernel
theorem dX2_twice_2 : decode cX2_twice 2 = .ok (.getfield 24, 3) := by decide +kernel
theorem dX2_twice_5 : decode cX2_twice 5 = .ok (.bipush 100, 2) := by decide +kernel
theorem dX2_twice_7 : decode cX2_twice 7 = .ok (.iadd, 1) := by decide +kernel
theorem dX2_twice_8 : decode cX2_twice 8 = .ok (.putfield 24, 3) := by decide +kernel
theorem dX2_twice_11 : decode cX2_twice 11 = .ok (.aload_n 0, 1) := by decide +kernel
theorem dX2_twice_12 : decode cX2_twice 12 = .ok (.aload_n 1, 1) := by decide +kernel
theorem dX2_twice_13 : decode cX2_twice 13 = .ok (.aload_n 0, 1) := by decide +kernel
theorem dX2_twice_14 : decode cX2_twice 14 = .ok (.aload_n 1, 1) := by decide +kernel
theorem dX2_twice_15 : decode cX2_twice 15 = .ok (.iload_n 2, 1) := by decide +kernel
theorem dX2_twice_16 : decode cX2_twice 16 = .ok (.invokevirtual 31, 3) := by decide +kernel
theorem dX2_twice_19 : decode cX2_twice 19 = .ok (.invokevirtual 31, 3) := by decide +kernel
theorem dX2_twice_22 : decode cX2_twice 22 = .ok (.ireturn, 1) := by decide +kernel
theorem dX3_init_0 : decode cX3_init 0 = .ok (.aload_n 0, 1) := by decide +kernel
theorem dX3_init_1 : decode cX3_init 1 = .ok (.invokespecial 1, 3) := by decide +kernel
theorem dX3_init_4 : decode cX3_init 4 = .ok (.aload_n 0, 1) := by decide +kernel
theorem dX3_init_5 : decode cX3_init 5 = .ok (.bipush 17, 2) := by decide +kernel
theorem dX3_init_7 : decode cX3_init 7 = .ok (.anewarray 9, 3) := by decide +kernel
theorem dX3_init_10 : decode cX3_init 10 = .ok (.putfield 11, 3) := by decide +kernel
theorem dX3_init_13 : decode cX3_init 13 = .ok (.aload_n 0, 1) := by decide +kernel
theorem dX3_init_14 : decode cX3_init 14 = .ok (.iconst 4, 1) := by decide +kernel
theorem dX3_init_15 : decode cX3_init 15 = .ok (.bipush 16, 2) := by decide +kernel
theorem dX3_init_17 : decode cX3_init 17 = .ok (.multianewarray 15 2, 4) := by decide +kernel
theorem dX3_init_21 : decode cX3_init 21 = .ok (.putfield 17, 3) := by decide +kernel
theorem dX3_init_24 : decode cX3_init 24 = .ok (.aload_n 0, 1) := by decide +kernel
theorem dX3_init_25 : decode cX3_init 25 = .ok (.bipush 16, 2) := by decide +kernel
theorem dX3_init_27 : decode cX3_init 27 = .ok (.newarray .int, 2) := by decide +kernel
theorem dX3_init_29 : decode cX3_init 29 = .ok (.putfield 20, 3) := by decide +kernel
theorem dX3_init_32 : decode cX3_init 32 = .ok (.aload_n 0, 1) := by decide +kernel
theorem dX3_init_33 : decode cX3_init 33 = .ok (.bipush 16, 2) := by decide +kernel
theorem dX3_init_35 : decode cX3_init 35 = .ok (.newarray .int, 2) := by decide +kernel
theorem dX3_init_37 : decode cX3_init 37 = .ok (.putfield 24, 3) := by decide +kernel
theorem dX3_init_40 : decode cX3_init 40 = .ok (.aload_n 0, 1) := by decide +kernel
theorem dX3_init_41 : decode cX3_init 41 = .ok (.new 27, 3) := by decide +kernel
theorem dX3_init_44 : decode cX3_init 44 = .ok (.dup, 1) := by decide +kernel
theorem dX3_init_45 : decode cX3_init 45 = .ok (.invokespecial 29, 3) := by decide +kernel
theorem dX3_init_48 : decode cX3_init 48 = .ok (.putfield 30, 3) := by decide +kernel
theorem dX3_init_51 : decode cX3_init 51 = .ok (.aload_n 0, 1) := by decide +kernel
theorem dX3_init_52 : decode cX3_init 52 = .ok (.iconst 5, 1) := by decide +kernel
theorem dX3_init_53 : decode cX3_init 53 = .ok (.invokevirtual 34, 3) := by decide +kernel
theorem dX3_init_56 : decode cX3_init 56 = .ok (.return_, 1) := by decide +kernel
theorem dX3_field_0 : decode cX3_field 0 = .ok (.iload_n 1, 1) := by decide +kernel
theorem dX3_field_1 : decode cX3_field 1 = .ok (.invokestatic 38, 3) := by decide +kernel
theorem dX3_field_4 : decode cX3_field 4 = .ok (.ifCond .ne 5, 3) := by decide +kernel
theorem dX3_field_7 : decode cX3_field 7 = .ok (.iconst (-1), 1) := by decide +kernel
theorem dX3_field_8 : decode cX3_field 8 = .ok (.ireturn, 1) := by decide +kernel
theorem dX3_field_9 : decode cX3_field 9 = .ok (.aload_n 0, 1) := by decide +kernel
theorem dX3_field_10 : decode cX3_field 10 = .ok (.getfield 42, 3) := by decide +kernel
theorem dX3_field_13 : decode cX3_field 13 = .ok (.istore_n 2, 1) := by decide +kernel
theorem dX3_field_14 : decode cX3_field 14 = .ok (.aload_n 0, 1) := by decide +kernel
theorem dX3_field_15 : decode cX3_field 15 = .ok (.iload_n 1, 1) := by decide +kernel
theorem dX3_field_16 : decode cX3_field 16 = .ok (.invokevirtual 34, 3) := by decide +kernel
theorem dX3_field_19 : decode cX3_field 19 = .ok (.iload_n 2, 1) := by decide +kernel
theorem dX3_field_20 : decode cX3_field 20 = .ok (.ireturn, 1) := by decide +kernel
theorem dX3_plus_0 : decode cX3_plus 0 = .ok (.aload_n 0, 1) := by decide +kernel
theorem dX3_plus_1 : decode cX3_plus 1 = .ok (.iload_n 1, 1) := by decide +kernel
theorem dX3_plus_2 : decode cX3_plus 2 = .ok (.invokevirtual 46, 3) := by decide +kernel
theorem dX3_plus_5 : decode cX3_plus 5 = .ok (.ifCond .eq 11, 3) := by decide +kernel
theorem dX3_plus_8 : decode cX3_plus 8 = .ok (.aload_n 0, 1) := by decide +kernel
theorem dX3_plus_9 : decode cX3_plus 9 = .ok (.iload_n 2, 1) := by decide +kernel
theorem dX3_plus_10 : decode cX3_plus 10 = .ok (.invokevirtual 46, 3) := by decide +kernel
theorem dX3_plus_13 : decode cX3_plus 13 = .ok (.ifCond .ne 5, 3) := by decide +kernel
theorem dX3_plus_16 : decode cX3_plus 16 = .ok (.iconst (-1), 1) := by decide +kernel
theorem dX3_plus_17 : decode cX3_plus 17 = .ok (.ireturn, 1) := by decide +kernel
theorem dX3_plus_18 : decode cX3_plus 18 = .ok (.aload_n 0, 1) := by decide +kernel
theorem dX3_plus_19 : decode cX3_plus 19 = .ok (.getfield 49, 3) := by decide +kernel
theorem dX3_plus_22 : decode cX3_plus 22 = .ok (.iload_n 1, 1) := by decide +kernel
theorem dX3_plus_23 : decode cX3_plus 23 = .ok (.iload_n 2, 1) := by decide +kernel
theorem dX3_plus_24 : decode cX3_plus 24 = .ok (.invokevirtual 53, 3) := by decide +kernel
theorem dX3_plus_27 : decode cX3_plus 27 = .ok (.ireturn, 1) := by decide +kernel
theorem dX3_times_0 : decode cX3_times 0 = .ok (.aload_n 0, 1) := by decide +kernel
theorem dX3_times_1 : decode cX3_times 1 = .ok (.iload_n 1, 1) := by decide +kernel
theorem dX3_times_2 : decode cX3_times 2 = .ok (.invokevirtual 46, 3) := by decide +kernel
theorem dX3_times_5 : decode cX3_times 5 = .ok (.ifCond .eq 11, 3) := by decide +kernel
theorem dX3_times_8 : decode cX3_times 8 = .ok (.aload_n 0, 1) := by decide +kernel
theorem dX3_times_9 : decode cX3_times 9 = .ok (.iload_n 2, 1) := by decide +kernel
theorem dX3_times_10 : decode cX3_times 10 = .ok (.invokevirtual 46, 3) := by decide +kernel
theorem dX3_times_13 : decode cX3_times 13 = .ok (.ifCond .ne 5, 3) := by decide +kernel
theorem dX3_times_16 : decode cX3_times 16 = .ok (.iconst (-1), 1) := by decide +kernel
theorem dX3_times_17 : decode cX3_times 17 = .ok (.ireturn, 1) := by decide +kernel
theorem dX3_times_18 : decode cX3_times 18 = .ok (.aload_n 0, 1) := by decide +kernel
theorem dX3_times_19 : decode cX3_times 19 = .ok (.getfield 49, 3) := by decide +kernel
theorem dX3_times_22 : decode cX3_times 22 = .ok (.iload_n 1, 1) := by decide +kernel
theorem dX3_times_23 : decode cX3_times 23 = .ok (.iload_n 2, 1) := by decide +kernel
theorem dX3_times_24 : decode cX3_times 24 = .ok (.invokevirtual 57, 3) := by decide +kernel
theorem dX3_times_27 : decode cX3_times 27 = .ok (.ireturn, 1) := by decide +kernel
theorem dX3_over_0 : decode cX3_over 0 = .ok (.aload_n 0, 1) := by decide +kernel
theorem dX3_over_1 : decode cX3_over 1 = .ok (.iload_n 1, 1) := by decide +kernel
theorem dX3_over_2 : decode cX3_over 2 = .ok (.invokevirtual 46, 3) := by decide +kernel
theorem dX3_over_5 : decode cX3_over 5 = .ok (.ifCond .ne 5, 3) := by decide +kernel
theorem dX3_over_8 : decode cX3_over 8 = .ok (.iconst (-1), 1) := by decide +kernel
theorem dX3_over_9 : decode cX3_over 9 = .ok (.ireturn, 1) := by decide +kernel
theorem dX3_over_10 : decode cX3_over 10 = .ok (.iload_n 1, 1) := by decide +kernel
theorem dX3_over_11 : decode cX3_over 11 = .ok (.ifCond .ne 6, 3) := by decide +kernel
theorem dX3_over_14 : decode cX3_over 14 = .ok (.bipush (-2), 2) := by decide +kernel
theorem dX3_over_16 : decode cX3_over 16 = .ok (.ireturn, 1) := by decide +kernel
theorem dX3_over_17 : decode cX3_over 17 = .ok (.aload_n 0, 1) := by decide +kernel
theorem dX3_over_18 : decode cX3_over 18 = .ok (.getfield 49, 3) := by decide +kernel
theorem dX3_over_21 : decode cX3_over 21 = .ok (.iload_n 1, 1) := by decide +kernel
theorem dX3_over_22 : decode cX3_over 22 = .ok (.invokevirtual 60, 3) := by decide +kernel
theorem dX3_over_25 : decode cX3_over 25 = .ok (.ireturn, 1) := by decide +kernel
theorem dX3_set_0 : decode cX3_set 0 = .ok (.iload_n 1, 1) := by decide +kernel
theorem dX3_set_1 : decode cX3_set 1 = .ok (.invokestatic 64, 3) := by decide +kernel
theorem dX3_set_4 : decode cX3_set 4 = .ok (.ifCond .eq 19, 3) := by decide +kernel
theorem dX3_set_7 : decode cX3_set 7 = .ok (.aload_n 0, 1) := by decide +kernel
theorem dX3_set_8 : decode cX3_set 8 = .ok (.iload_n 2, 1) := by decide +kernel
theorem dX3_set_9 : decode cX3_set 9 = .ok (.invokevirtual 46, 3) := by decide +kernel
theorem dX3_set_12 : decode cX3_set 12 = .ok (.ifCond .eq 11, 3) := by decide +kernel
theorem dX3_set_15 : decode cX3_set 15 = .ok (.aload_n 0, 1) := by decide +kernel
theorem dX3_set_16 : decode cX3_set 16 = .ok (.iload_n 3, 1) := by decide +kernel
theorem dX3_set_17 : decode cX3_set 17 = .ok (.invokevirtual 46, 3) := by decide +kernel
theorem dX3_set_20 : decode cX3_set 20 = .ok (.ifCond .ne 5, 3) := by decide +kernel
theorem dX3_set_23 : decode cX3_set 23 = .ok (.iconst (-1), 1) := by decide +kernel
theorem dX3_set_24 : decode cX3_set 24 = .ok (.ireturn, 1) := by decide +kernel
theorem dX3_set_25 : decode cX3_set 25 = .ok (.aload_n 0, 1) := by decide +kernel
theorem dX3_set_26 : decode cX3_set 26 = .ok (.getfield 17, 3) := by decide +kernel
theorem dX3_set_29 : decode cX3_set 29 = .ok (.iload_n 1, 1) := by decide +kernel
theorem dX3_set_30 : decode cX3_set 30 = .ok (.aaload, 1) := by decide +kernel
theorem dX3_set_31 : decode cX3_set 31 = .ok (.iload_n 2, 1) := by decide +kernel
theorem dX3_set_32 : decode cX3_set 32 = .ok (.iaload, 1) := by decide +kernel
theorem dX3_set_33 : decode cX3_set 33 = .ok (.istore 4, 2) := by decide +kernel
theorem dX3_set_35 : decode cX3_set 35 = .ok (.aload_n 0, 1) := by decide +kernel
theorem dX3_set_36 : decode cX3_set 36 = .ok (.getfield 17, 3) := by decide +kernel
theorem dX3_set_39 : decode cX3_set 39 = .ok (.iload_n 1, 1) := by decide +kernel
theorem dX3_set_40 : decode cX3_set 40 = .ok (.aaload, 1) := by decide +kernel
theorem dX3_set_41 : decode cX3_set 41 = .ok (.iload_n 2, 1) := by decide +kernel
theorem dX3_set_42 : decode cX3_set 42 = .ok (.iload_n 3, 1) := by decide +kernel
theorem dX3_set_43 : decode cX3_set 43 = .ok (.iastore, 1) := by decide +kernel
theorem dX3_set_44 : decode cX3_set 44 = .ok (.iload 4, 2) := by decide +kernel
theorem dX3_set_46 : decode cX3_set 46 = .ok (.ireturn, 1) := by decide +kernel
theorem dX3_at_0 : decode cX3_at 0 = .ok (.iload_n 1, 1) := by decide +kernel
theorem dX3_at_1 : decode cX3_at 1 = .ok (.invokestatic 64, 3) := by decide +kernel
theorem dX3_at_4 : decode cX3_at 4 = .ok (.ifCond .eq 11, 3) := by decide +kernel
theorem dX3_at_7 : decode cX3_at 7 = .ok (.aload_n 0, 1) := by decide +kernel
theorem dX3_at_8 : decode cX3_at 8 = .ok (.iload_n 2, 1) := by decide +kernel
theorem dX3_at_9 : decode cX3_at 9 = .ok (.invokevirtual 46, 3) := by decide +kernel
theorem dX3_at_12 : decode cX3_at 12 = .ok (.ifCond .ne 5, 3) := by decide +kernel
theorem dX3_at_15 : decode cX3_at 15 = .ok (.iconst (-1), 1) := by decide +kernel
theorem dX3_at_16 : decode cX3_at 16 = .ok (.ireturn, 1) := by decide +kernel
theorem dX3_at_17 : decode cX3_at 17 = .ok (.aload_n 0, 1) := by decide +kernel
theorem dX3_at_18 : decode cX3_at 18 = .ok (.getfield 17, 3) := by decide +kernel
theorem dX3_at_21 : decode cX3_at 21 = .ok (.iload_n 1, 1) := by decide +kernel
theorem dX3_at_22 : decode cX3_at 22 = .ok (.aaload, 1) := by decide +kernel
theorem dX3_at_23 : decode cX3_at 23 = .ok (.iload_n 2, 1) := by decide +kernel
theorem dX3_at_24 : decode cX3_at 24 = .ok (.iaload, 1) := by decide +kernel
theorem dX3_at_25 : decode cX3_at 25 = .ok (.ireturn, 1) := by decide +kernel
theorem dX3_coefficient_0 : decode cX3_coefficient 0 = .ok (.iload_n 1, 1) := by decide +kernel
theorem dX3_coefficient_1 : decode cX3_coefficient 1 = .ok (.invokestatic 64, 3) := by decide +kernel
theorem dX3_coefficient_4 : decode cX3_coefficient 4 = .ok (.ifCond .eq 11, 3) := by decide +kernel
theorem dX3_coefficient_7 : decode cX3_coefficient 7 = .ok (.aload_n 0, 1) := by decide +kernel
theorem dX3_coefficient_8 : decode cX3_coefficient 8 = .ok (.iload_n 2, 1) := by decide +kernel
theorem dX3_coefficient_9 : decode cX3_coefficient 9 = .ok (.invokevirtual 46, 3) := by decide +kernel
theorem dX3_coefficient_12 : decode cX3_coefficient 12 = .ok (.ifCond .ne 5, 3) := by decide +kernel
theorem dX3_coefficient_15 : decode cX3_coefficient 15 = .ok (.iconst (-1), 1) := by decide +kernel
theorem dX3_coefficient_16 : decode cX3_coefficient 16 = .ok (.ireturn, 1) := by decide +kernel
theorem dX3_coefficient_17 : decode cX3_coefficient 17 = .ok (.aload_n 0, 1) := by decide +kernel
theorem dX3_coefficient_18 : decode cX3_coefficient 18 = .ok (.aload_n 0, 1) := by decide +kernel
theorem dX3_coefficient_19 : decode cX3_coefficient 19 = .ok (.getfield 17, 3) := by decide +kernel
theorem dX3_coefficient_22 : decode cX3_coefficient 22 = .ok (.iload_n 1, 1) := by decide +kernel
theorem dX3_coefficient_23 : decode cX3_coefficient 23 = .ok (.aaload, 1) := by decide +kernel
theorem dX3_coefficient_24 : decode cX3_coefficient 24 = .ok (.iload_n 2, 1) := by decide +kernel
theorem dX3_coefficient_25 : decode cX3_coefficient 25 = .ok (.invokevirtual 67, 3) := by decide +kernel
theorem dX3_coefficient_28 : decode cX3_coefficient 28 = .ok (.ireturn, 1) := by decide +kernel
theorem dX3_change_0 : decode cX3_change 0 = .ok (.iload_n 1, 1) := by decide +kernel
theorem dX3_change_1 : decode cX3_change 1 = .ok (.invokestatic 64, 3) := by decide +kernel
theorem dX3_change_4 : decode cX3_change 4 = .ok (.ifCond .eq 19, 3) := by decide +kernel
theorem dX3_change_7 : decode cX3_change 7 = .ok (.aload_n 0, 1) := by decide +kernel
theorem dX3_change_8 : decode cX3_change 8 = .ok (.iload_n 2, 1) := by decide +kernel
theorem dX3_change_9 : decode cX3_change 9 = .ok (.invokevirtual 46, 3) := by decide +kernel
theorem dX3_change_12 : decode cX3_change 12 = .ok (.ifCond .eq 11, 3) := by decide +kernel
theorem dX3_change_15 : decode cX3_change 15 = .ok (.aload_n 0, 1) := by decide +kernel
theorem dX3_change_16 : decode cX3_change 16 = .ok (.iload_n 3, 1) := by decide +kernel
theorem dX3_change_17 : decode cX3_change 17 = .ok (.invokevirtual 46, 3) := by decide +kernel
theorem dX3_change_20 : decode cX3_change 20 = .ok (.ifCond .ne 5, 3) := by decide +kernel
theorem dX3_change_23 : decode cX3_change 23 = .ok (.iconst (-1), 1) := by decide +kernel
theorem dX3_change_24 : decode cX3_change 24 = .ok (.ireturn, 1) := by decide +kernel
theorem dX3_change_25 : decode cX3_change 25 = .ok (.aload_n 0, 1) := by decide +kernel
theorem dX3_change_26 : decode cX3_change 26 = .ok (.getfield 17, 3) := by decide +kernel
theorem dX3_change_29 : decode cX3_change 29 = .ok (.iload_n 1, 1) := by decide +kernel
theorem dX3_change_30 : decode cX3_change 30 = .ok (.aaload, 1) := by decide +kernel
theorem dX3_change_31 : decode cX3_change 31 = .ok (.astore 4, 2) := by decide +kernel
theorem dX3_change_33 : decode cX3_change 33 = .ok (.aload_n 0, 1) := by decide +kernel
theorem dX3_change_34 : decode cX3_change 34 = .ok (.aload 4, 2) := by decide +kernel
theorem dX3_change_36 : decode cX3_change 36 = .ok (.iload_n 2, 1) := by decide +kernel
theorem dX3_change_37 : decode cX3_change 37 = .ok (.invokevirtual 67, 3) := by decide +kernel
theorem dX3_change_40 : decode cX3_change 40 = .ok (.istore 5, 2) := by decide +kernel
theorem dX3_change_42 : decode cX3_change 42 = .ok (.aload_n 0, 1) := by decide +kernel
theorem dX3_change_43 : decode cX3_change 43 = .ok (.getfield 49, 3) := by decide +kernel
theorem dX3_change_46 : decode cX3_change 46 = .ok (.iload_n 3, 1) := by decide +kernel
theorem dX3_change_47 : decode cX3_change 47 = .ok (.iload 5, 2) := by decide +kernel
theorem dX3_change_49 : decode cX3_change 49 = .ok (.invokevirtual 71, 3) := by decide +kernel
theorem dX3_change_52 : decode cX3_change 52 = .ok (.istore 6, 2) := by decide +kernel
theorem dX3_change_54 : decode cX3_change 54 = .ok (.iconst 0, 1) := by decide +kernel
theorem dX3_change_55 : decode cX3_change 55 = .ok (.istore 7, 2) := by decide +kernel
theorem dX3_change_57 : decode cX3_change 57 = .ok (.iload 7, 2) := by decide +kernel
theorem dX3_change_59 : decode cX3_change 59 = .ok (.aload_n 0, 1) := by decide +kernel
theorem dX3_change_60 : decode cX3_change 60 = .ok (.getfield 42, 3) := by decide +kernel
theorem dX3_change_63 : decode cX3_change 63 = .ok (.if_icmp .ge 45, 3) := by decide +kernel
theorem dX3_change_66 : decode cX3_change 66 = .ok (.aload 4, 2) := by decide +kernel
theorem dX3_change_68 : decode cX3_change 68 = .ok (.iload 7, 2) := by decide +kernel
theorem dX3_change_70 : decode cX3_change 70 = .ok (.aload_n 0, 1) := by decide +kernel
theorem dX3_change_71 : decode cX3_change 71 = .ok (.getfield 49, 3) := by decide +kernel
theorem dX3_change_74 : decode cX3_change 74 = .ok (.aload 4, 2) := by decide +kernel
theorem dX3_change_76 : decode cX3_change 76 = .ok (.iload 7, 2) := by decide +kernel
theorem dX3_change_78 : decode cX3_change 78 = .ok (.iaload, 1) := by decide +kernel
theorem dX3_change_79 : decode cX3_change 79 = .ok (.aload_n 0, 1) := by decide +kernel
theorem dX3_change_80 : decode cX3_change 80 = .ok (.getfield 49, 3) := by decide +kernel
theorem dX3_change_83 : decode cX3_change 83 = .ok (.iload 6, 2) := by decide +kernel
theorem dX3_change_85 : decode cX3_change 85 = .ok (.aload_n 0, 1) := by decide +kernel
theorem dX3_change_86 : decode cX3_change 86 = .ok (.getfield 49, 3) := by decide +kernel
theorem dX3_change_89 : decode cX3_change 89 = .ok (.iload 7, 2) := by decide +kernel
theorem dX3_change_91 : decode cX3_change 91 = .ok (.iload_n 2, 1) := by decide +kernel
theorem dX3_change_92 : decode cX3_change 92 = .ok (.invokevirtual 74, 3) := by decide +kernel
theorem dX3_change_95 : decode cX3_change 95 = .ok (.invokevirtual 57, 3) := by decide +kernel
theorem dX3_change_98 : decode cX3_change 98 = .ok (.invokevirtual 53, 3) := by decide +kernel
theorem dX3_change_101 : decode cX3_change 101 = .ok (.iastore, 1) := by decide +kernel
theorem dX3_change_102 : decode cX3_change 102 = .ok (.iinc 7 1, 3) := by decide +kernel
theorem dX3_change_105 : decode cX3_change 105 = .ok (.goto (-48), 3) := by decide +kernel
theorem dX3_change_108 : decode cX3_change 108 = .ok (.iload 5, 2) := by decide +kernel
theorem dX3_change_110 : decode cX3_change 110 = .ok (.ireturn, 1) := by decide +kernel
theorem dX3_degree_0 : decode cX3_degree 0 = .ok (.iload_n 1, 1) := by decide +kernel
theorem dX3_degree_1 : decode cX3_degree 1 = .ok (.invokestatic 64, 3) := by decide +kernel
theorem dX3_degree_4 : decode cX3_degree 4 = .ok (.ifCond .ne 5, 3) := by decide +kernel
theorem dX3_degree_7 : decode cX3_degree 7 = .ok (.iconst (-1), 1) := by decide +kernel
theorem dX3_degree_8 : decode cX3_degree 8 = .ok (.ireturn, 1) := by decide +kernel
theorem dX3_degree_9 : decode cX3_degree 9 = .ok (.aload_n 0, 1) := by decide +kernel
theorem dX3_degree_10 : decode cX3_degree 10 = .ok (.getfield 42, 3) := by decide +kernel
theorem dX3_degree_13 : decode cX3_degree 13 = .ok (.iconst 1, 1) := by decide +kernel
theorem dX3_degree_14 : decode cX3_degree 14 = .ok (.isub, 1) := by decide +kernel
theorem dX3_degree_15 : decode cX3_degree 15 = .ok (.istore_n 2, 1) := by decide +kernel
theorem dX3_degree_16 : decode cX3_degree 16 = .ok (.iload_n 2, 1) := by decide +kernel
theorem dX3_degree_17 : decode cX3_degree 17 = .ok (.ifCond .lt 25, 3) := by decide +kernel
theorem dX3_degree_20 : decode cX3_degree 20 = .ok (.aload_n 0, 1) := by decide +kernel
theorem dX3_degree_21 : decode cX3_degree 21 = .ok (.aload_n 0, 1) := by decide +kernel
theorem dX3_degree_22 : decode cX3_degree 22 = .ok (.getfield 17, 3) := by decide +kernel
theorem dX3_degree_25 : decode cX3_degree 25 = .ok (.iload_n 1, 1) := by decide +kernel
theorem dX3_degree_26 : decode cX3_degree 26 = .ok (.aaload, 1) := by decide +kernel
theorem dX3_degree_27 : decode cX3_degree 27 = .ok (.iload_n 2, 1) := by decide +kernel
theorem dX3_degree_28 : decode cX3_degree 28 = .ok (.invokevirtual 67, 3) := by decide +kernel
theorem dX3_degree_31 : decode cX3_degree 31 = .ok (.ifCond .eq 5, 3) := by decide +kernel
theorem dX3_degree_34 : decode cX3_degree 34 = .ok (.iload_n 2, 1) := by decide +kernel
theorem dX3_degree_35 : decode cX3_degree 35 = .ok (.ireturn, 1) := by decide +kernel
theorem dX3_degree_36 : decode cX3_degree 36 = .ok (.iinc 2 (-1), 3) := by decide +kernel
theorem dX3_degree_39 : decode cX3_degree 39 = .ok (.goto (-23), 3) := by decide +kernel
theorem dX3_degree_42 : decode cX3_degree 42 = .ok (.bipush (-9), 2) := by decide +kernel
theorem dX3_degree_44 : decode cX3_degree 44 = .ok (.ireturn, 1) := by decide +kernel
theorem dX3_make_0 : decode cX3_make 0 = .ok (.iload_n 1, 1) := by decide +kernel
theorem dX3_make_1 : decode cX3_make 1 = .ok (.invokestatic 64, 3) := by decide +kernel
theorem dX3_make_4 : decode cX3_make 4 = .ok (.ifCond .eq 18, 3) := by decide +kernel
theorem dX3_make_7 : decode cX3_make 7 = .ok (.aload_n 0, 1) := by decide +kernel
theorem dX3_make_8 : decode cX3_make 8 = .ok (.iload_n 2, 1) := by decide +kernel
theorem dX3_make_9 : decode cX3_make 9 = .ok (.iload_n 3, 1) := by decide +kernel
theorem dX3_make_10 : decode cX3_make 10 = .ok (.iload 4, 2) := by decide +kernel
theorem dX3_make_12 : decode cX3_make 12 = .ok (.iload 5, 2) := by decide +kernel
theorem dX3_make_14 : decode cX3_make 14 = .ok (.iload 6, 2) := by decide +kernel
theorem dX3_make_16 : decode cX3_make 16 = .ok (.invokevirtual 77, 3) := by decide +kernel
theorem dX3_make_19 : decode cX3_make 19 = .ok (.ifCond .ne 5, 3) := by decide +kernel
theorem dX3_make_22 : decode cX3_make 22 = .ok (.iconst (-1), 1) := by decide +kernel
theorem dX3_make_23 : decode cX3_make 23 = .ok (.ireturn, 1) := by decide +kernel
theorem dX3_make_24 : decode cX3_make 24 = .ok (.aload_n 0, 1) := by decide +kernel
theorem dX3_make_25 : decode cX3_make 25 = .ok (.getfield 30, 3) := by decide +kernel
theorem dX3_make_28 : decode cX3_make 28 = .ok (.iload_n 3, 1) := by decide +kernel
theorem dX3_make_29 : decode cX3_make 29 = .ok (.iload 4, 2) := by decide +kernel
theorem dX3_make_31 : decode cX3_make 31 = .ok (.iload 5, 2) := by decide +kernel
theorem dX3_make_33 : decode cX3_make 33 = .ok (.iload 6, 2) := by decide +kernel
theorem dX3_make_35 : decode cX3_make 35 = .ok (.invokevirtual 81, 3) := by decide +kernel
theorem dX3_make_38 : decode cX3_make 38 = .ok (.iconst 0, 1) := by decide +kernel
theorem dX3_make_39 : decode cX3_make 39 = .ok (.istore 7, 2) := by decide +kernel
theorem dX3_make_41 : decode cX3_make 41 = .ok (.iload 7, 2) := by decide +kernel
theorem dX3_make_43 : decode cX3_make 43 = .ok (.aload_n 0, 1) := by decide +kernel
theorem dX3_make_44 : decode cX3_make 44 = .ok (.getfield 42, 3) := by decide +kernel
theorem dX3_make_47 : decode cX3_make 47 = .ok (.if_icmp .ge 32, 3) := by decide +kernel
theorem dX3_make_50 : decode cX3_make 50 = .ok (.aload_n 0, 1) := by decide +kernel
theorem dX3_make_51 : decode cX3_make 51 = .ok (.getfield 17, 3) := by decide +kernel
theorem dX3_make_54 : decode cX3_make 54 = .ok (.iload_n 1, 1) := by decide +kernel
theorem dX3_make_55 : decode cX3_make 55 = .ok (.aaload, 1) := by decide +kernel
theorem dX3_make_56 : decode cX3_make 56 = .ok (.iload 7, 2) := by decide +kernel
theorem dX3_make_58 : decode cX3_make 58 = .ok (.aload_n 0, 1) := by decide +kernel
theorem dX3_make_59 : decode cX3_make 59 = .ok (.getfield 30, 3) := by decide +kernel
theorem dX3_make_62 : decode cX3_make 62 = .ok (.aload_n 0, 1) := by decide +kernel
theorem dX3_make_63 : decode cX3_make 63 = .ok (.getfield 49, 3) := by decide +kernel
theorem dX3_make_66 : decode cX3_make 66 = .ok (.iload_n 2, 1) := by decide +kernel
theorem dX3_make_67 : decode cX3_make 67 = .ok (.iload 7, 2) := by decide +kernel
theorem dX3_make_69 : decode cX3_make 69 = .ok (.invokevirtual 85, 3) := by decide +kernel
theorem dX3_make_72 : decode cX3_make 72 = .ok (.iastore, 1) := by decide +kernel
theorem dX3_make_73 : decode cX3_make 73 = .ok (.iinc 7 1, 3) := by decide +kernel
theorem dX3_make_76 : decode cX3_make 76 = .ok (.goto (-35), 3) := by decide +kernel
theorem dX3_make_79 : decode cX3_make 79 = .ok (.iconst 1, 1) := by decide +kernel
theorem dX3_make_80 : decode cX3_make 80 = .ok (.ireturn, 1) := by decide +kernel
theorem dX3_taste_0 : decode cX3_taste 0 = .ok (.aload_n 0, 1) := by decide +kernel
theorem dX3_taste_1 : decode cX3_taste 1 = .ok (.iload_n 1, 1) := by decide +kernel
theorem dX3_taste_2 : decode cX3_taste 2 = .ok (.iload_n 2, 1) := by decide +kernel
theorem dX3_taste_3 : decode cX3_taste 3 = .ok (.iload_n 3, 1) := by decide +kernel
theorem dX3_taste_4 : decode cX3_taste 4 = .ok (.iload 4, 2) := by decide +kernel
theorem dX3_taste_6 : decode cX3_taste 6 = .ok (.iload 5, 2) := by decide +kernel
theorem dX3_taste_8 : decode cX3_taste 8 = .ok (.invokevirtual 77, 3) := by decide +kernel
theorem dX3_taste_11 : decode cX3_taste 11 = .ok (.ifCond .eq 12, 3) := by decide +kernel
theorem dX3_taste_14 : decode cX3_taste 14 = .ok (.aload_n 0, 1) := by decide +kernel
theorem dX3_taste_15 : decode cX3_taste 15 = .ok (.iload 6, 2) := by decide +kernel
theorem dX3_taste_17 : decode cX3_taste 17 = .ok (.invokevirtual 46, 3) := by decide +kernel
theorem dX3_taste_20 : decode cX3_taste 20 = .ok (.ifCond .ne 5, 3) := by decide +kernel
theorem dX3_taste_23 : decode cX3_taste 23 = .ok (.iconst (-1), 1) := by decide +kernel
theorem dX3_taste_24 : decode cX3_taste 24 = .ok (.ireturn, 1) := by decide +kernel
theorem dX3_taste_25 : decode cX3_taste 25 = .ok (.aload_n 0, 1) := by decide +kernel
theorem dX3_taste_26 : decode cX3_taste 26 = .ok (.getfield 30, 3) := by decide +kernel
theorem dX3_taste_29 : decode cX3_taste 29 = .ok (.iload_n 2, 1) := by decide +kernel
theorem dX3_taste_30 : decode cX3_taste 30 = .ok (.iload_n 3, 1) := by decide +kernel
theorem dX3_taste_31 : decode cX3_taste 31 = .ok (.iload 4, 2) := by decide +kernel
theorem dX3_taste_33 : decode cX3_taste 33 = .ok (.iload 5, 2) := by decide +kernel
theorem dX3_taste_35 : decode cX3_taste 35 = .ok (.invokevirtual 81, 3) := by decide +kernel
theorem dX3_taste_38 : decode cX3_taste 38 = .ok (.aload_n 0, 1) := by decide +kernel
theorem dX3_taste_39 : decode cX3_taste 39 = .ok (.getfield 30, 3) := by decide +kernel
theorem dX3_taste_42 : decode cX3_taste 42 = .ok (.aload_n 0, 1) := by decide +kernel
theorem dX3_taste_43 : decode cX3_taste 43 = .ok (.getfield 49, 3) := by decide +kernel
theorem dX3_taste_46 : decode cX3_taste 46 = .ok (.iload_n 1, 1) := by decide +kernel
theorem dX3_taste_47 : decode cX3_taste 47 = .ok (.iload 6, 2) := by decide +kernel
theorem dX3_taste_49 : decode cX3_taste 49 = .ok (.invokevirtual 85, 3) := by decide +kernel
theorem dX3_taste_52 : decode cX3_taste 52 = .ok (.istore 7, 2) := by decide +kernel
theorem dX3_taste_54 : decode cX3_taste 54 = .ok (.aload_n 0, 1) := by decide +kernel
theorem dX3_taste_55 : decode cX3_taste 55 = .ok (.dup, 1) := by decide +kernel
theorem dX3_taste_56 : decode cX3_taste 56 = .ok (.getfield 89, 3) := by decide +kernel
theorem dX3_taste_59 : decode cX3_taste 59 = .ok (.aload_n 0, 1) := by decide +kernel
theorem dX3_taste_60 : decode cX3_taste 60 = .ok (.getfield 30, 3) := by decide +kernel
theorem dX3_taste_63 : decode cX3_taste 63 = .ok (.getfield 93, 3) := by decide +kernel
theorem dX3_taste_66 : decode cX3_taste 66 = .ok (.i2l, 1) := by decide +kernel
theorem dX3_taste_67 : decode cX3_taste 67 = .ok (.ladd, 1) := by decide +kernel
theorem dX3_taste_68 : decode cX3_taste 68 = .ok (.putfield 89, 3) := by decide +kernel
theorem dX3_taste_71 : decode cX3_taste 71 = .ok (.iload 7, 2) := by decide +kernel
theorem dX3_taste_73 : decode cX3_taste 73 = .ok (.ireturn, 1) := by decide +kernel
theorem dX3_chain_0 : decode cX3_chain 0 = .ok (.iload_n 1, 1) := by decide +kernel
theorem dX3_chain_1 : decode cX3_chain 1 = .ok (.invokestatic 64, 3) := by decide +kernel
theorem dX3_chain_4 : decode cX3_chain 4 = .ok (.ifCond .eq 17, 3) := by decide +kernel
theorem dX3_chain_7 : decode cX3_chain 7 = .ok (.iload_n 2, 1) := by decide +kernel
theorem dX3_chain_8 : decode cX3_chain 8 = .ok (.invokestatic 64, 3) := by decide +kernel
theorem dX3_chain_11 : decode cX3_chain 11 = .ok (.ifCond .eq 10, 3) := by decide +kernel
theorem dX3_chain_14 : decode cX3_chain 14 = .ok (.iload_n 3, 1) := by decide +kernel
theorem dX3_chain_15 : decode cX3_chain 15 = .ok (.invokestatic 64, 3) := by decide +kernel
theorem dX3_chain_18 : decode cX3_chain 18 = .ok (.ifCond .ne 5, 3) := by decide +kernel
theorem dX3_chain_21 : decode cX3_chain 21 = .ok (.iconst (-1), 1) := by decide +kernel
theorem dX3_chain_22 : decode cX3_chain 22 = .ok (.ireturn, 1) := by decide +kernel
theorem dX3_chain_23 : decode cX3_chain 23 = .ok (.iconst 0, 1) := by decide +kernel
theorem dX3_chain_24 : decode cX3_chain 24 = .ok (.istore 4, 2) := by decide +kernel
theorem dX3_chain_26 : decode cX3_chain 26 = .ok (.iload 4, 2) := by decide +kernel
theorem dX3_chain_28 : decode cX3_chain 28 = .ok (.aload_n 0, 1) := by decide +kernel
theorem dX3_chain_29 : decode cX3_chain 29 = .ok (.getfield 42, 3) := by decide +kernel
theorem dX3_chain_32 : decode cX3_chain 32 = .ok (.if_icmp .ge 32, 3) := by decide +kernel
theorem dX3_chain_35 : decode cX3_chain 35 = .ok (.aload_n 0, 1) := by decide +kernel
theorem dX3_chain_36 : decode cX3_chain 36 = .ok (.getfield 20, 3) := by decide +kernel
theorem dX3_chain_39 : decode cX3_chain 39 = .ok (.iload 4, 2) := by decide +kernel
theorem dX3_chain_41 : decode cX3_chain 41 = .ok (.aload_n 0, 1) := by decide +kernel
theorem dX3_chain_42 : decode cX3_chain 42 = .ok (.getfield 17, 3) := by decide +kernel
theorem dX3_chain_45 : decode cX3_chain 45 = .ok (.iload_n 2, 1) := by decide +kernel
theorem dX3_chain_46 : decode cX3_chain 46 = .ok (.aaload, 1) := by decide +kernel
theorem dX3_chain_47 : decode cX3_chain 47 = .ok (.aload_n 0, 1) := by decide +kernel
theorem dX3_chain_48 : decode cX3_chain 48 = .ok (.getfield 17, 3) := by decide +kernel
theorem dX3_chain_51 : decode cX3_chain 51 = .ok (.iload_n 3, 1) := by decide +kernel
theorem dX3_chain_52 : decode cX3_chain 52 = .ok (.aaload, 1) := by decide +kernel
theorem dX3_chain_53 : decode cX3_chain 53 = .ok (.iload 4, 2) := by decide +kernel
theorem dX3_chain_55 : decode cX3_chain 55 = .ok (.iaload, 1) := by decide +kernel
theorem dX3_chain_56 : decode cX3_chain 56 = .ok (.iaload, 1) := by decide +kernel
theorem dX3_chain_57 : decode cX3_chain 57 = .ok (.iastore, 1) := by decide +kernel
theorem dX3_chain_58 : decode cX3_chain 58 = .ok (.iinc 4 1, 3) := by decide +kernel
theorem dX3_chain_61 : decode cX3_chain 61 = .ok (.goto (-35), 3) := by decide +kernel
theorem dX3_chain_64 : decode cX3_chain 64 = .ok (.aload_n 0, 1) := by decide +kernel
theorem dX3_chain_65 : decode cX3_chain 65 = .ok (.iload_n 1, 1) := by decide +kernel
theorem dX3_chain_66 : decode cX3_chain 66 = .ok (.invokevirtual 95, 3) := by decide +kernel
theorem dX3_chain_69 : decode cX3_chain 69 = .ok (.iconst 1, 1) := by decide +kernel
theorem dX3_chain_70 : decode cX3_chain 70 = .ok (.ireturn, 1) := by decide +kernel
theorem dX3_shuffles_0 : decode cX3_shuffles 0 = .ok (.iload_n 1, 1) := by decide +kernel
theorem dX3_shuffles_1 : decode cX3_shuffles 1 = .ok (.invokestatic 64, 3) := by decide +kernel
theorem dX3_shuffles_4 : decode cX3_shuffles 4 = .ok (.ifCond .ne 5, 3) := by decide +kernel
theorem dX3_shuffles_7 : decode cX3_shuffles 7 = .ok (.iconst (-1), 1) := by decide +kernel
theorem dX3_shuffles_8 : decode cX3_shuffles 8 = .ok (.ireturn, 1) := by decide +kernel
theorem dX3_shuffles_9 : decode cX3_shuffles 9 = .ok (.aload_n 0, 1) := by decide +kernel
theorem dX3_shuffles_10 : decode cX3_shuffles 10 = .ok (.aload_n 0, 1) := by decide +kernel
theorem dX3_shuffles_11 : decode cX3_shuffles 11 = .ok (.getfield 17, 3) := by decide +kernel
theorem dX3_shuffles_14 : decode cX3_shuffles 14 = .ok (.iload_n 1, 1) := by decide +kernel
theorem dX3_shuffles_15 : decode cX3_shuffles 15 = .ok (.aaload, 1) := by decide +kernel
theorem dX3_shuffles_16 : decode cX3_shuffles 16 = .ok (.invokevirtual 98, 3) := by decide +kernel
theorem dX3_shuffles_19 : decode cX3_shuffles 19 = .ok (.invokestatic 102, 3) := by decide +kernel
theorem dX3_shuffles_22 : decode cX3_shuffles 22 = .ok (.ireturn, 1) := by decide +kernel
theorem dX3_fails_0 : decode cX3_fails 0 = .ok (.iload_n 1, 1) := by decide +kernel
theorem dX3_fails_1 : decode cX3_fails 1 = .ok (.invokestatic 64, 3) := by decide +kernel
theorem dX3_fails_4 : decode cX3_fails 4 = .ok (.ifCond .ne 5, 3) := by decide +kernel
theorem dX3_fails_7 : decode cX3_fails 7 = .ok (.iconst (-1), 1) := by decide +kernel
theorem dX3_fails_8 : decode cX3_fails 8 = .ok (.ireturn, 1) := by decide +kernel
theorem dX3_fails_9 : decode cX3_fails 9 = .ok (.aload_n 0, 1) := by decide +kernel
theorem dX3_fails_10 : decode cX3_fails 10 = .ok (.getfield 17, 3) := by decide +kernel
theorem dX3_fails_13 : decode cX3_fails 13 = .ok (.iload_n 1, 1) := by decide +kernel
theorem dX3_fails_14 : decode cX3_fails 14 = .ok (.aaload, 1) := by decide +kernel
theorem dX3_fails_15 : decode cX3_fails 15 = .ok (.astore_n 2, 1) := by decide +kernel
theorem dX3_fails_16 : decode cX3_fails 16 = .ok (.aload_n 0, 1) := by decide +kernel
theorem dX3_fails_17 : decode cX3_fails 17 = .ok (.getfield 20, 3) := by decide +kernel
theorem dX3_fails_20 : decode cX3_fails 20 = .ok (.iconst 1, 1) := by decide +kernel
theorem dX3_fails_21 : decode cX3_fails 21 = .ok (.invokestatic 106, 3) := by decide +kernel
theorem dX3_fails_24 : decode cX3_fails 24 = .ok (.iconst 1, 1) := by decide +kernel
theorem dX3_fails_25 : decode cX3_fails 25 = .ok (.istore_n 3, 1) := by decide +kernel
theorem dX3_fails_26 : decode cX3_fails 26 = .ok (.iload_n 3, 1) := by decide +kernel
theorem dX3_fails_27 : decode cX3_fails 27 = .ok (.aload_n 0, 1) := by decide +kernel
end
section
theorem dX3_fails_28 : decode cX3_fails 28 = .ok (.getfield 42, 3) := by decide +kernel
theorem dX3_fails_31 : decode cX3_fails 31 = .ok (.iconst 2, 1) := by decide +kernel
theorem dX3_fails_32 : decode cX3_fails 32 = .ok (.isub, 1) := by decide +kernel
theorem dX3_fails_33 : decode cX3_fails 33 = .ok (.if_icmp .gt 71, 3) := by decide +kernel
theorem dX3_fails_36 : decode cX3_fails 36 = .ok (.iconst 0, 1) := by decide +kernel
theorem dX3_fails_37 : decode cX3_fails 37 = .ok (.istore 4, 2) := by decide +kernel
theorem dX3_fails_39 : decode cX3_fails 39 = .ok (.iload 4, 2) := by decide +kernel
theorem dX3_fails_41 : decode cX3_fails 41 = .ok (.aload_n 0, 1) := by decide +kernel
theorem dX3_fails_42 : decode cX3_fails 42 = .ok (.getfield 42, 3) := by decide +kernel
theorem dX3_fails_45 : decode cX3_fails 45 = .ok (.if_icmp .ge 34, 3) := by decide +kernel
theorem dX3_fails_48 : decode cX3_fails 48 = .ok (.aload_n 0, 1) := by decide +kernel
theorem dX3_fails_49 : decode cX3_fails 49 = .ok (.getfield 20, 3) := by decide +kernel
theorem dX3_fails_52 : decode cX3_fails 52 = .ok (.iload 4, 2) := by decide +kernel
theorem dX3_fails_54 : decode cX3_fails 54 = .ok (.aload_n 0, 1) := by decide +kernel
theorem dX3_fails_55 : decode cX3_fails 55 = .ok (.getfield 49, 3) := by decide +kernel
theorem dX3_fails_58 : decode cX3_fails 58 = .ok (.aload_n 0, 1) := by decide +kernel
theorem dX3_fails_59 : decode cX3_fails 59 = .ok (.getfield 20, 3) := by decide +kernel
theorem dX3_fails_62 : decode cX3_fails 62 = .ok (.iload 4, 2) := by decide +kernel
theorem dX3_fails_64 : decode cX3_fails 64 = .ok (.iaload, 1) := by decide +kernel
theorem dX3_fails_65 : decode cX3_fails 65 = .ok (.aload_n 2, 1) := by decide +kernel
theorem dX3_fails_66 : decode cX3_fails 66 = .ok (.iload 4, 2) := by decide +kernel
theorem dX3_fails_68 : decode cX3_fails 68 = .ok (.iaload, 1) := by decide +kernel
theorem dX3_fails_69 : decode cX3_fails 69 = .ok (.invokevirtual 57, 3) := by decide +kernel
theorem dX3_fails_72 : decode cX3_fails 72 = .ok (.iastore, 1) := by decide +kernel
theorem dX3_fails_73 : decode cX3_fails 73 = .ok (.iinc 4 1, 3) := by decide +kernel
theorem dX3_fails_76 : decode cX3_fails 76 = .ok (.goto (-37), 3) := by decide +kernel
theorem dX3_fails_79 : decode cX3_fails 79 = .ok (.aload_n 0, 1) := by decide +kernel
theorem dX3_fails_80 : decode cX3_fails 80 = .ok (.aload_n 0, 1) := by decide +kernel
theorem dX3_fails_81 : decode cX3_fails 81 = .ok (.getfield 20, 3) := by decide +kernel
theorem dX3_fails_84 : decode cX3_fails 84 = .ok (.aload_n 0, 1) := by decide +kernel
theorem dX3_fails_85 : decode cX3_fails 85 = .ok (.getfield 42, 3) := by decide +kernel
theorem dX3_fails_88 : decode cX3_fails 88 = .ok (.iconst 1, 1) := by decide +kernel
theorem dX3_fails_89 : decode cX3_fails 89 = .ok (.isub, 1) := by decide +kernel
theorem dX3_fails_90 : decode cX3_fails 90 = .ok (.invokevirtual 67, 3) := by decide +kernel
theorem dX3_fails_93 : decode cX3_fails 93 = .ok (.ifCond .eq 5, 3) := by decide +kernel
theorem dX3_fails_96 : decode cX3_fails 96 = .ok (.iload_n 3, 1) := by decide +kernel
theorem dX3_fails_97 : decode cX3_fails 97 = .ok (.ireturn, 1) := by decide +kernel
theorem dX3_fails_98 : decode cX3_fails 98 = .ok (.iinc 3 1, 3) := by decide +kernel
theorem dX3_fails_101 : decode cX3_fails 101 = .ok (.goto (-75), 3) := by decide +kernel
theorem dX3_fails_104 : decode cX3_fails 104 = .ok (.aload_n 0, 1) := by decide +kernel
theorem dX3_fails_105 : decode cX3_fails 105 = .ok (.aload_n 2, 1) := by decide +kernel
theorem dX3_fails_106 : decode cX3_fails 106 = .ok (.iconst 0, 1) := by decide +kernel
theorem dX3_fails_107 : decode cX3_fails 107 = .ok (.invokevirtual 112, 3) := by decide +kernel
theorem dX3_fails_110 : decode cX3_fails 110 = .ok (.iconst 1, 1) := by decide +kernel
theorem dX3_fails_111 : decode cX3_fails 111 = .ok (.if_icmp .ne 7, 3) := by decide +kernel
theorem dX3_fails_114 : decode cX3_fails 114 = .ok (.iconst 0, 1) := by decide +kernel
theorem dX3_fails_115 : decode cX3_fails 115 = .ok (.goto 9, 3) := by decide +kernel
theorem dX3_fails_118 : decode cX3_fails 118 = .ok (.aload_n 0, 1) := by decide +kernel
theorem dX3_fails_119 : decode cX3_fails 119 = .ok (.getfield 42, 3) := by decide +kernel
theorem dX3_fails_122 : decode cX3_fails 122 = .ok (.iconst 1, 1) := by decide +kernel
theorem dX3_fails_123 : decode cX3_fails 123 = .ok (.isub, 1) := by decide +kernel
theorem dX3_fails_124 : decode cX3_fails 124 = .ok (.ireturn, 1) := by decide +kernel
theorem dX3_image_0 : decode cX3_image 0 = .ok (.iload_n 1, 1) := by decide +kernel
theorem dX3_image_1 : decode cX3_image 1 = .ok (.invokestatic 64, 3) := by decide +kernel
theorem dX3_image_4 : decode cX3_image 4 = .ok (.ifCond .ne 5, 3) := by decide +kernel
theorem dX3_image_7 : decode cX3_image 7 = .ok (.iconst (-1), 1) := by decide +kernel
theorem dX3_image_8 : decode cX3_image 8 = .ok (.ireturn, 1) := by decide +kernel
theorem dX3_image_9 : decode cX3_image 9 = .ok (.aload_n 0, 1) := by decide +kernel
theorem dX3_image_10 : decode cX3_image 10 = .ok (.aload_n 0, 1) := by decide +kernel
theorem dX3_image_11 : decode cX3_image 11 = .ok (.getfield 17, 3) := by decide +kernel
theorem dX3_image_14 : decode cX3_image 14 = .ok (.iload_n 1, 1) := by decide +kernel
theorem dX3_image_15 : decode cX3_image 15 = .ok (.aaload, 1) := by decide +kernel
theorem dX3_image_16 : decode cX3_image 16 = .ok (.invokevirtual 115, 3) := by decide +kernel
theorem dX3_image_19 : decode cX3_image 19 = .ok (.ireturn, 1) := by decide +kernel
theorem dX3_turn_0 : decode cX3_turn 0 = .ok (.iload_n 1, 1) := by decide +kernel
theorem dX3_turn_1 : decode cX3_turn 1 = .ok (.invokestatic 64, 3) := by decide +kernel
theorem dX3_turn_4 : decode cX3_turn 4 = .ok (.ifCond .ne 5, 3) := by decide +kernel
theorem dX3_turn_7 : decode cX3_turn 7 = .ok (.iconst (-1), 1) := by decide +kernel
theorem dX3_turn_8 : decode cX3_turn 8 = .ok (.ireturn, 1) := by decide +kernel
theorem dX3_turn_9 : decode cX3_turn 9 = .ok (.aload_n 0, 1) := by decide +kernel
theorem dX3_turn_10 : decode cX3_turn 10 = .ok (.aload_n 0, 1) := by decide +kernel
theorem dX3_turn_11 : decode cX3_turn 11 = .ok (.getfield 17, 3) := by decide +kernel
theorem dX3_turn_14 : decode cX3_turn 14 = .ok (.iload_n 1, 1) := by decide +kernel
theorem dX3_turn_15 : decode cX3_turn 15 = .ok (.aaload, 1) := by decide +kernel
theorem dX3_turn_16 : decode cX3_turn 16 = .ok (.invokevirtual 98, 3) := by decide +kernel
theorem dX3_turn_19 : decode cX3_turn 19 = .ok (.ifCond .ne 6, 3) := by decide +kernel
theorem dX3_turn_22 : decode cX3_turn 22 = .ok (.bipush (-2), 2) := by decide +kernel
theorem dX3_turn_24 : decode cX3_turn 24 = .ok (.ireturn, 1) := by decide +kernel
theorem dX3_turn_25 : decode cX3_turn 25 = .ok (.iconst 0, 1) := by decide +kernel
theorem dX3_turn_26 : decode cX3_turn 26 = .ok (.istore_n 2, 1) := by decide +kernel
theorem dX3_turn_27 : decode cX3_turn 27 = .ok (.iload_n 2, 1) := by decide +kernel
theorem dX3_turn_28 : decode cX3_turn 28 = .ok (.aload_n 0, 1) := by decide +kernel
theorem dX3_turn_29 : decode cX3_turn 29 = .ok (.getfield 42, 3) := by decide +kernel
theorem dX3_turn_32 : decode cX3_turn 32 = .ok (.if_icmp .ge 23, 3) := by decide +kernel
theorem dX3_turn_35 : decode cX3_turn 35 = .ok (.aload_n 0, 1) := by decide +kernel
theorem dX3_turn_36 : decode cX3_turn 36 = .ok (.getfield 20, 3) := by decide +kernel
theorem dX3_turn_39 : decode cX3_turn 39 = .ok (.aload_n 0, 1) := by decide +kernel
theorem dX3_turn_40 : decode cX3_turn 40 = .ok (.getfield 17, 3) := by decide +kernel
theorem dX3_turn_43 : decode cX3_turn 43 = .ok (.iload_n 1, 1) := by decide +kernel
theorem dX3_turn_44 : decode cX3_turn 44 = .ok (.aaload, 1) := by decide +kernel
theorem dX3_turn_45 : decode cX3_turn 45 = .ok (.iload_n 2, 1) := by decide +kernel
theorem dX3_turn_46 : decode cX3_turn 46 = .ok (.iaload, 1) := by decide +kernel
theorem dX3_turn_47 : decode cX3_turn 47 = .ok (.iload_n 2, 1) := by decide +kernel
theorem dX3_turn_48 : decode cX3_turn 48 = .ok (.iastore, 1) := by decide +kernel
theorem dX3_turn_49 : decode cX3_turn 49 = .ok (.iinc 2 1, 3) := by decide +kernel
theorem dX3_turn_52 : decode cX3_turn 52 = .ok (.goto (-25), 3) := by decide +kernel
theorem dX3_turn_55 : decode cX3_turn 55 = .ok (.aload_n 0, 1) := by decide +kernel
theorem dX3_turn_56 : decode cX3_turn 56 = .ok (.iload_n 1, 1) := by decide +kernel
theorem dX3_turn_57 : decode cX3_turn 57 = .ok (.invokevirtual 95, 3) := by decide +kernel
theorem dX3_turn_60 : decode cX3_turn 60 = .ok (.iconst 1, 1) := by decide +kernel
theorem dX3_turn_61 : decode cX3_turn 61 = .ok (.ireturn, 1) := by decide +kernel
theorem dX3_order_0 : decode cX3_order 0 = .ok (.iload_n 1, 1) := by decide +kernel
theorem dX3_order_1 : decode cX3_order 1 = .ok (.invokestatic 64, 3) := by decide +kernel
theorem dX3_order_4 : decode cX3_order 4 = .ok (.ifCond .ne 5, 3) := by decide +kernel
theorem dX3_order_7 : decode cX3_order 7 = .ok (.iconst (-1), 1) := by decide +kernel
theorem dX3_order_8 : decode cX3_order 8 = .ok (.ireturn, 1) := by decide +kernel
theorem dX3_order_9 : decode cX3_order 9 = .ok (.aload_n 0, 1) := by decide +kernel
theorem dX3_order_10 : decode cX3_order 10 = .ok (.aload_n 0, 1) := by decide +kernel
theorem dX3_order_11 : decode cX3_order 11 = .ok (.getfield 17, 3) := by decide +kernel
theorem dX3_order_14 : decode cX3_order 14 = .ok (.iload_n 1, 1) := by decide +kernel
theorem dX3_order_15 : decode cX3_order 15 = .ok (.aaload, 1) := by decide +kernel
theorem dX3_order_16 : decode cX3_order 16 = .ok (.invokevirtual 98, 3) := by decide +kernel
theorem dX3_order_19 : decode cX3_order 19 = .ok (.ifCond .ne 6, 3) := by decide +kernel
theorem dX3_order_22 : decode cX3_order 22 = .ok (.bipush (-2), 2) := by decide +kernel
theorem dX3_order_24 : decode cX3_order 24 = .ok (.ireturn, 1) := by decide +kernel
theorem dX3_order_25 : decode cX3_order 25 = .ok (.iconst 1, 1) := by decide +kernel
theorem dX3_order_26 : decode cX3_order 26 = .ok (.istore_n 2, 1) := by decide +kernel
theorem dX3_order_27 : decode cX3_order 27 = .ok (.iconst 0, 1) := by decide +kernel
theorem dX3_order_28 : decode cX3_order 28 = .ok (.istore_n 3, 1) := by decide +kernel
theorem dX3_order_29 : decode cX3_order 29 = .ok (.iload_n 3, 1) := by decide +kernel
theorem dX3_order_30 : decode cX3_order 30 = .ok (.aload_n 0, 1) := by decide +kernel
theorem dX3_order_31 : decode cX3_order 31 = .ok (.getfield 42, 3) := by decide +kernel
theorem dX3_order_34 : decode cX3_order 34 = .ok (.if_icmp .ge 25, 3) := by decide +kernel
theorem dX3_order_37 : decode cX3_order 37 = .ok (.iload_n 2, 1) := by decide +kernel
theorem dX3_order_38 : decode cX3_order 38 = .ok (.aload_n 0, 1) := by decide +kernel
theorem dX3_order_39 : decode cX3_order 39 = .ok (.aload_n 0, 1) := by decide +kernel
theorem dX3_order_40 : decode cX3_order 40 = .ok (.getfield 17, 3) := by decide +kernel
theorem dX3_order_43 : decode cX3_order 43 = .ok (.iload_n 1, 1) := by decide +kernel
theorem dX3_order_44 : decode cX3_order 44 = .ok (.aaload, 1) := by decide +kernel
theorem dX3_order_45 : decode cX3_order 45 = .ok (.iload_n 3, 1) := by decide +kernel
theorem dX3_order_46 : decode cX3_order 46 = .ok (.invokevirtual 119, 3) := by decide +kernel
theorem dX3_order_49 : decode cX3_order 49 = .ok (.invokestatic 122, 3) := by decide +kernel
theorem dX3_order_52 : decode cX3_order 52 = .ok (.istore_n 2, 1) := by decide +kernel
theorem dX3_order_53 : decode cX3_order 53 = .ok (.iinc 3 1, 3) := by decide +kernel
theorem dX3_order_56 : decode cX3_order 56 = .ok (.goto (-27), 3) := by decide +kernel
theorem dX3_order_59 : decode cX3_order 59 = .ok (.iload_n 2, 1) := by decide +kernel
theorem dX3_order_60 : decode cX3_order 60 = .ok (.ireturn, 1) := by decide +kernel
theorem dX3_fixed_0 : decode cX3_fixed 0 = .ok (.iload_n 1, 1) := by decide +kernel
theorem dX3_fixed_1 : decode cX3_fixed 1 = .ok (.invokestatic 64, 3) := by decide +kernel
theorem dX3_fixed_4 : decode cX3_fixed 4 = .ok (.ifCond .ne 5, 3) := by decide +kernel
theorem dX3_fixed_7 : decode cX3_fixed 7 = .ok (.iconst (-1), 1) := by decide +kernel
theorem dX3_fixed_8 : decode cX3_fixed 8 = .ok (.ireturn, 1) := by decide +kernel
theorem dX3_fixed_9 : decode cX3_fixed 9 = .ok (.iconst 0, 1) := by decide +kernel
theorem dX3_fixed_10 : decode cX3_fixed 10 = .ok (.istore_n 2, 1) := by decide +kernel
theorem dX3_fixed_11 : decode cX3_fixed 11 = .ok (.iconst 0, 1) := by decide +kernel
theorem dX3_fixed_12 : decode cX3_fixed 12 = .ok (.istore_n 3, 1) := by decide +kernel
theorem dX3_fixed_13 : decode cX3_fixed 13 = .ok (.iload_n 3, 1) := by decide +kernel
theorem dX3_fixed_14 : decode cX3_fixed 14 = .ok (.aload_n 0, 1) := by decide +kernel
theorem dX3_fixed_15 : decode cX3_fixed 15 = .ok (.getfield 42, 3) := by decide +kernel
theorem dX3_fixed_18 : decode cX3_fixed 18 = .ok (.if_icmp .ge 32, 3) := by decide +kernel
theorem dX3_fixed_21 : decode cX3_fixed 21 = .ok (.iload_n 2, 1) := by decide +kernel
theorem dX3_fixed_22 : decode cX3_fixed 22 = .ok (.aload_n 0, 1) := by decide +kernel
theorem dX3_fixed_23 : decode cX3_fixed 23 = .ok (.getfield 17, 3) := by decide +kernel
theorem dX3_fixed_26 : decode cX3_fixed 26 = .ok (.iload_n 1, 1) := by decide +kernel
theorem dX3_fixed_27 : decode cX3_fixed 27 = .ok (.aaload, 1) := by decide +kernel
theorem dX3_fixed_28 : decode cX3_fixed 28 = .ok (.iload_n 3, 1) := by decide +kernel
theorem dX3_fixed_29 : decode cX3_fixed 29 = .ok (.iaload, 1) := by decide +kernel
theorem dX3_fixed_30 : decode cX3_fixed 30 = .ok (.iload_n 3, 1) := by decide +kernel
theorem dX3_fixed_31 : decode cX3_fixed 31 = .ok (.if_icmp .ne 7, 3) := by decide +kernel
theorem dX3_fixed_34 : decode cX3_fixed 34 = .ok (.iconst 1, 1) := by decide +kernel
theorem dX3_fixed_35 : decode cX3_fixed 35 = .ok (.goto 4, 3) := by decide +kernel
theorem dX3_fixed_38 : decode cX3_fixed 38 = .ok (.iconst 0, 1) := by decide +kernel
theorem dX3_fixed_39 : decode cX3_fixed 39 = .ok (.invokestatic 102, 3) := by decide +kernel
theorem dX3_fixed_42 : decode cX3_fixed 42 = .ok (.iadd, 1) := by decide +kernel
theorem dX3_fixed_43 : decode cX3_fixed 43 = .ok (.istore_n 2, 1) := by decide +kernel
theorem dX3_fixed_44 : decode cX3_fixed 44 = .ok (.iinc 3 1, 3) := by decide +kernel
theorem dX3_fixed_47 : decode cX3_fixed 47 = .ok (.goto (-34), 3) := by decide +kernel
theorem dX3_fixed_50 : decode cX3_fixed 50 = .ok (.iload_n 2, 1) := by decide +kernel
theorem dX3_fixed_51 : decode cX3_fixed 51 = .ok (.ireturn, 1) := by decide +kernel
theorem dX3_difference_0 : decode cX3_difference 0 = .ok (.iload_n 1, 1) := by decide +kernel
theorem dX3_difference_1 : decode cX3_difference 1 = .ok (.invokestatic 64, 3) := by decide +kernel
theorem dX3_difference_4 : decode cX3_difference 4 = .ok (.ifCond .eq 23, 3) := by decide +kernel
theorem dX3_difference_7 : decode cX3_difference 7 = .ok (.aload_n 0, 1) := by decide +kernel
theorem dX3_difference_8 : decode cX3_difference 8 = .ok (.iload_n 2, 1) := by decide +kernel
theorem dX3_difference_9 : decode cX3_difference 9 = .ok (.invokevirtual 46, 3) := by decide +kernel
theorem dX3_difference_12 : decode cX3_difference 12 = .ok (.ifCond .eq 15, 3) := by decide +kernel
theorem dX3_difference_15 : decode cX3_difference 15 = .ok (.iload_n 2, 1) := by decide +kernel
theorem dX3_difference_16 : decode cX3_difference 16 = .ok (.ifCond .eq 11, 3) := by decide +kernel
theorem dX3_difference_19 : decode cX3_difference 19 = .ok (.aload_n 0, 1) := by decide +kernel
theorem dX3_difference_20 : decode cX3_difference 20 = .ok (.iload_n 3, 1) := by decide +kernel
theorem dX3_difference_21 : decode cX3_difference 21 = .ok (.invokevirtual 46, 3) := by decide +kernel
theorem dX3_difference_24 : decode cX3_difference 24 = .ok (.ifCond .ne 5, 3) := by decide +kernel
theorem dX3_difference_27 : decode cX3_difference 27 = .ok (.iconst (-1), 1) := by decide +kernel
theorem dX3_difference_28 : decode cX3_difference 28 = .ok (.ireturn, 1) := by decide +kernel
theorem dX3_difference_29 : decode cX3_difference 29 = .ok (.iconst 0, 1) := by decide +kernel
theorem dX3_difference_30 : decode cX3_difference 30 = .ok (.istore 4, 2) := by decide +kernel
theorem dX3_difference_32 : decode cX3_difference 32 = .ok (.iconst 0, 1) := by decide +kernel
theorem dX3_difference_33 : decode cX3_difference 33 = .ok (.istore 5, 2) := by decide +kernel
theorem dX3_difference_35 : decode cX3_difference 35 = .ok (.iload 5, 2) := by decide +kernel
theorem dX3_difference_37 : decode cX3_difference 37 = .ok (.aload_n 0, 1) := by decide +kernel
theorem dX3_difference_38 : decode cX3_difference 38 = .ok (.getfield 42, 3) := by decide +kernel
theorem dX3_difference_41 : decode cX3_difference 41 = .ok (.if_icmp .ge 39, 3) := by decide +kernel
theorem dX3_difference_44 : decode cX3_difference 44 = .ok (.iload 4, 2) := by decide +kernel
theorem dX3_difference_46 : decode cX3_difference 46 = .ok (.aload_n 0, 1) := by decide +kernel
theorem dX3_difference_47 : decode cX3_difference 47 = .ok (.aload_n 0, 1) := by decide +kernel
theorem dX3_difference_48 : decode cX3_difference 48 = .ok (.getfield 17, 3) := by decide +kernel
theorem dX3_difference_51 : decode cX3_difference 51 = .ok (.iload_n 1, 1) := by decide +kernel
theorem dX3_difference_52 : decode cX3_difference 52 = .ok (.aaload, 1) := by decide +kernel
theorem dX3_difference_53 : decode cX3_difference 53 = .ok (.iload_n 2, 1) := by decide +kernel
theorem dX3_difference_54 : decode cX3_difference 54 = .ok (.iload 5, 2) := by decide +kernel
theorem dX3_difference_56 : decode cX3_difference 56 = .ok (.invokevirtual 125, 3) := by decide +kernel
theorem dX3_difference_59 : decode cX3_difference 59 = .ok (.iload_n 3, 1) := by decide +kernel
theorem dX3_difference_60 : decode cX3_difference 60 = .ok (.if_icmp .ne 7, 3) := by decide +kernel
theorem dX3_difference_63 : decode cX3_difference 63 = .ok (.iconst 1, 1) := by decide +kernel
theorem dX3_difference_64 : decode cX3_difference 64 = .ok (.goto 4, 3) := by decide +kernel
theorem dX3_difference_67 : decode cX3_difference 67 = .ok (.iconst 0, 1) := by decide +kernel
theorem dX3_difference_68 : decode cX3_difference 68 = .ok (.invokestatic 102, 3) := by decide +kernel
theorem dX3_difference_71 : decode cX3_difference 71 = .ok (.iadd, 1) := by decide +kernel
theorem dX3_difference_72 : decode cX3_difference 72 = .ok (.istore 4, 2) := by decide +kernel
theorem dX3_difference_74 : decode cX3_difference 74 = .ok (.iinc 5 1, 3) := by decide +kernel
theorem dX3_difference_77 : decode cX3_difference 77 = .ok (.goto (-42), 3) := by decide +kernel
theorem dX3_difference_80 : decode cX3_difference 80 = .ok (.iload 4, 2) := by decide +kernel
theorem dX3_difference_82 : decode cX3_difference 82 = .ok (.ireturn, 1) := by decide +kernel
theorem dX3_spread_0 : decode cX3_spread 0 = .ok (.iload_n 1, 1) := by decide +kernel
theorem dX3_spread_1 : decode cX3_spread 1 = .ok (.invokestatic 64, 3) := by decide +kernel
theorem dX3_spread_4 : decode cX3_spread 4 = .ok (.ifCond .ne 5, 3) := by decide +kernel
theorem dX3_spread_7 : decode cX3_spread 7 = .ok (.iconst (-1), 1) := by decide +kernel
theorem dX3_spread_8 : decode cX3_spread 8 = .ok (.ireturn, 1) := by decide +kernel
theorem dX3_spread_9 : decode cX3_spread 9 = .ok (.aload_n 0, 1) := by decide +kernel
theorem dX3_spread_10 : decode cX3_spread 10 = .ok (.aload_n 0, 1) := by decide +kernel
theorem dX3_spread_11 : decode cX3_spread 11 = .ok (.getfield 17, 3) := by decide +kernel
theorem dX3_spread_14 : decode cX3_spread 14 = .ok (.iload_n 1, 1) := by decide +kernel
theorem dX3_spread_15 : decode cX3_spread 15 = .ok (.aaload, 1) := by decide +kernel
theorem dX3_spread_16 : decode cX3_spread 16 = .ok (.invokevirtual 129, 3) := by decide +kernel
theorem dX3_spread_19 : decode cX3_spread 19 = .ok (.ireturn, 1) := by decide +kernel
theorem dX3_planar_0 : decode cX3_planar 0 = .ok (.iload_n 1, 1) := by decide +kernel
theorem dX3_planar_1 : decode cX3_planar 1 = .ok (.invokestatic 64, 3) := by decide +kernel
theorem dX3_planar_4 : decode cX3_planar 4 = .ok (.ifCond .ne 5, 3) := by decide +kernel
theorem dX3_planar_7 : decode cX3_planar 7 = .ok (.iconst (-1), 1) := by decide +kernel
theorem dX3_planar_8 : decode cX3_planar 8 = .ok (.ireturn, 1) := by decide +kernel
theorem dX3_planar_9 : decode cX3_planar 9 = .ok (.aload_n 0, 1) := by decide +kernel
theorem dX3_planar_10 : decode cX3_planar 10 = .ok (.aload_n 0, 1) := by decide +kernel
theorem dX3_planar_11 : decode cX3_planar 11 = .ok (.getfield 17, 3) := by decide +kernel
theorem dX3_planar_14 : decode cX3_planar 14 = .ok (.iload_n 1, 1) := by decide +kernel
theorem dX3_planar_15 : decode cX3_planar 15 = .ok (.aaload, 1) := by decide +kernel
theorem dX3_planar_16 : decode cX3_planar 16 = .ok (.invokevirtual 129, 3) := by decide +kernel
theorem dX3_planar_19 : decode cX3_planar 19 = .ok (.iconst 1, 1) := by decide +kernel
theorem dX3_planar_20 : decode cX3_planar 20 = .ok (.if_icmp .ne 7, 3) := by decide +kernel
theorem dX3_planar_23 : decode cX3_planar 23 = .ok (.iconst 1, 1) := by decide +kernel
theorem dX3_planar_24 : decode cX3_planar 24 = .ok (.goto 4, 3) := by decide +kernel
theorem dX3_planar_27 : decode cX3_planar 27 = .ok (.iconst 0, 1) := by decide +kernel
theorem dX3_planar_28 : decode cX3_planar 28 = .ok (.invokestatic 102, 3) := by decide +kernel
theorem dX3_planar_31 : decode cX3_planar 31 = .ok (.ireturn, 1) := by decide +kernel
theorem dX3_walk_0 : decode cX3_walk 0 = .ok (.iload_n 1, 1) := by decide +kernel
theorem dX3_walk_1 : decode cX3_walk 1 = .ok (.invokestatic 64, 3) := by decide +kernel
theorem dX3_walk_4 : decode cX3_walk 4 = .ok (.ifCond .eq 26, 3) := by decide +kernel
theorem dX3_walk_7 : decode cX3_walk 7 = .ok (.aload_n 0, 1) := by decide +kernel
theorem dX3_walk_8 : decode cX3_walk 8 = .ok (.iload_n 2, 1) := by decide +kernel
theorem dX3_walk_9 : decode cX3_walk 9 = .ok (.invokevirtual 46, 3) := by decide +kernel
theorem dX3_walk_12 : decode cX3_walk 12 = .ok (.ifCond .eq 18, 3) := by decide +kernel
theorem dX3_walk_15 : decode cX3_walk 15 = .ok (.aload_n 0, 1) := by decide +kernel
theorem dX3_walk_16 : decode cX3_walk 16 = .ok (.iload_n 3, 1) := by decide +kernel
theorem dX3_walk_17 : decode cX3_walk 17 = .ok (.invokevirtual 46, 3) := by decide +kernel
theorem dX3_walk_20 : decode cX3_walk 20 = .ok (.ifCond .eq 10, 3) := by decide +kernel
theorem dX3_walk_23 : decode cX3_walk 23 = .ok (.aload_n 0, 1) := by decide +kernel
theorem dX3_walk_24 : decode cX3_walk 24 = .ok (.invokevirtual 132, 3) := by decide +kernel
theorem dX3_walk_27 : decode cX3_walk 27 = .ok (.ifCond .ne 6, 3) := by decide +kernel
theorem dX3_walk_30 : decode cX3_walk 30 = .ok (.ldc 136, 2) := by decide +kernel
theorem dX3_walk_32 : decode cX3_walk 32 = .ok (.ireturn, 1) := by decide +kernel
theorem dX3_walk_33 : decode cX3_walk 33 = .ok (.aload_n 0, 1) := by decide +kernel
theorem dX3_walk_34 : decode cX3_walk 34 = .ok (.aload_n 0, 1) := by decide +kernel
theorem dX3_walk_35 : decode cX3_walk 35 = .ok (.getfield 17, 3) := by decide +kernel
theorem dX3_walk_38 : decode cX3_walk 38 = .ok (.iload_n 1, 1) := by decide +kernel
theorem dX3_walk_39 : decode cX3_walk 39 = .ok (.aaload, 1) := by decide +kernel
theorem dX3_walk_40 : decode cX3_walk 40 = .ok (.iload_n 2, 1) := by decide +kernel
theorem dX3_walk_41 : decode cX3_walk 41 = .ok (.iload_n 3, 1) := by decide +kernel
theorem dX3_walk_42 : decode cX3_walk 42 = .ok (.invokevirtual 137, 3) := by decide +kernel
theorem dX3_walk_45 : decode cX3_walk 45 = .ok (.ireturn, 1) := by decide +kernel
theorem dX3_linear_0 : decode cX3_linear 0 = .ok (.iload_n 1, 1) := by decide +kernel
theorem dX3_linear_1 : decode cX3_linear 1 = .ok (.invokestatic 64, 3) := by decide +kernel
theorem dX3_linear_4 : decode cX3_linear 4 = .ok (.ifCond .ne 5, 3) := by decide +kernel
theorem dX3_linear_7 : decode cX3_linear 7 = .ok (.iconst (-1), 1) := by decide +kernel
theorem dX3_linear_8 : decode cX3_linear 8 = .ok (.ireturn, 1) := by decide +kernel
theorem dX3_linear_9 : decode cX3_linear 9 = .ok (.aload_n 0, 1) := by decide +kernel
theorem dX3_linear_10 : decode cX3_linear 10 = .ok (.invokevirtual 132, 3) := by decide +kernel
theorem dX3_linear_13 : decode cX3_linear 13 = .ok (.ifCond .ne 6, 3) := by decide +kernel
theorem dX3_linear_16 : decode cX3_linear 16 = .ok (.bipush (-2), 2) := by decide +kernel
theorem dX3_linear_18 : decode cX3_linear 18 = .ok (.ireturn, 1) := by decide +kernel
theorem dX3_linear_19 : decode cX3_linear 19 = .ok (.iconst 0, 1) := by decide +kernel
theorem dX3_linear_20 : decode cX3_linear 20 = .ok (.istore_n 2, 1) := by decide +kernel
theorem dX3_linear_21 : decode cX3_linear 21 = .ok (.iconst 1, 1) := by decide +kernel
theorem dX3_linear_22 : decode cX3_linear 22 = .ok (.istore_n 3, 1) := by decide +kernel
theorem dX3_linear_23 : decode cX3_linear 23 = .ok (.iload_n 3, 1) := by decide +kernel
theorem dX3_linear_24 : decode cX3_linear 24 = .ok (.aload_n 0, 1) := by decide +kernel
theorem dX3_linear_25 : decode cX3_linear 25 = .ok (.getfield 42, 3) := by decide +kernel
theorem dX3_linear_28 : decode cX3_linear 28 = .ok (.if_icmp .ge 48, 3) := by decide +kernel
theorem dX3_linear_31 : decode cX3_linear 31 = .ok (.iconst 0, 1) := by decide +kernel
theorem dX3_linear_32 : decode cX3_linear 32 = .ok (.istore 4, 2) := by decide +kernel
theorem dX3_linear_34 : decode cX3_linear 34 = .ok (.iload 4, 2) := by decide +kernel
theorem dX3_linear_36 : decode cX3_linear 36 = .ok (.aload_n 0, 1) := by decide +kernel
theorem dX3_linear_37 : decode cX3_linear 37 = .ok (.getfield 42, 3) := by decide +kernel
theorem dX3_linear_40 : decode cX3_linear 40 = .ok (.if_icmp .ge 30, 3) := by decide +kernel
theorem dX3_linear_43 : decode cX3_linear 43 = .ok (.iload_n 2, 1) := by decide +kernel
theorem dX3_linear_44 : decode cX3_linear 44 = .ok (.aload_n 0, 1) := by decide +kernel
theorem dX3_linear_45 : decode cX3_linear 45 = .ok (.aload_n 0, 1) := by decide +kernel
theorem dX3_linear_46 : decode cX3_linear 46 = .ok (.getfield 17, 3) := by decide +kernel
theorem dX3_linear_49 : decode cX3_linear 49 = .ok (.iload_n 1, 1) := by decide +kernel
theorem dX3_linear_50 : decode cX3_linear 50 = .ok (.aaload, 1) := by decide +kernel
theorem dX3_linear_51 : decode cX3_linear 51 = .ok (.iload 4, 2) := by decide +kernel
theorem dX3_linear_53 : decode cX3_linear 53 = .ok (.iload_n 3, 1) := by decide +kernel
theorem dX3_linear_54 : decode cX3_linear 54 = .ok (.invokevirtual 137, 3) := by decide +kernel
theorem dX3_linear_57 : decode cX3_linear 57 = .ok (.invokestatic 140, 3) := by decide +kernel
theorem dX3_linear_60 : decode cX3_linear 60 = .ok (.invokestatic 145, 3) := by decide +kernel
theorem dX3_linear_63 : decode cX3_linear 63 = .ok (.istore_n 2, 1) := by decide +kernel
theorem dX3_linear_64 : decode cX3_linear 64 = .ok (.iinc 4 1, 3) := by decide +kernel
theorem dX3_linear_67 : decode cX3_linear 67 = .ok (.goto (-33), 3) := by decide +kernel
theorem dX3_linear_70 : decode cX3_linear 70 = .ok (.iinc 3 1, 3) := by decide +kernel
theorem dX3_linear_73 : decode cX3_linear 73 = .ok (.goto (-50), 3) := by decide +kernel
theorem dX3_linear_76 : decode cX3_linear 76 = .ok (.iload_n 2, 1) := by decide +kernel
theorem dX3_linear_77 : decode cX3_linear 77 = .ok (.ireturn, 1) := by decide +kernel
theorem dX3_like_0 : decode cX3_like 0 = .ok (.iload_n 1, 1) := by decide +kernel
theorem dX3_like_1 : decode cX3_like 1 = .ok (.invokestatic 64, 3) := by decide +kernel
theorem dX3_like_4 : decode cX3_like 4 = .ok (.ifCond .eq 10, 3) := by decide +kernel
theorem dX3_like_7 : decode cX3_like 7 = .ok (.iload_n 2, 1) := by decide +kernel
theorem dX3_like_8 : decode cX3_like 8 = .ok (.invokestatic 64, 3) := by decide +kernel
theorem dX3_like_11 : decode cX3_like 11 = .ok (.ifCond .ne 5, 3) := by decide +kernel
theorem dX3_like_14 : decode cX3_like 14 = .ok (.iconst (-1), 1) := by decide +kernel
theorem dX3_like_15 : decode cX3_like 15 = .ok (.ireturn, 1) := by decide +kernel
theorem dX3_like_16 : decode cX3_like 16 = .ok (.iconst 1, 1) := by decide +kernel
theorem dX3_like_17 : decode cX3_like 17 = .ok (.istore_n 3, 1) := by decide +kernel
theorem dX3_like_18 : decode cX3_like 18 = .ok (.iload_n 3, 1) := by decide +kernel
theorem dX3_like_19 : decode cX3_like 19 = .ok (.aload_n 0, 1) := by decide +kernel
theorem dX3_like_20 : decode cX3_like 20 = .ok (.getfield 42, 3) := by decide +kernel
theorem dX3_like_23 : decode cX3_like 23 = .ok (.if_icmp .ge 71, 3) := by decide +kernel
theorem dX3_like_26 : decode cX3_like 26 = .ok (.iconst 1, 1) := by decide +kernel
theorem dX3_like_27 : decode cX3_like 27 = .ok (.istore 4, 2) := by decide +kernel
theorem dX3_like_29 : decode cX3_like 29 = .ok (.iload 4, 2) := by decide +kernel
theorem dX3_like_31 : decode cX3_like 31 = .ok (.aload_n 0, 1) := by decide +kernel
theorem dX3_like_32 : decode cX3_like 32 = .ok (.getfield 42, 3) := by decide +kernel
theorem dX3_like_35 : decode cX3_like 35 = .ok (.if_icmp .ge 53, 3) := by decide +kernel
theorem dX3_like_38 : decode cX3_like 38 = .ok (.iconst 0, 1) := by decide +kernel
theorem dX3_like_39 : decode cX3_like 39 = .ok (.istore 5, 2) := by decide +kernel
theorem dX3_like_41 : decode cX3_like 41 = .ok (.iload 5, 2) := by decide +kernel
theorem dX3_like_43 : decode cX3_like 43 = .ok (.aload_n 0, 1) := by decide +kernel
theorem dX3_like_44 : decode cX3_like 44 = .ok (.getfield 42, 3) := by decide +kernel
theorem dX3_like_47 : decode cX3_like 47 = .ok (.if_icmp .ge 35, 3) := by decide +kernel
theorem dX3_like_50 : decode cX3_like 50 = .ok (.aload_n 0, 1) := by decide +kernel
theorem dX3_like_51 : decode cX3_like 51 = .ok (.aload_n 0, 1) := by decide +kernel
theorem dX3_like_52 : decode cX3_like 52 = .ok (.getfield 17, 3) := by decide +kernel
theorem dX3_like_55 : decode cX3_like 55 = .ok (.iload_n 1, 1) := by decide +kernel
theorem dX3_like_56 : decode cX3_like 56 = .ok (.aaload, 1) := by decide +kernel
theorem dX3_like_57 : decode cX3_like 57 = .ok (.aload_n 0, 1) := by decide +kernel
theorem dX3_like_58 : decode cX3_like 58 = .ok (.getfield 17, 3) := by decide +kernel
theorem dX3_like_61 : decode cX3_like 61 = .ok (.iload_n 2, 1) := by decide +kernel
theorem dX3_like_62 : decode cX3_like 62 = .ok (.aaload, 1) := by decide +kernel
theorem dX3_like_63 : decode cX3_like 63 = .ok (.iload_n 3, 1) := by decide +kernel
theorem dX3_like_64 : decode cX3_like 64 = .ok (.iload 4, 2) := by decide +kernel
theorem dX3_like_66 : decode cX3_like 66 = .ok (.iload 5, 2) := by decide +kernel
theorem dX3_like_68 : decode cX3_like 68 = .ok (.invokevirtual 148, 3) := by decide +kernel
theorem dX3_like_71 : decode cX3_like 71 = .ok (.ifCond .eq 5, 3) := by decide +kernel
theorem dX3_like_74 : decode cX3_like 74 = .ok (.iconst 1, 1) := by decide +kernel
theorem dX3_like_75 : decode cX3_like 75 = .ok (.ireturn, 1) := by decide +kernel
theorem dX3_like_76 : decode cX3_like 76 = .ok (.iinc 5 1, 3) := by decide +kernel
theorem dX3_like_79 : decode cX3_like 79 = .ok (.goto (-38), 3) := by decide +kernel
theorem dX3_like_82 : decode cX3_like 82 = .ok (.iinc 4 1, 3) := by decide +kernel
theorem dX3_like_85 : decode cX3_like 85 = .ok (.goto (-56), 3) := by decide +kernel
theorem dX3_like_88 : decode cX3_like 88 = .ok (.iinc 3 1, 3) := by decide +kernel
theorem dX3_like_91 : decode cX3_like 91 = .ok (.goto (-73), 3) := by decide +kernel
theorem dX3_like_94 : decode cX3_like 94 = .ok (.iconst 0, 1) := by decide +kernel
theorem dX3_like_95 : decode cX3_like 95 = .ok (.ireturn, 1) := by decide +kernel
theorem dX3_least_0 : decode cX3_least 0 = .ok (.iload_n 1, 1) := by decide +kernel
theorem dX3_least_1 : decode cX3_least 1 = .ok (.invokestatic 64, 3) := by decide +kernel
theorem dX3_least_4 : decode cX3_least 4 = .ok (.ifCond .ne 5, 3) := by decide +kernel
theorem dX3_least_7 : decode cX3_least 7 = .ok (.iconst (-1), 1) := by decide +kernel
theorem dX3_least_8 : decode cX3_least 8 = .ok (.ireturn, 1) := by decide +kernel
theorem dX3_least_9 : decode cX3_least 9 = .ok (.aload_n 0, 1) := by decide +kernel
theorem dX3_least_10 : decode cX3_least 10 = .ok (.getfield 20, 3) := by decide +kernel
theorem dX3_least_13 : decode cX3_least 13 = .ok (.aload_n 0, 1) := by decide +kernel
theorem dX3_least_14 : decode cX3_least 14 = .ok (.getfield 42, 3) := by decide +kernel
theorem dX3_least_17 : decode cX3_least 17 = .ok (.invokestatic 106, 3) := by decide +kernel
theorem dX3_least_20 : decode cX3_least 20 = .ok (.iconst 1, 1) := by decide +kernel
theorem dX3_least_21 : decode cX3_least 21 = .ok (.istore_n 2, 1) := by decide +kernel
theorem dX3_least_22 : decode cX3_least 22 = .ok (.iload_n 2, 1) := by decide +kernel
theorem dX3_least_23 : decode cX3_least 23 = .ok (.aload_n 0, 1) := by decide +kernel
theorem dX3_least_24 : decode cX3_least 24 = .ok (.getfield 42, 3) := by decide +kernel
theorem dX3_least_27 : decode cX3_least 27 = .ok (.if_icmp .ge 57, 3) := by decide +kernel
theorem dX3_least_30 : decode cX3_least 30 = .ok (.iconst 1, 1) := by decide +kernel
theorem dX3_least_31 : decode cX3_least 31 = .ok (.istore_n 3, 1) := by decide +kernel
theorem dX3_least_32 : decode cX3_least 32 = .ok (.iload_n 3, 1) := by decide +kernel
theorem dX3_least_33 : decode cX3_least 33 = .ok (.aload_n 0, 1) := by decide +kernel
theorem dX3_least_34 : decode cX3_least 34 = .ok (.getfield 42, 3) := by decide +kernel
theorem dX3_least_37 : decode cX3_least 37 = .ok (.if_icmp .ge 41, 3) := by decide +kernel
theorem dX3_least_40 : decode cX3_least 40 = .ok (.iconst 0, 1) := by decide +kernel
theorem dX3_least_41 : decode cX3_least 41 = .ok (.istore 4, 2) := by decide +kernel
theorem dX3_least_43 : decode cX3_least 43 = .ok (.iload 4, 2) := by decide +kernel
theorem dX3_least_45 : decode cX3_least 45 = .ok (.aload_n 0, 1) := by decide +kernel
theorem dX3_least_46 : decode cX3_least 46 = .ok (.getfield 42, 3) := by decide +kernel
theorem dX3_least_49 : decode cX3_least 49 = .ok (.if_icmp .ge 23, 3) := by decide +kernel
theorem dX3_least_52 : decode cX3_least 52 = .ok (.aload_n 0, 1) := by decide +kernel
theorem dX3_least_53 : decode cX3_least 53 = .ok (.aload_n 0, 1) := by decide +kernel
theorem dX3_least_54 : decode cX3_least 54 = .ok (.getfield 17, 3) := by decide +kernel
theorem dX3_least_57 : decode cX3_least 57 = .ok (.iload_n 1, 1) := by decide +kernel
theorem dX3_least_58 : decode cX3_least 58 = .ok (.aaload, 1) := by decide +kernel
theorem dX3_least_59 : decode cX3_least 59 = .ok (.iload_n 2, 1) := by decide +kernel
theorem dX3_least_60 : decode cX3_least 60 = .ok (.iload_n 3, 1) := by decide +kernel
theorem dX3_least_61 : decode cX3_least 61 = .ok (.iload 4, 2) := by decide +kernel
theorem dX3_least_63 : decode cX3_least 63 = .ok (.invokevirtual 152, 3) := by decide +kernel
theorem dX3_least_66 : decode cX3_least 66 = .ok (.iinc 4 1, 3) := by decide +kernel
theorem dX3_least_69 : decode cX3_least 69 = .ok (.goto (-26), 3) := by decide +kernel
theorem dX3_least_72 : decode cX3_least 72 = .ok (.iinc 3 1, 3) := by decide +kernel
theorem dX3_least_75 : decode cX3_least 75 = .ok (.goto (-43), 3) := by decide +kernel
theorem dX3_least_78 : decode cX3_least 78 = .ok (.iinc 2 1, 3) := by decide +kernel
theorem dX3_least_81 : decode cX3_least 81 = .ok (.goto (-59), 3) := by decide +kernel
theorem dX3_least_84 : decode cX3_least 84 = .ok (.aload_n 0, 1) := by decide +kernel
theorem dX3_least_85 : decode cX3_least 85 = .ok (.iload_n 1, 1) := by decide +kernel
theorem dX3_least_86 : decode cX3_least 86 = .ok (.invokevirtual 95, 3) := by decide +kernel
theorem dX3_least_89 : decode cX3_least 89 = .ok (.iconst 1, 1) := by decide +kernel
theorem dX3_least_90 : decode cX3_least 90 = .ok (.ireturn, 1) := by decide +kernel
theorem dX3_many_0 : decode cX3_many 0 = .ok (.iload_n 1, 1) := by decide +kernel
theorem dX3_many_1 : decode cX3_many 1 = .ok (.invokestatic 156, 3) := by decide +kernel
theorem dX3_many_4 : decode cX3_many 4 = .ok (.ifCond .ne 5, 3) := by decide +kernel
theorem dX3_many_7 : decode cX3_many 7 = .ok (.iconst (-1), 1) := by decide +kernel
theorem dX3_many_8 : decode cX3_many 8 = .ok (.ireturn, 1) := by decide +kernel
theorem dX3_many_9 : decode cX3_many 9 = .ok (.aload_n 0, 1) := by decide +kernel
theorem dX3_many_10 : decode cX3_many 10 = .ok (.getfield 49, 3) := by decide +kernel
theorem dX3_many_13 : decode cX3_many 13 = .ok (.iload_n 1, 1) := by decide +kernel
theorem dX3_many_14 : decode cX3_many 14 = .ok (.invokevirtual 159, 3) := by decide +kernel
theorem dX3_many_17 : decode cX3_many 17 = .ok (.sipush 5000, 3) := by decide +kernel
theorem dX3_many_20 : decode cX3_many 20 = .ok (.if_icmp .le 6, 3) := by decide +kernel
theorem dX3_many_23 : decode cX3_many 23 = .ok (.bipush (-3), 2) := by decide +kernel
theorem dX3_many_25 : decode cX3_many 25 = .ok (.ireturn, 1) := by decide +kernel
theorem dX3_many_26 : decode cX3_many 26 = .ok (.aload_n 0, 1) := by decide +kernel
theorem dX3_many_27 : decode cX3_many 27 = .ok (.getfield 49, 3) := by decide +kernel
theorem dX3_many_30 : decode cX3_many 30 = .ok (.iload_n 1, 1) := by decide +kernel
theorem dX3_many_31 : decode cX3_many 31 = .ok (.invokevirtual 162, 3) := by decide +kernel
theorem dX3_many_34 : decode cX3_many 34 = .ok (.getfield 166, 3) := by decide +kernel
theorem dX3_many_37 : decode cX3_many 37 = .ok (.ireturn, 1) := by decide +kernel
theorem dX3_pick_0 : decode cX3_pick 0 = .ok (.iload_n 1, 1) := by decide +kernel
theorem dX3_pick_1 : decode cX3_pick 1 = .ok (.invokestatic 64, 3) := by decide +kernel
theorem dX3_pick_4 : decode cX3_pick 4 = .ok (.ifCond .eq 14, 3) := by decide +kernel
theorem dX3_pick_7 : decode cX3_pick 7 = .ok (.iload_n 2, 1) := by decide +kernel
theorem dX3_pick_8 : decode cX3_pick 8 = .ok (.invokestatic 156, 3) := by decide +kernel
theorem dX3_pick_11 : decode cX3_pick 11 = .ok (.ifCond .eq 7, 3) := by decide +kernel
theorem dX3_pick_14 : decode cX3_pick 14 = .ok (.iload_n 3, 1) := by decide +kernel
theorem dX3_pick_15 : decode cX3_pick 15 = .ok (.ifCond .ge 5, 3) := by decide +kernel
theorem dX3_pick_18 : decode cX3_pick 18 = .ok (.iconst (-1), 1) := by decide +kernel
theorem dX3_pick_19 : decode cX3_pick 19 = .ok (.ireturn, 1) := by decide +kernel
theorem dX3_pick_20 : decode cX3_pick 20 = .ok (.aload_n 0, 1) := by decide +kernel
theorem dX3_pick_21 : decode cX3_pick 21 = .ok (.getfield 49, 3) := by decide +kernel
theorem dX3_pick_24 : decode cX3_pick 24 = .ok (.iload_n 2, 1) := by decide +kernel
theorem dX3_pick_25 : decode cX3_pick 25 = .ok (.invokevirtual 159, 3) := by decide +kernel
theorem dX3_pick_28 : decode cX3_pick 28 = .ok (.sipush 5000, 3) := by decide +kernel
theorem dX3_pick_31 : decode cX3_pick 31 = .ok (.if_icmp .le 6, 3) := by decide +kernel
theorem dX3_pick_34 : decode cX3_pick 34 = .ok (.bipush (-3), 2) := by decide +kernel
theorem dX3_pick_36 : decode cX3_pick 36 = .ok (.ireturn, 1) := by decide +kernel
theorem dX3_pick_37 : decode cX3_pick 37 = .ok (.aload_n 0, 1) := by decide +kernel
theorem dX3_pick_38 : decode cX3_pick 38 = .ok (.getfield 49, 3) := by decide +kernel
theorem dX3_pick_41 : decode cX3_pick 41 = .ok (.iload_n 2, 1) := by decide +kernel
theorem dX3_pick_42 : decode cX3_pick 42 = .ok (.invokevirtual 162, 3) := by decide +kernel
theorem dX3_pick_45 : decode cX3_pick 45 = .ok (.astore 4, 2) := by decide +kernel
theorem dX3_pick_47 : decode cX3_pick 47 = .ok (.iload_n 3, 1) := by decide +kernel
theorem dX3_pick_48 : decode cX3_pick 48 = .ok (.aload 4, 2) := by decide +kernel
theorem dX3_pick_50 : decode cX3_pick 50 = .ok (.getfield 166, 3) := by decide +kernel
theorem dX3_pick_53 : decode cX3_pick 53 = .ok (.if_icmp .lt 5, 3) := by decide +kernel
theorem dX3_pick_56 : decode cX3_pick 56 = .ok (.iconst (-1), 1) := by decide +kernel
theorem dX3_pick_57 : decode cX3_pick 57 = .ok (.ireturn, 1) := by decide +kernel
theorem dX3_pick_58 : decode cX3_pick 58 = .ok (.aload 4, 2) := by decide +kernel
theorem dX3_pick_60 : decode cX3_pick 60 = .ok (.getfield 171, 3) := by decide +kernel
theorem dX3_pick_63 : decode cX3_pick 63 = .ok (.iload_n 3, 1) := by decide +kernel
theorem dX3_pick_64 : decode cX3_pick 64 = .ok (.iaload, 1) := by decide +kernel
theorem dX3_pick_65 : decode cX3_pick 65 = .ok (.istore 5, 2) := by decide +kernel
theorem dX3_pick_67 : decode cX3_pick 67 = .ok (.aload_n 0, 1) := by decide +kernel
theorem dX3_pick_68 : decode cX3_pick 68 = .ok (.getfield 49, 3) := by decide +kernel
theorem dX3_pick_71 : decode cX3_pick 71 = .ok (.iload_n 2, 1) := by decide +kernel
theorem dX3_pick_72 : decode cX3_pick 72 = .ok (.iload 5, 2) := by decide +kernel
theorem dX3_pick_74 : decode cX3_pick 74 = .ok (.invokevirtual 174, 3) := by decide +kernel
theorem dX3_pick_77 : decode cX3_pick 77 = .ok (.iconst 0, 1) := by decide +kernel
theorem dX3_pick_78 : decode cX3_pick 78 = .ok (.istore 6, 2) := by decide +kernel
theorem dX3_pick_80 : decode cX3_pick 80 = .ok (.iload 6, 2) := by decide +kernel
theorem dX3_pick_82 : decode cX3_pick 82 = .ok (.aload_n 0, 1) := by decide +kernel
theorem dX3_pick_83 : decode cX3_pick 83 = .ok (.getfield 42, 3) := by decide +kernel
theorem dX3_pick_86 : decode cX3_pick 86 = .ok (.if_icmp .ge 28, 3) := by decide +kernel
theorem dX3_pick_89 : decode cX3_pick 89 = .ok (.aload_n 0, 1) := by decide +kernel
theorem dX3_pick_90 : decode cX3_pick 90 = .ok (.getfield 17, 3) := by decide +kernel
theorem dX3_pick_93 : decode cX3_pick 93 = .ok (.iload_n 1, 1) := by decide +kernel
theorem dX3_pick_94 : decode cX3_pick 94 = .ok (.aaload, 1) := by decide +kernel
theorem dX3_pick_95 : decode cX3_pick 95 = .ok (.iload 6, 2) := by decide +kernel
theorem dX3_pick_97 : decode cX3_pick 97 = .ok (.aload_n 0, 1) := by decide +kernel
theorem dX3_pick_98 : decode cX3_pick 98 = .ok (.getfield 49, 3) := by decide +kernel
theorem dX3_pick_101 : decode cX3_pick 101 = .ok (.iload_n 2, 1) := by decide +kernel
theorem dX3_pick_102 : decode cX3_pick 102 = .ok (.iload 6, 2) := by decide +kernel
theorem dX3_pick_104 : decode cX3_pick 104 = .ok (.invokevirtual 178, 3) := by decide +kernel
theorem dX3_pick_107 : decode cX3_pick 107 = .ok (.iastore, 1) := by decide +kernel
theorem dX3_pick_108 : decode cX3_pick 108 = .ok (.iinc 6 1, 3) := by decide +kernel
theorem dX3_pick_111 : decode cX3_pick 111 = .ok (.goto (-31), 3) := by decide +kernel
theorem dX3_pick_114 : decode cX3_pick 114 = .ok (.iload 5, 2) := by decide +kernel
theorem dX3_pick_116 : decode cX3_pick 116 = .ok (.ireturn, 1) := by decide +kernel
theorem dX3_count_0 : decode cX3_count 0 = .ok (.iload_n 1, 1) := by decide +kernel
theorem dX3_count_1 : decode cX3_count 1 = .ok (.tableswitch 45 0 2 #[27, 32, 40], 27) := by decide +kernel
theorem dX3_count_28 : decode cX3_count 28 = .ok (.aload_n 0, 1) := by decide +kernel
theorem dX3_count_29 : decode cX3_count 29 = .ok (.getfield 42, 3) := by decide +kernel
theorem dX3_count_32 : decode cX3_count 32 = .ok (.ireturn, 1) := by decide +kernel
theorem dX3_count_33 : decode cX3_count 33 = .ok (.aload_n 0, 1) := by decide +kernel
theorem dX3_count_34 : decode cX3_count 34 = .ok (.getfield 49, 3) := by decide +kernel
theorem dX3_count_37 : decode cX3_count 37 = .ok (.getfield 181, 3) := by decide +kernel
theorem dX3_count_40 : decode cX3_count 40 = .ok (.ireturn, 1) := by decide +kernel
theorem dX3_count_41 : decode cX3_count 41 = .ok (.aload_n 0, 1) := by decide +kernel
theorem dX3_count_42 : decode cX3_count 42 = .ok (.invokevirtual 184, 3) := by decide +kernel
theorem dX3_count_45 : decode cX3_count 45 = .ok (.ireturn, 1) := by decide +kernel
theorem dX3_count_46 : decode cX3_count 46 = .ok (.iconst (-1), 1) := by decide +kernel
theorem dX3_count_47 : decode cX3_count 47 = .ok (.ireturn, 1) := by decide +kernel
theorem dX3_trace_0 : decode cX3_trace 0 = .ok (.aload_n 0, 1) := by decide +kernel
theorem dX3_trace_1 : decode cX3_trace 1 = .ok (.getfield 89, 3) := by decide +kernel
theorem dX3_trace_4 : decode cX3_trace 4 = .ok (.lreturn, 1) := by decide +kernel
theorem dX3_isFieldSize_0 : decode cX3_isFieldSize 0 = .ok (.iload_n 0, 1) := by decide +kernel
theorem dX3_isFieldSize_1 : decode cX3_isFieldSize 1 = .ok (.tableswitch 77 2 16 #[75, 75, 75, 75, 77, 75, 75, 75, 77, 75, 77, 75, 77, 77, 75], 75) := by decide +kernel
theorem dX3_isFieldSize_76 : decode cX3_isFieldSize 76 = .ok (.iconst 1, 1) := by decide +kernel
theorem dX3_isFieldSize_77 : decode cX3_isFieldSize 77 = .ok (.ireturn, 1) := by decide +kernel
theorem dX3_isFieldSize_78 : decode cX3_isFieldSize 78 = .ok (.iconst 0, 1) := by decide +kernel
theorem dX3_isFieldSize_79 : decode cX3_isFieldSize 79 = .ok (.ireturn, 1) := by decide +kernel
theorem dX3_isMap_0 : decode cX3_isMap 0 = .ok (.iload_n 0, 1) := by decide +kernel
theorem dX3_isMap_1 : decode cX3_isMap 1 = .ok (.ifCond .lt 12, 3) := by decide +kernel
theorem dX3_isMap_4 : decode cX3_isMap 4 = .ok (.iload_n 0, 1) := by decide +kernel
theorem dX3_isMap_5 : decode cX3_isMap 5 = .ok (.iconst 4, 1) := by decide +kernel
theorem dX3_isMap_6 : decode cX3_isMap 6 = .ok (.if_icmp .ge 7, 3) := by decide +kernel
theorem dX3_isMap_9 : decode cX3_isMap 9 = .ok (.iconst 1, 1) := by decide +kernel
theorem dX3_isMap_10 : decode cX3_isMap 10 = .ok (.goto 4, 3) := by decide +kernel
theorem dX3_isMap_13 : decode cX3_isMap 13 = .ok (.iconst 0, 1) := by decide +kernel
theorem dX3_isMap_14 : decode cX3_isMap 14 = .ok (.ireturn, 1) := by decide +kernel
theorem dX3_isListDegree_0 : decode cX3_isListDegree 0 = .ok (.iload_n 0, 1) := by decide +kernel
theorem dX3_isListDegree_1 : decode cX3_isListDegree 1 = .ok (.iconst 1, 1) := by decide +kernel
theorem dX3_isListDegree_2 : decode cX3_isListDegree 2 = .ok (.if_icmp .lt 12, 3) := by decide +kernel
theorem dX3_isListDegree_5 : decode cX3_isListDegree 5 = .ok (.iload_n 0, 1) := by decide +kernel
theorem dX3_isListDegree_6 : decode cX3_isListDegree 6 = .ok (.iconst 5, 1) := by decide +kernel
theorem dX3_isListDegree_7 : decode cX3_isListDegree 7 = .ok (.if_icmp .gt 7, 3) := by decide +kernel
theorem dX3_isListDegree_10 : decode cX3_isListDegree 10 = .ok (.iconst 1, 1) := by decide +kernel
theorem dX3_isListDegree_11 : decode cX3_isListDegree 11 = .ok (.goto 4, 3) := by decide +kernel
theorem dX3_isListDegree_14 : decode cX3_isListDegree 14 = .ok (.iconst 0, 1) := by decide +kernel
theorem dX3_isListDegree_15 : decode cX3_isListDegree 15 = .ok (.ireturn, 1) := by decide +kernel
theorem dX3_isNumber_0 : decode cX3_isNumber 0 = .ok (.iload_n 1, 1) := by decide +kernel
theorem dX3_isNumber_1 : decode cX3_isNumber 1 = .ok (.ifCond .lt 15, 3) := by decide +kernel
theorem dX3_isNumber_4 : decode cX3_isNumber 4 = .ok (.iload_n 1, 1) := by decide +kernel
theorem dX3_isNumber_5 : decode cX3_isNumber 5 = .ok (.aload_n 0, 1) := by decide +kernel
theorem dX3_isNumber_6 : decode cX3_isNumber 6 = .ok (.getfield 42, 3) := by decide +kernel
theorem dX3_isNumber_9 : decode cX3_isNumber 9 = .ok (.if_icmp .ge 7, 3) := by decide +kernel
theorem dX3_isNumber_12 : decode cX3_isNumber 12 = .ok (.iconst 1, 1) := by decide +kernel
theorem dX3_isNumber_13 : decode cX3_isNumber 13 = .ok (.goto 4, 3) := by decide +kernel
theorem dX3_isNumber_16 : decode cX3_isNumber 16 = .ok (.iconst 0, 1) := by decide +kernel
theorem dX3_isNumber_17 : decode cX3_isNumber 17 = .ok (.ireturn, 1) := by decide +kernel
theorem dX3_isRecipe_0 : decode cX3_isRecipe 0 = .ok (.iload_n 1, 1) := by decide +kernel
theorem dX3_isRecipe_1 : decode cX3_isRecipe 1 = .ok (.ifCond .lt 20, 3) := by decide +kernel
theorem dX3_isRecipe_4 : decode cX3_isRecipe 4 = .ok (.iload_n 1, 1) := by decide +kernel
theorem dX3_isRecipe_5 : decode cX3_isRecipe 5 = .ok (.iconst 2, 1) := by decide +kernel
theorem dX3_isRecipe_6 : decode cX3_isRecipe 6 = .ok (.if_icmp .gt 15, 3) := by decide +kernel
theorem dX3_isRecipe_9 : decode cX3_isRecipe 9 = .ok (.iload_n 2, 1) := by decide +kernel
theorem dX3_isRecipe_10 : decode cX3_isRecipe 10 = .ok (.iconst 1, 1) := by decide +kernel
theorem dX3_isRecipe_11 : decode cX3_isRecipe 11 = .ok (.if_icmp .lt 10, 3) := by decide +kernel
theorem dX3_isRecipe_14 : decode cX3_isRecipe 14 = .ok (.iload_n 2, 1) := by decide +kernel
theorem dX3_isRecipe_15 : decode cX3_isRecipe 15 = .ok (.sipush 255, 3) := by decide +kernel
theorem dX3_isRecipe_18 : decode cX3_isRecipe 18 = .ok (.if_icmp .le 5, 3) := by decide +kernel
theorem dX3_isRecipe_21 : decode cX3_isRecipe 21 = .ok (.iconst 0, 1) := by decide +kernel
theorem dX3_isRecipe_22 : decode cX3_isRecipe 22 = .ok (.ireturn, 1) := by decide +kernel
theorem dX3_isRecipe_23 : decode cX3_isRecipe 23 = .ok (.iload_n 1, 1) := by decide +kernel
theorem dX3_isRecipe_24 : decode cX3_isRecipe 24 = .ok (.ifCond .eq 29, 3) := by decide +kernel
theorem dX3_isRecipe_27 : decode cX3_isRecipe 27 = .ok (.aload_n 0, 1) := by decide +kernel
theorem dX3_isRecipe_28 : decode cX3_isRecipe 28 = .ok (.iload_n 3, 1) := by decide +kernel
theorem dX3_isRecipe_29 : decode cX3_isRecipe 29 = .ok (.invokevirtual 46, 3) := by decide +kernel
theorem dX3_isRecipe_32 : decode cX3_isRecipe 32 = .ok (.ifCond .eq 25, 3) := by decide +kernel
theorem dX3_isRecipe_35 : decode cX3_isRecipe 35 = .ok (.aload_n 0, 1) := by decide +kernel
theorem dX3_isRecipe_36 : decode cX3_isRecipe 36 = .ok (.iload 4, 2) := by decide +kernel
theorem dX3_isRecipe_38 : decode cX3_isRecipe 38 = .ok (.invokevirtual 46, 3) := by decide +kernel
theorem dX3_isRecipe_41 : decode cX3_isRecipe 41 = .ok (.ifCond .eq 16, 3) := by decide +kernel
theorem dX3_isRecipe_44 : decode cX3_isRecipe 44 = .ok (.aload_n 0, 1) := by decide +kernel
theorem dX3_isRecipe_45 : decode cX3_isRecipe 45 = .ok (.iload 5, 2) := by decide +kernel
theorem dX3_isRecipe_47 : decode cX3_isRecipe 47 = .ok (.invokevirtual 46, 3) := by decide +kernel
theorem dX3_isRecipe_50 : decode cX3_isRecipe 50 = .ok (.ifCond .eq 7, 3) := by decide +kernel
theorem dX3_isRecipe_53 : decode cX3_isRecipe 53 = .ok (.iconst 1, 1) := by decide +kernel
theorem dX3_isRecipe_54 : decode cX3_isRecipe 54 = .ok (.goto 4, 3) := by decide +kernel
theorem dX3_isRecipe_57 : decode cX3_isRecipe 57 = .ok (.iconst 0, 1) := by decide +kernel
theorem dX3_isRecipe_58 : decode cX3_isRecipe 58 = .ok (.ireturn, 1) := by decide +kernel
theorem dX3_hasBits_0 : decode cX3_hasBits 0 = .ok (.aload_n 0, 1) := by decide +kernel
theorem dX3_hasBits_1 : decode cX3_hasBits 1 = .ok (.getfield 49, 3) := by decide +kernel
theorem dX3_hasBits_4 : decode cX3_hasBits 4 = .ok (.getfield 181, 3) := by decide +kernel
theorem dX3_hasBits_7 : decode cX3_hasBits 7 = .ok (.iconst 2, 1) := by decide +kernel
theorem dX3_hasBits_8 : decode cX3_hasBits 8 = .ok (.if_icmp .ne 7, 3) := by decide +kernel
theorem dX3_hasBits_11 : decode cX3_hasBits 11 = .ok (.iconst 1, 1) := by decide +kernel
theorem dX3_hasBits_12 : decode cX3_hasBits 12 = .ok (.goto 4, 3) := by decide +kernel
theorem dX3_hasBits_15 : decode cX3_hasBits 15 = .ok (.iconst 0, 1) := by decide +kernel
theorem dX3_hasBits_16 : decode cX3_hasBits 16 = .ok (.ireturn, 1) := by decide +kernel
theorem dX3_truth_0 : decode cX3_truth 0 = .ok (.iload_n 0, 1) := by decide +kernel
theorem dX3_truth_1 : decode cX3_truth 1 = .ok (.ifCond .eq 7, 3) := by decide +kernel
theorem dX3_truth_4 : decode cX3_truth 4 = .ok (.iconst 1, 1) := by decide +kernel
theorem dX3_truth_5 : decode cX3_truth 5 = .ok (.goto 4, 3) := by decide +kernel
theorem dX3_truth_8 : decode cX3_truth 8 = .ok (.iconst 0, 1) := by decide +kernel
theorem dX3_truth_9 : decode cX3_truth 9 = .ok (.ireturn, 1) := by decide +kernel
theorem dX3_enter_0 : decode cX3_enter 0 = .ok (.aload_n 0, 1) := by decide +kernel
theorem dX3_enter_1 : decode cX3_enter 1 = .ok (.getfield 11, 3) := by decide +kernel
theorem dX3_enter_4 : decode cX3_enter 4 = .ok (.iload_n 1, 1) := by decide +kernel
theorem dX3_enter_5 : decode cX3_enter 5 = .ok (.aaload, 1) := by decide +kernel
theorem dX3_enter_6 : decode cX3_enter 6 = .ok (.ifnonnull 17, 3) := by decide +kernel
theorem dX3_enter_9 : decode cX3_enter 9 = .ok (.aload_n 0, 1) := by decide +kernel
theorem dX3_enter_10 : decode cX3_enter 10 = .ok (.getfield 11, 3) := by decide +kernel
theorem dX3_enter_13 : decode cX3_enter 13 = .ok (.iload_n 1, 1) := by decide +kernel
theorem dX3_enter_14 : decode cX3_enter 14 = .ok (.new 9, 3) := by decide +kernel
theorem dX3_enter_17 : decode cX3_enter 17 = .ok (.dup, 1) := by decide +kernel
theorem dX3_enter_18 : decode cX3_enter 18 = .ok (.iload_n 1, 1) := by decide +kernel
theorem dX3_enter_19 : decode cX3_enter 19 = .ok (.invokespecial 188, 3) := by decide +kernel
theorem dX3_enter_22 : decode cX3_enter 22 = .ok (.aastore, 1) := by decide +kernel
theorem dX3_enter_23 : decode cX3_enter 23 = .ok (.aload_n 0, 1) := by decide +kernel
theorem dX3_enter_24 : decode cX3_enter 24 = .ok (.aload_n 0, 1) := by decide +kernel
theorem dX3_enter_25 : decode cX3_enter 25 = .ok (.getfield 11, 3) := by decide +kernel
theorem dX3_enter_28 : decode cX3_enter 28 = .ok (.iload_n 1, 1) := by decide +kernel
theorem dX3_enter_29 : decode cX3_enter 29 = .ok (.aaload, 1) := by decide +kernel
theorem dX3_enter_30 : decode cX3_enter 30 = .ok (.putfield 49, 3) := by decide +kernel
theorem dX3_enter_33 : decode cX3_enter 33 = .ok (.aload_n 0, 1) := by decide +kernel
theorem dX3_enter_34 : decode cX3_enter 34 = .ok (.iload_n 1, 1) := by decide +kernel
theorem dX3_enter_35 : decode cX3_enter 35 = .ok (.putfield 42, 3) := by decide +kernel
theorem dX3_enter_38 : decode cX3_enter 38 = .ok (.iconst 0, 1) := by decide +kernel
theorem dX3_enter_39 : decode cX3_enter 39 = .ok (.istore_n 2, 1) := by decide +kernel
theorem dX3_enter_40 : decode cX3_enter 40 = .ok (.iload_n 2, 1) := by decide +kernel
theorem dX3_enter_41 : decode cX3_enter 41 = .ok (.iconst 4, 1) := by decide +kernel
theorem dX3_enter_42 : decode cX3_enter 42 = .ok (.if_icmp .ge 34, 3) := by decide +kernel
theorem dX3_enter_45 : decode cX3_enter 45 = .ok (.iconst 0, 1) := by decide +kernel
theorem dX3_enter_46 : decode cX3_enter 46 = .ok (.istore_n 3, 1) := by decide +kernel
theorem dX3_enter_47 : decode cX3_enter 47 = .ok (.iload_n 3, 1) := by decide +kernel
theorem dX3_enter_48 : decode cX3_enter 48 = .ok (.aload_n 0, 1) := by decide +kernel
theorem dX3_enter_49 : decode cX3_enter 49 = .ok (.getfield 42, 3) := by decide +kernel
theorem dX3_enter_52 : decode cX3_enter 52 = .ok (.if_icmp .ge 18, 3) := by decide +kernel
theorem dX3_enter_55 : decode cX3_enter 55 = .ok (.aload_n 0, 1) := by decide +kernel
theorem dX3_enter_56 : decode cX3_enter 56 = .ok (.getfield 17, 3) := by decide +kernel
theorem dX3_enter_59 : decode cX3_enter 59 = .ok (.iload_n 2, 1) := by decide +kernel
theorem dX3_enter_60 : decode cX3_enter 60 = .ok (.aaload, 1) := by decide +kernel
theorem dX3_enter_61 : decode cX3_enter 61 = .ok (.iload_n 3, 1) := by decide +kernel
theorem dX3_enter_62 : decode cX3_enter 62 = .ok (.iload_n 3, 1) := by decide +kernel
theorem dX3_enter_63 : decode cX3_enter 63 = .ok (.iastore, 1) := by decide +kernel
theorem dX3_enter_64 : decode cX3_enter 64 = .ok (.iinc 3 1, 3) := by decide +kernel
theorem dX3_enter_67 : decode cX3_enter 67 = .ok (.goto (-20), 3) := by decide +kernel
theorem dX3_enter_70 : decode cX3_enter 70 = .ok (.iinc 2 1, 3) := by decide +kernel
theorem dX3_enter_73 : decode cX3_enter 73 = .ok (.goto (-33), 3) := by decide +kernel
theorem dX3_enter_76 : decode cX3_enter 76 = .ok (.return_, 1) := by decide +kernel
theorem dX3_putSpare_0 : decode cX3_putSpare 0 = .ok (.aload_n 0, 1) := by decide +kernel
theorem dX3_putSpare_1 : decode cX3_putSpare 1 = .ok (.getfield 20, 3) := by decide +kernel
theorem dX3_putSpare_4 : decode cX3_putSpare 4 = .ok (.iconst 0, 1) := by decide +kernel
theorem dX3_putSpare_5 : decode cX3_putSpare 5 = .ok (.aload_n 0, 1) := by decide +kernel
theorem dX3_putSpare_6 : decode cX3_putSpare 6 = .ok (.getfield 17, 3) := by decide +kernel
theorem dX3_putSpare_9 : decode cX3_putSpare 9 = .ok (.iload_n 1, 1) := by decide +kernel
theorem dX3_putSpare_10 : decode cX3_putSpare 10 = .ok (.aaload, 1) := by decide +kernel
theorem dX3_putSpare_11 : decode cX3_putSpare 11 = .ok (.iconst 0, 1) := by decide +kernel
theorem dX3_putSpare_12 : decode cX3_putSpare 12 = .ok (.aload_n 0, 1) := by decide +kernel
theorem dX3_putSpare_13 : decode cX3_putSpare 13 = .ok (.getfield 42, 3) := by decide +kernel
theorem dX3_putSpare_16 : decode cX3_putSpare 16 = .ok (.invokestatic 190, 3) := by decide +kernel
theorem dX3_putSpare_19 : decode cX3_putSpare 19 = .ok (.return_, 1) := by decide +kernel
theorem dX3_shufflingMaps_0 : decode cX3_shufflingMaps 0 = .ok (.iconst 0, 1) := by decide +kernel
theorem dX3_shufflingMaps_1 : decode cX3_shufflingMaps 1 = .ok (.istore_n 1, 1) := by decide +kernel
theorem dX3_shufflingMaps_2 : decode cX3_shufflingMaps 2 = .ok (.iconst 0, 1) := by decide +kernel
theorem dX3_shufflingMaps_3 : decode cX3_shufflingMaps 3 = .ok (.istore_n 2, 1) := by decide +kernel
theorem dX3_shufflingMaps_4 : decode cX3_shufflingMaps 4 = .ok (.iload_n 2, 1) := by decide +kernel
theorem dX3_shufflingMaps_5 : decode cX3_shufflingMaps 5 = .ok (.iconst 4, 1) := by decide +kernel
theorem dX3_shufflingMaps_6 : decode cX3_shufflingMaps 6 = .ok (.if_icmp .ge 25, 3) := by decide +kernel
theorem dX3_shufflingMaps_9 : decode cX3_shufflingMaps 9 = .ok (.iload_n 1, 1) := by decide +kernel
theorem dX3_shufflingMaps_10 : decode cX3_shufflingMaps 10 = .ok (.aload_n 0, 1) := by decide +kernel
theorem dX3_shufflingMaps_11 : decode cX3_shufflingMaps 11 = .ok (.aload_n 0, 1) := by decide +kernel
theorem dX3_shufflingMaps_12 : decode cX3_shufflingMaps 12 = .ok (.getfield 17, 3) := by decide +kernel
theorem dX3_shufflingMaps_15 : decode cX3_shufflingMaps 15 = .ok (.iload_n 2, 1) := by decide +kernel
theorem dX3_shufflingMaps_16 : decode cX3_shufflingMaps 16 = .ok (.aaload, 1) := by decide +kernel
theorem dX3_shufflingMaps_17 : decode cX3_shufflingMaps 17 = .ok (.invokevirtual 98, 3) := by decide +kernel
theorem dX3_shufflingMaps_20 : decode cX3_shufflingMaps 20 = .ok (.invokestatic 102, 3) := by decide +kernel
theorem dX3_shufflingMaps_23 : decode cX3_shufflingMaps 23 = .ok (.iadd, 1) := by decide +kernel
theorem dX3_shufflingMaps_24 : decode cX3_shufflingMaps 24 = .ok (.istore_n 1, 1) := by decide +kernel
theorem dX3_shufflingMaps_25 : decode cX3_shufflingMaps 25 = .ok (.iinc 2 1, 3) := by decide +kernel
theorem dX3_shufflingMaps_28 : decode cX3_shufflingMaps 28 = .ok (.goto (-24), 3) := by decide +kernel
theorem dX3_shufflingMaps_31 : decode cX3_shufflingMaps 31 = .ok (.iload_n 1, 1) := by decide +kernel
theorem dX3_shufflingMaps_32 : decode cX3_shufflingMaps 32 = .ok (.ireturn, 1) := by decide +kernel
theorem dX3_coefficientOf_0 : decode cX3_coefficientOf 0 = .ok (.iload_n 2, 1) := by decide +kernel
theorem dX3_coefficientOf_1 : decode cX3_coefficientOf 1 = .ok (.ifCond .ne 7, 3) := by decide +kernel
theorem dX3_coefficientOf_4 : decode cX3_coefficientOf 4 = .ok (.aload_n 1, 1) := by decide +kernel
theorem dX3_coefficientOf_5 : decode cX3_coefficientOf 5 = .ok (.iconst 0, 1) := by decide +kernel
theorem dX3_coefficientOf_6 : decode cX3_coefficientOf 6 = .ok (.iaload, 1) := by decide +kernel
theorem dX3_coefficientOf_7 : decode cX3_coefficientOf 7 = .ok (.ireturn, 1) := by decide +kernel
theorem dX3_coefficientOf_8 : decode cX3_coefficientOf 8 = .ok (.iconst 0, 1) := by decide +kernel
theorem dX3_coefficientOf_9 : decode cX3_coefficientOf 9 = .ok (.istore_n 3, 1) := by decide +kernel
theorem dX3_coefficientOf_10 : decode cX3_coefficientOf 10 = .ok (.iconst 0, 1) := by decide +kernel
theorem dX3_coefficientOf_11 : decode cX3_coefficientOf 11 = .ok (.istore 4, 2) := by decide +kernel
theorem dX3_coefficientOf_13 : decode cX3_coefficientOf 13 = .ok (.iload 4, 2) := by decide +kernel
theorem dX3_coefficientOf_15 : decode cX3_coefficientOf 15 = .ok (.aload_n 0, 1) := by decide +kernel
theorem dX3_coefficientOf_16 : decode cX3_coefficientOf 16 = .ok (.getfield 42, 3) := by decide +kernel
theorem dX3_coefficientOf_19 : decode cX3_coefficientOf 19 = .ok (.if_icmp .ge 46, 3) := by decide +kernel
theorem dX3_coefficientOf_22 : decode cX3_coefficientOf 22 = .ok (.aload_n 0, 1) := by decide +kernel
theorem dX3_coefficientOf_23 : decode cX3_coefficientOf 23 = .ok (.getfield 49, 3) := by decide +kernel
theorem dX3_coefficientOf_26 : decode cX3_coefficientOf 26 = .ok (.iload_n 3, 1) := by decide +kernel
theorem dX3_coefficientOf_27 : decode cX3_coefficientOf 27 = .ok (.aload_n 0, 1) := by decide +kernel
theorem dX3_coefficientOf_28 : decode cX3_coefficientOf 28 = .ok (.getfield 49, 3) := by decide +kernel
theorem dX3_coefficientOf_31 : decode cX3_coefficientOf 31 = .ok (.aload_n 1, 1) := by decide +kernel
theorem dX3_coefficientOf_32 : decode cX3_coefficientOf 32 = .ok (.iload 4, 2) := by decide +kernel
theorem dX3_coefficientOf_34 : decode cX3_coefficientOf 34 = .ok (.iaload, 1) := by decide +kernel
theorem dX3_coefficientOf_35 : decode cX3_coefficientOf 35 = .ok (.aload_n 0, 1) := by decide +kernel
theorem dX3_coefficientOf_36 : decode cX3_coefficientOf 36 = .ok (.getfield 49, 3) := by decide +kernel
theorem dX3_coefficientOf_39 : decode cX3_coefficientOf 39 = .ok (.iload 4, 2) := by decide +kernel
theorem dX3_coefficientOf_41 : decode cX3_coefficientOf 41 = .ok (.aload_n 0, 1) := by decide +kernel
theorem dX3_coefficientOf_42 : decode cX3_coefficientOf 42 = .ok (.getfield 42, 3) := by decide +kernel
theorem dX3_coefficientOf_45 : decode cX3_coefficientOf 45 = .ok (.iconst 1, 1) := by decide +kernel
theorem dX3_coefficientOf_46 : decode cX3_coefficientOf 46 = .ok (.isub, 1) := by decide +kernel
theorem dX3_coefficientOf_47 : decode cX3_coefficientOf 47 = .ok (.iload_n 2, 1) := by decide +kernel
theorem dX3_coefficientOf_48 : decode cX3_coefficientOf 48 = .ok (.isub, 1) := by decide +kernel
theorem dX3_coefficientOf_49 : decode cX3_coefficientOf 49 = .ok (.invokevirtual 74, 3) := by decide +kernel
theorem dX3_coefficientOf_52 : decode cX3_coefficientOf 52 = .ok (.invokevirtual 57, 3) := by decide +kernel
theorem dX3_coefficientOf_55 : decode cX3_coefficientOf 55 = .ok (.invokevirtual 53, 3) := by decide +kernel
theorem dX3_coefficientOf_58 : decode cX3_coefficientOf 58 = .ok (.istore_n 3, 1) := by decide +kernel
theorem dX3_coefficientOf_59 : decode cX3_coefficientOf 59 = .ok (.iinc 4 1, 3) := by decide +kernel
theorem dX3_coefficientOf_62 : decode cX3_coefficientOf 62 = .ok (.goto (-49), 3) := by decide +kernel
theorem dX3_coefficientOf_65 : decode cX3_coefficientOf 65 = .ok (.aload_n 0, 1) := by decide +kernel
theorem dX3_coefficientOf_66 : decode cX3_coefficientOf 66 = .ok (.getfield 49, 3) := by decide +kernel
theorem dX3_coefficientOf_69 : decode cX3_coefficientOf 69 = .ok (.iconst 0, 1) := by decide +kernel
theorem dX3_coefficientOf_70 : decode cX3_coefficientOf 70 = .ok (.iload_n 3, 1) := by decide +kernel
theorem dX3_coefficientOf_71 : decode cX3_coefficientOf 71 = .ok (.invokevirtual 71, 3) := by decide +kernel
theorem dX3_coefficientOf_74 : decode cX3_coefficientOf 74 = .ok (.ireturn, 1) := by decide +kernel
theorem dX3_imageSize_0 : decode cX3_imageSize 0 = .ok (.iconst 0, 1) := by decide +kernel
theorem dX3_imageSize_1 : decode cX3_imageSize 1 = .ok (.istore_n 2, 1) := by decide +kernel
theorem dX3_imageSize_2 : decode cX3_imageSize 2 = .ok (.iconst 0, 1) := by decide +kernel
theorem dX3_imageSize_3 : decode cX3_imageSize 3 = .ok (.istore_n 3, 1) := by decide +kernel
theorem dX3_imageSize_4 : decode cX3_imageSize 4 = .ok (.iload_n 3, 1) := by decide +kernel
theorem dX3_imageSize_5 : decode cX3_imageSize 5 = .ok (.aload_n 0, 1) := by decide +kernel
theorem dX3_imageSize_6 : decode cX3_imageSize 6 = .ok (.getfield 42, 3) := by decide +kernel
theorem dX3_imageSize_9 : decode cX3_imageSize 9 = .ok (.if_icmp .ge 17, 3) := by decide +kernel
theorem dX3_imageSize_12 : decode cX3_imageSize 12 = .ok (.iload_n 2, 1) := by decide +kernel
theorem dX3_imageSize_13 : decode cX3_imageSize 13 = .ok (.iconst 1, 1) := by decide +kernel
theorem dX3_imageSize_14 : decode cX3_imageSize 14 = .ok (.aload_n 1, 1) := by decide +kernel
theorem dX3_imageSize_15 : decode cX3_imageSize 15 = .ok (.iload_n 3, 1) := by decide +kernel
theorem dX3_imageSize_16 : decode cX3_imageSize 16 = .ok (.iaload, 1) := by decide +kernel
theorem dX3_imageSize_17 : decode cX3_imageSize 17 = .ok (.ishl, 1) := by decide +kernel
theorem dX3_imageSize_18 : decode cX3_imageSize 18 = .ok (.ior, 1) := by decide +kernel
theorem dX3_imageSize_19 : decode cX3_imageSize 19 = .ok (.istore_n 2, 1) := by decide +kernel
theorem dX3_imageSize_20 : decode cX3_imageSize 20 = .ok (.iinc 3 1, 3) := by decide +kernel
theorem dX3_imageSize_23 : decode cX3_imageSize 23 = .ok (.goto (-19), 3) := by decide +kernel
theorem dX3_imageSize_26 : decode cX3_imageSize 26 = .ok (.iload_n 2, 1) := by decide +kernel
theorem dX3_imageSize_27 : decode cX3_imageSize 27 = .ok (.invokestatic 196, 3) := by decide +kernel
theorem dX3_imageSize_30 : decode cX3_imageSize 30 = .ok (.ireturn, 1) := by decide +kernel
theorem dX3_isShuffle_0 : decode cX3_isShuffle 0 = .ok (.aload_n 0, 1) := by decide +kernel
theorem dX3_isShuffle_1 : decode cX3_isShuffle 1 = .ok (.aload_n 1, 1) := by decide +kernel
theorem dX3_isShuffle_2 : decode cX3_isShuffle 2 = .ok (.invokevirtual 115, 3) := by decide +kernel
theorem dX3_isShuffle_5 : decode cX3_isShuffle 5 = .ok (.aload_n 0, 1) := by decide +kernel
theorem dX3_isShuffle_6 : decode cX3_isShuffle 6 = .ok (.getfield 42, 3) := by decide +kernel
theorem dX3_isShuffle_9 : decode cX3_isShuffle 9 = .ok (.if_icmp .ne 7, 3) := by decide +kernel
theorem dX3_isShuffle_12 : decode cX3_isShuffle 12 = .ok (.iconst 1, 1) := by decide +kernel
theorem dX3_isShuffle_13 : decode cX3_isShuffle 13 = .ok (.goto 4, 3) := by decide +kernel
theorem dX3_isShuffle_16 : decode cX3_isShuffle 16 = .ok (.iconst 0, 1) := by decide +kernel
theorem dX3_isShuffle_17 : decode cX3_isShuffle 17 = .ok (.ireturn, 1) := by decide +kernel
theorem dX3_timesTaken_0 : decode cX3_timesTaken 0 = .ok (.iconst 0, 1) := by decide +kernel
theorem dX3_timesTaken_1 : decode cX3_timesTaken 1 = .ok (.istore_n 3, 1) := by decide +kernel
theorem dX3_timesTaken_2 : decode cX3_timesTaken 2 = .ok (.iconst 0, 1) := by decide +kernel
theorem dX3_timesTaken_3 : decode cX3_timesTaken 3 = .ok (.istore 4, 2) := by decide +kernel
theorem dX3_timesTaken_5 : decode cX3_timesTaken 5 = .ok (.iload 4, 2) := by decide +kernel
theorem dX3_timesTaken_7 : decode cX3_timesTaken 7 = .ok (.aload_n 0, 1) := by decide +kernel
theorem dX3_timesTaken_8 : decode cX3_timesTaken 8 = .ok (.getfield 42, 3) := by decide +kernel
theorem dX3_timesTaken_11 : decode cX3_timesTaken 11 = .ok (.if_icmp .ge 28, 3) := by decide +kernel
theorem dX3_timesTaken_14 : decode cX3_timesTaken 14 = .ok (.iload_n 3, 1) := by decide +kernel
theorem dX3_timesTaken_15 : decode cX3_timesTaken 15 = .ok (.aload_n 1, 1) := by decide +kernel
theorem dX3_timesTaken_16 : decode cX3_timesTaken 16 = .ok (.iload 4, 2) := by decide +kernel
theorem dX3_timesTaken_18 : decode cX3_timesTaken 18 = .ok (.iaload, 1) := by decide +kernel
theorem dX3_timesTaken_19 : decode cX3_timesTaken 19 = .ok (.iload_n 2, 1) := by decide +kernel
theorem dX3_timesTaken_20 : decode cX3_timesTaken 20 = .ok (.if_icmp .ne 7, 3) := by decide +kernel
theorem dX3_timesTaken_23 : decode cX3_timesTaken 23 = .ok (.iconst 1, 1) := by decide +kernel
theorem dX3_timesTaken_24 : decode cX3_timesTaken 24 = .ok (.goto 4, 3) := by decide +kernel
theorem dX3_timesTaken_27 : decode cX3_timesTaken 27 = .ok (.iconst 0, 1) := by decide +kernel
theorem dX3_timesTaken_28 : decode cX3_timesTaken 28 = .ok (.invokestatic 102, 3) := by decide +kernel
theorem dX3_timesTaken_31 : decode cX3_timesTaken 31 = .ok (.iadd, 1) := by decide +kernel
theorem dX3_timesTaken_32 : decode cX3_timesTaken 32 = .ok (.istore_n 3, 1) := by decide +kernel
theorem dX3_timesTaken_33 : decode cX3_timesTaken 33 = .ok (.iinc 4 1, 3) := by decide +kernel
theorem dX3_timesTaken_36 : decode cX3_timesTaken 36 = .ok (.goto (-31), 3) := by decide +kernel
theorem dX3_timesTaken_39 : decode cX3_timesTaken 39 = .ok (.iload_n 3, 1) := by decide +kernel
theorem dX3_timesTaken_40 : decode cX3_timesTaken 40 = .ok (.ireturn, 1) := by decide +kernel
theorem dX3_roundOf_0 : decode cX3_roundOf 0 = .ok (.aload_n 1, 1) := by decide +kernel
theorem dX3_roundOf_1 : decode cX3_roundOf 1 = .ok (.iload_n 2, 1) := by decide +kernel
theorem dX3_roundOf_2 : decode cX3_roundOf 2 = .ok (.iaload, 1) := by decide +kernel
theorem dX3_roundOf_3 : decode cX3_roundOf 3 = .ok (.istore_n 3, 1) := by decide +kernel
theorem dX3_roundOf_4 : decode cX3_roundOf 4 = .ok (.iconst 1, 1) := by decide +kernel
theorem dX3_roundOf_5 : decode cX3_roundOf 5 = .ok (.istore 4, 2) := by decide +kernel
theorem dX3_roundOf_7 : decode cX3_roundOf 7 = .ok (.iload_n 3, 1) := by decide +kernel
theorem dX3_roundOf_8 : decode cX3_roundOf 8 = .ok (.iload_n 2, 1) := by decide +kernel
theorem dX3_roundOf_9 : decode cX3_roundOf 9 = .ok (.if_icmp .eq 22, 3) := by decide +kernel
theorem dX3_roundOf_12 : decode cX3_roundOf 12 = .ok (.iload 4, 2) := by decide +kernel
theorem dX3_roundOf_14 : decode cX3_roundOf 14 = .ok (.aload_n 0, 1) := by decide +kernel
theorem dX3_roundOf_15 : decode cX3_roundOf 15 = .ok (.getfield 42, 3) := by decide +kernel
theorem dX3_roundOf_18 : decode cX3_roundOf 18 = .ok (.if_icmp .ge 13, 3) := by decide +kernel
theorem dX3_roundOf_21 : decode cX3_roundOf 21 = .ok (.aload_n 1, 1) := by decide +kernel
theorem dX3_roundOf_22 : decode cX3_roundOf 22 = .ok (.iload_n 3, 1) := by decide +kernel
theorem dX3_roundOf_23 : decode cX3_roundOf 23 = .ok (.iaload, 1) := by decide +kernel
theorem dX3_roundOf_24 : decode cX3_roundOf 24 = .ok (.istore_n 3, 1) := by decide +kernel
theorem dX3_roundOf_25 : decode cX3_roundOf 25 = .ok (.iinc 4 1, 3) := by decide +kernel
theorem dX3_roundOf_28 : decode cX3_roundOf 28 = .ok (.goto (-21), 3) := by decide +kernel
theorem dX3_roundOf_31 : decode cX3_roundOf 31 = .ok (.iload 4, 2) := by decide +kernel
theorem dX3_roundOf_33 : decode cX3_roundOf 33 = .ok (.ireturn, 1) := by decide +kernel
theorem dX3_leastCommonMultiple_0 : decode cX3_leastCommonMultiple 0 = .ok (.iload_n 0, 1) := by decide +kernel
theorem dX3_leastCommonMultiple_1 : decode cX3_leastCommonMultiple 1 = .ok (.istore_n 2, 1) := by decide +kernel
theorem dX3_leastCommonMultiple_2 : decode cX3_leastCommonMultiple 2 = .ok (.iconst 1, 1) := by decide +kernel
theorem dX3_leastCommonMultiple_3 : decode cX3_leastCommonMultiple 3 = .ok (.istore_n 3, 1) := by decide +kernel
theorem dX3_leastCommonMultiple_4 : decode cX3_leastCommonMultiple 4 = .ok (.iload_n 3, 1) := by decide +kernel
theorem dX3_leastCommonMultiple_5 : decode cX3_leastCommonMultiple 5 = .ok (.iload_n 1, 1) := by decide +kernel
theorem dX3_leastCommonMultiple_6 : decode cX3_leastCommonMultiple 6 = .ok (.if_icmp .ge 19, 3) := by decide +kernel
theorem dX3_leastCommonMultiple_9 : decode cX3_leastCommonMultiple 9 = .ok (.iload_n 2, 1) := by decide +kernel
theorem dX3_leastCommonMultiple_10 : decode cX3_leastCommonMultiple 10 = .ok (.iload_n 1, 1) := by decide +kernel
theorem dX3_leastCommonMultiple_11 : decode cX3_leastCommonMultiple 11 = .ok (.irem, 1) := by decide +kernel
theorem dX3_leastCommonMultiple_12 : decode cX3_leastCommonMultiple 12 = .ok (.ifCond .eq 13, 3) := by decide +kernel
theorem dX3_leastCommonMultiple_15 : decode cX3_leastCommonMultiple 15 = .ok (.iload_n 2, 1) := by decide +kernel
theorem dX3_leastCommonMultiple_16 : decode cX3_leastCommonMultiple 16 = .ok (.iload_n 0, 1) := by decide +kernel
theorem dX3_leastCommonMultiple_17 : decode cX3_leastCommonMultiple 17 = .ok (.iadd, 1) := by decide +kernel
theorem dX3_leastCommonMultiple_18 : decode cX3_leastCommonMultiple 18 = .ok (.istore_n 2, 1) := by decide +kernel
theorem dX3_leastCommonMultiple_19 : decode cX3_leastCommonMultiple 19 = .ok (.iinc 3 1, 3) := by decide +kernel
theorem dX3_leastCommonMultiple_22 : decode cX3_leastCommonMultiple 22 = .ok (.goto (-18), 3) := by decide +kernel
theorem dX3_leastCommonMultiple_25 : decode cX3_leastCommonMultiple 25 = .ok (.iload_n 2, 1) := by decide +kernel
theorem dX3_leastCommonMultiple_26 : decode cX3_leastCommonMultiple 26 = .ok (.ireturn, 1) := by decide +kernel
theorem dX3_differenceAt_0 : decode cX3_differenceAt 0 = .ok (.aload_n 0, 1) := by decide +kernel
theorem dX3_differenceAt_1 : decode cX3_differenceAt 1 = .ok (.getfield 49, 3) := by decide +kernel
theorem dX3_differenceAt_4 : decode cX3_differenceAt 4 = .ok (.aload_n 1, 1) := by decide +kernel
theorem dX3_differenceAt_5 : decode cX3_differenceAt 5 = .ok (.aload_n 0, 1) := by decide +kernel
theorem dX3_differenceAt_6 : decode cX3_differenceAt 6 = .ok (.getfield 49, 3) := by decide +kernel
theorem dX3_differenceAt_9 : decode cX3_differenceAt 9 = .ok (.iload_n 3, 1) := by decide +kernel
theorem dX3_differenceAt_10 : decode cX3_differenceAt 10 = .ok (.iload_n 2, 1) := by decide +kernel
theorem dX3_differenceAt_11 : decode cX3_differenceAt 11 = .ok (.invokevirtual 53, 3) := by decide +kernel
theorem dX3_differenceAt_14 : decode cX3_differenceAt 14 = .ok (.iaload, 1) := by decide +kernel
theorem dX3_differenceAt_15 : decode cX3_differenceAt 15 = .ok (.aload_n 1, 1) := by decide +kernel
theorem dX3_differenceAt_16 : decode cX3_differenceAt 16 = .ok (.iload_n 3, 1) := by decide +kernel
theorem dX3_differenceAt_17 : decode cX3_differenceAt 17 = .ok (.iaload, 1) := by decide +kernel
theorem dX3_differenceAt_18 : decode cX3_differenceAt 18 = .ok (.invokevirtual 71, 3) := by decide +kernel
theorem dX3_differenceAt_21 : decode cX3_differenceAt 21 = .ok (.ireturn, 1) := by decide +kernel
theorem dX3_greatestSpread_0 : decode cX3_greatestSpread 0 = .ok (.iconst 0, 1) := by decide +kernel
theorem dX3_greatestSpread_1 : decode cX3_greatestSpread 1 = .ok (.istore_n 2, 1) := by decide +kernel
theorem dX3_greatestSpread_2 : decode cX3_greatestSpread 2 = .ok (.iconst 1, 1) := by decide +kernel
theorem dX3_greatestSpread_3 : decode cX3_greatestSpread 3 = .ok (.istore_n 3, 1) := by decide +kernel
theorem dX3_greatestSpread_4 : decode cX3_greatestSpread 4 = .ok (.iload_n 3, 1) := by decide +kernel
theorem dX3_greatestSpread_5 : decode cX3_greatestSpread 5 = .ok (.aload_n 0, 1) := by decide +kernel
theorem dX3_greatestSpread_6 : decode cX3_greatestSpread 6 = .ok (.getfield 42, 3) := by decide +kernel
theorem dX3_greatestSpread_9 : decode cX3_greatestSpread 9 = .ok (.if_icmp .ge 68, 3) := by decide +kernel
theorem dX3_greatestSpread_12 : decode cX3_greatestSpread 12 = .ok (.aload_n 0, 1) := by decide +kernel
theorem dX3_greatestSpread_13 : decode cX3_greatestSpread 13 = .ok (.getfield 24, 3) := by decide +kernel
theorem dX3_greatestSpread_16 : decode cX3_greatestSpread 16 = .ok (.iconst 0, 1) := by decide +kernel
theorem dX3_greatestSpread_17 : decode cX3_greatestSpread 17 = .ok (.invokestatic 106, 3) := by decide +kernel
theorem dX3_greatestSpread_20 : decode cX3_greatestSpread 20 = .ok (.iconst 0, 1) := by decide +kernel
theorem dX3_greatestSpread_21 : decode cX3_greatestSpread 21 = .ok (.istore 4, 2) := by decide +kernel
theorem dX3_greatestSpread_23 : decode cX3_greatestSpread 23 = .ok (.iload 4, 2) := by decide +kernel
theorem dX3_greatestSpread_25 : decode cX3_greatestSpread 25 = .ok (.aload_n 0, 1) := by decide +kernel
theorem dX3_greatestSpread_26 : decode cX3_greatestSpread 26 = .ok (.getfield 42, 3) := by decide +kernel
theorem dX3_greatestSpread_29 : decode cX3_greatestSpread 29 = .ok (.if_icmp .ge 42, 3) := by decide +kernel
theorem dX3_greatestSpread_32 : decode cX3_greatestSpread 32 = .ok (.aload_n 0, 1) := by decide +kernel
theorem dX3_greatestSpread_33 : decode cX3_greatestSpread 33 = .ok (.aload_n 1, 1) := by decide +kernel
theorem dX3_greatestSpread_34 : decode cX3_greatestSpread 34 = .ok (.iload_n 3, 1) := by decide +kernel
theorem dX3_greatestSpread_35 : decode cX3_greatestSpread 35 = .ok (.iload 4, 2) := by decide +kernel
theorem dX3_greatestSpread_37 : decode cX3_greatestSpread 37 = .ok (.invokevirtual 125, 3) := by decide +kernel
theorem dX3_greatestSpread_40 : decode cX3_greatestSpread 40 = .ok (.istore 5, 2) := by decide +kernel
theorem dX3_greatestSpread_42 : decode cX3_greatestSpread 42 = .ok (.aload_n 0, 1) := by decide +kernel
theorem dX3_greatestSpread_43 : decode cX3_greatestSpread 43 = .ok (.getfield 24, 3) := by decide +kernel
theorem dX3_greatestSpread_46 : decode cX3_greatestSpread 46 = .ok (.iload 5, 2) := by decide +kernel
theorem dX3_greatestSpread_48 : decode cX3_greatestSpread 48 = .ok (.dup2, 1) := by decide +kernel
theorem dX3_greatestSpread_49 : decode cX3_greatestSpread 49 = .ok (.iaload, 1) := by decide +kernel
theorem dX3_greatestSpread_50 : decode cX3_greatestSpread 50 = .ok (.iconst 1, 1) := by decide +kernel
theorem dX3_greatestSpread_51 : decode cX3_greatestSpread 51 = .ok (.iadd, 1) := by decide +kernel
theorem dX3_greatestSpread_52 : decode cX3_greatestSpread 52 = .ok (.iastore, 1) := by decide +kernel
theorem dX3_greatestSpread_53 : decode cX3_greatestSpread 53 = .ok (.iload_n 2, 1) := by decide +kernel
theorem dX3_greatestSpread_54 : decode cX3_greatestSpread 54 = .ok (.aload_n 0, 1) := by decide +kernel
theorem dX3_greatestSpread_55 : decode cX3_greatestSpread 55 = .ok (.getfield 24, 3) := by decide +kernel
theorem dX3_greatestSpread_58 : decode cX3_greatestSpread 58 = .ok (.iload 5, 2) := by decide +kernel
theorem dX3_greatestSpread_60 : decode cX3_greatestSpread 60 = .ok (.iaload, 1) := by decide +kernel
theorem dX3_greatestSpread_61 : decode cX3_greatestSpread 61 = .ok (.invokestatic 145, 3) := by decide +kernel
theorem dX3_greatestSpread_64 : decode cX3_greatestSpread 64 = .ok (.istore_n 2, 1) := by decide +kernel
theorem dX3_greatestSpread_65 : decode cX3_greatestSpread 65 = .ok (.iinc 4 1, 3) := by decide +kernel
theorem dX3_greatestSpread_68 : decode cX3_greatestSpread 68 = .ok (.goto (-45), 3) := by decide +kernel
theorem dX3_greatestSpread_71 : decode cX3_greatestSpread 71 = .ok (.iinc 3 1, 3) := by decide +kernel
theorem dX3_greatestSpread_74 : decode cX3_greatestSpread 74 = .ok (.goto (-70), 3) := by decide +kernel
theorem dX3_greatestSpread_77 : decode cX3_greatestSpread 77 = .ok (.iload_n 2, 1) := by decide +kernel
theorem dX3_greatestSpread_78 : decode cX3_greatestSpread 78 = .ok (.ireturn, 1) := by decide +kernel
theorem dX3_walkOf_0 : decode cX3_walkOf 0 = .ok (.iconst 0, 1) := by decide +kernel
theorem dX3_walkOf_1 : decode cX3_walkOf 1 = .ok (.istore 4, 2) := by decide +kernel
theorem dX3_walkOf_3 : decode cX3_walkOf 3 = .ok (.iconst 0, 1) := by decide +kernel
theorem dX3_walkOf_4 : decode cX3_walkOf 4 = .ok (.istore 5, 2) := by decide +kernel
theorem dX3_walkOf_6 : decode cX3_walkOf 6 = .ok (.iload 5, 2) := by decide +kernel
theorem dX3_walkOf_8 : decode cX3_walkOf 8 = .ok (.aload_n 0, 1) := by decide +kernel
theorem dX3_walkOf_9 : decode cX3_walkOf 9 = .ok (.getfield 42, 3) := by decide +kernel
theorem dX3_walkOf_12 : decode cX3_walkOf 12 = .ok (.if_icmp .ge 42, 3) := by decide +kernel
theorem dX3_walkOf_15 : decode cX3_walkOf 15 = .ok (.iload_n 2, 1) := by decide +kernel
theorem dX3_walkOf_16 : decode cX3_walkOf 16 = .ok (.iload 5, 2) := by decide +kernel
theorem dX3_walkOf_18 : decode cX3_walkOf 18 = .ok (.iand, 1) := by decide +kernel
theorem dX3_walkOf_19 : decode cX3_walkOf 19 = .ok (.iload_n 3, 1) := by decide +kernel
theorem dX3_walkOf_20 : decode cX3_walkOf 20 = .ok (.aload_n 1, 1) := by decide +kernel
theorem dX3_walkOf_21 : decode cX3_walkOf 21 = .ok (.iload 5, 2) := by decide +kernel
theorem dX3_walkOf_23 : decode cX3_walkOf 23 = .ok (.iaload, 1) := by decide +kernel
theorem dX3_walkOf_24 : decode cX3_walkOf 24 = .ok (.iand, 1) := by decide +kernel
theorem dX3_walkOf_25 : decode cX3_walkOf 25 = .ok (.ixor, 1) := by decide +kernel
theorem dX3_walkOf_26 : decode cX3_walkOf 26 = .ok (.invokestatic 196, 3) := by decide +kernel
theorem dX3_walkOf_29 : decode cX3_walkOf 29 = .ok (.istore 6, 2) := by decide +kernel
theorem dX3_walkOf_31 : decode cX3_walkOf 31 = .ok (.iload 4, 2) := by decide +kernel
theorem dX3_walkOf_33 : decode cX3_walkOf 33 = .ok (.iload 6, 2) := by decide +kernel
theorem dX3_walkOf_35 : decode cX3_walkOf 35 = .ok (.iconst 1, 1) := by decide +kernel
theorem dX3_walkOf_36 : decode cX3_walkOf 36 = .ok (.iand, 1) := by decide +kernel
theorem dX3_walkOf_37 : decode cX3_walkOf 37 = .ok (.ifCond .ne 7, 3) := by decide +kernel
theorem dX3_walkOf_40 : decode cX3_walkOf 40 = .ok (.iconst 1, 1) := by decide +kernel
theorem dX3_walkOf_41 : decode cX3_walkOf 41 = .ok (.goto 4, 3) := by decide +kernel
theorem dX3_walkOf_44 : decode cX3_walkOf 44 = .ok (.iconst (-1), 1) := by decide +kernel
theorem dX3_walkOf_45 : decode cX3_walkOf 45 = .ok (.iadd, 1) := by decide +kernel
theorem dX3_walkOf_46 : decode cX3_walkOf 46 = .ok (.istore 4, 2) := by decide +kernel
theorem dX3_walkOf_48 : decode cX3_walkOf 48 = .ok (.iinc 5 1, 3) := by decide +kernel
theorem dX3_walkOf_51 : decode cX3_walkOf 51 = .ok (.goto (-45), 3) := by decide +kernel
theorem dX3_walkOf_54 : decode cX3_walkOf 54 = .ok (.iload 4, 2) := by decide +kernel
theorem dX3_walkOf_56 : decode cX3_walkOf 56 = .ok (.ireturn, 1) := by decide +kernel
theorem dX3_dressedAt_0 : decode cX3_dressedAt 0 = .ok (.aload_n 0, 1) := by decide +kernel
theorem dX3_dressedAt_1 : decode cX3_dressedAt 1 = .ok (.getfield 49, 3) := by decide +kernel
theorem dX3_dressedAt_4 : decode cX3_dressedAt 4 = .ok (.iload_n 2, 1) := by decide +kernel
theorem dX3_dressedAt_5 : decode cX3_dressedAt 5 = .ok (.aload_n 1, 1) := by decide +kernel
theorem dX3_dressedAt_6 : decode cX3_dressedAt 6 = .ok (.aload_n 0, 1) := by decide +kernel
theorem dX3_dressedAt_7 : decode cX3_dressedAt 7 = .ok (.getfield 49, 3) := by decide +kernel
theorem dX3_dressedAt_10 : decode cX3_dressedAt 10 = .ok (.aload_n 0, 1) := by decide +kernel
theorem dX3_dressedAt_11 : decode cX3_dressedAt 11 = .ok (.getfield 49, 3) := by decide +kernel
theorem dX3_dressedAt_14 : decode cX3_dressedAt 14 = .ok (.iload_n 3, 1) := by decide +kernel
theorem dX3_dressedAt_15 : decode cX3_dressedAt 15 = .ok (.iload 5, 2) := by decide +kernel
theorem dX3_dressedAt_17 : decode cX3_dressedAt 17 = .ok (.invokevirtual 57, 3) := by decide +kernel
theorem dX3_dressedAt_20 : decode cX3_dressedAt 20 = .ok (.iload 4, 2) := by decide +kernel
theorem dX3_dressedAt_22 : decode cX3_dressedAt 22 = .ok (.invokevirtual 53, 3) := by decide +kernel
theorem dX3_dressedAt_25 : decode cX3_dressedAt 25 = .ok (.iaload, 1) := by decide +kernel
theorem dX3_dressedAt_26 : decode cX3_dressedAt 26 = .ok (.invokevirtual 57, 3) := by decide +kernel
theorem dX3_dressedAt_29 : decode cX3_dressedAt 29 = .ok (.ireturn, 1) := by decide +kernel
theorem dX3_isDress_0 : decode cX3_isDress 0 = .ok (.aload_n 0, 1) := by decide +kernel
theorem dX3_isDress_1 : decode cX3_isDress 1 = .ok (.getfield 49, 3) := by decide +kernel
theorem dX3_isDress_4 : decode cX3_isDress 4 = .ok (.aload_n 2, 1) := by decide +kernel
theorem dX3_isDress_5 : decode cX3_isDress 5 = .ok (.iconst 0, 1) := by decide +kernel
theorem dX3_isDress_6 : decode cX3_isDress 6 = .ok (.iaload, 1) := by decide +kernel
theorem dX3_isDress_7 : decode cX3_isDress 7 = .ok (.aload_n 0, 1) := by decide +kernel
theorem dX3_isDress_8 : decode cX3_isDress 8 = .ok (.aload_n 1, 1) := by decide +kernel
theorem dX3_isDress_9 : decode cX3_isDress 9 = .ok (.iload_n 3, 1) := by decide +kernel
theorem dX3_isDress_10 : decode cX3_isDress 10 = .ok (.iload 4, 2) := by decide +kernel
theorem dX3_isDress_12 : decode cX3_isDress 12 = .ok (.iload 5, 2) := by decide +kernel
theorem dX3_isDress_14 : decode cX3_isDress 14 = .ok (.iconst 0, 1) := by decide +kernel
theorem dX3_isDress_15 : decode cX3_isDress 15 = .ok (.invokevirtual 201, 3) := by decide +kernel
theorem dX3_isDress_18 : decode cX3_isDress 18 = .ok (.invokevirtual 71, 3) := by decide +kernel
theorem dX3_isDress_21 : decode cX3_isDress 21 = .ok (.istore 6, 2) := by decide +kernel
theorem dX3_isDress_23 : decode cX3_isDress 23 = .ok (.iconst 1, 1) := by decide +kernel
theorem dX3_isDress_24 : decode cX3_isDress 24 = .ok (.istore 7, 2) := by decide +kernel
theorem dX3_isDress_26 : decode cX3_isDress 26 = .ok (.iload 7, 2) := by decide +kernel
theorem dX3_isDress_28 : decode cX3_isDress 28 = .ok (.aload_n 0, 1) := by decide +kernel
theorem dX3_isDress_29 : decode cX3_isDress 29 = .ok (.getfield 42, 3) := by decide +kernel
theorem dX3_isDress_32 : decode cX3_isDress 32 = .ok (.if_icmp .ge 39, 3) := by decide +kernel
theorem dX3_isDress_35 : decode cX3_isDress 35 = .ok (.aload_n 0, 1) := by decide +kernel
theorem dX3_isDress_36 : decode cX3_isDress 36 = .ok (.getfield 49, 3) := by decide +kernel
theorem dX3_isDress_39 : decode cX3_isDress 39 = .ok (.aload_n 0, 1) := by decide +kernel
theorem dX3_isDress_40 : decode cX3_isDress 40 = .ok (.aload_n 1, 1) := by decide +kernel
theorem dX3_isDress_41 : decode cX3_isDress 41 = .ok (.iload_n 3, 1) := by decide +kernel
theorem dX3_isDress_42 : decode cX3_isDress 42 = .ok (.iload 4, 2) := by decide +kernel
theorem dX3_isDress_44 : decode cX3_isDress 44 = .ok (.iload 5, 2) := by decide +kernel
theorem dX3_isDress_46 : decode cX3_isDress 46 = .ok (.iload 7, 2) := by decide +kernel
theorem dX3_isDress_48 : decode cX3_isDress 48 = .ok (.invokevirtual 201, 3) := by decide +kernel
theorem dX3_isDress_51 : decode cX3_isDress 51 = .ok (.iload 6, 2) := by decide +kernel
theorem dX3_isDress_53 : decode cX3_isDress 53 = .ok (.invokevirtual 53, 3) := by decide +kernel
theorem dX3_isDress_56 : decode cX3_isDress 56 = .ok (.aload_n 2, 1) := by decide +kernel
theorem dX3_isDress_57 : decode cX3_isDress 57 = .ok (.iload 7, 2) := by decide +kernel
theorem dX3_isDress_59 : decode cX3_isDress 59 = .ok (.iaload, 1) := by decide +kernel
theorem dX3_isDress_60 : decode cX3_isDress 60 = .ok (.if_icmp .eq 5, 3) := by decide +kernel
theorem dX3_isDress_63 : decode cX3_isDress 63 = .ok (.iconst 0, 1) := by decide +kernel
theorem dX3_isDress_64 : decode cX3_isDress 64 = .ok (.ireturn, 1) := by decide +kernel
theorem dX3_isDress_65 : decode cX3_isDress 65 = .ok (.iinc 7 1, 3) := by decide +kernel
theorem dX3_isDress_68 : decode cX3_isDress 68 = .ok (.goto (-42), 3) := by decide +kernel
theorem dX3_isDress_71 : decode cX3_isDress 71 = .ok (.iconst 1, 1) := by decide +kernel
theorem dX3_isDress_72 : decode cX3_isDress 72 = .ok (.ireturn, 1) := by decide +kernel
theorem dX3_keepIfLess_0 : decode cX3_keepIfLess 0 = .ok (.aload_n 0, 1) := by decide +kernel
theorem dX3_keepIfLess_1 : decode cX3_keepIfLess 1 = .ok (.getfield 49, 3) := by decide +kernel
theorem dX3_keepIfLess_4 : decode cX3_keepIfLess 4 = .ok (.iconst 0, 1) := by decide +kernel
theorem dX3_keepIfLess_5 : decode cX3_keepIfLess 5 = .ok (.aload_n 0, 1) := by decide +kernel
theorem dX3_keepIfLess_6 : decode cX3_keepIfLess 6 = .ok (.aload_n 1, 1) := by decide +kernel
theorem dX3_keepIfLess_7 : decode cX3_keepIfLess 7 = .ok (.iload_n 2, 1) := by decide +kernel
theorem dX3_keepIfLess_8 : decode cX3_keepIfLess 8 = .ok (.iload_n 3, 1) := by decide +kernel
theorem dX3_keepIfLess_9 : decode cX3_keepIfLess 9 = .ok (.iload 4, 2) := by decide +kernel
theorem dX3_keepIfLess_11 : decode cX3_keepIfLess 11 = .ok (.iconst 0, 1) := by decide +kernel
theorem dX3_keepIfLess_12 : decode cX3_keepIfLess 12 = .ok (.invokevirtual 201, 3) := by decide +kernel
theorem dX3_keepIfLess_15 : decode cX3_keepIfLess 15 = .ok (.invokevirtual 71, 3) := by decide +kernel
theorem dX3_keepIfLess_18 : decode cX3_keepIfLess 18 = .ok (.istore 5, 2) := by decide +kernel
theorem dX3_keepIfLess_20 : decode cX3_keepIfLess 20 = .ok (.iconst 0, 1) := by decide +kernel
theorem dX3_keepIfLess_21 : decode cX3_keepIfLess 21 = .ok (.istore 6, 2) := by decide +kernel
theorem dX3_keepIfLess_23 : decode cX3_keepIfLess 23 = .ok (.iconst 0, 1) := by decide +kernel
theorem dX3_keepIfLess_24 : decode cX3_keepIfLess 24 = .ok (.istore 7, 2) := by decide +kernel
theorem dX3_keepIfLess_26 : decode cX3_keepIfLess 26 = .ok (.iload 7, 2) := by decide +kernel
theorem dX3_keepIfLess_28 : decode cX3_keepIfLess 28 = .ok (.aload_n 0, 1) := by decide +kernel
theorem dX3_keepIfLess_29 : decode cX3_keepIfLess 29 = .ok (.getfield 42, 3) := by decide +kernel
theorem dX3_keepIfLess_32 : decode cX3_keepIfLess 32 = .ok (.if_icmp .ge 82, 3) := by decide +kernel
theorem dX3_keepIfLess_35 : decode cX3_keepIfLess 35 = .ok (.aload_n 0, 1) := by decide +kernel
theorem dX3_keepIfLess_36 : decode cX3_keepIfLess 36 = .ok (.getfield 49, 3) := by decide +kernel
theorem dX3_keepIfLess_39 : decode cX3_keepIfLess 39 = .ok (.aload_n 0, 1) := by decide +kernel
theorem dX3_keepIfLess_40 : decode cX3_keepIfLess 40 = .ok (.aload_n 1, 1) := by decide +kernel
theorem dX3_keepIfLess_41 : decode cX3_keepIfLess 41 = .ok (.iload_n 2, 1) := by decide +kernel
theorem dX3_keepIfLess_42 : decode cX3_keepIfLess 42 = .ok (.iload_n 3, 1) := by decide +kernel
theorem dX3_keepIfLess_43 : decode cX3_keepIfLess 43 = .ok (.iload 4, 2) := by decide +kernel
theorem dX3_keepIfLess_45 : decode cX3_keepIfLess 45 = .ok (.iload 7, 2) := by decide +kernel
theorem dX3_keepIfLess_47 : decode cX3_keepIfLess 47 = .ok (.invokevirtual 201, 3) := by decide +kernel
theorem dX3_keepIfLess_50 : decode cX3_keepIfLess 50 = .ok (.iload 5, 2) := by decide +kernel
theorem dX3_keepIfLess_52 : decode cX3_keepIfLess 52 = .ok (.invokevirtual 53, 3) := by decide +kernel
theorem dX3_keepIfLess_55 : decode cX3_keepIfLess 55 = .ok (.istore 8, 2) := by decide +kernel
theorem dX3_keepIfLess_57 : decode cX3_keepIfLess 57 = .ok (.iload 6, 2) := by decide +kernel
theorem dX3_keepIfLess_59 : decode cX3_keepIfLess 59 = .ok (.ifCond .ne 16, 3) := by decide +kernel
theorem dX3_keepIfLess_62 : decode cX3_keepIfLess 62 = .ok (.iload 8, 2) := by decide +kernel
theorem dX3_keepIfLess_64 : decode cX3_keepIfLess 64 = .ok (.aload_n 0, 1) := by decide +kernel
theorem dX3_keepIfLess_65 : decode cX3_keepIfLess 65 = .ok (.getfield 20, 3) := by decide +kernel
theorem dX3_keepIfLess_68 : decode cX3_keepIfLess 68 = .ok (.iload 7, 2) := by decide +kernel
theorem dX3_keepIfLess_70 : decode cX3_keepIfLess 70 = .ok (.iaload, 1) := by decide +kernel
theorem dX3_keepIfLess_71 : decode cX3_keepIfLess 71 = .ok (.if_icmp .le 4, 3) := by decide +kernel
theorem dX3_keepIfLess_74 : decode cX3_keepIfLess 74 = .ok (.return_, 1) := by decide +kernel
theorem dX3_keepIfLess_75 : decode cX3_keepIfLess 75 = .ok (.iload 6, 2) := by decide +kernel
theorem dX3_keepIfLess_77 : decode cX3_keepIfLess 77 = .ok (.ifCond .ne 15, 3) := by decide +kernel
theorem dX3_keepIfLess_80 : decode cX3_keepIfLess 80 = .ok (.iload 8, 2) := by decide +kernel
theorem dX3_keepIfLess_82 : decode cX3_keepIfLess 82 = .ok (.aload_n 0, 1) := by decide +kernel
theorem dX3_keepIfLess_83 : decode cX3_keepIfLess 83 = .ok (.getfield 20, 3) := by decide +kernel
theorem dX3_keepIfLess_86 : decode cX3_keepIfLess 86 = .ok (.iload 7, 2) := by decide +kernel
theorem dX3_keepIfLess_88 : decode cX3_keepIfLess 88 = .ok (.iaload, 1) := by decide +kernel
theorem dX3_keepIfLess_89 : decode cX3_keepIfLess 89 = .ok (.if_icmp .ge 7, 3) := by decide +kernel
theorem dX3_keepIfLess_92 : decode cX3_keepIfLess 92 = .ok (.iconst 1, 1) := by decide +kernel
end
section
theorem dX3_keepIfLess_93 : decode cX3_keepIfLess 93 = .ok (.goto 4, 3) := by decide +kernel
theorem dX3_keepIfLess_96 : decode cX3_keepIfLess 96 = .ok (.iconst 0, 1) := by decide +kernel
theorem dX3_keepIfLess_97 : decode cX3_keepIfLess 97 = .ok (.istore 6, 2) := by decide +kernel
theorem dX3_keepIfLess_99 : decode cX3_keepIfLess 99 = .ok (.aload_n 0, 1) := by decide +kernel
theorem dX3_keepIfLess_100 : decode cX3_keepIfLess 100 = .ok (.getfield 20, 3) := by decide +kernel
theorem dX3_keepIfLess_103 : decode cX3_keepIfLess 103 = .ok (.iload 7, 2) := by decide +kernel
theorem dX3_keepIfLess_105 : decode cX3_keepIfLess 105 = .ok (.iload 8, 2) := by decide +kernel
theorem dX3_keepIfLess_107 : decode cX3_keepIfLess 107 = .ok (.iastore, 1) := by decide +kernel
theorem dX3_keepIfLess_108 : decode cX3_keepIfLess 108 = .ok (.iinc 7 1, 3) := by decide +kernel
theorem dX3_keepIfLess_111 : decode cX3_keepIfLess 111 = .ok (.goto (-85), 3) := by decide +kernel
theorem dX3_keepIfLess_114 : decode cX3_keepIfLess 114 = .ok (.return_, 1) := by decide +kernel
theorem dX4_init_0 : decode cX4_init 0 = .ok (.aload_n 0, 1) := by decide +kernel
theorem dX4_init_1 : decode cX4_init 1 = .ok (.invokespecial 1, 3) := by decide +kernel
theorem dX4_init_4 : decode cX4_init 4 = .ok (.aload_n 0, 1) := by decide +kernel
theorem dX4_init_5 : decode cX4_init 5 = .ok (.sipush 256, 3) := by decide +kernel
theorem dX4_init_8 : decode cX4_init 8 = .ok (.newarray .int, 2) := by decide +kernel
theorem dX4_init_10 : decode cX4_init 10 = .ok (.putfield 7, 3) := by decide +kernel
theorem dX4_init_13 : decode cX4_init 13 = .ok (.aload_n 0, 1) := by decide +kernel
theorem dX4_init_14 : decode cX4_init 14 = .ok (.sipush 256, 3) := by decide +kernel
theorem dX4_init_17 : decode cX4_init 17 = .ok (.newarray .int, 2) := by decide +kernel
theorem dX4_init_19 : decode cX4_init 19 = .ok (.putfield 13, 3) := by decide +kernel
theorem dX4_init_22 : decode cX4_init 22 = .ok (.aload_n 0, 1) := by decide +kernel
theorem dX4_init_23 : decode cX4_init 23 = .ok (.bipush 64, 2) := by decide +kernel
theorem dX4_init_25 : decode cX4_init 25 = .ok (.newarray .int, 2) := by decide +kernel
theorem dX4_init_27 : decode cX4_init 27 = .ok (.putfield 16, 3) := by decide +kernel
theorem dX4_init_30 : decode cX4_init 30 = .ok (.aload_n 0, 1) := by decide +kernel
theorem dX4_init_31 : decode cX4_init 31 = .ok (.bipush 16, 2) := by decide +kernel
theorem dX4_init_33 : decode cX4_init 33 = .ok (.newarray .int, 2) := by decide +kernel
theorem dX4_init_35 : decode cX4_init 35 = .ok (.putfield 19, 3) := by decide +kernel
theorem dX4_init_38 : decode cX4_init 38 = .ok (.aload_n 0, 1) := by decide +kernel
theorem dX4_init_39 : decode cX4_init 39 = .ok (.bipush 16, 2) := by decide +kernel
theorem dX4_init_41 : decode cX4_init 41 = .ok (.newarray .int, 2) := by decide +kernel
theorem dX4_init_43 : decode cX4_init 43 = .ok (.putfield 22, 3) := by decide +kernel
theorem dX4_init_46 : decode cX4_init 46 = .ok (.aload_n 0, 1) := by decide +kernel
theorem dX4_init_47 : decode cX4_init 47 = .ok (.bipush 8, 2) := by decide +kernel
theorem dX4_init_49 : decode cX4_init 49 = .ok (.newarray .int, 2) := by decide +kernel
theorem dX4_init_51 : decode cX4_init 51 = .ok (.putfield 25, 3) := by decide +kernel
theorem dX4_init_54 : decode cX4_init 54 = .ok (.aload_n 0, 1) := by decide +kernel
theorem dX4_init_55 : decode cX4_init 55 = .ok (.iconst 5, 1) := by decide +kernel
theorem dX4_init_56 : decode cX4_init 56 = .ok (.invokevirtual 28, 3) := by decide +kernel
theorem dX4_init_59 : decode cX4_init 59 = .ok (.return_, 1) := by decide +kernel
theorem dX4_in_0 : decode cX4_in 0 = .ok (.iload_n 0, 1) := by decide +kernel
theorem dX4_in_1 : decode cX4_in 1 = .ok (.iload_n 1, 1) := by decide +kernel
theorem dX4_in_2 : decode cX4_in 2 = .ok (.if_icmp .lt 12, 3) := by decide +kernel
theorem dX4_in_5 : decode cX4_in 5 = .ok (.iload_n 0, 1) := by decide +kernel
theorem dX4_in_6 : decode cX4_in 6 = .ok (.iload_n 2, 1) := by decide +kernel
theorem dX4_in_7 : decode cX4_in 7 = .ok (.if_icmp .gt 7, 3) := by decide +kernel
theorem dX4_in_10 : decode cX4_in 10 = .ok (.iconst 1, 1) := by decide +kernel
theorem dX4_in_11 : decode cX4_in 11 = .ok (.goto 4, 3) := by decide +kernel
theorem dX4_in_14 : decode cX4_in 14 = .ok (.iconst 0, 1) := by decide +kernel
theorem dX4_in_15 : decode cX4_in 15 = .ok (.ireturn, 1) := by decide +kernel
theorem dX4_sumOf_0 : decode cX4_sumOf 0 = .ok (.iconst 0, 1) := by decide +kernel
theorem dX4_sumOf_1 : decode cX4_sumOf 1 = .ok (.istore_n 3, 1) := by decide +kernel
theorem dX4_sumOf_2 : decode cX4_sumOf 2 = .ok (.iconst 1, 1) := by decide +kernel
theorem dX4_sumOf_3 : decode cX4_sumOf 3 = .ok (.istore 4, 2) := by decide +kernel
theorem dX4_sumOf_5 : decode cX4_sumOf 5 = .ok (.iload_n 1, 1) := by decide +kernel
theorem dX4_sumOf_6 : decode cX4_sumOf 6 = .ok (.istore 5, 2) := by decide +kernel
theorem dX4_sumOf_8 : decode cX4_sumOf 8 = .ok (.iload_n 2, 1) := by decide +kernel
theorem dX4_sumOf_9 : decode cX4_sumOf 9 = .ok (.istore 6, 2) := by decide +kernel
theorem dX4_sumOf_11 : decode cX4_sumOf 11 = .ok (.iload 5, 2) := by decide +kernel
theorem dX4_sumOf_13 : decode cX4_sumOf 13 = .ok (.ifCond .gt 8, 3) := by decide +kernel
theorem dX4_sumOf_16 : decode cX4_sumOf 16 = .ok (.iload 6, 2) := by decide +kernel
theorem dX4_sumOf_18 : decode cX4_sumOf 18 = .ok (.ifCond .le 59, 3) := by decide +kernel
theorem dX4_sumOf_21 : decode cX4_sumOf 21 = .ok (.iload_n 3, 1) := by decide +kernel
theorem dX4_sumOf_22 : decode cX4_sumOf 22 = .ok (.iload 4, 2) := by decide +kernel
theorem dX4_sumOf_24 : decode cX4_sumOf 24 = .ok (.iload 5, 2) := by decide +kernel
theorem dX4_sumOf_26 : decode cX4_sumOf 26 = .ok (.aload_n 0, 1) := by decide +kernel
theorem dX4_sumOf_27 : decode cX4_sumOf 27 = .ok (.getfield 36, 3) := by decide +kernel
theorem dX4_sumOf_30 : decode cX4_sumOf 30 = .ok (.irem, 1) := by decide +kernel
theorem dX4_sumOf_31 : decode cX4_sumOf 31 = .ok (.iload 6, 2) := by decide +kernel
theorem dX4_sumOf_33 : decode cX4_sumOf 33 = .ok (.aload_n 0, 1) := by decide +kernel
theorem dX4_sumOf_34 : decode cX4_sumOf 34 = .ok (.getfield 36, 3) := by decide +kernel
theorem dX4_sumOf_37 : decode cX4_sumOf 37 = .ok (.irem, 1) := by decide +kernel
theorem dX4_sumOf_38 : decode cX4_sumOf 38 = .ok (.iadd, 1) := by decide +kernel
theorem dX4_sumOf_39 : decode cX4_sumOf 39 = .ok (.aload_n 0, 1) := by decide +kernel
theorem dX4_sumOf_40 : decode cX4_sumOf 40 = .ok (.getfield 36, 3) := by decide +kernel
theorem dX4_sumOf_43 : decode cX4_sumOf 43 = .ok (.irem, 1) := by decide +kernel
theorem dX4_sumOf_44 : decode cX4_sumOf 44 = .ok (.imul, 1) := by decide +kernel
theorem dX4_sumOf_45 : decode cX4_sumOf 45 = .ok (.iadd, 1) := by decide +kernel
theorem dX4_sumOf_46 : decode cX4_sumOf 46 = .ok (.istore_n 3, 1) := by decide +kernel
theorem dX4_sumOf_47 : decode cX4_sumOf 47 = .ok (.iload 5, 2) := by decide +kernel
theorem dX4_sumOf_49 : decode cX4_sumOf 49 = .ok (.aload_n 0, 1) := by decide +kernel
theorem dX4_sumOf_50 : decode cX4_sumOf 50 = .ok (.getfield 36, 3) := by decide +kernel
theorem dX4_sumOf_53 : decode cX4_sumOf 53 = .ok (.idiv, 1) := by decide +kernel
theorem dX4_sumOf_54 : decode cX4_sumOf 54 = .ok (.istore 5, 2) := by decide +kernel
theorem dX4_sumOf_56 : decode cX4_sumOf 56 = .ok (.iload 6, 2) := by decide +kernel
theorem dX4_sumOf_58 : decode cX4_sumOf 58 = .ok (.aload_n 0, 1) := by decide +kernel
theorem dX4_sumOf_59 : decode cX4_sumOf 59 = .ok (.getfield 36, 3) := by decide +kernel
theorem dX4_sumOf_62 : decode cX4_sumOf 62 = .ok (.idiv, 1) := by decide +kernel
theorem dX4_sumOf_63 : decode cX4_sumOf 63 = .ok (.istore 6, 2) := by decide +kernel
theorem dX4_sumOf_65 : decode cX4_sumOf 65 = .ok (.iload 4, 2) := by decide +kernel
theorem dX4_sumOf_67 : decode cX4_sumOf 67 = .ok (.aload_n 0, 1) := by decide +kernel
theorem dX4_sumOf_68 : decode cX4_sumOf 68 = .ok (.getfield 36, 3) := by decide +kernel
theorem dX4_sumOf_71 : decode cX4_sumOf 71 = .ok (.imul, 1) := by decide +kernel
theorem dX4_sumOf_72 : decode cX4_sumOf 72 = .ok (.istore 4, 2) := by decide +kernel
theorem dX4_sumOf_74 : decode cX4_sumOf 74 = .ok (.goto (-63), 3) := by decide +kernel
theorem dX4_sumOf_77 : decode cX4_sumOf 77 = .ok (.iload_n 3, 1) := by decide +kernel
theorem dX4_sumOf_78 : decode cX4_sumOf 78 = .ok (.ireturn, 1) := by decide +kernel
theorem dX4_productOf_0 : decode cX4_productOf 0 = .ok (.aload_n 0, 1) := by decide +kernel
theorem dX4_productOf_1 : decode cX4_productOf 1 = .ok (.getfield 36, 3) := by decide +kernel
theorem dX4_productOf_4 : decode cX4_productOf 4 = .ok (.aload_n 0, 1) := by decide +kernel
theorem dX4_productOf_5 : decode cX4_productOf 5 = .ok (.getfield 39, 3) := by decide +kernel
theorem dX4_productOf_8 : decode cX4_productOf 8 = .ok (.if_icmp .ne 12, 3) := by decide +kernel
theorem dX4_productOf_11 : decode cX4_productOf 11 = .ok (.iload_n 1, 1) := by decide +kernel
theorem dX4_productOf_12 : decode cX4_productOf 12 = .ok (.iload_n 2, 1) := by decide +kernel
theorem dX4_productOf_13 : decode cX4_productOf 13 = .ok (.imul, 1) := by decide +kernel
theorem dX4_productOf_14 : decode cX4_productOf 14 = .ok (.aload_n 0, 1) := by decide +kernel
theorem dX4_productOf_15 : decode cX4_productOf 15 = .ok (.getfield 36, 3) := by decide +kernel
theorem dX4_productOf_18 : decode cX4_productOf 18 = .ok (.irem, 1) := by decide +kernel
theorem dX4_productOf_19 : decode cX4_productOf 19 = .ok (.ireturn, 1) := by decide +kernel
theorem dX4_productOf_20 : decode cX4_productOf 20 = .ok (.iconst 0, 1) := by decide +kernel
theorem dX4_productOf_21 : decode cX4_productOf 21 = .ok (.istore_n 3, 1) := by decide +kernel
theorem dX4_productOf_22 : decode cX4_productOf 22 = .ok (.iload_n 3, 1) := by decide +kernel
theorem dX4_productOf_23 : decode cX4_productOf 23 = .ok (.bipush 8, 2) := by decide +kernel
theorem dX4_productOf_25 : decode cX4_productOf 25 = .ok (.if_icmp .ge 16, 3) := by decide +kernel
theorem dX4_productOf_28 : decode cX4_productOf 28 = .ok (.aload_n 0, 1) := by decide +kernel
theorem dX4_productOf_29 : decode cX4_productOf 29 = .ok (.getfield 25, 3) := by decide +kernel
theorem dX4_productOf_32 : decode cX4_productOf 32 = .ok (.iload_n 3, 1) := by decide +kernel
theorem dX4_productOf_33 : decode cX4_productOf 33 = .ok (.iconst 0, 1) := by decide +kernel
theorem dX4_productOf_34 : decode cX4_productOf 34 = .ok (.iastore, 1) := by decide +kernel
theorem dX4_productOf_35 : decode cX4_productOf 35 = .ok (.iinc 3 1, 3) := by decide +kernel
theorem dX4_productOf_38 : decode cX4_productOf 38 = .ok (.goto (-16), 3) := by decide +kernel
theorem dX4_productOf_41 : decode cX4_productOf 41 = .ok (.iload_n 1, 1) := by decide +kernel
theorem dX4_productOf_42 : decode cX4_productOf 42 = .ok (.istore_n 3, 1) := by decide +kernel
theorem dX4_productOf_43 : decode cX4_productOf 43 = .ok (.iconst 0, 1) := by decide +kernel
theorem dX4_productOf_44 : decode cX4_productOf 44 = .ok (.istore 4, 2) := by decide +kernel
theorem dX4_productOf_46 : decode cX4_productOf 46 = .ok (.iload_n 3, 1) := by decide +kernel
theorem dX4_productOf_47 : decode cX4_productOf 47 = .ok (.ifCond .le 82, 3) := by decide +kernel
theorem dX4_productOf_50 : decode cX4_productOf 50 = .ok (.iload_n 2, 1) := by decide +kernel
theorem dX4_productOf_51 : decode cX4_productOf 51 = .ok (.istore 5, 2) := by decide +kernel
theorem dX4_productOf_53 : decode cX4_productOf 53 = .ok (.iconst 0, 1) := by decide +kernel
theorem dX4_productOf_54 : decode cX4_productOf 54 = .ok (.istore 6, 2) := by decide +kernel
theorem dX4_productOf_56 : decode cX4_productOf 56 = .ok (.iload 5, 2) := by decide +kernel
theorem dX4_productOf_58 : decode cX4_productOf 58 = .ok (.ifCond .le 58, 3) := by decide +kernel
theorem dX4_productOf_61 : decode cX4_productOf 61 = .ok (.aload_n 0, 1) := by decide +kernel
theorem dX4_productOf_62 : decode cX4_productOf 62 = .ok (.getfield 25, 3) := by decide +kernel
theorem dX4_productOf_65 : decode cX4_productOf 65 = .ok (.iload 4, 2) := by decide +kernel
theorem dX4_productOf_67 : decode cX4_productOf 67 = .ok (.iload 6, 2) := by decide +kernel
theorem dX4_productOf_69 : decode cX4_productOf 69 = .ok (.iadd, 1) := by decide +kernel
theorem dX4_productOf_70 : decode cX4_productOf 70 = .ok (.aload_n 0, 1) := by decide +kernel
theorem dX4_productOf_71 : decode cX4_productOf 71 = .ok (.getfield 25, 3) := by decide +kernel
theorem dX4_productOf_74 : decode cX4_productOf 74 = .ok (.iload 4, 2) := by decide +kernel
theorem dX4_productOf_76 : decode cX4_productOf 76 = .ok (.iload 6, 2) := by decide +kernel
theorem dX4_productOf_78 : decode cX4_productOf 78 = .ok (.iadd, 1) := by decide +kernel
theorem dX4_productOf_79 : decode cX4_productOf 79 = .ok (.iaload, 1) := by decide +kernel
theorem dX4_productOf_80 : decode cX4_productOf 80 = .ok (.iload_n 3, 1) := by decide +kernel
theorem dX4_productOf_81 : decode cX4_productOf 81 = .ok (.aload_n 0, 1) := by decide +kernel
theorem dX4_productOf_82 : decode cX4_productOf 82 = .ok (.getfield 36, 3) := by decide +kernel
theorem dX4_productOf_85 : decode cX4_productOf 85 = .ok (.irem, 1) := by decide +kernel
theorem dX4_productOf_86 : decode cX4_productOf 86 = .ok (.iload 5, 2) := by decide +kernel
theorem dX4_productOf_88 : decode cX4_productOf 88 = .ok (.aload_n 0, 1) := by decide +kernel
theorem dX4_productOf_89 : decode cX4_productOf 89 = .ok (.getfield 36, 3) := by decide +kernel
theorem dX4_productOf_92 : decode cX4_productOf 92 = .ok (.irem, 1) := by decide +kernel
theorem dX4_productOf_93 : decode cX4_productOf 93 = .ok (.imul, 1) := by decide +kernel
theorem dX4_productOf_94 : decode cX4_productOf 94 = .ok (.iadd, 1) := by decide +kernel
theorem dX4_productOf_95 : decode cX4_productOf 95 = .ok (.aload_n 0, 1) := by decide +kernel
theorem dX4_productOf_96 : decode cX4_productOf 96 = .ok (.getfield 36, 3) := by decide +kernel
theorem dX4_productOf_99 : decode cX4_productOf 99 = .ok (.irem, 1) := by decide +kernel
theorem dX4_productOf_100 : decode cX4_productOf 100 = .ok (.iastore, 1) := by decide +kernel
theorem dX4_productOf_101 : decode cX4_productOf 101 = .ok (.iload 5, 2) := by decide +kernel
theorem dX4_productOf_103 : decode cX4_productOf 103 = .ok (.aload_n 0, 1) := by decide +kernel
theorem dX4_productOf_104 : decode cX4_productOf 104 = .ok (.getfield 36, 3) := by decide +kernel
theorem dX4_productOf_107 : decode cX4_productOf 107 = .ok (.idiv, 1) := by decide +kernel
theorem dX4_productOf_108 : decode cX4_productOf 108 = .ok (.istore 5, 2) := by decide +kernel
theorem dX4_productOf_110 : decode cX4_productOf 110 = .ok (.iinc 6 1, 3) := by decide +kernel
theorem dX4_productOf_113 : decode cX4_productOf 113 = .ok (.goto (-57), 3) := by decide +kernel
theorem dX4_productOf_116 : decode cX4_productOf 116 = .ok (.iload_n 3, 1) := by decide +kernel
theorem dX4_productOf_117 : decode cX4_productOf 117 = .ok (.aload_n 0, 1) := by decide +kernel
theorem dX4_productOf_118 : decode cX4_productOf 118 = .ok (.getfield 36, 3) := by decide +kernel
theorem dX4_productOf_121 : decode cX4_productOf 121 = .ok (.idiv, 1) := by decide +kernel
theorem dX4_productOf_122 : decode cX4_productOf 122 = .ok (.istore_n 3, 1) := by decide +kernel
theorem dX4_productOf_123 : decode cX4_productOf 123 = .ok (.iinc 4 1, 3) := by decide +kernel
theorem dX4_productOf_126 : decode cX4_productOf 126 = .ok (.goto (-80), 3) := by decide +kernel
theorem dX4_productOf_129 : decode cX4_productOf 129 = .ok (.aload_n 0, 1) := by decide +kernel
theorem dX4_productOf_130 : decode cX4_productOf 130 = .ok (.getfield 39, 3) := by decide +kernel
theorem dX4_productOf_133 : decode cX4_productOf 133 = .ok (.iconst 4, 1) := by decide +kernel
theorem dX4_productOf_134 : decode cX4_productOf 134 = .ok (.if_icmp .eq 12, 3) := by decide +kernel
theorem dX4_productOf_137 : decode cX4_productOf 137 = .ok (.aload_n 0, 1) := by decide +kernel
theorem dX4_productOf_138 : decode cX4_productOf 138 = .ok (.getfield 39, 3) := by decide +kernel
theorem dX4_productOf_141 : decode cX4_productOf 141 = .ok (.bipush 9, 2) := by decide +kernel
theorem dX4_productOf_143 : decode cX4_productOf 143 = .ok (.if_icmp .ne 7, 3) := by decide +kernel
theorem dX4_productOf_146 : decode cX4_productOf 146 = .ok (.iconst 2, 1) := by decide +kernel
theorem dX4_productOf_147 : decode cX4_productOf 147 = .ok (.goto 17, 3) := by decide +kernel
theorem dX4_productOf_150 : decode cX4_productOf 150 = .ok (.aload_n 0, 1) := by decide +kernel
theorem dX4_productOf_151 : decode cX4_productOf 151 = .ok (.getfield 39, 3) := by decide +kernel
theorem dX4_productOf_154 : decode cX4_productOf 154 = .ok (.bipush 8, 2) := by decide +kernel
theorem dX4_productOf_156 : decode cX4_productOf 156 = .ok (.if_icmp .ne 7, 3) := by decide +kernel
theorem dX4_productOf_159 : decode cX4_productOf 159 = .ok (.iconst 3, 1) := by decide +kernel
theorem dX4_productOf_160 : decode cX4_productOf 160 = .ok (.goto 4, 3) := by decide +kernel
theorem dX4_productOf_163 : decode cX4_productOf 163 = .ok (.iconst 4, 1) := by decide +kernel
theorem dX4_productOf_164 : decode cX4_productOf 164 = .ok (.istore 4, 2) := by decide +kernel
theorem dX4_productOf_166 : decode cX4_productOf 166 = .ok (.bipush 7, 2) := by decide +kernel
theorem dX4_productOf_168 : decode cX4_productOf 168 = .ok (.istore 5, 2) := by decide +kernel
theorem dX4_productOf_170 : decode cX4_productOf 170 = .ok (.iload 5, 2) := by decide +kernel
theorem dX4_productOf_172 : decode cX4_productOf 172 = .ok (.iload 4, 2) := by decide +kernel
theorem dX4_productOf_174 : decode cX4_productOf 174 = .ok (.if_icmp .lt 105, 3) := by decide +kernel
theorem dX4_productOf_177 : decode cX4_productOf 177 = .ok (.aload_n 0, 1) := by decide +kernel
theorem dX4_productOf_178 : decode cX4_productOf 178 = .ok (.getfield 25, 3) := by decide +kernel
theorem dX4_productOf_181 : decode cX4_productOf 181 = .ok (.iload 5, 2) := by decide +kernel
theorem dX4_productOf_183 : decode cX4_productOf 183 = .ok (.iaload, 1) := by decide +kernel
theorem dX4_productOf_184 : decode cX4_productOf 184 = .ok (.istore 6, 2) := by decide +kernel
theorem dX4_productOf_186 : decode cX4_productOf 186 = .ok (.aload_n 0, 1) := by decide +kernel
theorem dX4_productOf_187 : decode cX4_productOf 187 = .ok (.getfield 25, 3) := by decide +kernel
theorem dX4_productOf_190 : decode cX4_productOf 190 = .ok (.iload 5, 2) := by decide +kernel
theorem dX4_productOf_192 : decode cX4_productOf 192 = .ok (.iconst 0, 1) := by decide +kernel
theorem dX4_productOf_193 : decode cX4_productOf 193 = .ok (.iastore, 1) := by decide +kernel
theorem dX4_productOf_194 : decode cX4_productOf 194 = .ok (.aload_n 0, 1) := by decide +kernel
theorem dX4_productOf_195 : decode cX4_productOf 195 = .ok (.getfield 25, 3) := by decide +kernel
theorem dX4_productOf_198 : decode cX4_productOf 198 = .ok (.iload 5, 2) := by decide +kernel
theorem dX4_productOf_200 : decode cX4_productOf 200 = .ok (.iload 4, 2) := by decide +kernel
theorem dX4_productOf_202 : decode cX4_productOf 202 = .ok (.isub, 1) := by decide +kernel
theorem dX4_productOf_203 : decode cX4_productOf 203 = .ok (.aload_n 0, 1) := by decide +kernel
theorem dX4_productOf_204 : decode cX4_productOf 204 = .ok (.getfield 25, 3) := by decide +kernel
theorem dX4_productOf_207 : decode cX4_productOf 207 = .ok (.iload 5, 2) := by decide +kernel
theorem dX4_productOf_209 : decode cX4_productOf 209 = .ok (.iload 4, 2) := by decide +kernel
theorem dX4_productOf_211 : decode cX4_productOf 211 = .ok (.isub, 1) := by decide +kernel
theorem dX4_productOf_212 : decode cX4_productOf 212 = .ok (.iaload, 1) := by decide +kernel
theorem dX4_productOf_213 : decode cX4_productOf 213 = .ok (.aload_n 0, 1) := by decide +kernel
theorem dX4_productOf_214 : decode cX4_productOf 214 = .ok (.getfield 36, 3) := by decide +kernel
theorem dX4_productOf_217 : decode cX4_productOf 217 = .ok (.iload 6, 2) := by decide +kernel
theorem dX4_productOf_219 : decode cX4_productOf 219 = .ok (.isub, 1) := by decide +kernel
theorem dX4_productOf_220 : decode cX4_productOf 220 = .ok (.iadd, 1) := by decide +kernel
theorem dX4_productOf_221 : decode cX4_productOf 221 = .ok (.aload_n 0, 1) := by decide +kernel
theorem dX4_productOf_222 : decode cX4_productOf 222 = .ok (.getfield 36, 3) := by decide +kernel
theorem dX4_productOf_225 : decode cX4_productOf 225 = .ok (.irem, 1) := by decide +kernel
theorem dX4_productOf_226 : decode cX4_productOf 226 = .ok (.iastore, 1) := by decide +kernel
theorem dX4_productOf_227 : decode cX4_productOf 227 = .ok (.aload_n 0, 1) := by decide +kernel
theorem dX4_productOf_228 : decode cX4_productOf 228 = .ok (.getfield 39, 3) := by decide +kernel
theorem dX4_productOf_231 : decode cX4_productOf 231 = .ok (.bipush 9, 2) := by decide +kernel
theorem dX4_productOf_233 : decode cX4_productOf 233 = .ok (.if_icmp .eq 40, 3) := by decide +kernel
theorem dX4_productOf_236 : decode cX4_productOf 236 = .ok (.aload_n 0, 1) := by decide +kernel
theorem dX4_productOf_237 : decode cX4_productOf 237 = .ok (.getfield 25, 3) := by decide +kernel
theorem dX4_productOf_240 : decode cX4_productOf 240 = .ok (.iload 5, 2) := by decide +kernel
theorem dX4_productOf_242 : decode cX4_productOf 242 = .ok (.iload 4, 2) := by decide +kernel
theorem dX4_productOf_244 : decode cX4_productOf 244 = .ok (.isub, 1) := by decide +kernel
theorem dX4_productOf_245 : decode cX4_productOf 245 = .ok (.iconst 1, 1) := by decide +kernel
theorem dX4_productOf_246 : decode cX4_productOf 246 = .ok (.iadd, 1) := by decide +kernel
theorem dX4_productOf_247 : decode cX4_productOf 247 = .ok (.aload_n 0, 1) := by decide +kernel
theorem dX4_productOf_248 : decode cX4_productOf 248 = .ok (.getfield 25, 3) := by decide +kernel
theorem dX4_productOf_251 : decode cX4_productOf 251 = .ok (.iload 5, 2) := by decide +kernel
theorem dX4_productOf_253 : decode cX4_productOf 253 = .ok (.iload 4, 2) := by decide +kernel
theorem dX4_productOf_255 : decode cX4_productOf 255 = .ok (.isub, 1) := by decide +kernel
theorem dX4_productOf_256 : decode cX4_productOf 256 = .ok (.iconst 1, 1) := by decide +kernel
theorem dX4_productOf_257 : decode cX4_productOf 257 = .ok (.iadd, 1) := by decide +kernel
theorem dX4_productOf_258 : decode cX4_productOf 258 = .ok (.iaload, 1) := by decide +kernel
theorem dX4_productOf_259 : decode cX4_productOf 259 = .ok (.aload_n 0, 1) := by decide +kernel
theorem dX4_productOf_260 : decode cX4_productOf 260 = .ok (.getfield 36, 3) := by decide +kernel
theorem dX4_productOf_263 : decode cX4_productOf 263 = .ok (.iload 6, 2) := by decide +kernel
theorem dX4_productOf_265 : decode cX4_productOf 265 = .ok (.isub, 1) := by decide +kernel
theorem dX4_productOf_266 : decode cX4_productOf 266 = .ok (.iadd, 1) := by decide +kernel
theorem dX4_productOf_267 : decode cX4_productOf 267 = .ok (.aload_n 0, 1) := by decide +kernel
theorem dX4_productOf_268 : decode cX4_productOf 268 = .ok (.getfield 36, 3) := by decide +kernel
theorem dX4_productOf_271 : decode cX4_productOf 271 = .ok (.irem, 1) := by decide +kernel
theorem dX4_productOf_272 : decode cX4_productOf 272 = .ok (.iastore, 1) := by decide +kernel
theorem dX4_productOf_273 : decode cX4_productOf 273 = .ok (.iinc 5 (-1), 3) := by decide +kernel
theorem dX4_productOf_276 : decode cX4_productOf 276 = .ok (.goto (-106), 3) := by decide +kernel
theorem dX4_productOf_279 : decode cX4_productOf 279 = .ok (.iconst 0, 1) := by decide +kernel
theorem dX4_productOf_280 : decode cX4_productOf 280 = .ok (.istore 5, 2) := by decide +kernel
theorem dX4_productOf_282 : decode cX4_productOf 282 = .ok (.iload 4, 2) := by decide +kernel
theorem dX4_productOf_284 : decode cX4_productOf 284 = .ok (.iconst 1, 1) := by decide +kernel
theorem dX4_productOf_285 : decode cX4_productOf 285 = .ok (.isub, 1) := by decide +kernel
theorem dX4_productOf_286 : decode cX4_productOf 286 = .ok (.istore 6, 2) := by decide +kernel
theorem dX4_productOf_288 : decode cX4_productOf 288 = .ok (.iload 6, 2) := by decide +kernel
theorem dX4_productOf_290 : decode cX4_productOf 290 = .ok (.ifCond .lt 26, 3) := by decide +kernel
theorem dX4_productOf_293 : decode cX4_productOf 293 = .ok (.aload_n 0, 1) := by decide +kernel
theorem dX4_productOf_294 : decode cX4_productOf 294 = .ok (.getfield 36, 3) := by decide +kernel
theorem dX4_productOf_297 : decode cX4_productOf 297 = .ok (.iload 5, 2) := by decide +kernel
theorem dX4_productOf_299 : decode cX4_productOf 299 = .ok (.imul, 1) := by decide +kernel
theorem dX4_productOf_300 : decode cX4_productOf 300 = .ok (.aload_n 0, 1) := by decide +kernel
theorem dX4_productOf_301 : decode cX4_productOf 301 = .ok (.getfield 25, 3) := by decide +kernel
theorem dX4_productOf_304 : decode cX4_productOf 304 = .ok (.iload 6, 2) := by decide +kernel
theorem dX4_productOf_306 : decode cX4_productOf 306 = .ok (.iaload, 1) := by decide +kernel
theorem dX4_productOf_307 : decode cX4_productOf 307 = .ok (.iadd, 1) := by decide +kernel
theorem dX4_productOf_308 : decode cX4_productOf 308 = .ok (.istore 5, 2) := by decide +kernel
theorem dX4_productOf_310 : decode cX4_productOf 310 = .ok (.iinc 6 (-1), 3) := by decide +kernel
theorem dX4_productOf_313 : decode cX4_productOf 313 = .ok (.goto (-25), 3) := by decide +kernel
theorem dX4_productOf_316 : decode cX4_productOf 316 = .ok (.iload 5, 2) := by decide +kernel
theorem dX4_productOf_318 : decode cX4_productOf 318 = .ok (.ireturn, 1) := by decide +kernel
theorem dX4_begins_0 : decode cX4_begins 0 = .ok (.aload_n 0, 1) := by decide +kernel
theorem dX4_begins_1 : decode cX4_begins 1 = .ok (.iload_n 1, 1) := by decide +kernel
theorem dX4_begins_2 : decode cX4_begins 2 = .ok (.putfield 39, 3) := by decide +kernel
theorem dX4_begins_5 : decode cX4_begins 5 = .ok (.aload_n 0, 1) := by decide +kernel
theorem dX4_begins_6 : decode cX4_begins 6 = .ok (.aload_n 0, 1) := by decide +kernel
theorem dX4_begins_7 : decode cX4_begins 7 = .ok (.getfield 39, 3) := by decide +kernel
theorem dX4_begins_10 : decode cX4_begins 10 = .ok (.iconst 4, 1) := by decide +kernel
theorem dX4_begins_11 : decode cX4_begins 11 = .ok (.if_icmp .eq 21, 3) := by decide +kernel
theorem dX4_begins_14 : decode cX4_begins 14 = .ok (.aload_n 0, 1) := by decide +kernel
theorem dX4_begins_15 : decode cX4_begins 15 = .ok (.getfield 39, 3) := by decide +kernel
theorem dX4_begins_18 : decode cX4_begins 18 = .ok (.bipush 8, 2) := by decide +kernel
theorem dX4_begins_20 : decode cX4_begins 20 = .ok (.if_icmp .eq 12, 3) := by decide +kernel
theorem dX4_begins_23 : decode cX4_begins 23 = .ok (.aload_n 0, 1) := by decide +kernel
theorem dX4_begins_24 : decode cX4_begins 24 = .ok (.getfield 39, 3) := by decide +kernel
theorem dX4_begins_27 : decode cX4_begins 27 = .ok (.bipush 16, 2) := by decide +kernel
theorem dX4_begins_29 : decode cX4_begins 29 = .ok (.if_icmp .ne 7, 3) := by decide +kernel
theorem dX4_begins_32 : decode cX4_begins 32 = .ok (.iconst 2, 1) := by decide +kernel
theorem dX4_begins_33 : decode cX4_begins 33 = .ok (.goto 20, 3) := by decide +kernel
theorem dX4_begins_36 : decode cX4_begins 36 = .ok (.aload_n 0, 1) := by decide +kernel
theorem dX4_begins_37 : decode cX4_begins 37 = .ok (.getfield 39, 3) := by decide +kernel
theorem dX4_begins_40 : decode cX4_begins 40 = .ok (.bipush 9, 2) := by decide +kernel
theorem dX4_begins_42 : decode cX4_begins 42 = .ok (.if_icmp .ne 7, 3) := by decide +kernel
theorem dX4_begins_45 : decode cX4_begins 45 = .ok (.iconst 3, 1) := by decide +kernel
theorem dX4_begins_46 : decode cX4_begins 46 = .ok (.goto 7, 3) := by decide +kernel
theorem dX4_begins_49 : decode cX4_begins 49 = .ok (.aload_n 0, 1) := by decide +kernel
theorem dX4_begins_50 : decode cX4_begins 50 = .ok (.getfield 39, 3) := by decide +kernel
theorem dX4_begins_53 : decode cX4_begins 53 = .ok (.putfield 36, 3) := by decide +kernel
theorem dX4_begins_56 : decode cX4_begins 56 = .ok (.iconst 0, 1) := by decide +kernel
theorem dX4_begins_57 : decode cX4_begins 57 = .ok (.istore_n 2, 1) := by decide +kernel
theorem dX4_begins_58 : decode cX4_begins 58 = .ok (.iload_n 2, 1) := by decide +kernel
theorem dX4_begins_59 : decode cX4_begins 59 = .ok (.aload_n 0, 1) := by decide +kernel
theorem dX4_begins_60 : decode cX4_begins 60 = .ok (.getfield 39, 3) := by decide +kernel
theorem dX4_begins_63 : decode cX4_begins 63 = .ok (.if_icmp .ge 59, 3) := by decide +kernel
theorem dX4_begins_66 : decode cX4_begins 66 = .ok (.iconst 0, 1) := by decide +kernel
theorem dX4_begins_67 : decode cX4_begins 67 = .ok (.istore_n 3, 1) := by decide +kernel
theorem dX4_begins_68 : decode cX4_begins 68 = .ok (.iload_n 3, 1) := by decide +kernel
theorem dX4_begins_69 : decode cX4_begins 69 = .ok (.aload_n 0, 1) := by decide +kernel
theorem dX4_begins_70 : decode cX4_begins 70 = .ok (.getfield 39, 3) := by decide +kernel
theorem dX4_begins_73 : decode cX4_begins 73 = .ok (.if_icmp .ge 43, 3) := by decide +kernel
theorem dX4_begins_76 : decode cX4_begins 76 = .ok (.aload_n 0, 1) := by decide +kernel
theorem dX4_begins_77 : decode cX4_begins 77 = .ok (.getfield 7, 3) := by decide +kernel
theorem dX4_begins_80 : decode cX4_begins 80 = .ok (.bipush 16, 2) := by decide +kernel
theorem dX4_begins_82 : decode cX4_begins 82 = .ok (.iload_n 2, 1) := by decide +kernel
theorem dX4_begins_83 : decode cX4_begins 83 = .ok (.imul, 1) := by decide +kernel
theorem dX4_begins_84 : decode cX4_begins 84 = .ok (.iload_n 3, 1) := by decide +kernel
theorem dX4_begins_85 : decode cX4_begins 85 = .ok (.iadd, 1) := by decide +kernel
theorem dX4_begins_86 : decode cX4_begins 86 = .ok (.aload_n 0, 1) := by decide +kernel
theorem dX4_begins_87 : decode cX4_begins 87 = .ok (.iload_n 2, 1) := by decide +kernel
theorem dX4_begins_88 : decode cX4_begins 88 = .ok (.iload_n 3, 1) := by decide +kernel
theorem dX4_begins_89 : decode cX4_begins 89 = .ok (.invokevirtual 42, 3) := by decide +kernel
theorem dX4_begins_92 : decode cX4_begins 92 = .ok (.iastore, 1) := by decide +kernel
theorem dX4_begins_93 : decode cX4_begins 93 = .ok (.aload_n 0, 1) := by decide +kernel
theorem dX4_begins_94 : decode cX4_begins 94 = .ok (.getfield 13, 3) := by decide +kernel
theorem dX4_begins_97 : decode cX4_begins 97 = .ok (.bipush 16, 2) := by decide +kernel
theorem dX4_begins_99 : decode cX4_begins 99 = .ok (.iload_n 2, 1) := by decide +kernel
theorem dX4_begins_100 : decode cX4_begins 100 = .ok (.imul, 1) := by decide +kernel
theorem dX4_begins_101 : decode cX4_begins 101 = .ok (.iload_n 3, 1) := by decide +kernel
theorem dX4_begins_102 : decode cX4_begins 102 = .ok (.iadd, 1) := by decide +kernel
theorem dX4_begins_103 : decode cX4_begins 103 = .ok (.aload_n 0, 1) := by decide +kernel
theorem dX4_begins_104 : decode cX4_begins 104 = .ok (.iload_n 2, 1) := by decide +kernel
theorem dX4_begins_105 : decode cX4_begins 105 = .ok (.iload_n 3, 1) := by decide +kernel
theorem dX4_begins_106 : decode cX4_begins 106 = .ok (.invokevirtual 46, 3) := by decide +kernel
theorem dX4_begins_109 : decode cX4_begins 109 = .ok (.iastore, 1) := by decide +kernel
theorem dX4_begins_110 : decode cX4_begins 110 = .ok (.iinc 3 1, 3) := by decide +kernel
theorem dX4_begins_113 : decode cX4_begins 113 = .ok (.goto (-45), 3) := by decide +kernel
theorem dX4_begins_116 : decode cX4_begins 116 = .ok (.iinc 2 1, 3) := by decide +kernel
theorem dX4_begins_119 : decode cX4_begins 119 = .ok (.goto (-61), 3) := by decide +kernel
theorem dX4_begins_122 : decode cX4_begins 122 = .ok (.iconst 0, 1) := by decide +kernel
theorem dX4_begins_123 : decode cX4_begins 123 = .ok (.istore_n 2, 1) := by decide +kernel
theorem dX4_begins_124 : decode cX4_begins 124 = .ok (.iload_n 2, 1) := by decide +kernel
theorem dX4_begins_125 : decode cX4_begins 125 = .ok (.iconst 4, 1) := by decide +kernel
theorem dX4_begins_126 : decode cX4_begins 126 = .ok (.if_icmp .ge 35, 3) := by decide +kernel
theorem dX4_begins_129 : decode cX4_begins 129 = .ok (.iconst 0, 1) := by decide +kernel
theorem dX4_begins_130 : decode cX4_begins 130 = .ok (.istore_n 3, 1) := by decide +kernel
theorem dX4_begins_131 : decode cX4_begins 131 = .ok (.iload_n 3, 1) := by decide +kernel
theorem dX4_begins_132 : decode cX4_begins 132 = .ok (.bipush 16, 2) := by decide +kernel
theorem dX4_begins_134 : decode cX4_begins 134 = .ok (.if_icmp .ge 21, 3) := by decide +kernel
theorem dX4_begins_137 : decode cX4_begins 137 = .ok (.aload_n 0, 1) := by decide +kernel
theorem dX4_begins_138 : decode cX4_begins 138 = .ok (.getfield 16, 3) := by decide +kernel
theorem dX4_begins_141 : decode cX4_begins 141 = .ok (.bipush 16, 2) := by decide +kernel
theorem dX4_begins_143 : decode cX4_begins 143 = .ok (.iload_n 2, 1) := by decide +kernel
theorem dX4_begins_144 : decode cX4_begins 144 = .ok (.imul, 1) := by decide +kernel
theorem dX4_begins_145 : decode cX4_begins 145 = .ok (.iload_n 3, 1) := by decide +kernel
theorem dX4_begins_146 : decode cX4_begins 146 = .ok (.iadd, 1) := by decide +kernel
theorem dX4_begins_147 : decode cX4_begins 147 = .ok (.iload_n 3, 1) := by decide +kernel
theorem dX4_begins_148 : decode cX4_begins 148 = .ok (.iastore, 1) := by decide +kernel
theorem dX4_begins_149 : decode cX4_begins 149 = .ok (.iinc 3 1, 3) := by decide +kernel
theorem dX4_begins_152 : decode cX4_begins 152 = .ok (.goto (-21), 3) := by decide +kernel
theorem dX4_begins_155 : decode cX4_begins 155 = .ok (.iinc 2 1, 3) := by decide +kernel
theorem dX4_begins_158 : decode cX4_begins 158 = .ok (.goto (-34), 3) := by decide +kernel
theorem dX4_begins_161 : decode cX4_begins 161 = .ok (.return_, 1) := by decide +kernel
theorem dX4_add_0 : decode cX4_add 0 = .ok (.aload_n 0, 1) := by decide +kernel
theorem dX4_add_1 : decode cX4_add 1 = .ok (.getfield 7, 3) := by decide +kernel
theorem dX4_add_4 : decode cX4_add 4 = .ok (.bipush 16, 2) := by decide +kernel
theorem dX4_add_6 : decode cX4_add 6 = .ok (.iload_n 1, 1) := by decide +kernel
theorem dX4_add_7 : decode cX4_add 7 = .ok (.imul, 1) := by decide +kernel
theorem dX4_add_8 : decode cX4_add 8 = .ok (.iload_n 2, 1) := by decide +kernel
theorem dX4_add_9 : decode cX4_add 9 = .ok (.iadd, 1) := by decide +kernel
theorem dX4_add_10 : decode cX4_add 10 = .ok (.iaload, 1) := by decide +kernel
theorem dX4_add_11 : decode cX4_add 11 = .ok (.ireturn, 1) := by decide +kernel
theorem dX4_by_0 : decode cX4_by 0 = .ok (.aload_n 0, 1) := by decide +kernel
theorem dX4_by_1 : decode cX4_by 1 = .ok (.getfield 13, 3) := by decide +kernel
theorem dX4_by_4 : decode cX4_by 4 = .ok (.bipush 16, 2) := by decide +kernel
theorem dX4_by_6 : decode cX4_by 6 = .ok (.iload_n 1, 1) := by decide +kernel
theorem dX4_by_7 : decode cX4_by 7 = .ok (.imul, 1) := by decide +kernel
theorem dX4_by_8 : decode cX4_by 8 = .ok (.iload_n 2, 1) := by decide +kernel
theorem dX4_by_9 : decode cX4_by 9 = .ok (.iadd, 1) := by decide +kernel
theorem dX4_by_10 : decode cX4_by 10 = .ok (.iaload, 1) := by decide +kernel
theorem dX4_by_11 : decode cX4_by 11 = .ok (.ireturn, 1) := by decide +kernel
theorem dX4_minus_0 : decode cX4_minus 0 = .ok (.iconst 0, 1) := by decide +kernel
theorem dX4_minus_1 : decode cX4_minus 1 = .ok (.istore_n 2, 1) := by decide +kernel
theorem dX4_minus_2 : decode cX4_minus 2 = .ok (.aload_n 0, 1) := by decide +kernel
theorem dX4_minus_3 : decode cX4_minus 3 = .ok (.iload_n 1, 1) := by decide +kernel
theorem dX4_minus_4 : decode cX4_minus 4 = .ok (.iload_n 2, 1) := by decide +kernel
theorem dX4_minus_5 : decode cX4_minus 5 = .ok (.invokevirtual 49, 3) := by decide +kernel
theorem dX4_minus_8 : decode cX4_minus 8 = .ok (.ifCond .eq 9, 3) := by decide +kernel
theorem dX4_minus_11 : decode cX4_minus 11 = .ok (.iinc 2 1, 3) := by decide +kernel
theorem dX4_minus_14 : decode cX4_minus 14 = .ok (.goto (-12), 3) := by decide +kernel
theorem dX4_minus_17 : decode cX4_minus 17 = .ok (.iload_n 2, 1) := by decide +kernel
theorem dX4_minus_18 : decode cX4_minus 18 = .ok (.ireturn, 1) := by decide +kernel
theorem dX4_isNumber_0 : decode cX4_isNumber 0 = .ok (.iload_n 1, 1) := by decide +kernel
theorem dX4_isNumber_1 : decode cX4_isNumber 1 = .ok (.iconst 0, 1) := by decide +kernel
theorem dX4_isNumber_2 : decode cX4_isNumber 2 = .ok (.aload_n 0, 1) := by decide +kernel
theorem dX4_isNumber_3 : decode cX4_isNumber 3 = .ok (.getfield 39, 3) := by decide +kernel
theorem dX4_isNumber_6 : decode cX4_isNumber 6 = .ok (.iconst 1, 1) := by decide +kernel
theorem dX4_isNumber_7 : decode cX4_isNumber 7 = .ok (.isub, 1) := by decide +kernel
theorem dX4_isNumber_8 : decode cX4_isNumber 8 = .ok (.invokestatic 52, 3) := by decide +kernel
theorem dX4_isNumber_11 : decode cX4_isNumber 11 = .ok (.ireturn, 1) := by decide +kernel
theorem dX4_isMap_0 : decode cX4_isMap 0 = .ok (.iload_n 0, 1) := by decide +kernel
theorem dX4_isMap_1 : decode cX4_isMap 1 = .ok (.iconst 0, 1) := by decide +kernel
theorem dX4_isMap_2 : decode cX4_isMap 2 = .ok (.iconst 3, 1) := by decide +kernel
theorem dX4_isMap_3 : decode cX4_isMap 3 = .ok (.invokestatic 52, 3) := by decide +kernel
theorem dX4_isMap_6 : decode cX4_isMap 6 = .ok (.ireturn, 1) := by decide +kernel
theorem dX4_power_0 : decode cX4_power 0 = .ok (.iconst 1, 1) := by decide +kernel
theorem dX4_power_1 : decode cX4_power 1 = .ok (.istore_n 3, 1) := by decide +kernel
theorem dX4_power_2 : decode cX4_power 2 = .ok (.iconst 0, 1) := by decide +kernel
theorem dX4_power_3 : decode cX4_power 3 = .ok (.istore 4, 2) := by decide +kernel
theorem dX4_power_5 : decode cX4_power 5 = .ok (.iload 4, 2) := by decide +kernel
theorem dX4_power_7 : decode cX4_power 7 = .ok (.iload_n 2, 1) := by decide +kernel
theorem dX4_power_8 : decode cX4_power 8 = .ok (.if_icmp .ge 16, 3) := by decide +kernel
theorem dX4_power_11 : decode cX4_power 11 = .ok (.aload_n 0, 1) := by decide +kernel
theorem dX4_power_12 : decode cX4_power 12 = .ok (.iload_n 3, 1) := by decide +kernel
theorem dX4_power_13 : decode cX4_power 13 = .ok (.iload_n 1, 1) := by decide +kernel
theorem dX4_power_14 : decode cX4_power 14 = .ok (.invokevirtual 56, 3) := by decide +kernel
theorem dX4_power_17 : decode cX4_power 17 = .ok (.istore_n 3, 1) := by decide +kernel
theorem dX4_power_18 : decode cX4_power 18 = .ok (.iinc 4 1, 3) := by decide +kernel
theorem dX4_power_21 : decode cX4_power 21 = .ok (.goto (-16), 3) := by decide +kernel
theorem dX4_power_24 : decode cX4_power 24 = .ok (.iload_n 3, 1) := by decide +kernel
theorem dX4_power_25 : decode cX4_power 25 = .ok (.ireturn, 1) := by decide +kernel
theorem dX4_field_0 : decode cX4_field 0 = .ok (.aload_n 0, 1) := by decide +kernel
theorem dX4_field_1 : decode cX4_field 1 = .ok (.iconst 0, 1) := by decide +kernel
theorem dX4_field_2 : decode cX4_field 2 = .ok (.putfield 32, 3) := by decide +kernel
theorem dX4_field_5 : decode cX4_field 5 = .ok (.iload_n 1, 1) := by decide +kernel
theorem dX4_field_6 : decode cX4_field 6 = .ok (.iconst 2, 1) := by decide +kernel
theorem dX4_field_7 : decode cX4_field 7 = .ok (.iconst 5, 1) := by decide +kernel
theorem dX4_field_8 : decode cX4_field 8 = .ok (.invokestatic 52, 3) := by decide +kernel
theorem dX4_field_11 : decode cX4_field 11 = .ok (.ifCond .ne 34, 3) := by decide +kernel
theorem dX4_field_14 : decode cX4_field 14 = .ok (.iload_n 1, 1) := by decide +kernel
theorem dX4_field_15 : decode cX4_field 15 = .ok (.bipush 7, 2) := by decide +kernel
theorem dX4_field_17 : decode cX4_field 17 = .ok (.bipush 9, 2) := by decide +kernel
theorem dX4_field_19 : decode cX4_field 19 = .ok (.invokestatic 52, 3) := by decide +kernel
theorem dX4_field_22 : decode cX4_field 22 = .ok (.ifCond .ne 23, 3) := by decide +kernel
theorem dX4_field_25 : decode cX4_field 25 = .ok (.iload_n 1, 1) := by decide +kernel
theorem dX4_field_26 : decode cX4_field 26 = .ok (.bipush 11, 2) := by decide +kernel
theorem dX4_field_28 : decode cX4_field 28 = .ok (.if_icmp .eq 17, 3) := by decide +kernel
theorem dX4_field_31 : decode cX4_field 31 = .ok (.iload_n 1, 1) := by decide +kernel
theorem dX4_field_32 : decode cX4_field 32 = .ok (.bipush 13, 2) := by decide +kernel
theorem dX4_field_34 : decode cX4_field 34 = .ok (.if_icmp .eq 11, 3) := by decide +kernel
theorem dX4_field_37 : decode cX4_field 37 = .ok (.iload_n 1, 1) := by decide +kernel
theorem dX4_field_38 : decode cX4_field 38 = .ok (.bipush 16, 2) := by decide +kernel
theorem dX4_field_40 : decode cX4_field 40 = .ok (.if_icmp .eq 5, 3) := by decide +kernel
theorem dX4_field_43 : decode cX4_field 43 = .ok (.iconst (-1), 1) := by decide +kernel
theorem dX4_field_44 : decode cX4_field 44 = .ok (.ireturn, 1) := by decide +kernel
theorem dX4_field_45 : decode cX4_field 45 = .ok (.aload_n 0, 1) := by decide +kernel
theorem dX4_field_46 : decode cX4_field 46 = .ok (.getfield 39, 3) := by decide +kernel
theorem dX4_field_49 : decode cX4_field 49 = .ok (.istore_n 2, 1) := by decide +kernel
theorem dX4_field_50 : decode cX4_field 50 = .ok (.aload_n 0, 1) := by decide +kernel
theorem dX4_field_51 : decode cX4_field 51 = .ok (.iload_n 1, 1) := by decide +kernel
theorem dX4_field_52 : decode cX4_field 52 = .ok (.invokevirtual 28, 3) := by decide +kernel
theorem dX4_field_55 : decode cX4_field 55 = .ok (.iload_n 2, 1) := by decide +kernel
theorem dX4_field_56 : decode cX4_field 56 = .ok (.ireturn, 1) := by decide +kernel
theorem dX4_plus_0 : decode cX4_plus 0 = .ok (.aload_n 0, 1) := by decide +kernel
theorem dX4_plus_1 : decode cX4_plus 1 = .ok (.iconst 0, 1) := by decide +kernel
theorem dX4_plus_2 : decode cX4_plus 2 = .ok (.putfield 32, 3) := by decide +kernel
theorem dX4_plus_5 : decode cX4_plus 5 = .ok (.aload_n 0, 1) := by decide +kernel
theorem dX4_plus_6 : decode cX4_plus 6 = .ok (.iload_n 1, 1) := by decide +kernel
theorem dX4_plus_7 : decode cX4_plus 7 = .ok (.invokevirtual 59, 3) := by decide +kernel
theorem dX4_plus_10 : decode cX4_plus 10 = .ok (.ifCond .eq 20, 3) := by decide +kernel
theorem dX4_plus_13 : decode cX4_plus 13 = .ok (.aload_n 0, 1) := by decide +kernel
theorem dX4_plus_14 : decode cX4_plus 14 = .ok (.iload_n 2, 1) := by decide +kernel
theorem dX4_plus_15 : decode cX4_plus 15 = .ok (.invokevirtual 59, 3) := by decide +kernel
theorem dX4_plus_18 : decode cX4_plus 18 = .ok (.ifCond .eq 12, 3) := by decide +kernel
theorem dX4_plus_21 : decode cX4_plus 21 = .ok (.aload_n 0, 1) := by decide +kernel
theorem dX4_plus_22 : decode cX4_plus 22 = .ok (.iload_n 1, 1) := by decide +kernel
theorem dX4_plus_23 : decode cX4_plus 23 = .ok (.iload_n 2, 1) := by decide +kernel
theorem dX4_plus_24 : decode cX4_plus 24 = .ok (.invokevirtual 49, 3) := by decide +kernel
theorem dX4_plus_27 : decode cX4_plus 27 = .ok (.goto 4, 3) := by decide +kernel
theorem dX4_plus_30 : decode cX4_plus 30 = .ok (.iconst (-1), 1) := by decide +kernel
theorem dX4_plus_31 : decode cX4_plus 31 = .ok (.ireturn, 1) := by decide +kernel
theorem dX4_times_0 : decode cX4_times 0 = .ok (.aload_n 0, 1) := by decide +kernel
theorem dX4_times_1 : decode cX4_times 1 = .ok (.iconst 0, 1) := by decide +kernel
theorem dX4_times_2 : decode cX4_times 2 = .ok (.putfield 32, 3) := by decide +kernel
theorem dX4_times_5 : decode cX4_times 5 = .ok (.aload_n 0, 1) := by decide +kernel
theorem dX4_times_6 : decode cX4_times 6 = .ok (.iload_n 1, 1) := by decide +kernel
theorem dX4_times_7 : decode cX4_times 7 = .ok (.invokevirtual 59, 3) := by decide +kernel
theorem dX4_times_10 : decode cX4_times 10 = .ok (.ifCond .eq 20, 3) := by decide +kernel
theorem dX4_times_13 : decode cX4_times 13 = .ok (.aload_n 0, 1) := by decide +kernel
theorem dX4_times_14 : decode cX4_times 14 = .ok (.iload_n 2, 1) := by decide +kernel
theorem dX4_times_15 : decode cX4_times 15 = .ok (.invokevirtual 59, 3) := by decide +kernel
theorem dX4_times_18 : decode cX4_times 18 = .ok (.ifCond .eq 12, 3) := by decide +kernel
theorem dX4_times_21 : decode cX4_times 21 = .ok (.aload_n 0, 1) := by decide +kernel
theorem dX4_times_22 : decode cX4_times 22 = .ok (.iload_n 1, 1) := by decide +kernel
theorem dX4_times_23 : decode cX4_times 23 = .ok (.iload_n 2, 1) := by decide +kernel
theorem dX4_times_24 : decode cX4_times 24 = .ok (.invokevirtual 56, 3) := by decide +kernel
theorem dX4_times_27 : decode cX4_times 27 = .ok (.goto 4, 3) := by decide +kernel
theorem dX4_times_30 : decode cX4_times 30 = .ok (.iconst (-1), 1) := by decide +kernel
theorem dX4_times_31 : decode cX4_times 31 = .ok (.ireturn, 1) := by decide +kernel
theorem dX4_over_0 : decode cX4_over 0 = .ok (.aload_n 0, 1) := by decide +kernel
theorem dX4_over_1 : decode cX4_over 1 = .ok (.iconst 0, 1) := by decide +kernel
theorem dX4_over_2 : decode cX4_over 2 = .ok (.putfield 32, 3) := by decide +kernel
theorem dX4_over_5 : decode cX4_over 5 = .ok (.aload_n 0, 1) := by decide +kernel
theorem dX4_over_6 : decode cX4_over 6 = .ok (.iload_n 1, 1) := by decide +kernel
theorem dX4_over_7 : decode cX4_over 7 = .ok (.invokevirtual 59, 3) := by decide +kernel
theorem dX4_over_10 : decode cX4_over 10 = .ok (.ifCond .ne 5, 3) := by decide +kernel
theorem dX4_over_13 : decode cX4_over 13 = .ok (.iconst (-1), 1) := by decide +kernel
theorem dX4_over_14 : decode cX4_over 14 = .ok (.ireturn, 1) := by decide +kernel
theorem dX4_over_15 : decode cX4_over 15 = .ok (.iload_n 1, 1) := by decide +kernel
theorem dX4_over_16 : decode cX4_over 16 = .ok (.ifCond .ne 6, 3) := by decide +kernel
theorem dX4_over_19 : decode cX4_over 19 = .ok (.bipush (-2), 2) := by decide +kernel
theorem dX4_over_21 : decode cX4_over 21 = .ok (.ireturn, 1) := by decide +kernel
theorem dX4_over_22 : decode cX4_over 22 = .ok (.iconst 1, 1) := by decide +kernel
theorem dX4_over_23 : decode cX4_over 23 = .ok (.istore_n 2, 1) := by decide +kernel
theorem dX4_over_24 : decode cX4_over 24 = .ok (.aload_n 0, 1) := by decide +kernel
theorem dX4_over_25 : decode cX4_over 25 = .ok (.iload_n 1, 1) := by decide +kernel
theorem dX4_over_26 : decode cX4_over 26 = .ok (.iload_n 2, 1) := by decide +kernel
theorem dX4_over_27 : decode cX4_over 27 = .ok (.invokevirtual 56, 3) := by decide +kernel
theorem dX4_over_30 : decode cX4_over 30 = .ok (.iconst 1, 1) := by decide +kernel
theorem dX4_over_31 : decode cX4_over 31 = .ok (.if_icmp .eq 9, 3) := by decide +kernel
theorem dX4_over_34 : decode cX4_over 34 = .ok (.iinc 2 1, 3) := by decide +kernel
theorem dX4_over_37 : decode cX4_over 37 = .ok (.goto (-13), 3) := by decide +kernel
theorem dX4_over_40 : decode cX4_over 40 = .ok (.iload_n 2, 1) := by decide +kernel
theorem dX4_over_41 : decode cX4_over 41 = .ok (.ireturn, 1) := by decide +kernel
theorem dX4_set_0 : decode cX4_set 0 = .ok (.aload_n 0, 1) := by decide +kernel
theorem dX4_set_1 : decode cX4_set 1 = .ok (.iconst 0, 1) := by decide +kernel
theorem dX4_set_2 : decode cX4_set 2 = .ok (.putfield 32, 3) := by decide +kernel
theorem dX4_set_5 : decode cX4_set 5 = .ok (.iload_n 1, 1) := by decide +kernel
theorem dX4_set_6 : decode cX4_set 6 = .ok (.invokestatic 63, 3) := by decide +kernel
theorem dX4_set_9 : decode cX4_set 9 = .ok (.ifCond .eq 19, 3) := by decide +kernel
theorem dX4_set_12 : decode cX4_set 12 = .ok (.aload_n 0, 1) := by decide +kernel
theorem dX4_set_13 : decode cX4_set 13 = .ok (.iload_n 2, 1) := by decide +kernel
theorem dX4_set_14 : decode cX4_set 14 = .ok (.invokevirtual 59, 3) := by decide +kernel
theorem dX4_set_17 : decode cX4_set 17 = .ok (.ifCond .eq 11, 3) := by decide +kernel
theorem dX4_set_20 : decode cX4_set 20 = .ok (.aload_n 0, 1) := by decide +kernel
theorem dX4_set_21 : decode cX4_set 21 = .ok (.iload_n 3, 1) := by decide +kernel
theorem dX4_set_22 : decode cX4_set 22 = .ok (.invokevirtual 59, 3) := by decide +kernel
theorem dX4_set_25 : decode cX4_set 25 = .ok (.ifCond .ne 5, 3) := by decide +kernel
theorem dX4_set_28 : decode cX4_set 28 = .ok (.iconst (-1), 1) := by decide +kernel
theorem dX4_set_29 : decode cX4_set 29 = .ok (.ireturn, 1) := by decide +kernel
theorem dX4_set_30 : decode cX4_set 30 = .ok (.aload_n 0, 1) := by decide +kernel
theorem dX4_set_31 : decode cX4_set 31 = .ok (.getfield 16, 3) := by decide +kernel
theorem dX4_set_34 : decode cX4_set 34 = .ok (.bipush 16, 2) := by decide +kernel
theorem dX4_set_36 : decode cX4_set 36 = .ok (.iload_n 1, 1) := by decide +kernel
theorem dX4_set_37 : decode cX4_set 37 = .ok (.imul, 1) := by decide +kernel
theorem dX4_set_38 : decode cX4_set 38 = .ok (.iload_n 2, 1) := by decide +kernel
theorem dX4_set_39 : decode cX4_set 39 = .ok (.iadd, 1) := by decide +kernel
theorem dX4_set_40 : decode cX4_set 40 = .ok (.iaload, 1) := by decide +kernel
theorem dX4_set_41 : decode cX4_set 41 = .ok (.istore 4, 2) := by decide +kernel
theorem dX4_set_43 : decode cX4_set 43 = .ok (.aload_n 0, 1) := by decide +kernel
theorem dX4_set_44 : decode cX4_set 44 = .ok (.getfield 16, 3) := by decide +kernel
theorem dX4_set_47 : decode cX4_set 47 = .ok (.bipush 16, 2) := by decide +kernel
theorem dX4_set_49 : decode cX4_set 49 = .ok (.iload_n 1, 1) := by decide +kernel
theorem dX4_set_50 : decode cX4_set 50 = .ok (.imul, 1) := by decide +kernel
theorem dX4_set_51 : decode cX4_set 51 = .ok (.iload_n 2, 1) := by decide +kernel
theorem dX4_set_52 : decode cX4_set 52 = .ok (.iadd, 1) := by decide +kernel
theorem dX4_set_53 : decode cX4_set 53 = .ok (.iload_n 3, 1) := by decide +kernel
theorem dX4_set_54 : decode cX4_set 54 = .ok (.iastore, 1) := by decide +kernel
theorem dX4_set_55 : decode cX4_set 55 = .ok (.iload 4, 2) := by decide +kernel
theorem dX4_set_57 : decode cX4_set 57 = .ok (.ireturn, 1) := by decide +kernel
theorem dX4_at_0 : decode cX4_at 0 = .ok (.aload_n 0, 1) := by decide +kernel
theorem dX4_at_1 : decode cX4_at 1 = .ok (.iconst 0, 1) := by decide +kernel
theorem dX4_at_2 : decode cX4_at 2 = .ok (.putfield 32, 3) := by decide +kernel
theorem dX4_at_5 : decode cX4_at 5 = .ok (.iload_n 1, 1) := by decide +kernel
theorem dX4_at_6 : decode cX4_at 6 = .ok (.invokestatic 63, 3) := by decide +kernel
theorem dX4_at_9 : decode cX4_at 9 = .ok (.ifCond .eq 25, 3) := by decide +kernel
theorem dX4_at_12 : decode cX4_at 12 = .ok (.aload_n 0, 1) := by decide +kernel
theorem dX4_at_13 : decode cX4_at 13 = .ok (.iload_n 2, 1) := by decide +kernel
theorem dX4_at_14 : decode cX4_at 14 = .ok (.invokevirtual 59, 3) := by decide +kernel
theorem dX4_at_17 : decode cX4_at 17 = .ok (.ifCond .eq 17, 3) := by decide +kernel
theorem dX4_at_20 : decode cX4_at 20 = .ok (.aload_n 0, 1) := by decide +kernel
theorem dX4_at_21 : decode cX4_at 21 = .ok (.getfield 16, 3) := by decide +kernel
theorem dX4_at_24 : decode cX4_at 24 = .ok (.bipush 16, 2) := by decide +kernel
theorem dX4_at_26 : decode cX4_at 26 = .ok (.iload_n 1, 1) := by decide +kernel
theorem dX4_at_27 : decode cX4_at 27 = .ok (.imul, 1) := by decide +kernel
theorem dX4_at_28 : decode cX4_at 28 = .ok (.iload_n 2, 1) := by decide +kernel
theorem dX4_at_29 : decode cX4_at 29 = .ok (.iadd, 1) := by decide +kernel
theorem dX4_at_30 : decode cX4_at 30 = .ok (.iaload, 1) := by decide +kernel
theorem dX4_at_31 : decode cX4_at 31 = .ok (.goto 4, 3) := by decide +kernel
theorem dX4_at_34 : decode cX4_at 34 = .ok (.iconst (-1), 1) := by decide +kernel
theorem dX4_at_35 : decode cX4_at 35 = .ok (.ireturn, 1) := by decide +kernel
theorem dX4_coefficientOf_0 : decode cX4_coefficientOf 0 = .ok (.iload_n 2, 1) := by decide +kernel
theorem dX4_coefficientOf_1 : decode cX4_coefficientOf 1 = .ok (.ifCond .ne 13, 3) := by decide +kernel
theorem dX4_coefficientOf_4 : decode cX4_coefficientOf 4 = .ok (.aload_n 0, 1) := by decide +kernel
theorem dX4_coefficientOf_5 : decode cX4_coefficientOf 5 = .ok (.getfield 16, 3) := by decide +kernel
theorem dX4_coefficientOf_8 : decode cX4_coefficientOf 8 = .ok (.bipush 16, 2) := by decide +kernel
theorem dX4_coefficientOf_10 : decode cX4_coefficientOf 10 = .ok (.iload_n 1, 1) := by decide +kernel
theorem dX4_coefficientOf_11 : decode cX4_coefficientOf 11 = .ok (.imul, 1) := by decide +kernel
theorem dX4_coefficientOf_12 : decode cX4_coefficientOf 12 = .ok (.iaload, 1) := by decide +kernel
theorem dX4_coefficientOf_13 : decode cX4_coefficientOf 13 = .ok (.ireturn, 1) := by decide +kernel
theorem dX4_coefficientOf_14 : decode cX4_coefficientOf 14 = .ok (.iconst 0, 1) := by decide +kernel
theorem dX4_coefficientOf_15 : decode cX4_coefficientOf 15 = .ok (.istore_n 3, 1) := by decide +kernel
theorem dX4_coefficientOf_16 : decode cX4_coefficientOf 16 = .ok (.iconst 0, 1) := by decide +kernel
theorem dX4_coefficientOf_17 : decode cX4_coefficientOf 17 = .ok (.istore 4, 2) := by decide +kernel
theorem dX4_coefficientOf_19 : decode cX4_coefficientOf 19 = .ok (.iload 4, 2) := by decide +kernel
theorem dX4_coefficientOf_21 : decode cX4_coefficientOf 21 = .ok (.aload_n 0, 1) := by decide +kernel
theorem dX4_coefficientOf_22 : decode cX4_coefficientOf 22 = .ok (.getfield 39, 3) := by decide +kernel
theorem dX4_coefficientOf_25 : decode cX4_coefficientOf 25 = .ok (.if_icmp .ge 45, 3) := by decide +kernel
theorem dX4_coefficientOf_28 : decode cX4_coefficientOf 28 = .ok (.aload_n 0, 1) := by decide +kernel
theorem dX4_coefficientOf_29 : decode cX4_coefficientOf 29 = .ok (.iload_n 3, 1) := by decide +kernel
theorem dX4_coefficientOf_30 : decode cX4_coefficientOf 30 = .ok (.aload_n 0, 1) := by decide +kernel
theorem dX4_coefficientOf_31 : decode cX4_coefficientOf 31 = .ok (.aload_n 0, 1) := by decide +kernel
theorem dX4_coefficientOf_32 : decode cX4_coefficientOf 32 = .ok (.getfield 16, 3) := by decide +kernel
theorem dX4_coefficientOf_35 : decode cX4_coefficientOf 35 = .ok (.bipush 16, 2) := by decide +kernel
theorem dX4_coefficientOf_37 : decode cX4_coefficientOf 37 = .ok (.iload_n 1, 1) := by decide +kernel
theorem dX4_coefficientOf_38 : decode cX4_coefficientOf 38 = .ok (.imul, 1) := by decide +kernel
theorem dX4_coefficientOf_39 : decode cX4_coefficientOf 39 = .ok (.iload 4, 2) := by decide +kernel
theorem dX4_coefficientOf_41 : decode cX4_coefficientOf 41 = .ok (.iadd, 1) := by decide +kernel
theorem dX4_coefficientOf_42 : decode cX4_coefficientOf 42 = .ok (.iaload, 1) := by decide +kernel
theorem dX4_coefficientOf_43 : decode cX4_coefficientOf 43 = .ok (.aload_n 0, 1) := by decide +kernel
theorem dX4_coefficientOf_44 : decode cX4_coefficientOf 44 = .ok (.iload 4, 2) := by decide +kernel
theorem dX4_coefficientOf_46 : decode cX4_coefficientOf 46 = .ok (.aload_n 0, 1) := by decide +kernel
theorem dX4_coefficientOf_47 : decode cX4_coefficientOf 47 = .ok (.getfield 39, 3) := by decide +kernel
theorem dX4_coefficientOf_50 : decode cX4_coefficientOf 50 = .ok (.iconst 1, 1) := by decide +kernel
theorem dX4_coefficientOf_51 : decode cX4_coefficientOf 51 = .ok (.isub, 1) := by decide +kernel
theorem dX4_coefficientOf_52 : decode cX4_coefficientOf 52 = .ok (.iload_n 2, 1) := by decide +kernel
theorem dX4_coefficientOf_53 : decode cX4_coefficientOf 53 = .ok (.isub, 1) := by decide +kernel
theorem dX4_coefficientOf_54 : decode cX4_coefficientOf 54 = .ok (.invokevirtual 66, 3) := by decide +kernel
theorem dX4_coefficientOf_57 : decode cX4_coefficientOf 57 = .ok (.invokevirtual 56, 3) := by decide +kernel
theorem dX4_coefficientOf_60 : decode cX4_coefficientOf 60 = .ok (.invokevirtual 49, 3) := by decide +kernel
theorem dX4_coefficientOf_63 : decode cX4_coefficientOf 63 = .ok (.istore_n 3, 1) := by decide +kernel
theorem dX4_coefficientOf_64 : decode cX4_coefficientOf 64 = .ok (.iinc 4 1, 3) := by decide +kernel
theorem dX4_coefficientOf_67 : decode cX4_coefficientOf 67 = .ok (.goto (-48), 3) := by decide +kernel
theorem dX4_coefficientOf_70 : decode cX4_coefficientOf 70 = .ok (.aload_n 0, 1) := by decide +kernel
theorem dX4_coefficientOf_71 : decode cX4_coefficientOf 71 = .ok (.iload_n 3, 1) := by decide +kernel
theorem dX4_coefficientOf_72 : decode cX4_coefficientOf 72 = .ok (.invokevirtual 69, 3) := by decide +kernel
theorem dX4_coefficientOf_75 : decode cX4_coefficientOf 75 = .ok (.ireturn, 1) := by decide +kernel
theorem dX4_coefficient_0 : decode cX4_coefficient 0 = .ok (.aload_n 0, 1) := by decide +kernel
theorem dX4_coefficient_1 : decode cX4_coefficient 1 = .ok (.iconst 0, 1) := by decide +kernel
theorem dX4_coefficient_2 : decode cX4_coefficient 2 = .ok (.putfield 32, 3) := by decide +kernel
theorem dX4_coefficient_5 : decode cX4_coefficient 5 = .ok (.iload_n 1, 1) := by decide +kernel
theorem dX4_coefficient_6 : decode cX4_coefficient 6 = .ok (.invokestatic 63, 3) := by decide +kernel
theorem dX4_coefficient_9 : decode cX4_coefficient 9 = .ok (.ifCond .eq 20, 3) := by decide +kernel
theorem dX4_coefficient_12 : decode cX4_coefficient 12 = .ok (.aload_n 0, 1) := by decide +kernel
theorem dX4_coefficient_13 : decode cX4_coefficient 13 = .ok (.iload_n 2, 1) := by decide +kernel
theorem dX4_coefficient_14 : decode cX4_coefficient 14 = .ok (.invokevirtual 59, 3) := by decide +kernel
theorem dX4_coefficient_17 : decode cX4_coefficient 17 = .ok (.ifCond .eq 12, 3) := by decide +kernel
theorem dX4_coefficient_20 : decode cX4_coefficient 20 = .ok (.aload_n 0, 1) := by decide +kernel
theorem dX4_coefficient_21 : decode cX4_coefficient 21 = .ok (.iload_n 1, 1) := by decide +kernel
theorem dX4_coefficient_22 : decode cX4_coefficient 22 = .ok (.iload_n 2, 1) := by decide +kernel
theorem dX4_coefficient_23 : decode cX4_coefficient 23 = .ok (.invokevirtual 73, 3) := by decide +kernel
theorem dX4_coefficient_26 : decode cX4_coefficient 26 = .ok (.goto 4, 3) := by decide +kernel
theorem dX4_coefficient_29 : decode cX4_coefficient 29 = .ok (.iconst (-1), 1) := by decide +kernel
theorem dX4_coefficient_30 : decode cX4_coefficient 30 = .ok (.ireturn, 1) := by decide +kernel
theorem dX4_change_0 : decode cX4_change 0 = .ok (.aload_n 0, 1) := by decide +kernel
theorem dX4_change_1 : decode cX4_change 1 = .ok (.iconst 0, 1) := by decide +kernel
theorem dX4_change_2 : decode cX4_change 2 = .ok (.putfield 32, 3) := by decide +kernel
theorem dX4_change_5 : decode cX4_change 5 = .ok (.iload_n 1, 1) := by decide +kernel
theorem dX4_change_6 : decode cX4_change 6 = .ok (.invokestatic 63, 3) := by decide +kernel
theorem dX4_change_9 : decode cX4_change 9 = .ok (.ifCond .eq 19, 3) := by decide +kernel
theorem dX4_change_12 : decode cX4_change 12 = .ok (.aload_n 0, 1) := by decide +kernel
theorem dX4_change_13 : decode cX4_change 13 = .ok (.iload_n 2, 1) := by decide +kernel
theorem dX4_change_14 : decode cX4_change 14 = .ok (.invokevirtual 59, 3) := by decide +kernel
theorem dX4_change_17 : decode cX4_change 17 = .ok (.ifCond .eq 11, 3) := by decide +kernel
theorem dX4_change_20 : decode cX4_change 20 = .ok (.aload_n 0, 1) := by decide +kernel
theorem dX4_change_21 : decode cX4_change 21 = .ok (.iload_n 3, 1) := by decide +kernel
theorem dX4_change_22 : decode cX4_change 22 = .ok (.invokevirtual 59, 3) := by decide +kernel
theorem dX4_change_25 : decode cX4_change 25 = .ok (.ifCond .ne 5, 3) := by decide +kernel
theorem dX4_change_28 : decode cX4_change 28 = .ok (.iconst (-1), 1) := by decide +kernel
theorem dX4_change_29 : decode cX4_change 29 = .ok (.ireturn, 1) := by decide +kernel
theorem dX4_change_30 : decode cX4_change 30 = .ok (.aload_n 0, 1) := by decide +kernel
theorem dX4_change_31 : decode cX4_change 31 = .ok (.iload_n 1, 1) := by decide +kernel
theorem dX4_change_32 : decode cX4_change 32 = .ok (.iload_n 2, 1) := by decide +kernel
theorem dX4_change_33 : decode cX4_change 33 = .ok (.invokevirtual 73, 3) := by decide +kernel
theorem dX4_change_36 : decode cX4_change 36 = .ok (.istore 4, 2) := by decide +kernel
theorem dX4_change_38 : decode cX4_change 38 = .ok (.aload_n 0, 1) := by decide +kernel
theorem dX4_change_39 : decode cX4_change 39 = .ok (.iload_n 3, 1) := by decide +kernel
theorem dX4_change_40 : decode cX4_change 40 = .ok (.aload_n 0, 1) := by decide +kernel
theorem dX4_change_41 : decode cX4_change 41 = .ok (.iload 4, 2) := by decide +kernel
theorem dX4_change_43 : decode cX4_change 43 = .ok (.invokevirtual 69, 3) := by decide +kernel
theorem dX4_change_46 : decode cX4_change 46 = .ok (.invokevirtual 49, 3) := by decide +kernel
theorem dX4_change_49 : decode cX4_change 49 = .ok (.istore 5, 2) := by decide +kernel
theorem dX4_change_51 : decode cX4_change 51 = .ok (.iconst 0, 1) := by decide +kernel
theorem dX4_change_52 : decode cX4_change 52 = .ok (.istore 6, 2) := by decide +kernel
theorem dX4_change_54 : decode cX4_change 54 = .ok (.iload 6, 2) := by decide +kernel
theorem dX4_change_56 : decode cX4_change 56 = .ok (.aload_n 0, 1) := by decide +kernel
theorem dX4_change_57 : decode cX4_change 57 = .ok (.getfield 39, 3) := by decide +kernel
theorem dX4_change_60 : decode cX4_change 60 = .ok (.if_icmp .ge 50, 3) := by decide +kernel
theorem dX4_change_63 : decode cX4_change 63 = .ok (.aload_n 0, 1) := by decide +kernel
theorem dX4_change_64 : decode cX4_change 64 = .ok (.getfield 16, 3) := by decide +kernel
theorem dX4_change_67 : decode cX4_change 67 = .ok (.bipush 16, 2) := by decide +kernel
theorem dX4_change_69 : decode cX4_change 69 = .ok (.iload_n 1, 1) := by decide +kernel
theorem dX4_change_70 : decode cX4_change 70 = .ok (.imul, 1) := by decide +kernel
theorem dX4_change_71 : decode cX4_change 71 = .ok (.iload 6, 2) := by decide +kernel
theorem dX4_change_73 : decode cX4_change 73 = .ok (.iadd, 1) := by decide +kernel
theorem dX4_change_74 : decode cX4_change 74 = .ok (.aload_n 0, 1) := by decide +kernel
theorem dX4_change_75 : decode cX4_change 75 = .ok (.aload_n 0, 1) := by decide +kernel
theorem dX4_change_76 : decode cX4_change 76 = .ok (.getfield 16, 3) := by decide +kernel
theorem dX4_change_79 : decode cX4_change 79 = .ok (.bipush 16, 2) := by decide +kernel
theorem dX4_change_81 : decode cX4_change 81 = .ok (.iload_n 1, 1) := by decide +kernel
theorem dX4_change_82 : decode cX4_change 82 = .ok (.imul, 1) := by decide +kernel
theorem dX4_change_83 : decode cX4_change 83 = .ok (.iload 6, 2) := by decide +kernel
theorem dX4_change_85 : decode cX4_change 85 = .ok (.iadd, 1) := by decide +kernel
theorem dX4_change_86 : decode cX4_change 86 = .ok (.iaload, 1) := by decide +kernel
theorem dX4_change_87 : decode cX4_change 87 = .ok (.aload_n 0, 1) := by decide +kernel
theorem dX4_change_88 : decode cX4_change 88 = .ok (.iload 5, 2) := by decide +kernel
theorem dX4_change_90 : decode cX4_change 90 = .ok (.aload_n 0, 1) := by decide +kernel
theorem dX4_change_91 : decode cX4_change 91 = .ok (.iload 6, 2) := by decide +kernel
theorem dX4_change_93 : decode cX4_change 93 = .ok (.iload_n 2, 1) := by decide +kernel
theorem dX4_change_94 : decode cX4_change 94 = .ok (.invokevirtual 66, 3) := by decide +kernel
theorem dX4_change_97 : decode cX4_change 97 = .ok (.invokevirtual 56, 3) := by decide +kernel
theorem dX4_change_100 : decode cX4_change 100 = .ok (.invokevirtual 49, 3) := by decide +kernel
theorem dX4_change_103 : decode cX4_change 103 = .ok (.iastore, 1) := by decide +kernel
theorem dX4_change_104 : decode cX4_change 104 = .ok (.iinc 6 1, 3) := by decide +kernel
theorem dX4_change_107 : decode cX4_change 107 = .ok (.goto (-53), 3) := by decide +kernel
theorem dX4_change_110 : decode cX4_change 110 = .ok (.iload 4, 2) := by decide +kernel
theorem dX4_change_112 : decode cX4_change 112 = .ok (.ireturn, 1) := by decide +kernel
theorem dX4_degree_0 : decode cX4_degree 0 = .ok (.aload_n 0, 1) := by decide +kernel
theorem dX4_degree_1 : decode cX4_degree 1 = .ok (.iconst 0, 1) := by decide +kernel
theorem dX4_degree_2 : decode cX4_degree 2 = .ok (.putfield 32, 3) := by decide +kernel
theorem dX4_degree_5 : decode cX4_degree 5 = .ok (.iload_n 1, 1) := by decide +kernel
theorem dX4_degree_6 : decode cX4_degree 6 = .ok (.invokestatic 63, 3) := by decide +kernel
theorem dX4_degree_9 : decode cX4_degree 9 = .ok (.ifCond .ne 5, 3) := by decide +kernel
theorem dX4_degree_12 : decode cX4_degree 12 = .ok (.iconst (-1), 1) := by decide +kernel
theorem dX4_degree_13 : decode cX4_degree 13 = .ok (.ireturn, 1) := by decide +kernel
theorem dX4_degree_14 : decode cX4_degree 14 = .ok (.aload_n 0, 1) := by decide +kernel
theorem dX4_degree_15 : decode cX4_degree 15 = .ok (.getfield 39, 3) := by decide +kernel
theorem dX4_degree_18 : decode cX4_degree 18 = .ok (.iconst 1, 1) := by decide +kernel
theorem dX4_degree_19 : decode cX4_degree 19 = .ok (.isub, 1) := by decide +kernel
theorem dX4_degree_20 : decode cX4_degree 20 = .ok (.istore_n 2, 1) := by decide +kernel
theorem dX4_degree_21 : decode cX4_degree 21 = .ok (.iload_n 2, 1) := by decide +kernel
theorem dX4_degree_22 : decode cX4_degree 22 = .ok (.ifCond .lt 18, 3) := by decide +kernel
theorem dX4_degree_25 : decode cX4_degree 25 = .ok (.aload_n 0, 1) := by decide +kernel
theorem dX4_degree_26 : decode cX4_degree 26 = .ok (.iload_n 1, 1) := by decide +kernel
theorem dX4_degree_27 : decode cX4_degree 27 = .ok (.iload_n 2, 1) := by decide +kernel
theorem dX4_degree_28 : decode cX4_degree 28 = .ok (.invokevirtual 73, 3) := by decide +kernel
theorem dX4_degree_31 : decode cX4_degree 31 = .ok (.ifCond .ne 9, 3) := by decide +kernel
theorem dX4_degree_34 : decode cX4_degree 34 = .ok (.iinc 2 (-1), 3) := by decide +kernel
theorem dX4_degree_37 : decode cX4_degree 37 = .ok (.goto (-16), 3) := by decide +kernel
theorem dX4_degree_40 : decode cX4_degree 40 = .ok (.iload_n 2, 1) := by decide +kernel
theorem dX4_degree_41 : decode cX4_degree 41 = .ok (.ifCond .ge 8, 3) := by decide +kernel
theorem dX4_degree_44 : decode cX4_degree 44 = .ok (.bipush (-9), 2) := by decide +kernel
theorem dX4_degree_46 : decode cX4_degree 46 = .ok (.goto 4, 3) := by decide +kernel
theorem dX4_degree_49 : decode cX4_degree 49 = .ok (.iload_n 2, 1) := by decide +kernel
theorem dX4_degree_50 : decode cX4_degree 50 = .ok (.ireturn, 1) := by decide +kernel
theorem dX4_isRecipe_0 : decode cX4_isRecipe 0 = .ok (.iload_n 1, 1) := by decide +kernel
theorem dX4_isRecipe_1 : decode cX4_isRecipe 1 = .ok (.iconst 0, 1) := by decide +kernel
theorem dX4_isRecipe_2 : decode cX4_isRecipe 2 = .ok (.iconst 2, 1) := by decide +kernel
theorem dX4_isRecipe_3 : decode cX4_isRecipe 3 = .ok (.invokestatic 52, 3) := by decide +kernel
theorem dX4_isRecipe_6 : decode cX4_isRecipe 6 = .ok (.ifCond .eq 48, 3) := by decide +kernel
theorem dX4_isRecipe_9 : decode cX4_isRecipe 9 = .ok (.iload_n 2, 1) := by decide +kernel
theorem dX4_isRecipe_10 : decode cX4_isRecipe 10 = .ok (.iconst 1, 1) := by decide +kernel
theorem dX4_isRecipe_11 : decode cX4_isRecipe 11 = .ok (.sipush 255, 3) := by decide +kernel
theorem dX4_isRecipe_14 : decode cX4_isRecipe 14 = .ok (.invokestatic 52, 3) := by decide +kernel
theorem dX4_isRecipe_17 : decode cX4_isRecipe 17 = .ok (.ifCond .eq 37, 3) := by decide +kernel
theorem dX4_isRecipe_20 : decode cX4_isRecipe 20 = .ok (.iload_n 1, 1) := by decide +kernel
theorem dX4_isRecipe_21 : decode cX4_isRecipe 21 = .ok (.ifCond .eq 29, 3) := by decide +kernel
theorem dX4_isRecipe_24 : decode cX4_isRecipe 24 = .ok (.aload_n 0, 1) := by decide +kernel
theorem dX4_isRecipe_25 : decode cX4_isRecipe 25 = .ok (.iload_n 3, 1) := by decide +kernel
theorem dX4_isRecipe_26 : decode cX4_isRecipe 26 = .ok (.invokevirtual 59, 3) := by decide +kernel
theorem dX4_isRecipe_29 : decode cX4_isRecipe 29 = .ok (.ifCond .eq 25, 3) := by decide +kernel
theorem dX4_isRecipe_32 : decode cX4_isRecipe 32 = .ok (.aload_n 0, 1) := by decide +kernel
theorem dX4_isRecipe_33 : decode cX4_isRecipe 33 = .ok (.iload 4, 2) := by decide +kernel
theorem dX4_isRecipe_35 : decode cX4_isRecipe 35 = .ok (.invokevirtual 59, 3) := by decide +kernel
theorem dX4_isRecipe_38 : decode cX4_isRecipe 38 = .ok (.ifCond .eq 16, 3) := by decide +kernel
theorem dX4_isRecipe_41 : decode cX4_isRecipe 41 = .ok (.aload_n 0, 1) := by decide +kernel
theorem dX4_isRecipe_42 : decode cX4_isRecipe 42 = .ok (.iload 5, 2) := by decide +kernel
theorem dX4_isRecipe_44 : decode cX4_isRecipe 44 = .ok (.invokevirtual 59, 3) := by decide +kernel
theorem dX4_isRecipe_47 : decode cX4_isRecipe 47 = .ok (.ifCond .eq 7, 3) := by decide +kernel
theorem dX4_isRecipe_50 : decode cX4_isRecipe 50 = .ok (.iconst 1, 1) := by decide +kernel
theorem dX4_isRecipe_51 : decode cX4_isRecipe 51 = .ok (.goto 4, 3) := by decide +kernel
theorem dX4_isRecipe_54 : decode cX4_isRecipe 54 = .ok (.iconst 0, 1) := by decide +kernel
theorem dX4_isRecipe_55 : decode cX4_isRecipe 55 = .ok (.ireturn, 1) := by decide +kernel
theorem dX4_dressed_0 : decode cX4_dressed 0 = .ok (.aload_n 0, 1) := by decide +kernel
theorem dX4_dressed_1 : decode cX4_dressed 1 = .ok (.aload_n 0, 1) := by decide +kernel
theorem dX4_dressed_2 : decode cX4_dressed 2 = .ok (.iload_n 2, 1) := by decide +kernel
theorem dX4_dressed_3 : decode cX4_dressed 3 = .ok (.aload_n 0, 1) := by decide +kernel
theorem dX4_dressed_4 : decode cX4_dressed 4 = .ok (.aload_n 0, 1) := by decide +kernel
theorem dX4_dressed_5 : decode cX4_dressed 5 = .ok (.iload 5, 2) := by decide +kernel
theorem dX4_dressed_7 : decode cX4_dressed 7 = .ok (.iload_n 3, 1) := by decide +kernel
theorem dX4_dressed_8 : decode cX4_dressed 8 = .ok (.invokevirtual 49, 3) := by decide +kernel
theorem dX4_dressed_11 : decode cX4_dressed 11 = .ok (.iload_n 1, 1) := by decide +kernel
theorem dX4_dressed_12 : decode cX4_dressed 12 = .ok (.invokevirtual 66, 3) := by decide +kernel
theorem dX4_dressed_15 : decode cX4_dressed 15 = .ok (.invokevirtual 56, 3) := by decide +kernel
theorem dX4_dressed_18 : decode cX4_dressed 18 = .ok (.iload 4, 2) := by decide +kernel
theorem dX4_dressed_20 : decode cX4_dressed 20 = .ok (.invokevirtual 49, 3) := by decide +kernel
theorem dX4_dressed_23 : decode cX4_dressed 23 = .ok (.ireturn, 1) := by decide +kernel
theorem dX4_tasteOf_0 : decode cX4_tasteOf 0 = .ok (.iload_n 1, 1) := by decide +kernel
theorem dX4_tasteOf_1 : decode cX4_tasteOf 1 = .ok (.ifCond .ne 11, 3) := by decide +kernel
theorem dX4_tasteOf_4 : decode cX4_tasteOf 4 = .ok (.aload_n 0, 1) := by decide +kernel
theorem dX4_tasteOf_5 : decode cX4_tasteOf 5 = .ok (.iload 6, 2) := by decide +kernel
theorem dX4_tasteOf_7 : decode cX4_tasteOf 7 = .ok (.iload_n 2, 1) := by decide +kernel
theorem dX4_tasteOf_8 : decode cX4_tasteOf 8 = .ok (.invokevirtual 66, 3) := by decide +kernel
theorem dX4_tasteOf_11 : decode cX4_tasteOf 11 = .ok (.ireturn, 1) := by decide +kernel
theorem dX4_tasteOf_12 : decode cX4_tasteOf 12 = .ok (.aload_n 0, 1) := by decide +kernel
theorem dX4_tasteOf_13 : decode cX4_tasteOf 13 = .ok (.iload_n 2, 1) := by decide +kernel
theorem dX4_tasteOf_14 : decode cX4_tasteOf 14 = .ok (.iload_n 3, 1) := by decide +kernel
theorem dX4_tasteOf_15 : decode cX4_tasteOf 15 = .ok (.iload 4, 2) := by decide +kernel
theorem dX4_tasteOf_17 : decode cX4_tasteOf 17 = .ok (.iload 5, 2) := by decide +kernel
theorem dX4_tasteOf_19 : decode cX4_tasteOf 19 = .ok (.iload 6, 2) := by decide +kernel
theorem dX4_tasteOf_21 : decode cX4_tasteOf 21 = .ok (.invokevirtual 76, 3) := by decide +kernel
theorem dX4_tasteOf_24 : decode cX4_tasteOf 24 = .ok (.istore 7, 2) := by decide +kernel
theorem dX4_tasteOf_26 : decode cX4_tasteOf 26 = .ok (.iload_n 1, 1) := by decide +kernel
theorem dX4_tasteOf_27 : decode cX4_tasteOf 27 = .ok (.iconst 1, 1) := by decide +kernel
theorem dX4_tasteOf_28 : decode cX4_tasteOf 28 = .ok (.if_icmp .ne 8, 3) := by decide +kernel
theorem dX4_tasteOf_31 : decode cX4_tasteOf 31 = .ok (.iload 7, 2) := by decide +kernel
theorem dX4_tasteOf_33 : decode cX4_tasteOf 33 = .ok (.goto 15, 3) := by decide +kernel
theorem dX4_tasteOf_36 : decode cX4_tasteOf 36 = .ok (.aload_n 0, 1) := by decide +kernel
theorem dX4_tasteOf_37 : decode cX4_tasteOf 37 = .ok (.iload_n 2, 1) := by decide +kernel
theorem dX4_tasteOf_38 : decode cX4_tasteOf 38 = .ok (.iload_n 3, 1) := by decide +kernel
theorem dX4_tasteOf_39 : decode cX4_tasteOf 39 = .ok (.iload 4, 2) := by decide +kernel
theorem dX4_tasteOf_41 : decode cX4_tasteOf 41 = .ok (.iload 5, 2) := by decide +kernel
theorem dX4_tasteOf_43 : decode cX4_tasteOf 43 = .ok (.iload 7, 2) := by decide +kernel
theorem dX4_tasteOf_45 : decode cX4_tasteOf 45 = .ok (.invokevirtual 76, 3) := by decide +kernel
theorem dX4_tasteOf_48 : decode cX4_tasteOf 48 = .ok (.ireturn, 1) := by decide +kernel
theorem dX4_make_0 : decode cX4_make 0 = .ok (.aload_n 0, 1) := by decide +kernel
theorem dX4_make_1 : decode cX4_make 1 = .ok (.iconst 0, 1) := by decide +kernel
theorem dX4_make_2 : decode cX4_make 2 = .ok (.putfield 32, 3) := by decide +kernel
theorem dX4_make_5 : decode cX4_make 5 = .ok (.iload_n 1, 1) := by decide +kernel
theorem dX4_make_6 : decode cX4_make 6 = .ok (.invokestatic 63, 3) := by decide +kernel
theorem dX4_make_9 : decode cX4_make 9 = .ok (.ifCond .eq 18, 3) := by decide +kernel
theorem dX4_make_12 : decode cX4_make 12 = .ok (.aload_n 0, 1) := by decide +kernel
theorem dX4_make_13 : decode cX4_make 13 = .ok (.iload_n 2, 1) := by decide +kernel
theorem dX4_make_14 : decode cX4_make 14 = .ok (.iload_n 3, 1) := by decide +kernel
theorem dX4_make_15 : decode cX4_make 15 = .ok (.iload 4, 2) := by decide +kernel
theorem dX4_make_17 : decode cX4_make 17 = .ok (.iload 5, 2) := by decide +kernel
theorem dX4_make_19 : decode cX4_make 19 = .ok (.iload 6, 2) := by decide +kernel
theorem dX4_make_21 : decode cX4_make 21 = .ok (.invokevirtual 80, 3) := by decide +kernel
theorem dX4_make_24 : decode cX4_make 24 = .ok (.ifCond .ne 5, 3) := by decide +kernel
theorem dX4_make_27 : decode cX4_make 27 = .ok (.iconst (-1), 1) := by decide +kernel
theorem dX4_make_28 : decode cX4_make 28 = .ok (.ireturn, 1) := by decide +kernel
theorem dX4_make_29 : decode cX4_make 29 = .ok (.iconst 0, 1) := by decide +kernel
theorem dX4_make_30 : decode cX4_make 30 = .ok (.istore 7, 2) := by decide +kernel
theorem dX4_make_32 : decode cX4_make 32 = .ok (.iload 7, 2) := by decide +kernel
theorem dX4_make_34 : decode cX4_make 34 = .ok (.aload_n 0, 1) := by decide +kernel
theorem dX4_make_35 : decode cX4_make 35 = .ok (.getfield 39, 3) := by decide +kernel
theorem dX4_make_38 : decode cX4_make 38 = .ok (.if_icmp .ge 35, 3) := by decide +kernel
theorem dX4_make_41 : decode cX4_make 41 = .ok (.aload_n 0, 1) := by decide +kernel
theorem dX4_make_42 : decode cX4_make 42 = .ok (.getfield 16, 3) := by decide +kernel
theorem dX4_make_45 : decode cX4_make 45 = .ok (.bipush 16, 2) := by decide +kernel
theorem dX4_make_47 : decode cX4_make 47 = .ok (.iload_n 1, 1) := by decide +kernel
theorem dX4_make_48 : decode cX4_make 48 = .ok (.imul, 1) := by decide +kernel
theorem dX4_make_49 : decode cX4_make 49 = .ok (.iload 7, 2) := by decide +kernel
theorem dX4_make_51 : decode cX4_make 51 = .ok (.iadd, 1) := by decide +kernel
theorem dX4_make_52 : decode cX4_make 52 = .ok (.aload_n 0, 1) := by decide +kernel
theorem dX4_make_53 : decode cX4_make 53 = .ok (.iload_n 2, 1) := by decide +kernel
theorem dX4_make_54 : decode cX4_make 54 = .ok (.iload_n 3, 1) := by decide +kernel
theorem dX4_make_55 : decode cX4_make 55 = .ok (.iload 4, 2) := by decide +kernel
theorem dX4_make_57 : decode cX4_make 57 = .ok (.iload 5, 2) := by decide +kernel
theorem dX4_make_59 : decode cX4_make 59 = .ok (.iload 6, 2) := by decide +kernel
theorem dX4_make_61 : decode cX4_make 61 = .ok (.iload 7, 2) := by decide +kernel
theorem dX4_make_63 : decode cX4_make 63 = .ok (.invokevirtual 84, 3) := by decide +kernel
theorem dX4_make_66 : decode cX4_make 66 = .ok (.iastore, 1) := by decide +kernel
theorem dX4_make_67 : decode cX4_make 67 = .ok (.iinc 7 1, 3) := by decide +kernel
theorem dX4_make_70 : decode cX4_make 70 = .ok (.goto (-38), 3) := by decide +kernel
theorem dX4_make_73 : decode cX4_make 73 = .ok (.iconst 1, 1) := by decide +kernel
theorem dX4_make_74 : decode cX4_make 74 = .ok (.ireturn, 1) := by decide +kernel
theorem dX4_taste_0 : decode cX4_taste 0 = .ok (.aload_n 0, 1) := by decide +kernel
theorem dX4_taste_1 : decode cX4_taste 1 = .ok (.iconst 0, 1) := by decide +kernel
theorem dX4_taste_2 : decode cX4_taste 2 = .ok (.putfield 32, 3) := by decide +kernel
theorem dX4_taste_5 : decode cX4_taste 5 = .ok (.aload_n 0, 1) := by decide +kernel
theorem dX4_taste_6 : decode cX4_taste 6 = .ok (.iload_n 1, 1) := by decide +kernel
theorem dX4_taste_7 : decode cX4_taste 7 = .ok (.iload_n 2, 1) := by decide +kernel
theorem dX4_taste_8 : decode cX4_taste 8 = .ok (.iload_n 3, 1) := by decide +kernel
theorem dX4_taste_9 : decode cX4_taste 9 = .ok (.iload 4, 2) := by decide +kernel
theorem dX4_taste_11 : decode cX4_taste 11 = .ok (.iload 5, 2) := by decide +kernel
theorem dX4_taste_13 : decode cX4_taste 13 = .ok (.invokevirtual 80, 3) := by decide +kernel
theorem dX4_taste_16 : decode cX4_taste 16 = .ok (.ifCond .eq 12, 3) := by decide +kernel
theorem dX4_taste_19 : decode cX4_taste 19 = .ok (.aload_n 0, 1) := by decide +kernel
theorem dX4_taste_20 : decode cX4_taste 20 = .ok (.iload 6, 2) := by decide +kernel
theorem dX4_taste_22 : decode cX4_taste 22 = .ok (.invokevirtual 59, 3) := by decide +kernel
theorem dX4_taste_25 : decode cX4_taste 25 = .ok (.ifCond .ne 5, 3) := by decide +kernel
theorem dX4_taste_28 : decode cX4_taste 28 = .ok (.iconst (-1), 1) := by decide +kernel
theorem dX4_taste_29 : decode cX4_taste 29 = .ok (.ireturn, 1) := by decide +kernel
theorem dX4_taste_30 : decode cX4_taste 30 = .ok (.aload_n 0, 1) := by decide +kernel
theorem dX4_taste_31 : decode cX4_taste 31 = .ok (.dup, 1) := by decide +kernel
theorem dX4_taste_32 : decode cX4_taste 32 = .ok (.getfield 88, 3) := by decide +kernel
theorem dX4_taste_35 : decode cX4_taste 35 = .ok (.iload_n 1, 1) := by decide +kernel
theorem dX4_taste_36 : decode cX4_taste 36 = .ok (.ifCond .ne 7, 3) := by decide +kernel
theorem dX4_taste_39 : decode cX4_taste 39 = .ok (.lconst 1, 1) := by decide +kernel
theorem dX4_taste_40 : decode cX4_taste 40 = .ok (.goto 17, 3) := by decide +kernel
theorem dX4_taste_43 : decode cX4_taste 43 = .ok (.iload_n 1, 1) := by decide +kernel
theorem dX4_taste_44 : decode cX4_taste 44 = .ok (.iconst 1, 1) := by decide +kernel
theorem dX4_taste_45 : decode cX4_taste 45 = .ok (.if_icmp .ne 9, 3) := by decide +kernel
theorem dX4_taste_48 : decode cX4_taste 48 = .ok (.ldc2_w 92, 3) := by decide +kernel
theorem dX4_taste_51 : decode cX4_taste 51 = .ok (.goto 6, 3) := by decide +kernel
theorem dX4_taste_54 : decode cX4_taste 54 = .ok (.ldc2_w 94, 3) := by decide +kernel
theorem dX4_taste_57 : decode cX4_taste 57 = .ok (.ladd, 1) := by decide +kernel
theorem dX4_taste_58 : decode cX4_taste 58 = .ok (.putfield 88, 3) := by decide +kernel
theorem dX4_taste_61 : decode cX4_taste 61 = .ok (.aload_n 0, 1) := by decide +kernel
theorem dX4_taste_62 : decode cX4_taste 62 = .ok (.iload_n 1, 1) := by decide +kernel
theorem dX4_taste_63 : decode cX4_taste 63 = .ok (.iload_n 2, 1) := by decide +kernel
theorem dX4_taste_64 : decode cX4_taste 64 = .ok (.iload_n 3, 1) := by decide +kernel
theorem dX4_taste_65 : decode cX4_taste 65 = .ok (.iload 4, 2) := by decide +kernel
theorem dX4_taste_67 : decode cX4_taste 67 = .ok (.iload 5, 2) := by decide +kernel
theorem dX4_taste_69 : decode cX4_taste 69 = .ok (.iload 6, 2) := by decide +kernel
theorem dX4_taste_71 : decode cX4_taste 71 = .ok (.invokevirtual 84, 3) := by decide +kernel
theorem dX4_taste_74 : decode cX4_taste 74 = .ok (.ireturn, 1) := by decide +kernel
theorem dX4_chain_0 : decode cX4_chain 0 = .ok (.aload_n 0, 1) := by decide +kernel
theorem dX4_chain_1 : decode cX4_chain 1 = .ok (.iconst 0, 1) := by decide +kernel
theorem dX4_chain_2 : decode cX4_chain 2 = .ok (.putfield 32, 3) := by decide +kernel
theorem dX4_chain_5 : decode cX4_chain 5 = .ok (.iload_n 1, 1) := by decide +kernel
theorem dX4_chain_6 : decode cX4_chain 6 = .ok (.invokestatic 63, 3) := by decide +kernel
theorem dX4_chain_9 : decode cX4_chain 9 = .ok (.ifCond .eq 17, 3) := by decide +kernel
theorem dX4_chain_12 : decode cX4_chain 12 = .ok (.iload_n 2, 1) := by decide +kernel
theorem dX4_chain_13 : decode cX4_chain 13 = .ok (.invokestatic 63, 3) := by decide +kernel
theorem dX4_chain_16 : decode cX4_chain 16 = .ok (.ifCond .eq 10, 3) := by decide +kernel
theorem dX4_chain_19 : decode cX4_chain 19 = .ok (.iload_n 3, 1) := by decide +kernel
theorem dX4_chain_20 : decode cX4_chain 20 = .ok (.invokestatic 63, 3) := by decide +kernel
theorem dX4_chain_23 : decode cX4_chain 23 = .ok (.ifCond .ne 5, 3) := by decide +kernel
theorem dX4_chain_26 : decode cX4_chain 26 = .ok (.iconst (-1), 1) := by decide +kernel
theorem dX4_chain_27 : decode cX4_chain 27 = .ok (.ireturn, 1) := by decide +kernel
theorem dX4_chain_28 : decode cX4_chain 28 = .ok (.iconst 0, 1) := by decide +kernel
theorem dX4_chain_29 : decode cX4_chain 29 = .ok (.istore 4, 2) := by decide +kernel
theorem dX4_chain_31 : decode cX4_chain 31 = .ok (.iload 4, 2) := by decide +kernel
theorem dX4_chain_33 : decode cX4_chain 33 = .ok (.aload_n 0, 1) := by decide +kernel
theorem dX4_chain_34 : decode cX4_chain 34 = .ok (.getfield 39, 3) := by decide +kernel
theorem dX4_chain_37 : decode cX4_chain 37 = .ok (.if_icmp .ge 38, 3) := by decide +kernel
theorem dX4_chain_40 : decode cX4_chain 40 = .ok (.aload_n 0, 1) := by decide +kernel
theorem dX4_chain_41 : decode cX4_chain 41 = .ok (.getfield 19, 3) := by decide +kernel
theorem dX4_chain_44 : decode cX4_chain 44 = .ok (.iload 4, 2) := by decide +kernel
theorem dX4_chain_46 : decode cX4_chain 46 = .ok (.aload_n 0, 1) := by decide +kernel
theorem dX4_chain_47 : decode cX4_chain 47 = .ok (.getfield 16, 3) := by decide +kernel
theorem dX4_chain_50 : decode cX4_chain 50 = .ok (.bipush 16, 2) := by decide +kernel
theorem dX4_chain_52 : decode cX4_chain 52 = .ok (.iload_n 2, 1) := by decide +kernel
theorem dX4_chain_53 : decode cX4_chain 53 = .ok (.imul, 1) := by decide +kernel
theorem dX4_chain_54 : decode cX4_chain 54 = .ok (.aload_n 0, 1) := by decide +kernel
theorem dX4_chain_55 : decode cX4_chain 55 = .ok (.getfield 16, 3) := by decide +kernel
theorem dX4_chain_58 : decode cX4_chain 58 = .ok (.bipush 16, 2) := by decide +kernel
theorem dX4_chain_60 : decode cX4_chain 60 = .ok (.iload_n 3, 1) := by decide +kernel
theorem dX4_chain_61 : decode cX4_chain 61 = .ok (.imul, 1) := by decide +kernel
theorem dX4_chain_62 : decode cX4_chain 62 = .ok (.iload 4, 2) := by decide +kernel
theorem dX4_chain_64 : decode cX4_chain 64 = .ok (.iadd, 1) := by decide +kernel
theorem dX4_chain_65 : decode cX4_chain 65 = .ok (.iaload, 1) := by decide +kernel
theorem dX4_chain_66 : decode cX4_chain 66 = .ok (.iadd, 1) := by decide +kernel
theorem dX4_chain_67 : decode cX4_chain 67 = .ok (.iaload, 1) := by decide +kernel
theorem dX4_chain_68 : decode cX4_chain 68 = .ok (.iastore, 1) := by decide +kernel
theorem dX4_chain_69 : decode cX4_chain 69 = .ok (.iinc 4 1, 3) := by decide +kernel
theorem dX4_chain_72 : decode cX4_chain 72 = .ok (.goto (-41), 3) := by decide +kernel
theorem dX4_chain_75 : decode cX4_chain 75 = .ok (.aload_n 0, 1) := by decide +kernel
theorem dX4_chain_76 : decode cX4_chain 76 = .ok (.iload_n 1, 1) := by decide +kernel
theorem dX4_chain_77 : decode cX4_chain 77 = .ok (.invokevirtual 96, 3) := by decide +kernel
theorem dX4_chain_80 : decode cX4_chain 80 = .ok (.iconst 1, 1) := by decide +kernel
theorem dX4_chain_81 : decode cX4_chain 81 = .ok (.ireturn, 1) := by decide +kernel
theorem dX4_lays_0 : decode cX4_lays 0 = .ok (.iconst 0, 1) := by decide +kernel
theorem dX4_lays_1 : decode cX4_lays 1 = .ok (.istore_n 2, 1) := by decide +kernel
theorem dX4_lays_2 : decode cX4_lays 2 = .ok (.iload_n 2, 1) := by decide +kernel
theorem dX4_lays_3 : decode cX4_lays 3 = .ok (.aload_n 0, 1) := by decide +kernel
theorem dX4_lays_4 : decode cX4_lays 4 = .ok (.getfield 39, 3) := by decide +kernel
theorem dX4_lays_7 : decode cX4_lays 7 = .ok (.if_icmp .ge 26, 3) := by decide +kernel
theorem dX4_lays_10 : decode cX4_lays 10 = .ok (.aload_n 0, 1) := by decide +kernel
theorem dX4_lays_11 : decode cX4_lays 11 = .ok (.getfield 16, 3) := by decide +kernel
theorem dX4_lays_14 : decode cX4_lays 14 = .ok (.bipush 16, 2) := by decide +kernel
theorem dX4_lays_16 : decode cX4_lays 16 = .ok (.iload_n 1, 1) := by decide +kernel
theorem dX4_lays_17 : decode cX4_lays 17 = .ok (.imul, 1) := by decide +kernel
theorem dX4_lays_18 : decode cX4_lays 18 = .ok (.iload_n 2, 1) := by decide +kernel
theorem dX4_lays_19 : decode cX4_lays 19 = .ok (.iadd, 1) := by decide +kernel
theorem dX4_lays_20 : decode cX4_lays 20 = .ok (.aload_n 0, 1) := by decide +kernel
theorem dX4_lays_21 : decode cX4_lays 21 = .ok (.getfield 19, 3) := by decide +kernel
theorem dX4_lays_24 : decode cX4_lays 24 = .ok (.iload_n 2, 1) := by decide +kernel
theorem dX4_lays_25 : decode cX4_lays 25 = .ok (.iaload, 1) := by decide +kernel
theorem dX4_lays_26 : decode cX4_lays 26 = .ok (.iastore, 1) := by decide +kernel
theorem dX4_lays_27 : decode cX4_lays 27 = .ok (.iinc 2 1, 3) := by decide +kernel
theorem dX4_lays_30 : decode cX4_lays 30 = .ok (.goto (-28), 3) := by decide +kernel
theorem dX4_lays_33 : decode cX4_lays 33 = .ok (.return_, 1) := by decide +kernel
theorem dX4_imageOf_0 : decode cX4_imageOf 0 = .ok (.iconst 0, 1) := by decide +kernel
theorem dX4_imageOf_1 : decode cX4_imageOf 1 = .ok (.istore_n 2, 1) := by decide +kernel
theorem dX4_imageOf_2 : decode cX4_imageOf 2 = .ok (.iconst 0, 1) := by decide +kernel
theorem dX4_imageOf_3 : decode cX4_imageOf 3 = .ok (.istore_n 3, 1) := by decide +kernel
theorem dX4_imageOf_4 : decode cX4_imageOf 4 = .ok (.iload_n 3, 1) := by decide +kernel
theorem dX4_imageOf_5 : decode cX4_imageOf 5 = .ok (.aload_n 0, 1) := by decide +kernel
theorem dX4_imageOf_6 : decode cX4_imageOf 6 = .ok (.getfield 39, 3) := by decide +kernel
theorem dX4_imageOf_9 : decode cX4_imageOf 9 = .ok (.if_icmp .ge 25, 3) := by decide +kernel
theorem dX4_imageOf_12 : decode cX4_imageOf 12 = .ok (.iload_n 2, 1) := by decide +kernel
theorem dX4_imageOf_13 : decode cX4_imageOf 13 = .ok (.iconst 1, 1) := by decide +kernel
theorem dX4_imageOf_14 : decode cX4_imageOf 14 = .ok (.aload_n 0, 1) := by decide +kernel
theorem dX4_imageOf_15 : decode cX4_imageOf 15 = .ok (.getfield 16, 3) := by decide +kernel
theorem dX4_imageOf_18 : decode cX4_imageOf 18 = .ok (.bipush 16, 2) := by decide +kernel
theorem dX4_imageOf_20 : decode cX4_imageOf 20 = .ok (.iload_n 1, 1) := by decide +kernel
theorem dX4_imageOf_21 : decode cX4_imageOf 21 = .ok (.imul, 1) := by decide +kernel
theorem dX4_imageOf_22 : decode cX4_imageOf 22 = .ok (.iload_n 3, 1) := by decide +kernel
theorem dX4_imageOf_23 : decode cX4_imageOf 23 = .ok (.iadd, 1) := by decide +kernel
theorem dX4_imageOf_24 : decode cX4_imageOf 24 = .ok (.iaload, 1) := by decide +kernel
theorem dX4_imageOf_25 : decode cX4_imageOf 25 = .ok (.ishl, 1) := by decide +kernel
theorem dX4_imageOf_26 : decode cX4_imageOf 26 = .ok (.ior, 1) := by decide +kernel
theorem dX4_imageOf_27 : decode cX4_imageOf 27 = .ok (.istore_n 2, 1) := by decide +kernel
theorem dX4_imageOf_28 : decode cX4_imageOf 28 = .ok (.iinc 3 1, 3) := by decide +kernel
theorem dX4_imageOf_31 : decode cX4_imageOf 31 = .ok (.goto (-27), 3) := by decide +kernel
theorem dX4_imageOf_34 : decode cX4_imageOf 34 = .ok (.iconst 0, 1) := by decide +kernel
theorem dX4_imageOf_35 : decode cX4_imageOf 35 = .ok (.istore_n 3, 1) := by decide +kernel
theorem dX4_imageOf_36 : decode cX4_imageOf 36 = .ok (.iconst 0, 1) := by decide +kernel
theorem dX4_imageOf_37 : decode cX4_imageOf 37 = .ok (.istore 4, 2) := by decide +kernel
theorem dX4_imageOf_39 : decode cX4_imageOf 39 = .ok (.iload 4, 2) := by decide +kernel
theorem dX4_imageOf_41 : decode cX4_imageOf 41 = .ok (.aload_n 0, 1) := by decide +kernel
theorem dX4_imageOf_42 : decode cX4_imageOf 42 = .ok (.getfield 39, 3) := by decide +kernel
theorem dX4_imageOf_45 : decode cX4_imageOf 45 = .ok (.if_icmp .ge 18, 3) := by decide +kernel
theorem dX4_imageOf_48 : decode cX4_imageOf 48 = .ok (.iload_n 3, 1) := by decide +kernel
theorem dX4_imageOf_49 : decode cX4_imageOf 49 = .ok (.iload_n 2, 1) := by decide +kernel
theorem dX4_imageOf_50 : decode cX4_imageOf 50 = .ok (.iload 4, 2) := by decide +kernel
theorem dX4_imageOf_52 : decode cX4_imageOf 52 = .ok (.ishr, 1) := by decide +kernel
theorem dX4_imageOf_53 : decode cX4_imageOf 53 = .ok (.iconst 1, 1) := by decide +kernel
theorem dX4_imageOf_54 : decode cX4_imageOf 54 = .ok (.iand, 1) := by decide +kernel
theorem dX4_imageOf_55 : decode cX4_imageOf 55 = .ok (.iadd, 1) := by decide +kernel
theorem dX4_imageOf_56 : decode cX4_imageOf 56 = .ok (.istore_n 3, 1) := by decide +kernel
theorem dX4_imageOf_57 : decode cX4_imageOf 57 = .ok (.iinc 4 1, 3) := by decide +kernel
theorem dX4_imageOf_60 : decode cX4_imageOf 60 = .ok (.goto (-21), 3) := by decide +kernel
theorem dX4_imageOf_63 : decode cX4_imageOf 63 = .ok (.iload_n 3, 1) := by decide +kernel
theorem dX4_imageOf_64 : decode cX4_imageOf 64 = .ok (.ireturn, 1) := by decide +kernel
theorem dX4_isShuffle_0 : decode cX4_isShuffle 0 = .ok (.aload_n 0, 1) := by decide +kernel
theorem dX4_isShuffle_1 : decode cX4_isShuffle 1 = .ok (.iload_n 1, 1) := by decide +kernel
theorem dX4_isShuffle_2 : decode cX4_isShuffle 2 = .ok (.invokevirtual 99, 3) := by decide +kernel
theorem dX4_isShuffle_5 : decode cX4_isShuffle 5 = .ok (.aload_n 0, 1) := by decide +kernel
theorem dX4_isShuffle_6 : decode cX4_isShuffle 6 = .ok (.getfield 39, 3) := by decide +kernel
theorem dX4_isShuffle_9 : decode cX4_isShuffle 9 = .ok (.if_icmp .ne 7, 3) := by decide +kernel
theorem dX4_isShuffle_12 : decode cX4_isShuffle 12 = .ok (.iconst 1, 1) := by decide +kernel
theorem dX4_isShuffle_13 : decode cX4_isShuffle 13 = .ok (.goto 4, 3) := by decide +kernel
theorem dX4_isShuffle_16 : decode cX4_isShuffle 16 = .ok (.iconst 0, 1) := by decide +kernel
theorem dX4_isShuffle_17 : decode cX4_isShuffle 17 = .ok (.ireturn, 1) := by decide +kernel
theorem dX4_shuffles_0 : decode cX4_shuffles 0 = .ok (.aload_n 0, 1) := by decide +kernel
theorem dX4_shuffles_1 : decode cX4_shuffles 1 = .ok (.iconst 0, 1) := by decide +kernel
theorem dX4_shuffles_2 : decode cX4_shuffles 2 = .ok (.putfield 32, 3) := by decide +kernel
theorem dX4_shuffles_5 : decode cX4_shuffles 5 = .ok (.iload_n 1, 1) := by decide +kernel
theorem dX4_shuffles_6 : decode cX4_shuffles 6 = .ok (.invokestatic 63, 3) := by decide +kernel
theorem dX4_shuffles_9 : decode cX4_shuffles 9 = .ok (.ifCond .ne 7, 3) := by decide +kernel
theorem dX4_shuffles_12 : decode cX4_shuffles 12 = .ok (.iconst (-1), 1) := by decide +kernel
theorem dX4_shuffles_13 : decode cX4_shuffles 13 = .ok (.goto 16, 3) := by decide +kernel
theorem dX4_shuffles_16 : decode cX4_shuffles 16 = .ok (.aload_n 0, 1) := by decide +kernel
theorem dX4_shuffles_17 : decode cX4_shuffles 17 = .ok (.iload_n 1, 1) := by decide +kernel
theorem dX4_shuffles_18 : decode cX4_shuffles 18 = .ok (.invokevirtual 102, 3) := by decide +kernel
theorem dX4_shuffles_21 : decode cX4_shuffles 21 = .ok (.ifCond .eq 7, 3) := by decide +kernel
theorem dX4_shuffles_24 : decode cX4_shuffles 24 = .ok (.iconst 1, 1) := by decide +kernel
theorem dX4_shuffles_25 : decode cX4_shuffles 25 = .ok (.goto 4, 3) := by decide +kernel
theorem dX4_shuffles_28 : decode cX4_shuffles 28 = .ok (.iconst 0, 1) := by decide +kernel
theorem dX4_shuffles_29 : decode cX4_shuffles 29 = .ok (.ireturn, 1) := by decide +kernel
theorem dX4_fails_0 : decode cX4_fails 0 = .ok (.aload_n 0, 1) := by decide +kernel
theorem dX4_fails_1 : decode cX4_fails 1 = .ok (.iconst 0, 1) := by decide +kernel
theorem dX4_fails_2 : decode cX4_fails 2 = .ok (.putfield 32, 3) := by decide +kernel
theorem dX4_fails_5 : decode cX4_fails 5 = .ok (.iload_n 1, 1) := by decide +kernel
end
section
theorem dX4_fails_6 : decode cX4_fails 6 = .ok (.invokestatic 63, 3) := by decide +kernel
theorem dX4_fails_9 : decode cX4_fails 9 = .ok (.ifCond .ne 5, 3) := by decide +kernel
theorem dX4_fails_12 : decode cX4_fails 12 = .ok (.iconst (-1), 1) := by decide +kernel
theorem dX4_fails_13 : decode cX4_fails 13 = .ok (.ireturn, 1) := by decide +kernel
theorem dX4_fails_14 : decode cX4_fails 14 = .ok (.iconst 1, 1) := by decide +kernel
theorem dX4_fails_15 : decode cX4_fails 15 = .ok (.istore_n 2, 1) := by decide +kernel
theorem dX4_fails_16 : decode cX4_fails 16 = .ok (.iload_n 2, 1) := by decide +kernel
theorem dX4_fails_17 : decode cX4_fails 17 = .ok (.aload_n 0, 1) := by decide +kernel
theorem dX4_fails_18 : decode cX4_fails 18 = .ok (.getfield 39, 3) := by decide +kernel
theorem dX4_fails_21 : decode cX4_fails 21 = .ok (.iconst 1, 1) := by decide +kernel
theorem dX4_fails_22 : decode cX4_fails 22 = .ok (.isub, 1) := by decide +kernel
theorem dX4_fails_23 : decode cX4_fails 23 = .ok (.if_icmp .ge 58, 3) := by decide +kernel
theorem dX4_fails_26 : decode cX4_fails 26 = .ok (.iconst 0, 1) := by decide +kernel
theorem dX4_fails_27 : decode cX4_fails 27 = .ok (.istore_n 3, 1) := by decide +kernel
theorem dX4_fails_28 : decode cX4_fails 28 = .ok (.iconst 0, 1) := by decide +kernel
theorem dX4_fails_29 : decode cX4_fails 29 = .ok (.istore 4, 2) := by decide +kernel
theorem dX4_fails_31 : decode cX4_fails 31 = .ok (.iload 4, 2) := by decide +kernel
theorem dX4_fails_33 : decode cX4_fails 33 = .ok (.aload_n 0, 1) := by decide +kernel
theorem dX4_fails_34 : decode cX4_fails 34 = .ok (.getfield 39, 3) := by decide +kernel
theorem dX4_fails_37 : decode cX4_fails 37 = .ok (.if_icmp .ge 32, 3) := by decide +kernel
theorem dX4_fails_40 : decode cX4_fails 40 = .ok (.aload_n 0, 1) := by decide +kernel
theorem dX4_fails_41 : decode cX4_fails 41 = .ok (.iload_n 3, 1) := by decide +kernel
theorem dX4_fails_42 : decode cX4_fails 42 = .ok (.aload_n 0, 1) := by decide +kernel
theorem dX4_fails_43 : decode cX4_fails 43 = .ok (.aload_n 0, 1) := by decide +kernel
theorem dX4_fails_44 : decode cX4_fails 44 = .ok (.getfield 16, 3) := by decide +kernel
theorem dX4_fails_47 : decode cX4_fails 47 = .ok (.bipush 16, 2) := by decide +kernel
theorem dX4_fails_49 : decode cX4_fails 49 = .ok (.iload_n 1, 1) := by decide +kernel
theorem dX4_fails_50 : decode cX4_fails 50 = .ok (.imul, 1) := by decide +kernel
theorem dX4_fails_51 : decode cX4_fails 51 = .ok (.iload 4, 2) := by decide +kernel
theorem dX4_fails_53 : decode cX4_fails 53 = .ok (.iadd, 1) := by decide +kernel
theorem dX4_fails_54 : decode cX4_fails 54 = .ok (.iaload, 1) := by decide +kernel
theorem dX4_fails_55 : decode cX4_fails 55 = .ok (.iload_n 2, 1) := by decide +kernel
theorem dX4_fails_56 : decode cX4_fails 56 = .ok (.invokevirtual 66, 3) := by decide +kernel
theorem dX4_fails_59 : decode cX4_fails 59 = .ok (.invokevirtual 49, 3) := by decide +kernel
theorem dX4_fails_62 : decode cX4_fails 62 = .ok (.istore_n 3, 1) := by decide +kernel
theorem dX4_fails_63 : decode cX4_fails 63 = .ok (.iinc 4 1, 3) := by decide +kernel
theorem dX4_fails_66 : decode cX4_fails 66 = .ok (.goto (-35), 3) := by decide +kernel
theorem dX4_fails_69 : decode cX4_fails 69 = .ok (.iload_n 3, 1) := by decide +kernel
theorem dX4_fails_70 : decode cX4_fails 70 = .ok (.ifCond .eq 5, 3) := by decide +kernel
theorem dX4_fails_73 : decode cX4_fails 73 = .ok (.iload_n 2, 1) := by decide +kernel
theorem dX4_fails_74 : decode cX4_fails 74 = .ok (.ireturn, 1) := by decide +kernel
theorem dX4_fails_75 : decode cX4_fails 75 = .ok (.iinc 2 1, 3) := by decide +kernel
theorem dX4_fails_78 : decode cX4_fails 78 = .ok (.goto (-62), 3) := by decide +kernel
theorem dX4_fails_81 : decode cX4_fails 81 = .ok (.iconst 0, 1) := by decide +kernel
theorem dX4_fails_82 : decode cX4_fails 82 = .ok (.istore_n 2, 1) := by decide +kernel
theorem dX4_fails_83 : decode cX4_fails 83 = .ok (.iconst 0, 1) := by decide +kernel
theorem dX4_fails_84 : decode cX4_fails 84 = .ok (.istore_n 3, 1) := by decide +kernel
theorem dX4_fails_85 : decode cX4_fails 85 = .ok (.iload_n 3, 1) := by decide +kernel
theorem dX4_fails_86 : decode cX4_fails 86 = .ok (.aload_n 0, 1) := by decide +kernel
theorem dX4_fails_87 : decode cX4_fails 87 = .ok (.getfield 39, 3) := by decide +kernel
theorem dX4_fails_90 : decode cX4_fails 90 = .ok (.if_icmp .ge 31, 3) := by decide +kernel
theorem dX4_fails_93 : decode cX4_fails 93 = .ok (.iload_n 2, 1) := by decide +kernel
theorem dX4_fails_94 : decode cX4_fails 94 = .ok (.aload_n 0, 1) := by decide +kernel
theorem dX4_fails_95 : decode cX4_fails 95 = .ok (.getfield 16, 3) := by decide +kernel
theorem dX4_fails_98 : decode cX4_fails 98 = .ok (.bipush 16, 2) := by decide +kernel
theorem dX4_fails_100 : decode cX4_fails 100 = .ok (.iload_n 1, 1) := by decide +kernel
theorem dX4_fails_101 : decode cX4_fails 101 = .ok (.imul, 1) := by decide +kernel
theorem dX4_fails_102 : decode cX4_fails 102 = .ok (.iload_n 3, 1) := by decide +kernel
theorem dX4_fails_103 : decode cX4_fails 103 = .ok (.iadd, 1) := by decide +kernel
theorem dX4_fails_104 : decode cX4_fails 104 = .ok (.iaload, 1) := by decide +kernel
theorem dX4_fails_105 : decode cX4_fails 105 = .ok (.ifCond .ne 7, 3) := by decide +kernel
theorem dX4_fails_108 : decode cX4_fails 108 = .ok (.iconst 1, 1) := by decide +kernel
theorem dX4_fails_109 : decode cX4_fails 109 = .ok (.goto 4, 3) := by decide +kernel
theorem dX4_fails_112 : decode cX4_fails 112 = .ok (.iconst 0, 1) := by decide +kernel
theorem dX4_fails_113 : decode cX4_fails 113 = .ok (.iadd, 1) := by decide +kernel
theorem dX4_fails_114 : decode cX4_fails 114 = .ok (.istore_n 2, 1) := by decide +kernel
theorem dX4_fails_115 : decode cX4_fails 115 = .ok (.iinc 3 1, 3) := by decide +kernel
theorem dX4_fails_118 : decode cX4_fails 118 = .ok (.goto (-33), 3) := by decide +kernel
theorem dX4_fails_121 : decode cX4_fails 121 = .ok (.iload_n 2, 1) := by decide +kernel
theorem dX4_fails_122 : decode cX4_fails 122 = .ok (.iconst 1, 1) := by decide +kernel
theorem dX4_fails_123 : decode cX4_fails 123 = .ok (.if_icmp .ne 7, 3) := by decide +kernel
theorem dX4_fails_126 : decode cX4_fails 126 = .ok (.iconst 0, 1) := by decide +kernel
theorem dX4_fails_127 : decode cX4_fails 127 = .ok (.goto 9, 3) := by decide +kernel
theorem dX4_fails_130 : decode cX4_fails 130 = .ok (.aload_n 0, 1) := by decide +kernel
theorem dX4_fails_131 : decode cX4_fails 131 = .ok (.getfield 39, 3) := by decide +kernel
theorem dX4_fails_134 : decode cX4_fails 134 = .ok (.iconst 1, 1) := by decide +kernel
theorem dX4_fails_135 : decode cX4_fails 135 = .ok (.isub, 1) := by decide +kernel
theorem dX4_fails_136 : decode cX4_fails 136 = .ok (.ireturn, 1) := by decide +kernel
theorem dX4_image_0 : decode cX4_image 0 = .ok (.aload_n 0, 1) := by decide +kernel
theorem dX4_image_1 : decode cX4_image 1 = .ok (.iconst 0, 1) := by decide +kernel
theorem dX4_image_2 : decode cX4_image 2 = .ok (.putfield 32, 3) := by decide +kernel
theorem dX4_image_5 : decode cX4_image 5 = .ok (.iload_n 1, 1) := by decide +kernel
theorem dX4_image_6 : decode cX4_image 6 = .ok (.invokestatic 63, 3) := by decide +kernel
theorem dX4_image_9 : decode cX4_image 9 = .ok (.ifCond .eq 11, 3) := by decide +kernel
theorem dX4_image_12 : decode cX4_image 12 = .ok (.aload_n 0, 1) := by decide +kernel
theorem dX4_image_13 : decode cX4_image 13 = .ok (.iload_n 1, 1) := by decide +kernel
theorem dX4_image_14 : decode cX4_image 14 = .ok (.invokevirtual 99, 3) := by decide +kernel
theorem dX4_image_17 : decode cX4_image 17 = .ok (.goto 4, 3) := by decide +kernel
theorem dX4_image_20 : decode cX4_image 20 = .ok (.iconst (-1), 1) := by decide +kernel
theorem dX4_image_21 : decode cX4_image 21 = .ok (.ireturn, 1) := by decide +kernel
theorem dX4_turn_0 : decode cX4_turn 0 = .ok (.aload_n 0, 1) := by decide +kernel
theorem dX4_turn_1 : decode cX4_turn 1 = .ok (.iconst 0, 1) := by decide +kernel
theorem dX4_turn_2 : decode cX4_turn 2 = .ok (.putfield 32, 3) := by decide +kernel
theorem dX4_turn_5 : decode cX4_turn 5 = .ok (.iload_n 1, 1) := by decide +kernel
theorem dX4_turn_6 : decode cX4_turn 6 = .ok (.invokestatic 63, 3) := by decide +kernel
theorem dX4_turn_9 : decode cX4_turn 9 = .ok (.ifCond .ne 5, 3) := by decide +kernel
theorem dX4_turn_12 : decode cX4_turn 12 = .ok (.iconst (-1), 1) := by decide +kernel
theorem dX4_turn_13 : decode cX4_turn 13 = .ok (.ireturn, 1) := by decide +kernel
theorem dX4_turn_14 : decode cX4_turn 14 = .ok (.aload_n 0, 1) := by decide +kernel
theorem dX4_turn_15 : decode cX4_turn 15 = .ok (.iload_n 1, 1) := by decide +kernel
theorem dX4_turn_16 : decode cX4_turn 16 = .ok (.invokevirtual 102, 3) := by decide +kernel
theorem dX4_turn_19 : decode cX4_turn 19 = .ok (.ifCond .ne 6, 3) := by decide +kernel
theorem dX4_turn_22 : decode cX4_turn 22 = .ok (.bipush (-2), 2) := by decide +kernel
theorem dX4_turn_24 : decode cX4_turn 24 = .ok (.ireturn, 1) := by decide +kernel
theorem dX4_turn_25 : decode cX4_turn 25 = .ok (.iconst 0, 1) := by decide +kernel
theorem dX4_turn_26 : decode cX4_turn 26 = .ok (.istore_n 2, 1) := by decide +kernel
theorem dX4_turn_27 : decode cX4_turn 27 = .ok (.iload_n 2, 1) := by decide +kernel
theorem dX4_turn_28 : decode cX4_turn 28 = .ok (.aload_n 0, 1) := by decide +kernel
theorem dX4_turn_29 : decode cX4_turn 29 = .ok (.getfield 39, 3) := by decide +kernel
theorem dX4_turn_32 : decode cX4_turn 32 = .ok (.if_icmp .ge 26, 3) := by decide +kernel
theorem dX4_turn_35 : decode cX4_turn 35 = .ok (.aload_n 0, 1) := by decide +kernel
theorem dX4_turn_36 : decode cX4_turn 36 = .ok (.getfield 19, 3) := by decide +kernel
theorem dX4_turn_39 : decode cX4_turn 39 = .ok (.aload_n 0, 1) := by decide +kernel
theorem dX4_turn_40 : decode cX4_turn 40 = .ok (.getfield 16, 3) := by decide +kernel
theorem dX4_turn_43 : decode cX4_turn 43 = .ok (.bipush 16, 2) := by decide +kernel
theorem dX4_turn_45 : decode cX4_turn 45 = .ok (.iload_n 1, 1) := by decide +kernel
theorem dX4_turn_46 : decode cX4_turn 46 = .ok (.imul, 1) := by decide +kernel
theorem dX4_turn_47 : decode cX4_turn 47 = .ok (.iload_n 2, 1) := by decide +kernel
theorem dX4_turn_48 : decode cX4_turn 48 = .ok (.iadd, 1) := by decide +kernel
theorem dX4_turn_49 : decode cX4_turn 49 = .ok (.iaload, 1) := by decide +kernel
theorem dX4_turn_50 : decode cX4_turn 50 = .ok (.iload_n 2, 1) := by decide +kernel
theorem dX4_turn_51 : decode cX4_turn 51 = .ok (.iastore, 1) := by decide +kernel
theorem dX4_turn_52 : decode cX4_turn 52 = .ok (.iinc 2 1, 3) := by decide +kernel
theorem dX4_turn_55 : decode cX4_turn 55 = .ok (.goto (-28), 3) := by decide +kernel
theorem dX4_turn_58 : decode cX4_turn 58 = .ok (.aload_n 0, 1) := by decide +kernel
theorem dX4_turn_59 : decode cX4_turn 59 = .ok (.iload_n 1, 1) := by decide +kernel
theorem dX4_turn_60 : decode cX4_turn 60 = .ok (.invokevirtual 96, 3) := by decide +kernel
theorem dX4_turn_63 : decode cX4_turn 63 = .ok (.iconst 1, 1) := by decide +kernel
theorem dX4_turn_64 : decode cX4_turn 64 = .ok (.ireturn, 1) := by decide +kernel
theorem dX4_order_0 : decode cX4_order 0 = .ok (.aload_n 0, 1) := by decide +kernel
theorem dX4_order_1 : decode cX4_order 1 = .ok (.iconst 0, 1) := by decide +kernel
theorem dX4_order_2 : decode cX4_order 2 = .ok (.putfield 32, 3) := by decide +kernel
theorem dX4_order_5 : decode cX4_order 5 = .ok (.iload_n 1, 1) := by decide +kernel
theorem dX4_order_6 : decode cX4_order 6 = .ok (.invokestatic 63, 3) := by decide +kernel
theorem dX4_order_9 : decode cX4_order 9 = .ok (.ifCond .ne 5, 3) := by decide +kernel
theorem dX4_order_12 : decode cX4_order 12 = .ok (.iconst (-1), 1) := by decide +kernel
theorem dX4_order_13 : decode cX4_order 13 = .ok (.ireturn, 1) := by decide +kernel
theorem dX4_order_14 : decode cX4_order 14 = .ok (.aload_n 0, 1) := by decide +kernel
theorem dX4_order_15 : decode cX4_order 15 = .ok (.iload_n 1, 1) := by decide +kernel
theorem dX4_order_16 : decode cX4_order 16 = .ok (.invokevirtual 102, 3) := by decide +kernel
theorem dX4_order_19 : decode cX4_order 19 = .ok (.ifCond .ne 6, 3) := by decide +kernel
theorem dX4_order_22 : decode cX4_order 22 = .ok (.bipush (-2), 2) := by decide +kernel
theorem dX4_order_24 : decode cX4_order 24 = .ok (.ireturn, 1) := by decide +kernel
theorem dX4_order_25 : decode cX4_order 25 = .ok (.iconst 0, 1) := by decide +kernel
theorem dX4_order_26 : decode cX4_order 26 = .ok (.istore_n 2, 1) := by decide +kernel
theorem dX4_order_27 : decode cX4_order 27 = .ok (.iload_n 2, 1) := by decide +kernel
theorem dX4_order_28 : decode cX4_order 28 = .ok (.aload_n 0, 1) := by decide +kernel
theorem dX4_order_29 : decode cX4_order 29 = .ok (.getfield 39, 3) := by decide +kernel
theorem dX4_order_32 : decode cX4_order 32 = .ok (.if_icmp .ge 26, 3) := by decide +kernel
theorem dX4_order_35 : decode cX4_order 35 = .ok (.aload_n 0, 1) := by decide +kernel
theorem dX4_order_36 : decode cX4_order 36 = .ok (.getfield 19, 3) := by decide +kernel
theorem dX4_order_39 : decode cX4_order 39 = .ok (.iload_n 2, 1) := by decide +kernel
theorem dX4_order_40 : decode cX4_order 40 = .ok (.aload_n 0, 1) := by decide +kernel
theorem dX4_order_41 : decode cX4_order 41 = .ok (.getfield 16, 3) := by decide +kernel
theorem dX4_order_44 : decode cX4_order 44 = .ok (.bipush 16, 2) := by decide +kernel
theorem dX4_order_46 : decode cX4_order 46 = .ok (.iload_n 1, 1) := by decide +kernel
theorem dX4_order_47 : decode cX4_order 47 = .ok (.imul, 1) := by decide +kernel
theorem dX4_order_48 : decode cX4_order 48 = .ok (.iload_n 2, 1) := by decide +kernel
theorem dX4_order_49 : decode cX4_order 49 = .ok (.iadd, 1) := by decide +kernel
theorem dX4_order_50 : decode cX4_order 50 = .ok (.iaload, 1) := by decide +kernel
theorem dX4_order_51 : decode cX4_order 51 = .ok (.iastore, 1) := by decide +kernel
theorem dX4_order_52 : decode cX4_order 52 = .ok (.iinc 2 1, 3) := by decide +kernel
theorem dX4_order_55 : decode cX4_order 55 = .ok (.goto (-28), 3) := by decide +kernel
theorem dX4_order_58 : decode cX4_order 58 = .ok (.iconst 1, 1) := by decide +kernel
theorem dX4_order_59 : decode cX4_order 59 = .ok (.istore_n 2, 1) := by decide +kernel
theorem dX4_order_60 : decode cX4_order 60 = .ok (.iconst 0, 1) := by decide +kernel
theorem dX4_order_61 : decode cX4_order 61 = .ok (.istore_n 3, 1) := by decide +kernel
theorem dX4_order_62 : decode cX4_order 62 = .ok (.iload_n 3, 1) := by decide +kernel
theorem dX4_order_63 : decode cX4_order 63 = .ok (.ifCond .ne 95, 3) := by decide +kernel
theorem dX4_order_66 : decode cX4_order 66 = .ok (.iconst 1, 1) := by decide +kernel
theorem dX4_order_67 : decode cX4_order 67 = .ok (.istore_n 3, 1) := by decide +kernel
theorem dX4_order_68 : decode cX4_order 68 = .ok (.iconst 0, 1) := by decide +kernel
theorem dX4_order_69 : decode cX4_order 69 = .ok (.istore 4, 2) := by decide +kernel
theorem dX4_order_71 : decode cX4_order 71 = .ok (.iload 4, 2) := by decide +kernel
theorem dX4_order_73 : decode cX4_order 73 = .ok (.aload_n 0, 1) := by decide +kernel
theorem dX4_order_74 : decode cX4_order 74 = .ok (.getfield 39, 3) := by decide +kernel
theorem dX4_order_77 : decode cX4_order 77 = .ok (.if_icmp .ge 29, 3) := by decide +kernel
theorem dX4_order_80 : decode cX4_order 80 = .ok (.iload_n 3, 1) := by decide +kernel
theorem dX4_order_81 : decode cX4_order 81 = .ok (.aload_n 0, 1) := by decide +kernel
theorem dX4_order_82 : decode cX4_order 82 = .ok (.getfield 19, 3) := by decide +kernel
theorem dX4_order_85 : decode cX4_order 85 = .ok (.iload 4, 2) := by decide +kernel
theorem dX4_order_87 : decode cX4_order 87 = .ok (.iaload, 1) := by decide +kernel
theorem dX4_order_88 : decode cX4_order 88 = .ok (.iload 4, 2) := by decide +kernel
theorem dX4_order_90 : decode cX4_order 90 = .ok (.if_icmp .ne 7, 3) := by decide +kernel
theorem dX4_order_93 : decode cX4_order 93 = .ok (.iconst 1, 1) := by decide +kernel
theorem dX4_order_94 : decode cX4_order 94 = .ok (.goto 4, 3) := by decide +kernel
theorem dX4_order_97 : decode cX4_order 97 = .ok (.iconst 0, 1) := by decide +kernel
theorem dX4_order_98 : decode cX4_order 98 = .ok (.iand, 1) := by decide +kernel
theorem dX4_order_99 : decode cX4_order 99 = .ok (.istore_n 3, 1) := by decide +kernel
theorem dX4_order_100 : decode cX4_order 100 = .ok (.iinc 4 1, 3) := by decide +kernel
theorem dX4_order_103 : decode cX4_order 103 = .ok (.goto (-32), 3) := by decide +kernel
theorem dX4_order_106 : decode cX4_order 106 = .ok (.iload_n 3, 1) := by decide +kernel
theorem dX4_order_107 : decode cX4_order 107 = .ok (.ifCond .ne (-45), 3) := by decide +kernel
theorem dX4_order_110 : decode cX4_order 110 = .ok (.iinc 2 1, 3) := by decide +kernel
theorem dX4_order_113 : decode cX4_order 113 = .ok (.iconst 0, 1) := by decide +kernel
theorem dX4_order_114 : decode cX4_order 114 = .ok (.istore 4, 2) := by decide +kernel
theorem dX4_order_116 : decode cX4_order 116 = .ok (.iload 4, 2) := by decide +kernel
theorem dX4_order_118 : decode cX4_order 118 = .ok (.aload_n 0, 1) := by decide +kernel
theorem dX4_order_119 : decode cX4_order 119 = .ok (.getfield 39, 3) := by decide +kernel
theorem dX4_order_122 : decode cX4_order 122 = .ok (.if_icmp .ge 33, 3) := by decide +kernel
theorem dX4_order_125 : decode cX4_order 125 = .ok (.aload_n 0, 1) := by decide +kernel
theorem dX4_order_126 : decode cX4_order 126 = .ok (.getfield 19, 3) := by decide +kernel
theorem dX4_order_129 : decode cX4_order 129 = .ok (.iload 4, 2) := by decide +kernel
theorem dX4_order_131 : decode cX4_order 131 = .ok (.aload_n 0, 1) := by decide +kernel
theorem dX4_order_132 : decode cX4_order 132 = .ok (.getfield 16, 3) := by decide +kernel
theorem dX4_order_135 : decode cX4_order 135 = .ok (.bipush 16, 2) := by decide +kernel
theorem dX4_order_137 : decode cX4_order 137 = .ok (.iload_n 1, 1) := by decide +kernel
theorem dX4_order_138 : decode cX4_order 138 = .ok (.imul, 1) := by decide +kernel
theorem dX4_order_139 : decode cX4_order 139 = .ok (.aload_n 0, 1) := by decide +kernel
theorem dX4_order_140 : decode cX4_order 140 = .ok (.getfield 19, 3) := by decide +kernel
theorem dX4_order_143 : decode cX4_order 143 = .ok (.iload 4, 2) := by decide +kernel
theorem dX4_order_145 : decode cX4_order 145 = .ok (.iaload, 1) := by decide +kernel
theorem dX4_order_146 : decode cX4_order 146 = .ok (.iadd, 1) := by decide +kernel
theorem dX4_order_147 : decode cX4_order 147 = .ok (.iaload, 1) := by decide +kernel
theorem dX4_order_148 : decode cX4_order 148 = .ok (.iastore, 1) := by decide +kernel
theorem dX4_order_149 : decode cX4_order 149 = .ok (.iinc 4 1, 3) := by decide +kernel
theorem dX4_order_152 : decode cX4_order 152 = .ok (.goto (-36), 3) := by decide +kernel
theorem dX4_order_155 : decode cX4_order 155 = .ok (.goto (-93), 3) := by decide +kernel
theorem dX4_order_158 : decode cX4_order 158 = .ok (.iload_n 2, 1) := by decide +kernel
theorem dX4_order_159 : decode cX4_order 159 = .ok (.ireturn, 1) := by decide +kernel
theorem dX4_fixed_0 : decode cX4_fixed 0 = .ok (.aload_n 0, 1) := by decide +kernel
theorem dX4_fixed_1 : decode cX4_fixed 1 = .ok (.iconst 0, 1) := by decide +kernel
theorem dX4_fixed_2 : decode cX4_fixed 2 = .ok (.putfield 32, 3) := by decide +kernel
theorem dX4_fixed_5 : decode cX4_fixed 5 = .ok (.iload_n 1, 1) := by decide +kernel
theorem dX4_fixed_6 : decode cX4_fixed 6 = .ok (.invokestatic 63, 3) := by decide +kernel
theorem dX4_fixed_9 : decode cX4_fixed 9 = .ok (.ifCond .ne 5, 3) := by decide +kernel
theorem dX4_fixed_12 : decode cX4_fixed 12 = .ok (.iconst (-1), 1) := by decide +kernel
theorem dX4_fixed_13 : decode cX4_fixed 13 = .ok (.ireturn, 1) := by decide +kernel
theorem dX4_fixed_14 : decode cX4_fixed 14 = .ok (.iconst 0, 1) := by decide +kernel
theorem dX4_fixed_15 : decode cX4_fixed 15 = .ok (.istore_n 2, 1) := by decide +kernel
theorem dX4_fixed_16 : decode cX4_fixed 16 = .ok (.iconst 0, 1) := by decide +kernel
theorem dX4_fixed_17 : decode cX4_fixed 17 = .ok (.istore_n 3, 1) := by decide +kernel
theorem dX4_fixed_18 : decode cX4_fixed 18 = .ok (.iload_n 3, 1) := by decide +kernel
theorem dX4_fixed_19 : decode cX4_fixed 19 = .ok (.aload_n 0, 1) := by decide +kernel
theorem dX4_fixed_20 : decode cX4_fixed 20 = .ok (.getfield 39, 3) := by decide +kernel
theorem dX4_fixed_23 : decode cX4_fixed 23 = .ok (.if_icmp .ge 32, 3) := by decide +kernel
theorem dX4_fixed_26 : decode cX4_fixed 26 = .ok (.iload_n 2, 1) := by decide +kernel
theorem dX4_fixed_27 : decode cX4_fixed 27 = .ok (.aload_n 0, 1) := by decide +kernel
theorem dX4_fixed_28 : decode cX4_fixed 28 = .ok (.getfield 16, 3) := by decide +kernel
theorem dX4_fixed_31 : decode cX4_fixed 31 = .ok (.bipush 16, 2) := by decide +kernel
theorem dX4_fixed_33 : decode cX4_fixed 33 = .ok (.iload_n 1, 1) := by decide +kernel
theorem dX4_fixed_34 : decode cX4_fixed 34 = .ok (.imul, 1) := by decide +kernel
theorem dX4_fixed_35 : decode cX4_fixed 35 = .ok (.iload_n 3, 1) := by decide +kernel
theorem dX4_fixed_36 : decode cX4_fixed 36 = .ok (.iadd, 1) := by decide +kernel
theorem dX4_fixed_37 : decode cX4_fixed 37 = .ok (.iaload, 1) := by decide +kernel
theorem dX4_fixed_38 : decode cX4_fixed 38 = .ok (.iload_n 3, 1) := by decide +kernel
theorem dX4_fixed_39 : decode cX4_fixed 39 = .ok (.if_icmp .ne 7, 3) := by decide +kernel
theorem dX4_fixed_42 : decode cX4_fixed 42 = .ok (.iconst 1, 1) := by decide +kernel
theorem dX4_fixed_43 : decode cX4_fixed 43 = .ok (.goto 4, 3) := by decide +kernel
theorem dX4_fixed_46 : decode cX4_fixed 46 = .ok (.iconst 0, 1) := by decide +kernel
theorem dX4_fixed_47 : decode cX4_fixed 47 = .ok (.iadd, 1) := by decide +kernel
theorem dX4_fixed_48 : decode cX4_fixed 48 = .ok (.istore_n 2, 1) := by decide +kernel
theorem dX4_fixed_49 : decode cX4_fixed 49 = .ok (.iinc 3 1, 3) := by decide +kernel
theorem dX4_fixed_52 : decode cX4_fixed 52 = .ok (.goto (-34), 3) := by decide +kernel
theorem dX4_fixed_55 : decode cX4_fixed 55 = .ok (.iload_n 2, 1) := by decide +kernel
theorem dX4_fixed_56 : decode cX4_fixed 56 = .ok (.ireturn, 1) := by decide +kernel
theorem dX4_differenceOf_0 : decode cX4_differenceOf 0 = .ok (.iconst 0, 1) := by decide +kernel
theorem dX4_differenceOf_1 : decode cX4_differenceOf 1 = .ok (.istore 4, 2) := by decide +kernel
theorem dX4_differenceOf_3 : decode cX4_differenceOf 3 = .ok (.iconst 0, 1) := by decide +kernel
theorem dX4_differenceOf_4 : decode cX4_differenceOf 4 = .ok (.istore 5, 2) := by decide +kernel
theorem dX4_differenceOf_6 : decode cX4_differenceOf 6 = .ok (.iload 5, 2) := by decide +kernel
theorem dX4_differenceOf_8 : decode cX4_differenceOf 8 = .ok (.aload_n 0, 1) := by decide +kernel
theorem dX4_differenceOf_9 : decode cX4_differenceOf 9 = .ok (.getfield 39, 3) := by decide +kernel
theorem dX4_differenceOf_12 : decode cX4_differenceOf 12 = .ok (.if_icmp .ge 56, 3) := by decide +kernel
theorem dX4_differenceOf_15 : decode cX4_differenceOf 15 = .ok (.iload 4, 2) := by decide +kernel
theorem dX4_differenceOf_17 : decode cX4_differenceOf 17 = .ok (.aload_n 0, 1) := by decide +kernel
theorem dX4_differenceOf_18 : decode cX4_differenceOf 18 = .ok (.getfield 16, 3) := by decide +kernel
theorem dX4_differenceOf_21 : decode cX4_differenceOf 21 = .ok (.bipush 16, 2) := by decide +kernel
theorem dX4_differenceOf_23 : decode cX4_differenceOf 23 = .ok (.iload_n 1, 1) := by decide +kernel
theorem dX4_differenceOf_24 : decode cX4_differenceOf 24 = .ok (.imul, 1) := by decide +kernel
theorem dX4_differenceOf_25 : decode cX4_differenceOf 25 = .ok (.aload_n 0, 1) := by decide +kernel
theorem dX4_differenceOf_26 : decode cX4_differenceOf 26 = .ok (.iload 5, 2) := by decide +kernel
theorem dX4_differenceOf_28 : decode cX4_differenceOf 28 = .ok (.iload_n 2, 1) := by decide +kernel
theorem dX4_differenceOf_29 : decode cX4_differenceOf 29 = .ok (.invokevirtual 49, 3) := by decide +kernel
theorem dX4_differenceOf_32 : decode cX4_differenceOf 32 = .ok (.iadd, 1) := by decide +kernel
theorem dX4_differenceOf_33 : decode cX4_differenceOf 33 = .ok (.iaload, 1) := by decide +kernel
theorem dX4_differenceOf_34 : decode cX4_differenceOf 34 = .ok (.aload_n 0, 1) := by decide +kernel
theorem dX4_differenceOf_35 : decode cX4_differenceOf 35 = .ok (.aload_n 0, 1) := by decide +kernel
theorem dX4_differenceOf_36 : decode cX4_differenceOf 36 = .ok (.getfield 16, 3) := by decide +kernel
theorem dX4_differenceOf_39 : decode cX4_differenceOf 39 = .ok (.bipush 16, 2) := by decide +kernel
theorem dX4_differenceOf_41 : decode cX4_differenceOf 41 = .ok (.iload_n 1, 1) := by decide +kernel
theorem dX4_differenceOf_42 : decode cX4_differenceOf 42 = .ok (.imul, 1) := by decide +kernel
theorem dX4_differenceOf_43 : decode cX4_differenceOf 43 = .ok (.iload 5, 2) := by decide +kernel
theorem dX4_differenceOf_45 : decode cX4_differenceOf 45 = .ok (.iadd, 1) := by decide +kernel
theorem dX4_differenceOf_46 : decode cX4_differenceOf 46 = .ok (.iaload, 1) := by decide +kernel
theorem dX4_differenceOf_47 : decode cX4_differenceOf 47 = .ok (.iload_n 3, 1) := by decide +kernel
theorem dX4_differenceOf_48 : decode cX4_differenceOf 48 = .ok (.invokevirtual 49, 3) := by decide +kernel
theorem dX4_differenceOf_51 : decode cX4_differenceOf 51 = .ok (.if_icmp .ne 7, 3) := by decide +kernel
theorem dX4_differenceOf_54 : decode cX4_differenceOf 54 = .ok (.iconst 1, 1) := by decide +kernel
theorem dX4_differenceOf_55 : decode cX4_differenceOf 55 = .ok (.goto 4, 3) := by decide +kernel
theorem dX4_differenceOf_58 : decode cX4_differenceOf 58 = .ok (.iconst 0, 1) := by decide +kernel
theorem dX4_differenceOf_59 : decode cX4_differenceOf 59 = .ok (.iadd, 1) := by decide +kernel
theorem dX4_differenceOf_60 : decode cX4_differenceOf 60 = .ok (.istore 4, 2) := by decide +kernel
theorem dX4_differenceOf_62 : decode cX4_differenceOf 62 = .ok (.iinc 5 1, 3) := by decide +kernel
theorem dX4_differenceOf_65 : decode cX4_differenceOf 65 = .ok (.goto (-59), 3) := by decide +kernel
theorem dX4_differenceOf_68 : decode cX4_differenceOf 68 = .ok (.iload 4, 2) := by decide +kernel
theorem dX4_differenceOf_70 : decode cX4_differenceOf 70 = .ok (.ireturn, 1) := by decide +kernel
theorem dX4_difference_0 : decode cX4_difference 0 = .ok (.aload_n 0, 1) := by decide +kernel
theorem dX4_difference_1 : decode cX4_difference 1 = .ok (.iconst 0, 1) := by decide +kernel
theorem dX4_difference_2 : decode cX4_difference 2 = .ok (.putfield 32, 3) := by decide +kernel
theorem dX4_difference_5 : decode cX4_difference 5 = .ok (.iload_n 1, 1) := by decide +kernel
theorem dX4_difference_6 : decode cX4_difference 6 = .ok (.invokestatic 63, 3) := by decide +kernel
theorem dX4_difference_9 : decode cX4_difference 9 = .ok (.ifCond .eq 35, 3) := by decide +kernel
theorem dX4_difference_12 : decode cX4_difference 12 = .ok (.iload_n 2, 1) := by decide +kernel
theorem dX4_difference_13 : decode cX4_difference 13 = .ok (.iconst 1, 1) := by decide +kernel
theorem dX4_difference_14 : decode cX4_difference 14 = .ok (.aload_n 0, 1) := by decide +kernel
theorem dX4_difference_15 : decode cX4_difference 15 = .ok (.getfield 39, 3) := by decide +kernel
theorem dX4_difference_18 : decode cX4_difference 18 = .ok (.iconst 1, 1) := by decide +kernel
theorem dX4_difference_19 : decode cX4_difference 19 = .ok (.isub, 1) := by decide +kernel
theorem dX4_difference_20 : decode cX4_difference 20 = .ok (.invokestatic 52, 3) := by decide +kernel
theorem dX4_difference_23 : decode cX4_difference 23 = .ok (.ifCond .eq 21, 3) := by decide +kernel
theorem dX4_difference_26 : decode cX4_difference 26 = .ok (.aload_n 0, 1) := by decide +kernel
theorem dX4_difference_27 : decode cX4_difference 27 = .ok (.iload_n 3, 1) := by decide +kernel
theorem dX4_difference_28 : decode cX4_difference 28 = .ok (.invokevirtual 59, 3) := by decide +kernel
theorem dX4_difference_31 : decode cX4_difference 31 = .ok (.ifCond .eq 13, 3) := by decide +kernel
theorem dX4_difference_34 : decode cX4_difference 34 = .ok (.aload_n 0, 1) := by decide +kernel
theorem dX4_difference_35 : decode cX4_difference 35 = .ok (.iload_n 1, 1) := by decide +kernel
theorem dX4_difference_36 : decode cX4_difference 36 = .ok (.iload_n 2, 1) := by decide +kernel
theorem dX4_difference_37 : decode cX4_difference 37 = .ok (.iload_n 3, 1) := by decide +kernel
theorem dX4_difference_38 : decode cX4_difference 38 = .ok (.invokevirtual 105, 3) := by decide +kernel
theorem dX4_difference_41 : decode cX4_difference 41 = .ok (.goto 4, 3) := by decide +kernel
theorem dX4_difference_44 : decode cX4_difference 44 = .ok (.iconst (-1), 1) := by decide +kernel
theorem dX4_difference_45 : decode cX4_difference 45 = .ok (.ireturn, 1) := by decide +kernel
theorem dX4_spreadOf_0 : decode cX4_spreadOf 0 = .ok (.iconst 0, 1) := by decide +kernel
theorem dX4_spreadOf_1 : decode cX4_spreadOf 1 = .ok (.istore_n 2, 1) := by decide +kernel
theorem dX4_spreadOf_2 : decode cX4_spreadOf 2 = .ok (.iconst 1, 1) := by decide +kernel
theorem dX4_spreadOf_3 : decode cX4_spreadOf 3 = .ok (.istore_n 3, 1) := by decide +kernel
theorem dX4_spreadOf_4 : decode cX4_spreadOf 4 = .ok (.iload_n 3, 1) := by decide +kernel
theorem dX4_spreadOf_5 : decode cX4_spreadOf 5 = .ok (.aload_n 0, 1) := by decide +kernel
theorem dX4_spreadOf_6 : decode cX4_spreadOf 6 = .ok (.getfield 39, 3) := by decide +kernel
theorem dX4_spreadOf_9 : decode cX4_spreadOf 9 = .ok (.if_icmp .ge 50, 3) := by decide +kernel
theorem dX4_spreadOf_12 : decode cX4_spreadOf 12 = .ok (.iconst 0, 1) := by decide +kernel
theorem dX4_spreadOf_13 : decode cX4_spreadOf 13 = .ok (.istore 4, 2) := by decide +kernel
theorem dX4_spreadOf_15 : decode cX4_spreadOf 15 = .ok (.iload 4, 2) := by decide +kernel
theorem dX4_spreadOf_17 : decode cX4_spreadOf 17 = .ok (.aload_n 0, 1) := by decide +kernel
theorem dX4_spreadOf_18 : decode cX4_spreadOf 18 = .ok (.getfield 39, 3) := by decide +kernel
theorem dX4_spreadOf_21 : decode cX4_spreadOf 21 = .ok (.if_icmp .ge 32, 3) := by decide +kernel
theorem dX4_spreadOf_24 : decode cX4_spreadOf 24 = .ok (.aload_n 0, 1) := by decide +kernel
theorem dX4_spreadOf_25 : decode cX4_spreadOf 25 = .ok (.iload_n 1, 1) := by decide +kernel
theorem dX4_spreadOf_26 : decode cX4_spreadOf 26 = .ok (.iload_n 3, 1) := by decide +kernel
theorem dX4_spreadOf_27 : decode cX4_spreadOf 27 = .ok (.iload 4, 2) := by decide +kernel
theorem dX4_spreadOf_29 : decode cX4_spreadOf 29 = .ok (.invokevirtual 105, 3) := by decide +kernel
theorem dX4_spreadOf_32 : decode cX4_spreadOf 32 = .ok (.istore 5, 2) := by decide +kernel
theorem dX4_spreadOf_34 : decode cX4_spreadOf 34 = .ok (.iload 5, 2) := by decide +kernel
theorem dX4_spreadOf_36 : decode cX4_spreadOf 36 = .ok (.iload_n 2, 1) := by decide +kernel
theorem dX4_spreadOf_37 : decode cX4_spreadOf 37 = .ok (.if_icmp .le 8, 3) := by decide +kernel
theorem dX4_spreadOf_40 : decode cX4_spreadOf 40 = .ok (.iload 5, 2) := by decide +kernel
theorem dX4_spreadOf_42 : decode cX4_spreadOf 42 = .ok (.goto 4, 3) := by decide +kernel
theorem dX4_spreadOf_45 : decode cX4_spreadOf 45 = .ok (.iload_n 2, 1) := by decide +kernel
theorem dX4_spreadOf_46 : decode cX4_spreadOf 46 = .ok (.istore_n 2, 1) := by decide +kernel
theorem dX4_spreadOf_47 : decode cX4_spreadOf 47 = .ok (.iinc 4 1, 3) := by decide +kernel
theorem dX4_spreadOf_50 : decode cX4_spreadOf 50 = .ok (.goto (-35), 3) := by decide +kernel
theorem dX4_spreadOf_53 : decode cX4_spreadOf 53 = .ok (.iinc 3 1, 3) := by decide +kernel
theorem dX4_spreadOf_56 : decode cX4_spreadOf 56 = .ok (.goto (-52), 3) := by decide +kernel
theorem dX4_spreadOf_59 : decode cX4_spreadOf 59 = .ok (.iload_n 2, 1) := by decide +kernel
theorem dX4_spreadOf_60 : decode cX4_spreadOf 60 = .ok (.ireturn, 1) := by decide +kernel
theorem dX4_spread_0 : decode cX4_spread 0 = .ok (.aload_n 0, 1) := by decide +kernel
theorem dX4_spread_1 : decode cX4_spread 1 = .ok (.iconst 0, 1) := by decide +kernel
theorem dX4_spread_2 : decode cX4_spread 2 = .ok (.putfield 32, 3) := by decide +kernel
theorem dX4_spread_5 : decode cX4_spread 5 = .ok (.iload_n 1, 1) := by decide +kernel
theorem dX4_spread_6 : decode cX4_spread 6 = .ok (.invokestatic 63, 3) := by decide +kernel
theorem dX4_spread_9 : decode cX4_spread 9 = .ok (.ifCond .eq 11, 3) := by decide +kernel
theorem dX4_spread_12 : decode cX4_spread 12 = .ok (.aload_n 0, 1) := by decide +kernel
theorem dX4_spread_13 : decode cX4_spread 13 = .ok (.iload_n 1, 1) := by decide +kernel
theorem dX4_spread_14 : decode cX4_spread 14 = .ok (.invokevirtual 109, 3) := by decide +kernel
theorem dX4_spread_17 : decode cX4_spread 17 = .ok (.goto 4, 3) := by decide +kernel
theorem dX4_spread_20 : decode cX4_spread 20 = .ok (.iconst (-1), 1) := by decide +kernel
theorem dX4_spread_21 : decode cX4_spread 21 = .ok (.ireturn, 1) := by decide +kernel
theorem dX4_planar_0 : decode cX4_planar 0 = .ok (.aload_n 0, 1) := by decide +kernel
theorem dX4_planar_1 : decode cX4_planar 1 = .ok (.iconst 0, 1) := by decide +kernel
theorem dX4_planar_2 : decode cX4_planar 2 = .ok (.putfield 32, 3) := by decide +kernel
theorem dX4_planar_5 : decode cX4_planar 5 = .ok (.iload_n 1, 1) := by decide +kernel
theorem dX4_planar_6 : decode cX4_planar 6 = .ok (.invokestatic 63, 3) := by decide +kernel
theorem dX4_planar_9 : decode cX4_planar 9 = .ok (.ifCond .ne 7, 3) := by decide +kernel
theorem dX4_planar_12 : decode cX4_planar 12 = .ok (.iconst (-1), 1) := by decide +kernel
theorem dX4_planar_13 : decode cX4_planar 13 = .ok (.goto 17, 3) := by decide +kernel
theorem dX4_planar_16 : decode cX4_planar 16 = .ok (.aload_n 0, 1) := by decide +kernel
theorem dX4_planar_17 : decode cX4_planar 17 = .ok (.iload_n 1, 1) := by decide +kernel
theorem dX4_planar_18 : decode cX4_planar 18 = .ok (.invokevirtual 109, 3) := by decide +kernel
theorem dX4_planar_21 : decode cX4_planar 21 = .ok (.iconst 1, 1) := by decide +kernel
theorem dX4_planar_22 : decode cX4_planar 22 = .ok (.if_icmp .ne 7, 3) := by decide +kernel
theorem dX4_planar_25 : decode cX4_planar 25 = .ok (.iconst 1, 1) := by decide +kernel
theorem dX4_planar_26 : decode cX4_planar 26 = .ok (.goto 4, 3) := by decide +kernel
theorem dX4_planar_29 : decode cX4_planar 29 = .ok (.iconst 0, 1) := by decide +kernel
theorem dX4_planar_30 : decode cX4_planar 30 = .ok (.ireturn, 1) := by decide +kernel
theorem dX4_isTwos_0 : decode cX4_isTwos 0 = .ok (.aload_n 0, 1) := by decide +kernel
theorem dX4_isTwos_1 : decode cX4_isTwos 1 = .ok (.getfield 36, 3) := by decide +kernel
theorem dX4_isTwos_4 : decode cX4_isTwos 4 = .ok (.iconst 2, 1) := by decide +kernel
theorem dX4_isTwos_5 : decode cX4_isTwos 5 = .ok (.if_icmp .ne 7, 3) := by decide +kernel
theorem dX4_isTwos_8 : decode cX4_isTwos 8 = .ok (.iconst 1, 1) := by decide +kernel
theorem dX4_isTwos_9 : decode cX4_isTwos 9 = .ok (.goto 4, 3) := by decide +kernel
theorem dX4_isTwos_12 : decode cX4_isTwos 12 = .ok (.iconst 0, 1) := by decide +kernel
theorem dX4_isTwos_13 : decode cX4_isTwos 13 = .ok (.ireturn, 1) := by decide +kernel
theorem dX4_odd_0 : decode cX4_odd 0 = .ok (.iload_n 0, 1) := by decide +kernel
theorem dX4_odd_1 : decode cX4_odd 1 = .ok (.iload_n 0, 1) := by decide +kernel
theorem dX4_odd_2 : decode cX4_odd 2 = .ok (.iconst 1, 1) := by decide +kernel
theorem dX4_odd_3 : decode cX4_odd 3 = .ok (.ishr, 1) := by decide +kernel
theorem dX4_odd_4 : decode cX4_odd 4 = .ok (.ixor, 1) := by decide +kernel
theorem dX4_odd_5 : decode cX4_odd 5 = .ok (.iload_n 0, 1) := by decide +kernel
theorem dX4_odd_6 : decode cX4_odd 6 = .ok (.iconst 2, 1) := by decide +kernel
theorem dX4_odd_7 : decode cX4_odd 7 = .ok (.ishr, 1) := by decide +kernel
theorem dX4_odd_8 : decode cX4_odd 8 = .ok (.ixor, 1) := by decide +kernel
theorem dX4_odd_9 : decode cX4_odd 9 = .ok (.iload_n 0, 1) := by decide +kernel
theorem dX4_odd_10 : decode cX4_odd 10 = .ok (.iconst 3, 1) := by decide +kernel
theorem dX4_odd_11 : decode cX4_odd 11 = .ok (.ishr, 1) := by decide +kernel
theorem dX4_odd_12 : decode cX4_odd 12 = .ok (.ixor, 1) := by decide +kernel
theorem dX4_odd_13 : decode cX4_odd 13 = .ok (.iconst 1, 1) := by decide +kernel
theorem dX4_odd_14 : decode cX4_odd 14 = .ok (.iand, 1) := by decide +kernel
theorem dX4_odd_15 : decode cX4_odd 15 = .ok (.ireturn, 1) := by decide +kernel
theorem dX4_walkOf_0 : decode cX4_walkOf 0 = .ok (.iconst 0, 1) := by decide +kernel
theorem dX4_walkOf_1 : decode cX4_walkOf 1 = .ok (.istore 4, 2) := by decide +kernel
theorem dX4_walkOf_3 : decode cX4_walkOf 3 = .ok (.iconst 0, 1) := by decide +kernel
theorem dX4_walkOf_4 : decode cX4_walkOf 4 = .ok (.istore 5, 2) := by decide +kernel
theorem dX4_walkOf_6 : decode cX4_walkOf 6 = .ok (.iload 5, 2) := by decide +kernel
theorem dX4_walkOf_8 : decode cX4_walkOf 8 = .ok (.aload_n 0, 1) := by decide +kernel
theorem dX4_walkOf_9 : decode cX4_walkOf 9 = .ok (.getfield 39, 3) := by decide +kernel
theorem dX4_walkOf_12 : decode cX4_walkOf 12 = .ok (.if_icmp .ge 46, 3) := by decide +kernel
theorem dX4_walkOf_15 : decode cX4_walkOf 15 = .ok (.iload 4, 2) := by decide +kernel
theorem dX4_walkOf_17 : decode cX4_walkOf 17 = .ok (.iload_n 2, 1) := by decide +kernel
theorem dX4_walkOf_18 : decode cX4_walkOf 18 = .ok (.iload 5, 2) := by decide +kernel
theorem dX4_walkOf_20 : decode cX4_walkOf 20 = .ok (.iand, 1) := by decide +kernel
theorem dX4_walkOf_21 : decode cX4_walkOf 21 = .ok (.invokestatic 112, 3) := by decide +kernel
theorem dX4_walkOf_24 : decode cX4_walkOf 24 = .ok (.iload_n 3, 1) := by decide +kernel
theorem dX4_walkOf_25 : decode cX4_walkOf 25 = .ok (.aload_n 0, 1) := by decide +kernel
theorem dX4_walkOf_26 : decode cX4_walkOf 26 = .ok (.getfield 16, 3) := by decide +kernel
theorem dX4_walkOf_29 : decode cX4_walkOf 29 = .ok (.bipush 16, 2) := by decide +kernel
theorem dX4_walkOf_31 : decode cX4_walkOf 31 = .ok (.iload_n 1, 1) := by decide +kernel
theorem dX4_walkOf_32 : decode cX4_walkOf 32 = .ok (.imul, 1) := by decide +kernel
theorem dX4_walkOf_33 : decode cX4_walkOf 33 = .ok (.iload 5, 2) := by decide +kernel
theorem dX4_walkOf_35 : decode cX4_walkOf 35 = .ok (.iadd, 1) := by decide +kernel
theorem dX4_walkOf_36 : decode cX4_walkOf 36 = .ok (.iaload, 1) := by decide +kernel
theorem dX4_walkOf_37 : decode cX4_walkOf 37 = .ok (.iand, 1) := by decide +kernel
theorem dX4_walkOf_38 : decode cX4_walkOf 38 = .ok (.invokestatic 112, 3) := by decide +kernel
theorem dX4_walkOf_41 : decode cX4_walkOf 41 = .ok (.if_icmp .ne 7, 3) := by decide +kernel
theorem dX4_walkOf_44 : decode cX4_walkOf 44 = .ok (.iconst 1, 1) := by decide +kernel
theorem dX4_walkOf_45 : decode cX4_walkOf 45 = .ok (.goto 4, 3) := by decide +kernel
theorem dX4_walkOf_48 : decode cX4_walkOf 48 = .ok (.iconst (-1), 1) := by decide +kernel
theorem dX4_walkOf_49 : decode cX4_walkOf 49 = .ok (.iadd, 1) := by decide +kernel
theorem dX4_walkOf_50 : decode cX4_walkOf 50 = .ok (.istore 4, 2) := by decide +kernel
theorem dX4_walkOf_52 : decode cX4_walkOf 52 = .ok (.iinc 5 1, 3) := by decide +kernel
theorem dX4_walkOf_55 : decode cX4_walkOf 55 = .ok (.goto (-49), 3) := by decide +kernel
theorem dX4_walkOf_58 : decode cX4_walkOf 58 = .ok (.iload 4, 2) := by decide +kernel
theorem dX4_walkOf_60 : decode cX4_walkOf 60 = .ok (.ireturn, 1) := by decide +kernel
theorem dX4_walk_0 : decode cX4_walk 0 = .ok (.aload_n 0, 1) := by decide +kernel
theorem dX4_walk_1 : decode cX4_walk 1 = .ok (.iconst 0, 1) := by decide +kernel
theorem dX4_walk_2 : decode cX4_walk 2 = .ok (.putfield 32, 3) := by decide +kernel
theorem dX4_walk_5 : decode cX4_walk 5 = .ok (.iload_n 1, 1) := by decide +kernel
theorem dX4_walk_6 : decode cX4_walk 6 = .ok (.invokestatic 63, 3) := by decide +kernel
theorem dX4_walk_9 : decode cX4_walk 9 = .ok (.ifCond .eq 36, 3) := by decide +kernel
theorem dX4_walk_12 : decode cX4_walk 12 = .ok (.aload_n 0, 1) := by decide +kernel
theorem dX4_walk_13 : decode cX4_walk 13 = .ok (.iload_n 2, 1) := by decide +kernel
theorem dX4_walk_14 : decode cX4_walk 14 = .ok (.invokevirtual 59, 3) := by decide +kernel
theorem dX4_walk_17 : decode cX4_walk 17 = .ok (.ifCond .eq 28, 3) := by decide +kernel
theorem dX4_walk_20 : decode cX4_walk 20 = .ok (.aload_n 0, 1) := by decide +kernel
theorem dX4_walk_21 : decode cX4_walk 21 = .ok (.iload_n 3, 1) := by decide +kernel
theorem dX4_walk_22 : decode cX4_walk 22 = .ok (.invokevirtual 59, 3) := by decide +kernel
theorem dX4_walk_25 : decode cX4_walk 25 = .ok (.ifCond .eq 20, 3) := by decide +kernel
theorem dX4_walk_28 : decode cX4_walk 28 = .ok (.aload_n 0, 1) := by decide +kernel
theorem dX4_walk_29 : decode cX4_walk 29 = .ok (.invokevirtual 115, 3) := by decide +kernel
theorem dX4_walk_32 : decode cX4_walk 32 = .ok (.ifCond .eq 13, 3) := by decide +kernel
theorem dX4_walk_35 : decode cX4_walk 35 = .ok (.aload_n 0, 1) := by decide +kernel
theorem dX4_walk_36 : decode cX4_walk 36 = .ok (.iload_n 1, 1) := by decide +kernel
theorem dX4_walk_37 : decode cX4_walk 37 = .ok (.iload_n 2, 1) := by decide +kernel
theorem dX4_walk_38 : decode cX4_walk 38 = .ok (.iload_n 3, 1) := by decide +kernel
theorem dX4_walk_39 : decode cX4_walk 39 = .ok (.invokevirtual 119, 3) := by decide +kernel
theorem dX4_walk_42 : decode cX4_walk 42 = .ok (.goto 5, 3) := by decide +kernel
theorem dX4_walk_45 : decode cX4_walk 45 = .ok (.ldc 122, 2) := by decide +kernel
theorem dX4_walk_47 : decode cX4_walk 47 = .ok (.ireturn, 1) := by decide +kernel
theorem dX4_linear_0 : decode cX4_linear 0 = .ok (.aload_n 0, 1) := by decide +kernel
theorem dX4_linear_1 : decode cX4_linear 1 = .ok (.iconst 0, 1) := by decide +kernel
theorem dX4_linear_2 : decode cX4_linear 2 = .ok (.putfield 32, 3) := by decide +kernel
theorem dX4_linear_5 : decode cX4_linear 5 = .ok (.iload_n 1, 1) := by decide +kernel
theorem dX4_linear_6 : decode cX4_linear 6 = .ok (.invokestatic 63, 3) := by decide +kernel
theorem dX4_linear_9 : decode cX4_linear 9 = .ok (.ifCond .ne 5, 3) := by decide +kernel
theorem dX4_linear_12 : decode cX4_linear 12 = .ok (.iconst (-1), 1) := by decide +kernel
theorem dX4_linear_13 : decode cX4_linear 13 = .ok (.ireturn, 1) := by decide +kernel
theorem dX4_linear_14 : decode cX4_linear 14 = .ok (.aload_n 0, 1) := by decide +kernel
theorem dX4_linear_15 : decode cX4_linear 15 = .ok (.invokevirtual 115, 3) := by decide +kernel
theorem dX4_linear_18 : decode cX4_linear 18 = .ok (.ifCond .ne 6, 3) := by decide +kernel
theorem dX4_linear_21 : decode cX4_linear 21 = .ok (.bipush (-2), 2) := by decide +kernel
theorem dX4_linear_23 : decode cX4_linear 23 = .ok (.ireturn, 1) := by decide +kernel
theorem dX4_linear_24 : decode cX4_linear 24 = .ok (.iconst 0, 1) := by decide +kernel
theorem dX4_linear_25 : decode cX4_linear 25 = .ok (.istore_n 2, 1) := by decide +kernel
theorem dX4_linear_26 : decode cX4_linear 26 = .ok (.iconst 0, 1) := by decide +kernel
theorem dX4_linear_27 : decode cX4_linear 27 = .ok (.istore_n 3, 1) := by decide +kernel
theorem dX4_linear_28 : decode cX4_linear 28 = .ok (.iload_n 3, 1) := by decide +kernel
theorem dX4_linear_29 : decode cX4_linear 29 = .ok (.aload_n 0, 1) := by decide +kernel
theorem dX4_linear_30 : decode cX4_linear 30 = .ok (.getfield 39, 3) := by decide +kernel
theorem dX4_linear_33 : decode cX4_linear 33 = .ok (.if_icmp .ge 65, 3) := by decide +kernel
theorem dX4_linear_36 : decode cX4_linear 36 = .ok (.iconst 1, 1) := by decide +kernel
theorem dX4_linear_37 : decode cX4_linear 37 = .ok (.istore 4, 2) := by decide +kernel
theorem dX4_linear_39 : decode cX4_linear 39 = .ok (.iload 4, 2) := by decide +kernel
theorem dX4_linear_41 : decode cX4_linear 41 = .ok (.aload_n 0, 1) := by decide +kernel
theorem dX4_linear_42 : decode cX4_linear 42 = .ok (.getfield 39, 3) := by decide +kernel
theorem dX4_linear_45 : decode cX4_linear 45 = .ok (.if_icmp .ge 47, 3) := by decide +kernel
theorem dX4_linear_48 : decode cX4_linear 48 = .ok (.aload_n 0, 1) := by decide +kernel
theorem dX4_linear_49 : decode cX4_linear 49 = .ok (.iload_n 1, 1) := by decide +kernel
theorem dX4_linear_50 : decode cX4_linear 50 = .ok (.iload_n 3, 1) := by decide +kernel
theorem dX4_linear_51 : decode cX4_linear 51 = .ok (.iload 4, 2) := by decide +kernel
theorem dX4_linear_53 : decode cX4_linear 53 = .ok (.invokevirtual 119, 3) := by decide +kernel
theorem dX4_linear_56 : decode cX4_linear 56 = .ok (.istore 5, 2) := by decide +kernel
theorem dX4_linear_58 : decode cX4_linear 58 = .ok (.iload 5, 2) := by decide +kernel
theorem dX4_linear_60 : decode cX4_linear 60 = .ok (.ifCond .ge 9, 3) := by decide +kernel
theorem dX4_linear_63 : decode cX4_linear 63 = .ok (.iload 5, 2) := by decide +kernel
theorem dX4_linear_65 : decode cX4_linear 65 = .ok (.ineg, 1) := by decide +kernel
theorem dX4_linear_66 : decode cX4_linear 66 = .ok (.goto 5, 3) := by decide +kernel
theorem dX4_linear_69 : decode cX4_linear 69 = .ok (.iload 5, 2) := by decide +kernel
theorem dX4_linear_71 : decode cX4_linear 71 = .ok (.istore 5, 2) := by decide +kernel
theorem dX4_linear_73 : decode cX4_linear 73 = .ok (.iload 5, 2) := by decide +kernel
theorem dX4_linear_75 : decode cX4_linear 75 = .ok (.iload_n 2, 1) := by decide +kernel
theorem dX4_linear_76 : decode cX4_linear 76 = .ok (.if_icmp .le 8, 3) := by decide +kernel
theorem dX4_linear_79 : decode cX4_linear 79 = .ok (.iload 5, 2) := by decide +kernel
theorem dX4_linear_81 : decode cX4_linear 81 = .ok (.goto 4, 3) := by decide +kernel
theorem dX4_linear_84 : decode cX4_linear 84 = .ok (.iload_n 2, 1) := by decide +kernel
theorem dX4_linear_85 : decode cX4_linear 85 = .ok (.istore_n 2, 1) := by decide +kernel
theorem dX4_linear_86 : decode cX4_linear 86 = .ok (.iinc 4 1, 3) := by decide +kernel
theorem dX4_linear_89 : decode cX4_linear 89 = .ok (.goto (-50), 3) := by decide +kernel
theorem dX4_linear_92 : decode cX4_linear 92 = .ok (.iinc 3 1, 3) := by decide +kernel
theorem dX4_linear_95 : decode cX4_linear 95 = .ok (.goto (-67), 3) := by decide +kernel
theorem dX4_linear_98 : decode cX4_linear 98 = .ok (.iload_n 2, 1) := by decide +kernel
theorem dX4_linear_99 : decode cX4_linear 99 = .ok (.ireturn, 1) := by decide +kernel
theorem dX4_like_0 : decode cX4_like 0 = .ok (.aload_n 0, 1) := by decide +kernel
theorem dX4_like_1 : decode cX4_like 1 = .ok (.iconst 0, 1) := by decide +kernel
theorem dX4_like_2 : decode cX4_like 2 = .ok (.putfield 32, 3) := by decide +kernel
theorem dX4_like_5 : decode cX4_like 5 = .ok (.iload_n 1, 1) := by decide +kernel
theorem dX4_like_6 : decode cX4_like 6 = .ok (.invokestatic 63, 3) := by decide +kernel
theorem dX4_like_9 : decode cX4_like 9 = .ok (.ifCond .eq 10, 3) := by decide +kernel
theorem dX4_like_12 : decode cX4_like 12 = .ok (.iload_n 2, 1) := by decide +kernel
theorem dX4_like_13 : decode cX4_like 13 = .ok (.invokestatic 63, 3) := by decide +kernel
theorem dX4_like_16 : decode cX4_like 16 = .ok (.ifCond .ne 5, 3) := by decide +kernel
theorem dX4_like_19 : decode cX4_like 19 = .ok (.iconst (-1), 1) := by decide +kernel
theorem dX4_like_20 : decode cX4_like 20 = .ok (.ireturn, 1) := by decide +kernel
theorem dX4_like_21 : decode cX4_like 21 = .ok (.iconst 1, 1) := by decide +kernel
theorem dX4_like_22 : decode cX4_like 22 = .ok (.istore_n 3, 1) := by decide +kernel
theorem dX4_like_23 : decode cX4_like 23 = .ok (.iload_n 3, 1) := by decide +kernel
theorem dX4_like_24 : decode cX4_like 24 = .ok (.aload_n 0, 1) := by decide +kernel
theorem dX4_like_25 : decode cX4_like 25 = .ok (.getfield 39, 3) := by decide +kernel
theorem dX4_like_28 : decode cX4_like 28 = .ok (.if_icmp .ge 171, 3) := by decide +kernel
theorem dX4_like_31 : decode cX4_like 31 = .ok (.iconst 1, 1) := by decide +kernel
theorem dX4_like_32 : decode cX4_like 32 = .ok (.istore 4, 2) := by decide +kernel
theorem dX4_like_34 : decode cX4_like 34 = .ok (.iload 4, 2) := by decide +kernel
theorem dX4_like_36 : decode cX4_like 36 = .ok (.aload_n 0, 1) := by decide +kernel
theorem dX4_like_37 : decode cX4_like 37 = .ok (.getfield 39, 3) := by decide +kernel
theorem dX4_like_40 : decode cX4_like 40 = .ok (.if_icmp .ge 153, 3) := by decide +kernel
theorem dX4_like_43 : decode cX4_like 43 = .ok (.iconst 0, 1) := by decide +kernel
theorem dX4_like_44 : decode cX4_like 44 = .ok (.istore 5, 2) := by decide +kernel
theorem dX4_like_46 : decode cX4_like 46 = .ok (.iload 5, 2) := by decide +kernel
theorem dX4_like_48 : decode cX4_like 48 = .ok (.aload_n 0, 1) := by decide +kernel
theorem dX4_like_49 : decode cX4_like 49 = .ok (.getfield 39, 3) := by decide +kernel
theorem dX4_like_52 : decode cX4_like 52 = .ok (.if_icmp .ge 135, 3) := by decide +kernel
theorem dX4_like_55 : decode cX4_like 55 = .ok (.aload_n 0, 1) := by decide +kernel
theorem dX4_like_56 : decode cX4_like 56 = .ok (.aload_n 0, 1) := by decide +kernel
theorem dX4_like_57 : decode cX4_like 57 = .ok (.getfield 16, 3) := by decide +kernel
theorem dX4_like_60 : decode cX4_like 60 = .ok (.bipush 16, 2) := by decide +kernel
theorem dX4_like_62 : decode cX4_like 62 = .ok (.iload_n 2, 1) := by decide +kernel
theorem dX4_like_63 : decode cX4_like 63 = .ok (.imul, 1) := by decide +kernel
theorem dX4_like_64 : decode cX4_like 64 = .ok (.iaload, 1) := by decide +kernel
theorem dX4_like_65 : decode cX4_like 65 = .ok (.aload_n 0, 1) := by decide +kernel
theorem dX4_like_66 : decode cX4_like 66 = .ok (.aload_n 0, 1) := by decide +kernel
theorem dX4_like_67 : decode cX4_like 67 = .ok (.iload_n 3, 1) := by decide +kernel
theorem dX4_like_68 : decode cX4_like 68 = .ok (.aload_n 0, 1) := by decide +kernel
theorem dX4_like_69 : decode cX4_like 69 = .ok (.getfield 16, 3) := by decide +kernel
theorem dX4_like_72 : decode cX4_like 72 = .ok (.bipush 16, 2) := by decide +kernel
theorem dX4_like_74 : decode cX4_like 74 = .ok (.iload_n 1, 1) := by decide +kernel
theorem dX4_like_75 : decode cX4_like 75 = .ok (.imul, 1) := by decide +kernel
theorem dX4_like_76 : decode cX4_like 76 = .ok (.iload 5, 2) := by decide +kernel
theorem dX4_like_78 : decode cX4_like 78 = .ok (.iadd, 1) := by decide +kernel
theorem dX4_like_79 : decode cX4_like 79 = .ok (.iaload, 1) := by decide +kernel
theorem dX4_like_80 : decode cX4_like 80 = .ok (.invokevirtual 56, 3) := by decide +kernel
theorem dX4_like_83 : decode cX4_like 83 = .ok (.invokevirtual 69, 3) := by decide +kernel
theorem dX4_like_86 : decode cX4_like 86 = .ok (.invokevirtual 49, 3) := by decide +kernel
theorem dX4_like_89 : decode cX4_like 89 = .ok (.istore 6, 2) := by decide +kernel
theorem dX4_like_91 : decode cX4_like 91 = .ok (.iconst 1, 1) := by decide +kernel
theorem dX4_like_92 : decode cX4_like 92 = .ok (.istore 7, 2) := by decide +kernel
theorem dX4_like_94 : decode cX4_like 94 = .ok (.iconst 0, 1) := by decide +kernel
theorem dX4_like_95 : decode cX4_like 95 = .ok (.istore 8, 2) := by decide +kernel
theorem dX4_like_97 : decode cX4_like 97 = .ok (.iload 8, 2) := by decide +kernel
theorem dX4_like_99 : decode cX4_like 99 = .ok (.aload_n 0, 1) := by decide +kernel
theorem dX4_like_100 : decode cX4_like 100 = .ok (.getfield 39, 3) := by decide +kernel
theorem dX4_like_103 : decode cX4_like 103 = .ok (.if_icmp .ge 71, 3) := by decide +kernel
theorem dX4_like_106 : decode cX4_like 106 = .ok (.iload 7, 2) := by decide +kernel
theorem dX4_like_108 : decode cX4_like 108 = .ok (.ifCond .eq 66, 3) := by decide +kernel
theorem dX4_like_111 : decode cX4_like 111 = .ok (.aload_n 0, 1) := by decide +kernel
theorem dX4_like_112 : decode cX4_like 112 = .ok (.getfield 16, 3) := by decide +kernel
theorem dX4_like_115 : decode cX4_like 115 = .ok (.bipush 16, 2) := by decide +kernel
theorem dX4_like_117 : decode cX4_like 117 = .ok (.iload_n 2, 1) := by decide +kernel
theorem dX4_like_118 : decode cX4_like 118 = .ok (.imul, 1) := by decide +kernel
theorem dX4_like_119 : decode cX4_like 119 = .ok (.iload 8, 2) := by decide +kernel
theorem dX4_like_121 : decode cX4_like 121 = .ok (.iadd, 1) := by decide +kernel
theorem dX4_like_122 : decode cX4_like 122 = .ok (.iaload, 1) := by decide +kernel
theorem dX4_like_123 : decode cX4_like 123 = .ok (.aload_n 0, 1) := by decide +kernel
theorem dX4_like_124 : decode cX4_like 124 = .ok (.aload_n 0, 1) := by decide +kernel
theorem dX4_like_125 : decode cX4_like 125 = .ok (.iload_n 3, 1) := by decide +kernel
theorem dX4_like_126 : decode cX4_like 126 = .ok (.aload_n 0, 1) := by decide +kernel
theorem dX4_like_127 : decode cX4_like 127 = .ok (.getfield 16, 3) := by decide +kernel
theorem dX4_like_130 : decode cX4_like 130 = .ok (.bipush 16, 2) := by decide +kernel
theorem dX4_like_132 : decode cX4_like 132 = .ok (.iload_n 1, 1) := by decide +kernel
theorem dX4_like_133 : decode cX4_like 133 = .ok (.imul, 1) := by decide +kernel
theorem dX4_like_134 : decode cX4_like 134 = .ok (.aload_n 0, 1) := by decide +kernel
theorem dX4_like_135 : decode cX4_like 135 = .ok (.aload_n 0, 1) := by decide +kernel
theorem dX4_like_136 : decode cX4_like 136 = .ok (.iload 4, 2) := by decide +kernel
theorem dX4_like_138 : decode cX4_like 138 = .ok (.iload 8, 2) := by decide +kernel
theorem dX4_like_140 : decode cX4_like 140 = .ok (.invokevirtual 56, 3) := by decide +kernel
theorem dX4_like_143 : decode cX4_like 143 = .ok (.iload 5, 2) := by decide +kernel
theorem dX4_like_145 : decode cX4_like 145 = .ok (.invokevirtual 49, 3) := by decide +kernel
theorem dX4_like_148 : decode cX4_like 148 = .ok (.iadd, 1) := by decide +kernel
theorem dX4_like_149 : decode cX4_like 149 = .ok (.iaload, 1) := by decide +kernel
theorem dX4_like_150 : decode cX4_like 150 = .ok (.invokevirtual 56, 3) := by decide +kernel
theorem dX4_like_153 : decode cX4_like 153 = .ok (.iload 6, 2) := by decide +kernel
theorem dX4_like_155 : decode cX4_like 155 = .ok (.invokevirtual 49, 3) := by decide +kernel
theorem dX4_like_158 : decode cX4_like 158 = .ok (.if_icmp .ne 7, 3) := by decide +kernel
theorem dX4_like_161 : decode cX4_like 161 = .ok (.iconst 1, 1) := by decide +kernel
theorem dX4_like_162 : decode cX4_like 162 = .ok (.goto 4, 3) := by decide +kernel
theorem dX4_like_165 : decode cX4_like 165 = .ok (.iconst 0, 1) := by decide +kernel
theorem dX4_like_166 : decode cX4_like 166 = .ok (.istore 7, 2) := by decide +kernel
theorem dX4_like_168 : decode cX4_like 168 = .ok (.iinc 8 1, 3) := by decide +kernel
theorem dX4_like_171 : decode cX4_like 171 = .ok (.goto (-74), 3) := by decide +kernel
theorem dX4_like_174 : decode cX4_like 174 = .ok (.iload 7, 2) := by decide +kernel
theorem dX4_like_176 : decode cX4_like 176 = .ok (.ifCond .eq 5, 3) := by decide +kernel
theorem dX4_like_179 : decode cX4_like 179 = .ok (.iconst 1, 1) := by decide +kernel
theorem dX4_like_180 : decode cX4_like 180 = .ok (.ireturn, 1) := by decide +kernel
theorem dX4_like_181 : decode cX4_like 181 = .ok (.iinc 5 1, 3) := by decide +kernel
theorem dX4_like_184 : decode cX4_like 184 = .ok (.goto (-138), 3) := by decide +kernel
theorem dX4_like_187 : decode cX4_like 187 = .ok (.iinc 4 1, 3) := by decide +kernel
theorem dX4_like_190 : decode cX4_like 190 = .ok (.goto (-156), 3) := by decide +kernel
theorem dX4_like_193 : decode cX4_like 193 = .ok (.iinc 3 1, 3) := by decide +kernel
theorem dX4_like_196 : decode cX4_like 196 = .ok (.goto (-173), 3) := by decide +kernel
theorem dX4_like_199 : decode cX4_like 199 = .ok (.iconst 0, 1) := by decide +kernel
theorem dX4_like_200 : decode cX4_like 200 = .ok (.ireturn, 1) := by decide +kernel
theorem dX4_least_0 : decode cX4_least 0 = .ok (.aload_n 0, 1) := by decide +kernel
theorem dX4_least_1 : decode cX4_least 1 = .ok (.iconst 0, 1) := by decide +kernel
theorem dX4_least_2 : decode cX4_least 2 = .ok (.putfield 32, 3) := by decide +kernel
theorem dX4_least_5 : decode cX4_least 5 = .ok (.iload_n 1, 1) := by decide +kernel
theorem dX4_least_6 : decode cX4_least 6 = .ok (.invokestatic 63, 3) := by decide +kernel
theorem dX4_least_9 : decode cX4_least 9 = .ok (.ifCond .ne 5, 3) := by decide +kernel
theorem dX4_least_12 : decode cX4_least 12 = .ok (.iconst (-1), 1) := by decide +kernel
theorem dX4_least_13 : decode cX4_least 13 = .ok (.ireturn, 1) := by decide +kernel
theorem dX4_least_14 : decode cX4_least 14 = .ok (.iconst 0, 1) := by decide +kernel
theorem dX4_least_15 : decode cX4_least 15 = .ok (.istore_n 2, 1) := by decide +kernel
theorem dX4_least_16 : decode cX4_least 16 = .ok (.iload_n 2, 1) := by decide +kernel
theorem dX4_least_17 : decode cX4_least 17 = .ok (.aload_n 0, 1) := by decide +kernel
theorem dX4_least_18 : decode cX4_least 18 = .ok (.getfield 39, 3) := by decide +kernel
theorem dX4_least_21 : decode cX4_least 21 = .ok (.if_icmp .ge 19, 3) := by decide +kernel
theorem dX4_least_24 : decode cX4_least 24 = .ok (.aload_n 0, 1) := by decide +kernel
theorem dX4_least_25 : decode cX4_least 25 = .ok (.getfield 22, 3) := by decide +kernel
theorem dX4_least_28 : decode cX4_least 28 = .ok (.iload_n 2, 1) := by decide +kernel
theorem dX4_least_29 : decode cX4_least 29 = .ok (.aload_n 0, 1) := by decide +kernel
theorem dX4_least_30 : decode cX4_least 30 = .ok (.getfield 39, 3) := by decide +kernel
theorem dX4_least_33 : decode cX4_least 33 = .ok (.iastore, 1) := by decide +kernel
theorem dX4_least_34 : decode cX4_least 34 = .ok (.iinc 2 1, 3) := by decide +kernel
theorem dX4_least_37 : decode cX4_least 37 = .ok (.goto (-21), 3) := by decide +kernel
theorem dX4_least_40 : decode cX4_least 40 = .ok (.iconst 1, 1) := by decide +kernel
theorem dX4_least_41 : decode cX4_least 41 = .ok (.istore_n 2, 1) := by decide +kernel
theorem dX4_least_42 : decode cX4_least 42 = .ok (.iload_n 2, 1) := by decide +kernel
theorem dX4_least_43 : decode cX4_least 43 = .ok (.aload_n 0, 1) := by decide +kernel
theorem dX4_least_44 : decode cX4_least 44 = .ok (.getfield 39, 3) := by decide +kernel
theorem dX4_least_47 : decode cX4_least 47 = .ok (.if_icmp .ge 192, 3) := by decide +kernel
theorem dX4_least_50 : decode cX4_least 50 = .ok (.iconst 1, 1) := by decide +kernel
theorem dX4_least_51 : decode cX4_least 51 = .ok (.istore_n 3, 1) := by decide +kernel
theorem dX4_least_52 : decode cX4_least 52 = .ok (.iload_n 3, 1) := by decide +kernel
theorem dX4_least_53 : decode cX4_least 53 = .ok (.aload_n 0, 1) := by decide +kernel
theorem dX4_least_54 : decode cX4_least 54 = .ok (.getfield 39, 3) := by decide +kernel
theorem dX4_least_57 : decode cX4_least 57 = .ok (.if_icmp .ge 176, 3) := by decide +kernel
theorem dX4_least_60 : decode cX4_least 60 = .ok (.iconst 0, 1) := by decide +kernel
theorem dX4_least_61 : decode cX4_least 61 = .ok (.istore 4, 2) := by decide +kernel
theorem dX4_least_63 : decode cX4_least 63 = .ok (.iload 4, 2) := by decide +kernel
theorem dX4_least_65 : decode cX4_least 65 = .ok (.aload_n 0, 1) := by decide +kernel
theorem dX4_least_66 : decode cX4_least 66 = .ok (.getfield 39, 3) := by decide +kernel
theorem dX4_least_69 : decode cX4_least 69 = .ok (.if_icmp .ge 158, 3) := by decide +kernel
theorem dX4_least_72 : decode cX4_least 72 = .ok (.aload_n 0, 1) := by decide +kernel
theorem dX4_least_73 : decode cX4_least 73 = .ok (.aload_n 0, 1) := by decide +kernel
theorem dX4_least_74 : decode cX4_least 74 = .ok (.iload_n 2, 1) := by decide +kernel
theorem dX4_least_75 : decode cX4_least 75 = .ok (.aload_n 0, 1) := by decide +kernel
theorem dX4_least_76 : decode cX4_least 76 = .ok (.getfield 16, 3) := by decide +kernel
theorem dX4_least_79 : decode cX4_least 79 = .ok (.bipush 16, 2) := by decide +kernel
theorem dX4_least_81 : decode cX4_least 81 = .ok (.iload_n 1, 1) := by decide +kernel
theorem dX4_least_82 : decode cX4_least 82 = .ok (.imul, 1) := by decide +kernel
theorem dX4_least_83 : decode cX4_least 83 = .ok (.iload 4, 2) := by decide +kernel
theorem dX4_least_85 : decode cX4_least 85 = .ok (.iadd, 1) := by decide +kernel
theorem dX4_least_86 : decode cX4_least 86 = .ok (.iaload, 1) := by decide +kernel
theorem dX4_least_87 : decode cX4_least 87 = .ok (.invokevirtual 56, 3) := by decide +kernel
theorem dX4_least_90 : decode cX4_least 90 = .ok (.invokevirtual 69, 3) := by decide +kernel
theorem dX4_least_93 : decode cX4_least 93 = .ok (.istore 5, 2) := by decide +kernel
theorem dX4_least_95 : decode cX4_least 95 = .ok (.iconst 0, 1) := by decide +kernel
theorem dX4_least_96 : decode cX4_least 96 = .ok (.istore 6, 2) := by decide +kernel
theorem dX4_least_98 : decode cX4_least 98 = .ok (.iconst 0, 1) := by decide +kernel
theorem dX4_least_99 : decode cX4_least 99 = .ok (.istore 7, 2) := by decide +kernel
theorem dX4_least_101 : decode cX4_least 101 = .ok (.iload 7, 2) := by decide +kernel
theorem dX4_least_103 : decode cX4_least 103 = .ok (.aload_n 0, 1) := by decide +kernel
theorem dX4_least_104 : decode cX4_least 104 = .ok (.getfield 39, 3) := by decide +kernel
theorem dX4_least_107 : decode cX4_least 107 = .ok (.if_icmp .ge 77, 3) := by decide +kernel
theorem dX4_least_110 : decode cX4_least 110 = .ok (.aload_n 0, 1) := by decide +kernel
theorem dX4_least_111 : decode cX4_least 111 = .ok (.getfield 19, 3) := by decide +kernel
theorem dX4_least_114 : decode cX4_least 114 = .ok (.iload 7, 2) := by decide +kernel
theorem dX4_least_116 : decode cX4_least 116 = .ok (.aload_n 0, 1) := by decide +kernel
theorem dX4_least_117 : decode cX4_least 117 = .ok (.aload_n 0, 1) := by decide +kernel
theorem dX4_least_118 : decode cX4_least 118 = .ok (.iload_n 2, 1) := by decide +kernel
theorem dX4_least_119 : decode cX4_least 119 = .ok (.aload_n 0, 1) := by decide +kernel
theorem dX4_least_120 : decode cX4_least 120 = .ok (.getfield 16, 3) := by decide +kernel
theorem dX4_least_123 : decode cX4_least 123 = .ok (.bipush 16, 2) := by decide +kernel
theorem dX4_least_125 : decode cX4_least 125 = .ok (.iload_n 1, 1) := by decide +kernel
theorem dX4_least_126 : decode cX4_least 126 = .ok (.imul, 1) := by decide +kernel
theorem dX4_least_127 : decode cX4_least 127 = .ok (.aload_n 0, 1) := by decide +kernel
theorem dX4_least_128 : decode cX4_least 128 = .ok (.aload_n 0, 1) := by decide +kernel
theorem dX4_least_129 : decode cX4_least 129 = .ok (.iload_n 3, 1) := by decide +kernel
theorem dX4_least_130 : decode cX4_least 130 = .ok (.iload 7, 2) := by decide +kernel
theorem dX4_least_132 : decode cX4_least 132 = .ok (.invokevirtual 56, 3) := by decide +kernel
theorem dX4_least_135 : decode cX4_least 135 = .ok (.iload 4, 2) := by decide +kernel
theorem dX4_least_137 : decode cX4_least 137 = .ok (.invokevirtual 49, 3) := by decide +kernel
theorem dX4_least_140 : decode cX4_least 140 = .ok (.iadd, 1) := by decide +kernel
theorem dX4_least_141 : decode cX4_least 141 = .ok (.iaload, 1) := by decide +kernel
theorem dX4_least_142 : decode cX4_least 142 = .ok (.invokevirtual 56, 3) := by decide +kernel
theorem dX4_least_145 : decode cX4_least 145 = .ok (.iload 5, 2) := by decide +kernel
theorem dX4_least_147 : decode cX4_least 147 = .ok (.invokevirtual 49, 3) := by decide +kernel
theorem dX4_least_150 : decode cX4_least 150 = .ok (.iastore, 1) := by decide +kernel
theorem dX4_least_151 : decode cX4_least 151 = .ok (.iload 6, 2) := by decide +kernel
theorem dX4_least_153 : decode cX4_least 153 = .ok (.ifCond .ne 21, 3) := by decide +kernel
theorem dX4_least_156 : decode cX4_least 156 = .ok (.aload_n 0, 1) := by decide +kernel
theorem dX4_least_157 : decode cX4_least 157 = .ok (.getfield 19, 3) := by decide +kernel
theorem dX4_least_160 : decode cX4_least 160 = .ok (.iload 7, 2) := by decide +kernel
theorem dX4_least_162 : decode cX4_least 162 = .ok (.iaload, 1) := by decide +kernel
theorem dX4_least_163 : decode cX4_least 163 = .ok (.aload_n 0, 1) := by decide +kernel
theorem dX4_least_164 : decode cX4_least 164 = .ok (.getfield 22, 3) := by decide +kernel
theorem dX4_least_167 : decode cX4_least 167 = .ok (.iload 7, 2) := by decide +kernel
theorem dX4_least_169 : decode cX4_least 169 = .ok (.iaload, 1) := by decide +kernel
theorem dX4_least_170 : decode cX4_least 170 = .ok (.isub, 1) := by decide +kernel
theorem dX4_least_171 : decode cX4_least 171 = .ok (.goto 5, 3) := by decide +kernel
theorem dX4_least_174 : decode cX4_least 174 = .ok (.iload 6, 2) := by decide +kernel
theorem dX4_least_176 : decode cX4_least 176 = .ok (.istore 6, 2) := by decide +kernel
theorem dX4_least_178 : decode cX4_least 178 = .ok (.iinc 7 1, 3) := by decide +kernel
theorem dX4_least_181 : decode cX4_least 181 = .ok (.goto (-80), 3) := by decide +kernel
theorem dX4_least_184 : decode cX4_least 184 = .ok (.iconst 0, 1) := by decide +kernel
theorem dX4_least_185 : decode cX4_least 185 = .ok (.istore 7, 2) := by decide +kernel
theorem dX4_least_187 : decode cX4_least 187 = .ok (.iload 7, 2) := by decide +kernel
theorem dX4_least_189 : decode cX4_least 189 = .ok (.aload_n 0, 1) := by decide +kernel
theorem dX4_least_190 : decode cX4_least 190 = .ok (.getfield 39, 3) := by decide +kernel
theorem dX4_least_193 : decode cX4_least 193 = .ok (.if_icmp .ge 28, 3) := by decide +kernel
theorem dX4_least_196 : decode cX4_least 196 = .ok (.iload 6, 2) := by decide +kernel
theorem dX4_least_198 : decode cX4_least 198 = .ok (.ifCond .ge 23, 3) := by decide +kernel
theorem dX4_least_201 : decode cX4_least 201 = .ok (.aload_n 0, 1) := by decide +kernel
theorem dX4_least_202 : decode cX4_least 202 = .ok (.getfield 22, 3) := by decide +kernel
theorem dX4_least_205 : decode cX4_least 205 = .ok (.iload 7, 2) := by decide +kernel
theorem dX4_least_207 : decode cX4_least 207 = .ok (.aload_n 0, 1) := by decide +kernel
theorem dX4_least_208 : decode cX4_least 208 = .ok (.getfield 19, 3) := by decide +kernel
theorem dX4_least_211 : decode cX4_least 211 = .ok (.iload 7, 2) := by decide +kernel
theorem dX4_least_213 : decode cX4_least 213 = .ok (.iaload, 1) := by decide +kernel
theorem dX4_least_214 : decode cX4_least 214 = .ok (.iastore, 1) := by decide +kernel
theorem dX4_least_215 : decode cX4_least 215 = .ok (.iinc 7 1, 3) := by decide +kernel
theorem dX4_least_218 : decode cX4_least 218 = .ok (.goto (-31), 3) := by decide +kernel
theorem dX4_least_221 : decode cX4_least 221 = .ok (.iinc 4 1, 3) := by decide +kernel
theorem dX4_least_224 : decode cX4_least 224 = .ok (.goto (-161), 3) := by decide +kernel
theorem dX4_least_227 : decode cX4_least 227 = .ok (.iinc 3 1, 3) := by decide +kernel
theorem dX4_least_230 : decode cX4_least 230 = .ok (.goto (-178), 3) := by decide +kernel
theorem dX4_least_233 : decode cX4_least 233 = .ok (.iinc 2 1, 3) := by decide +kernel
theorem dX4_least_236 : decode cX4_least 236 = .ok (.goto (-194), 3) := by decide +kernel
theorem dX4_least_239 : decode cX4_least 239 = .ok (.iconst 0, 1) := by decide +kernel
theorem dX4_least_240 : decode cX4_least 240 = .ok (.istore_n 2, 1) := by decide +kernel
theorem dX4_least_241 : decode cX4_least 241 = .ok (.iload_n 2, 1) := by decide +kernel
theorem dX4_least_242 : decode cX4_least 242 = .ok (.aload_n 0, 1) := by decide +kernel
theorem dX4_least_243 : decode cX4_least 243 = .ok (.getfield 39, 3) := by decide +kernel
theorem dX4_least_246 : decode cX4_least 246 = .ok (.if_icmp .ge 21, 3) := by decide +kernel
theorem dX4_least_249 : decode cX4_least 249 = .ok (.aload_n 0, 1) := by decide +kernel
theorem dX4_least_250 : decode cX4_least 250 = .ok (.getfield 19, 3) := by decide +kernel
theorem dX4_least_253 : decode cX4_least 253 = .ok (.iload_n 2, 1) := by decide +kernel
theorem dX4_least_254 : decode cX4_least 254 = .ok (.aload_n 0, 1) := by decide +kernel
theorem dX4_least_255 : decode cX4_least 255 = .ok (.getfield 22, 3) := by decide +kernel
theorem dX4_least_258 : decode cX4_least 258 = .ok (.iload_n 2, 1) := by decide +kernel
theorem dX4_least_259 : decode cX4_least 259 = .ok (.iaload, 1) := by decide +kernel
theorem dX4_least_260 : decode cX4_least 260 = .ok (.iastore, 1) := by decide +kernel
theorem dX4_least_261 : decode cX4_least 261 = .ok (.iinc 2 1, 3) := by decide +kernel
theorem dX4_least_264 : decode cX4_least 264 = .ok (.goto (-23), 3) := by decide +kernel
theorem dX4_least_267 : decode cX4_least 267 = .ok (.aload_n 0, 1) := by decide +kernel
theorem dX4_least_268 : decode cX4_least 268 = .ok (.iload_n 1, 1) := by decide +kernel
theorem dX4_least_269 : decode cX4_least 269 = .ok (.invokevirtual 96, 3) := by decide +kernel
theorem dX4_least_272 : decode cX4_least 272 = .ok (.iconst 1, 1) := by decide +kernel
theorem dX4_least_273 : decode cX4_least 273 = .ok (.ireturn, 1) := by decide +kernel
theorem dX4_allOf_0 : decode cX4_allOf 0 = .ok (.iconst 1, 1) := by decide +kernel
theorem dX4_allOf_1 : decode cX4_allOf 1 = .ok (.istore_n 2, 1) := by decide +kernel
theorem dX4_allOf_2 : decode cX4_allOf 2 = .ok (.iconst 1, 1) := by decide +kernel
theorem dX4_allOf_3 : decode cX4_allOf 3 = .ok (.istore_n 3, 1) := by decide +kernel
theorem dX4_allOf_4 : decode cX4_allOf 4 = .ok (.iload_n 3, 1) := by decide +kernel
theorem dX4_allOf_5 : decode cX4_allOf 5 = .ok (.iload_n 1, 1) := by decide +kernel
theorem dX4_allOf_6 : decode cX4_allOf 6 = .ok (.if_icmp .ge 27, 3) := by decide +kernel
theorem dX4_allOf_9 : decode cX4_allOf 9 = .ok (.iload_n 2, 1) := by decide +kernel
theorem dX4_allOf_10 : decode cX4_allOf 10 = .ok (.iload_n 2, 1) := by decide +kernel
theorem dX4_allOf_11 : decode cX4_allOf 11 = .ok (.sipush 5000, 3) := by decide +kernel
theorem dX4_allOf_14 : decode cX4_allOf 14 = .ok (.if_icmp .le 7, 3) := by decide +kernel
theorem dX4_allOf_17 : decode cX4_allOf 17 = .ok (.iconst 1, 1) := by decide +kernel
theorem dX4_allOf_18 : decode cX4_allOf 18 = .ok (.goto 7, 3) := by decide +kernel
theorem dX4_allOf_21 : decode cX4_allOf 21 = .ok (.aload_n 0, 1) := by decide +kernel
theorem dX4_allOf_22 : decode cX4_allOf 22 = .ok (.getfield 39, 3) := by decide +kernel
theorem dX4_allOf_25 : decode cX4_allOf 25 = .ok (.imul, 1) := by decide +kernel
theorem dX4_allOf_26 : decode cX4_allOf 26 = .ok (.istore_n 2, 1) := by decide +kernel
theorem dX4_allOf_27 : decode cX4_allOf 27 = .ok (.iinc 3 1, 3) := by decide +kernel
theorem dX4_allOf_30 : decode cX4_allOf 30 = .ok (.goto (-26), 3) := by decide +kernel
theorem dX4_allOf_33 : decode cX4_allOf 33 = .ok (.iload_n 2, 1) := by decide +kernel
theorem dX4_allOf_34 : decode cX4_allOf 34 = .ok (.ireturn, 1) := by decide +kernel
theorem dX4_shufflesAt_0 : decode cX4_shufflesAt 0 = .ok (.iconst 0, 1) := by decide +kernel
theorem dX4_shufflesAt_1 : decode cX4_shufflesAt 1 = .ok (.istore_n 3, 1) := by decide +kernel
theorem dX4_shufflesAt_2 : decode cX4_shufflesAt 2 = .ok (.iconst 0, 1) := by decide +kernel
theorem dX4_shufflesAt_3 : decode cX4_shufflesAt 3 = .ok (.istore 4, 2) := by decide +kernel
theorem dX4_shufflesAt_5 : decode cX4_shufflesAt 5 = .ok (.iconst 0, 1) := by decide +kernel
theorem dX4_shufflesAt_6 : decode cX4_shufflesAt 6 = .ok (.istore 5, 2) := by decide +kernel
theorem dX4_shufflesAt_8 : decode cX4_shufflesAt 8 = .ok (.iload 5, 2) := by decide +kernel
theorem dX4_shufflesAt_10 : decode cX4_shufflesAt 10 = .ok (.aload_n 0, 1) := by decide +kernel
theorem dX4_shufflesAt_11 : decode cX4_shufflesAt 11 = .ok (.getfield 39, 3) := by decide +kernel
theorem dX4_shufflesAt_14 : decode cX4_shufflesAt 14 = .ok (.if_icmp .ge 99, 3) := by decide +kernel
theorem dX4_shufflesAt_17 : decode cX4_shufflesAt 17 = .ok (.aload_n 0, 1) := by decide +kernel
theorem dX4_shufflesAt_18 : decode cX4_shufflesAt 18 = .ok (.iload 5, 2) := by decide +kernel
theorem dX4_shufflesAt_20 : decode cX4_shufflesAt 20 = .ok (.iload_n 1, 1) := by decide +kernel
theorem dX4_shufflesAt_21 : decode cX4_shufflesAt 21 = .ok (.invokevirtual 66, 3) := by decide +kernel
theorem dX4_shufflesAt_24 : decode cX4_shufflesAt 24 = .ok (.istore 6, 2) := by decide +kernel
theorem dX4_shufflesAt_26 : decode cX4_shufflesAt 26 = .ok (.iload_n 2, 1) := by decide +kernel
theorem dX4_shufflesAt_27 : decode cX4_shufflesAt 27 = .ok (.istore 7, 2) := by decide +kernel
theorem dX4_shufflesAt_29 : decode cX4_shufflesAt 29 = .ok (.iconst 1, 1) := by decide +kernel
theorem dX4_shufflesAt_30 : decode cX4_shufflesAt 30 = .ok (.istore 8, 2) := by decide +kernel
theorem dX4_shufflesAt_32 : decode cX4_shufflesAt 32 = .ok (.iload 8, 2) := by decide +kernel
theorem dX4_shufflesAt_34 : decode cX4_shufflesAt 34 = .ok (.iload_n 1, 1) := by decide +kernel
theorem dX4_shufflesAt_35 : decode cX4_shufflesAt 35 = .ok (.if_icmp .ge 45, 3) := by decide +kernel
theorem dX4_shufflesAt_38 : decode cX4_shufflesAt 38 = .ok (.aload_n 0, 1) := by decide +kernel
theorem dX4_shufflesAt_39 : decode cX4_shufflesAt 39 = .ok (.iload 6, 2) := by decide +kernel
theorem dX4_shufflesAt_41 : decode cX4_shufflesAt 41 = .ok (.aload_n 0, 1) := by decide +kernel
theorem dX4_shufflesAt_42 : decode cX4_shufflesAt 42 = .ok (.iload 7, 2) := by decide +kernel
theorem dX4_shufflesAt_44 : decode cX4_shufflesAt 44 = .ok (.aload_n 0, 1) := by decide +kernel
theorem dX4_shufflesAt_45 : decode cX4_shufflesAt 45 = .ok (.getfield 39, 3) := by decide +kernel
theorem dX4_shufflesAt_48 : decode cX4_shufflesAt 48 = .ok (.irem, 1) := by decide +kernel
theorem dX4_shufflesAt_49 : decode cX4_shufflesAt 49 = .ok (.aload_n 0, 1) := by decide +kernel
theorem dX4_shufflesAt_50 : decode cX4_shufflesAt 50 = .ok (.iload 5, 2) := by decide +kernel
theorem dX4_shufflesAt_52 : decode cX4_shufflesAt 52 = .ok (.iload 8, 2) := by decide +kernel
theorem dX4_shufflesAt_54 : decode cX4_shufflesAt 54 = .ok (.invokevirtual 66, 3) := by decide +kernel
theorem dX4_shufflesAt_57 : decode cX4_shufflesAt 57 = .ok (.invokevirtual 56, 3) := by decide +kernel
theorem dX4_shufflesAt_60 : decode cX4_shufflesAt 60 = .ok (.invokevirtual 49, 3) := by decide +kernel
theorem dX4_shufflesAt_63 : decode cX4_shufflesAt 63 = .ok (.istore 6, 2) := by decide +kernel
theorem dX4_shufflesAt_65 : decode cX4_shufflesAt 65 = .ok (.iload 7, 2) := by decide +kernel
theorem dX4_shufflesAt_67 : decode cX4_shufflesAt 67 = .ok (.aload_n 0, 1) := by decide +kernel
theorem dX4_shufflesAt_68 : decode cX4_shufflesAt 68 = .ok (.getfield 39, 3) := by decide +kernel
theorem dX4_shufflesAt_71 : decode cX4_shufflesAt 71 = .ok (.idiv, 1) := by decide +kernel
theorem dX4_shufflesAt_72 : decode cX4_shufflesAt 72 = .ok (.istore 7, 2) := by decide +kernel
theorem dX4_shufflesAt_74 : decode cX4_shufflesAt 74 = .ok (.iinc 8 1, 3) := by decide +kernel
theorem dX4_shufflesAt_77 : decode cX4_shufflesAt 77 = .ok (.goto (-45), 3) := by decide +kernel
theorem dX4_shufflesAt_80 : decode cX4_shufflesAt 80 = .ok (.aload_n 0, 1) := by decide +kernel
theorem dX4_shufflesAt_81 : decode cX4_shufflesAt 81 = .ok (.getfield 19, 3) := by decide +kernel
theorem dX4_shufflesAt_84 : decode cX4_shufflesAt 84 = .ok (.iload 5, 2) := by decide +kernel
theorem dX4_shufflesAt_86 : decode cX4_shufflesAt 86 = .ok (.iload 6, 2) := by decide +kernel
theorem dX4_shufflesAt_88 : decode cX4_shufflesAt 88 = .ok (.iastore, 1) := by decide +kernel
theorem dX4_shufflesAt_89 : decode cX4_shufflesAt 89 = .ok (.iload 4, 2) := by decide +kernel
theorem dX4_shufflesAt_91 : decode cX4_shufflesAt 91 = .ok (.iload_n 3, 1) := by decide +kernel
theorem dX4_shufflesAt_92 : decode cX4_shufflesAt 92 = .ok (.iload 6, 2) := by decide +kernel
theorem dX4_shufflesAt_94 : decode cX4_shufflesAt 94 = .ok (.ishr, 1) := by decide +kernel
theorem dX4_shufflesAt_95 : decode cX4_shufflesAt 95 = .ok (.iconst 1, 1) := by decide +kernel
theorem dX4_shufflesAt_96 : decode cX4_shufflesAt 96 = .ok (.iand, 1) := by decide +kernel
theorem dX4_shufflesAt_97 : decode cX4_shufflesAt 97 = .ok (.iadd, 1) := by decide +kernel
theorem dX4_shufflesAt_98 : decode cX4_shufflesAt 98 = .ok (.istore 4, 2) := by decide +kernel
theorem dX4_shufflesAt_100 : decode cX4_shufflesAt 100 = .ok (.iload_n 3, 1) := by decide +kernel
theorem dX4_shufflesAt_101 : decode cX4_shufflesAt 101 = .ok (.iconst 1, 1) := by decide +kernel
theorem dX4_shufflesAt_102 : decode cX4_shufflesAt 102 = .ok (.iload 6, 2) := by decide +kernel
theorem dX4_shufflesAt_104 : decode cX4_shufflesAt 104 = .ok (.ishl, 1) := by decide +kernel
theorem dX4_shufflesAt_105 : decode cX4_shufflesAt 105 = .ok (.ior, 1) := by decide +kernel
theorem dX4_shufflesAt_106 : decode cX4_shufflesAt 106 = .ok (.istore_n 3, 1) := by decide +kernel
theorem dX4_shufflesAt_107 : decode cX4_shufflesAt 107 = .ok (.iinc 5 1, 3) := by decide +kernel
theorem dX4_shufflesAt_110 : decode cX4_shufflesAt 110 = .ok (.goto (-102), 3) := by decide +kernel
theorem dX4_shufflesAt_113 : decode cX4_shufflesAt 113 = .ok (.iload 4, 2) := by decide +kernel
theorem dX4_shufflesAt_115 : decode cX4_shufflesAt 115 = .ok (.ifCond .ne 7, 3) := by decide +kernel
theorem dX4_shufflesAt_118 : decode cX4_shufflesAt 118 = .ok (.iconst 1, 1) := by decide +kernel
theorem dX4_shufflesAt_119 : decode cX4_shufflesAt 119 = .ok (.goto 4, 3) := by decide +kernel
theorem dX4_shufflesAt_122 : decode cX4_shufflesAt 122 = .ok (.iconst 0, 1) := by decide +kernel
theorem dX4_shufflesAt_123 : decode cX4_shufflesAt 123 = .ok (.ireturn, 1) := by decide +kernel
theorem dX4_many_0 : decode cX4_many 0 = .ok (.aload_n 0, 1) := by decide +kernel
theorem dX4_many_1 : decode cX4_many 1 = .ok (.iconst 0, 1) := by decide +kernel
theorem dX4_many_2 : decode cX4_many 2 = .ok (.putfield 32, 3) := by decide +kernel
theorem dX4_many_5 : decode cX4_many 5 = .ok (.iload_n 1, 1) := by decide +kernel
theorem dX4_many_6 : decode cX4_many 6 = .ok (.iconst 1, 1) := by decide +kernel
theorem dX4_many_7 : decode cX4_many 7 = .ok (.iconst 5, 1) := by decide +kernel
theorem dX4_many_8 : decode cX4_many 8 = .ok (.invokestatic 52, 3) := by decide +kernel
theorem dX4_many_11 : decode cX4_many 11 = .ok (.ifCond .ne 5, 3) := by decide +kernel
theorem dX4_many_14 : decode cX4_many 14 = .ok (.iconst (-1), 1) := by decide +kernel
theorem dX4_many_15 : decode cX4_many 15 = .ok (.ireturn, 1) := by decide +kernel
theorem dX4_many_16 : decode cX4_many 16 = .ok (.aload_n 0, 1) := by decide +kernel
theorem dX4_many_17 : decode cX4_many 17 = .ok (.iload_n 1, 1) := by decide +kernel
theorem dX4_many_18 : decode cX4_many 18 = .ok (.invokevirtual 123, 3) := by decide +kernel
theorem dX4_many_21 : decode cX4_many 21 = .ok (.istore_n 2, 1) := by decide +kernel
theorem dX4_many_22 : decode cX4_many 22 = .ok (.iload_n 2, 1) := by decide +kernel
theorem dX4_many_23 : decode cX4_many 23 = .ok (.sipush 5000, 3) := by decide +kernel
theorem dX4_many_26 : decode cX4_many 26 = .ok (.if_icmp .le 6, 3) := by decide +kernel
theorem dX4_many_29 : decode cX4_many 29 = .ok (.bipush (-3), 2) := by decide +kernel
theorem dX4_many_31 : decode cX4_many 31 = .ok (.ireturn, 1) := by decide +kernel
theorem dX4_many_32 : decode cX4_many 32 = .ok (.iconst 0, 1) := by decide +kernel
theorem dX4_many_33 : decode cX4_many 33 = .ok (.istore_n 3, 1) := by decide +kernel
theorem dX4_many_34 : decode cX4_many 34 = .ok (.iconst 0, 1) := by decide +kernel
theorem dX4_many_35 : decode cX4_many 35 = .ok (.istore 4, 2) := by decide +kernel
theorem dX4_many_37 : decode cX4_many 37 = .ok (.iload 4, 2) := by decide +kernel
theorem dX4_many_39 : decode cX4_many 39 = .ok (.iload_n 2, 1) := by decide +kernel
theorem dX4_many_40 : decode cX4_many 40 = .ok (.if_icmp .ge 27, 3) := by decide +kernel
theorem dX4_many_43 : decode cX4_many 43 = .ok (.iload_n 3, 1) := by decide +kernel
theorem dX4_many_44 : decode cX4_many 44 = .ok (.aload_n 0, 1) := by decide +kernel
theorem dX4_many_45 : decode cX4_many 45 = .ok (.iload_n 1, 1) := by decide +kernel
theorem dX4_many_46 : decode cX4_many 46 = .ok (.iload 4, 2) := by decide +kernel
theorem dX4_many_48 : decode cX4_many 48 = .ok (.invokevirtual 126, 3) := by decide +kernel
theorem dX4_many_51 : decode cX4_many 51 = .ok (.ifCond .eq 7, 3) := by decide +kernel
theorem dX4_many_54 : decode cX4_many 54 = .ok (.iconst 1, 1) := by decide +kernel
theorem dX4_many_55 : decode cX4_many 55 = .ok (.goto 4, 3) := by decide +kernel
theorem dX4_many_58 : decode cX4_many 58 = .ok (.iconst 0, 1) := by decide +kernel
theorem dX4_many_59 : decode cX4_many 59 = .ok (.iadd, 1) := by decide +kernel
theorem dX4_many_60 : decode cX4_many 60 = .ok (.istore_n 3, 1) := by decide +kernel
theorem dX4_many_61 : decode cX4_many 61 = .ok (.iinc 4 1, 3) := by decide +kernel
theorem dX4_many_64 : decode cX4_many 64 = .ok (.goto (-27), 3) := by decide +kernel
theorem dX4_many_67 : decode cX4_many 67 = .ok (.iload_n 3, 1) := by decide +kernel
theorem dX4_many_68 : decode cX4_many 68 = .ok (.ireturn, 1) := by decide +kernel
theorem dX4_pick_0 : decode cX4_pick 0 = .ok (.aload_n 0, 1) := by decide +kernel
theorem dX4_pick_1 : decode cX4_pick 1 = .ok (.iconst 0, 1) := by decide +kernel
theorem dX4_pick_2 : decode cX4_pick 2 = .ok (.putfield 32, 3) := by decide +kernel
theorem dX4_pick_5 : decode cX4_pick 5 = .ok (.iload_n 1, 1) := by decide +kernel
theorem dX4_pick_6 : decode cX4_pick 6 = .ok (.invokestatic 63, 3) := by decide +kernel
theorem dX4_pick_9 : decode cX4_pick 9 = .ok (.ifCond .eq 16, 3) := by decide +kernel
theorem dX4_pick_12 : decode cX4_pick 12 = .ok (.iload_n 2, 1) := by decide +kernel
theorem dX4_pick_13 : decode cX4_pick 13 = .ok (.iconst 1, 1) := by decide +kernel
theorem dX4_pick_14 : decode cX4_pick 14 = .ok (.iconst 5, 1) := by decide +kernel
theorem dX4_pick_15 : decode cX4_pick 15 = .ok (.invokestatic 52, 3) := by decide +kernel
theorem dX4_pick_18 : decode cX4_pick 18 = .ok (.ifCond .eq 7, 3) := by decide +kernel
theorem dX4_pick_21 : decode cX4_pick 21 = .ok (.iload_n 3, 1) := by decide +kernel
theorem dX4_pick_22 : decode cX4_pick 22 = .ok (.ifCond .ge 5, 3) := by decide +kernel
theorem dX4_pick_25 : decode cX4_pick 25 = .ok (.iconst (-1), 1) := by decide +kernel
theorem dX4_pick_26 : decode cX4_pick 26 = .ok (.ireturn, 1) := by decide +kernel
theorem dX4_pick_27 : decode cX4_pick 27 = .ok (.aload_n 0, 1) := by decide +kernel
theorem dX4_pick_28 : decode cX4_pick 28 = .ok (.iload_n 2, 1) := by decide +kernel
theorem dX4_pick_29 : decode cX4_pick 29 = .ok (.invokevirtual 123, 3) := by decide +kernel
theorem dX4_pick_32 : decode cX4_pick 32 = .ok (.istore 4, 2) := by decide +kernel
theorem dX4_pick_34 : decode cX4_pick 34 = .ok (.iload 4, 2) := by decide +kernel
theorem dX4_pick_36 : decode cX4_pick 36 = .ok (.sipush 5000, 3) := by decide +kernel
theorem dX4_pick_39 : decode cX4_pick 39 = .ok (.if_icmp .le 6, 3) := by decide +kernel
theorem dX4_pick_42 : decode cX4_pick 42 = .ok (.bipush (-3), 2) := by decide +kernel
theorem dX4_pick_44 : decode cX4_pick 44 = .ok (.ireturn, 1) := by decide +kernel
theorem dX4_pick_45 : decode cX4_pick 45 = .ok (.iconst 0, 1) := by decide +kernel
theorem dX4_pick_46 : decode cX4_pick 46 = .ok (.istore 5, 2) := by decide +kernel
theorem dX4_pick_48 : decode cX4_pick 48 = .ok (.iconst 0, 1) := by decide +kernel
theorem dX4_pick_49 : decode cX4_pick 49 = .ok (.istore 6, 2) := by decide +kernel
theorem dX4_pick_51 : decode cX4_pick 51 = .ok (.iload 6, 2) := by decide +kernel
theorem dX4_pick_53 : decode cX4_pick 53 = .ok (.iload 4, 2) := by decide +kernel
theorem dX4_pick_55 : decode cX4_pick 55 = .ok (.if_icmp .ge 36, 3) := by decide +kernel
theorem dX4_pick_58 : decode cX4_pick 58 = .ok (.aload_n 0, 1) := by decide +kernel
theorem dX4_pick_59 : decode cX4_pick 59 = .ok (.iload_n 2, 1) := by decide +kernel
theorem dX4_pick_60 : decode cX4_pick 60 = .ok (.iload 6, 2) := by decide +kernel
theorem dX4_pick_62 : decode cX4_pick 62 = .ok (.invokevirtual 126, 3) := by decide +kernel
theorem dX4_pick_65 : decode cX4_pick 65 = .ok (.ifCond .eq 20, 3) := by decide +kernel
theorem dX4_pick_68 : decode cX4_pick 68 = .ok (.iload 5, 2) := by decide +kernel
theorem dX4_pick_70 : decode cX4_pick 70 = .ok (.iload_n 3, 1) := by decide +kernel
theorem dX4_pick_71 : decode cX4_pick 71 = .ok (.if_icmp .ne 11, 3) := by decide +kernel
theorem dX4_pick_74 : decode cX4_pick 74 = .ok (.aload_n 0, 1) := by decide +kernel
theorem dX4_pick_75 : decode cX4_pick 75 = .ok (.iload_n 1, 1) := by decide +kernel
theorem dX4_pick_76 : decode cX4_pick 76 = .ok (.invokevirtual 96, 3) := by decide +kernel
theorem dX4_pick_79 : decode cX4_pick 79 = .ok (.iload 6, 2) := by decide +kernel
theorem dX4_pick_81 : decode cX4_pick 81 = .ok (.ireturn, 1) := by decide +kernel
theorem dX4_pick_82 : decode cX4_pick 82 = .ok (.iinc 5 1, 3) := by decide +kernel
theorem dX4_pick_85 : decode cX4_pick 85 = .ok (.iinc 6 1, 3) := by decide +kernel
theorem dX4_pick_88 : decode cX4_pick 88 = .ok (.goto (-37), 3) := by decide +kernel
theorem dX4_pick_91 : decode cX4_pick 91 = .ok (.iconst (-1), 1) := by decide +kernel
theorem dX4_pick_92 : decode cX4_pick 92 = .ok (.ireturn, 1) := by decide +kernel
theorem dX4_count_0 : decode cX4_count 0 = .ok (.aload_n 0, 1) := by decide +kernel
theorem dX4_count_1 : decode cX4_count 1 = .ok (.iconst 0, 1) := by decide +kernel
theorem dX4_count_2 : decode cX4_count 2 = .ok (.putfield 32, 3) := by decide +kernel
theorem dX4_count_5 : decode cX4_count 5 = .ok (.iconst 0, 1) := by decide +kernel
theorem dX4_count_6 : decode cX4_count 6 = .ok (.istore_n 2, 1) := by decide +kernel
theorem dX4_count_7 : decode cX4_count 7 = .ok (.iconst 0, 1) := by decide +kernel
theorem dX4_count_8 : decode cX4_count 8 = .ok (.istore_n 3, 1) := by decide +kernel
theorem dX4_count_9 : decode cX4_count 9 = .ok (.iload_n 3, 1) := by decide +kernel
theorem dX4_count_10 : decode cX4_count 10 = .ok (.iconst 4, 1) := by decide +kernel
theorem dX4_count_11 : decode cX4_count 11 = .ok (.if_icmp .ge 25, 3) := by decide +kernel
theorem dX4_count_14 : decode cX4_count 14 = .ok (.iload_n 2, 1) := by decide +kernel
theorem dX4_count_15 : decode cX4_count 15 = .ok (.aload_n 0, 1) := by decide +kernel
theorem dX4_count_16 : decode cX4_count 16 = .ok (.iload_n 3, 1) := by decide +kernel
theorem dX4_count_17 : decode cX4_count 17 = .ok (.invokevirtual 102, 3) := by decide +kernel
theorem dX4_count_20 : decode cX4_count 20 = .ok (.ifCond .eq 7, 3) := by decide +kernel
theorem dX4_count_23 : decode cX4_count 23 = .ok (.iconst 1, 1) := by decide +kernel
theorem dX4_count_24 : decode cX4_count 24 = .ok (.goto 4, 3) := by decide +kernel
theorem dX4_count_27 : decode cX4_count 27 = .ok (.iconst 0, 1) := by decide +kernel
theorem dX4_count_28 : decode cX4_count 28 = .ok (.iadd, 1) := by decide +kernel
theorem dX4_count_29 : decode cX4_count 29 = .ok (.istore_n 2, 1) := by decide +kernel
theorem dX4_count_30 : decode cX4_count 30 = .ok (.iinc 3 1, 3) := by decide +kernel
theorem dX4_count_33 : decode cX4_count 33 = .ok (.goto (-24), 3) := by decide +kernel
theorem dX4_count_36 : decode cX4_count 36 = .ok (.iload_n 1, 1) := by decide +kernel
theorem dX4_count_37 : decode cX4_count 37 = .ok (.ifCond .ne 10, 3) := by decide +kernel
theorem dX4_count_40 : decode cX4_count 40 = .ok (.aload_n 0, 1) := by decide +kernel
theorem dX4_count_41 : decode cX4_count 41 = .ok (.getfield 39, 3) := by decide +kernel
theorem dX4_count_44 : decode cX4_count 44 = .ok (.goto 25, 3) := by decide +kernel
theorem dX4_count_47 : decode cX4_count 47 = .ok (.iload_n 1, 1) := by decide +kernel
theorem dX4_count_48 : decode cX4_count 48 = .ok (.iconst 1, 1) := by decide +kernel
theorem dX4_count_49 : decode cX4_count 49 = .ok (.if_icmp .ne 10, 3) := by decide +kernel
theorem dX4_count_52 : decode cX4_count 52 = .ok (.aload_n 0, 1) := by decide +kernel
theorem dX4_count_53 : decode cX4_count 53 = .ok (.getfield 36, 3) := by decide +kernel
theorem dX4_count_56 : decode cX4_count 56 = .ok (.goto 13, 3) := by decide +kernel
theorem dX4_count_59 : decode cX4_count 59 = .ok (.iload_n 1, 1) := by decide +kernel
theorem dX4_count_60 : decode cX4_count 60 = .ok (.iconst 2, 1) := by decide +kernel
theorem dX4_count_61 : decode cX4_count 61 = .ok (.if_icmp .ne 7, 3) := by decide +kernel
theorem dX4_count_64 : decode cX4_count 64 = .ok (.iload_n 2, 1) := by decide +kernel
theorem dX4_count_65 : decode cX4_count 65 = .ok (.goto 4, 3) := by decide +kernel
theorem dX4_count_68 : decode cX4_count 68 = .ok (.iconst (-1), 1) := by decide +kernel
theorem dX4_count_69 : decode cX4_count 69 = .ok (.ireturn, 1) := by decide +kernel
theorem dX4_trace_0 : decode cX4_trace 0 = .ok (.aload_n 0, 1) := by decide +kernel
theorem dX4_trace_1 : decode cX4_trace 1 = .ok (.iconst 0, 1) := by decide +kernel
theorem dX4_trace_2 : decode cX4_trace 2 = .ok (.putfield 32, 3) := by decide +kernel
theorem dX4_trace_5 : decode cX4_trace 5 = .ok (.aload_n 0, 1) := by decide +kernel
theorem dX4_trace_6 : decode cX4_trace 6 = .ok (.getfield 88, 3) := by decide +kernel
theorem dX4_trace_9 : decode cX4_trace 9 = .ok (.lreturn, 1) := by decide +kernel
theorem dJ6_bitCount_0f7a4_0 : decode cJ6_bitCount_0f7a4 0 = .ok (.iload_n 0, 1) := by decide +kernel
theorem dJ6_bitCount_0f7a4_1 : decode cJ6_bitCount_0f7a4 1 = .ok (.iload_n 0, 1) := by decide +kernel
theorem dJ6_bitCount_0f7a4_2 : decode cJ6_bitCount_0f7a4 2 = .ok (.iconst 1, 1) := by decide +kernel
theorem dJ6_bitCount_0f7a4_3 : decode cJ6_bitCount_0f7a4 3 = .ok (.iushr, 1) := by decide +kernel
theorem dJ6_bitCount_0f7a4_4 : decode cJ6_bitCount_0f7a4 4 = .ok (.ldc_w 265, 3) := by decide +kernel
theorem dJ6_bitCount_0f7a4_7 : decode cJ6_bitCount_0f7a4 7 = .ok (.iand, 1) := by decide +kernel
theorem dJ6_bitCount_0f7a4_8 : decode cJ6_bitCount_0f7a4 8 = .ok (.isub, 1) := by decide +kernel
theorem dJ6_bitCount_0f7a4_9 : decode cJ6_bitCount_0f7a4 9 = .ok (.istore_n 0, 1) := by decide +kernel
theorem dJ6_bitCount_0f7a4_10 : decode cJ6_bitCount_0f7a4 10 = .ok (.iload_n 0, 1) := by decide +kernel
theorem dJ6_bitCount_0f7a4_11 : decode cJ6_bitCount_0f7a4 11 = .ok (.ldc_w 266, 3) := by decide +kernel
theorem dJ6_bitCount_0f7a4_14 : decode cJ6_bitCount_0f7a4 14 = .ok (.iand, 1) := by decide +kernel
theorem dJ6_bitCount_0f7a4_15 : decode cJ6_bitCount_0f7a4 15 = .ok (.iload_n 0, 1) := by decide +kernel
theorem dJ6_bitCount_0f7a4_16 : decode cJ6_bitCount_0f7a4 16 = .ok (.iconst 2, 1) := by decide +kernel
theorem dJ6_bitCount_0f7a4_17 : decode cJ6_bitCount_0f7a4 17 = .ok (.iushr, 1) := by decide +kernel
theorem dJ6_bitCount_0f7a4_18 : decode cJ6_bitCount_0f7a4 18 = .ok (.ldc_w 266, 3) := by decide +kernel
theorem dJ6_bitCount_0f7a4_21 : decode cJ6_bitCount_0f7a4 21 = .ok (.iand, 1) := by decide +kernel
theorem dJ6_bitCount_0f7a4_22 : decode cJ6_bitCount_0f7a4 22 = .ok (.iadd, 1) := by decide +kernel
theorem dJ6_bitCount_0f7a4_23 : decode cJ6_bitCount_0f7a4 23 = .ok (.istore_n 0, 1) := by decide +kernel
theorem dJ6_bitCount_0f7a4_24 : decode cJ6_bitCount_0f7a4 24 = .ok (.iload_n 0, 1) := by decide +kernel
theorem dJ6_bitCount_0f7a4_25 : decode cJ6_bitCount_0f7a4 25 = .ok (.iload_n 0, 1) := by decide +kernel
theorem dJ6_bitCount_0f7a4_26 : decode cJ6_bitCount_0f7a4 26 = .ok (.iconst 4, 1) := by decide +kernel
theorem dJ6_bitCount_0f7a4_27 : decode cJ6_bitCount_0f7a4 27 = .ok (.iushr, 1) := by decide +kernel
theorem dJ6_bitCount_0f7a4_28 : decode cJ6_bitCount_0f7a4 28 = .ok (.iadd, 1) := by decide +kernel
theorem dJ6_bitCount_0f7a4_29 : decode cJ6_bitCount_0f7a4 29 = .ok (.ldc_w 267, 3) := by decide +kernel
theorem dJ6_bitCount_0f7a4_32 : decode cJ6_bitCount_0f7a4 32 = .ok (.iand, 1) := by decide +kernel
theorem dJ6_bitCount_0f7a4_33 : decode cJ6_bitCount_0f7a4 33 = .ok (.istore_n 0, 1) := by decide +kernel
theorem dJ6_bitCount_0f7a4_34 : decode cJ6_bitCount_0f7a4 34 = .ok (.iload_n 0, 1) := by decide +kernel
theorem dJ6_bitCount_0f7a4_35 : decode cJ6_bitCount_0f7a4 35 = .ok (.iload_n 0, 1) := by decide +kernel
theorem dJ6_bitCount_0f7a4_36 : decode cJ6_bitCount_0f7a4 36 = .ok (.bipush 8, 2) := by decide +kernel
theorem dJ6_bitCount_0f7a4_38 : decode cJ6_bitCount_0f7a4 38 = .ok (.iushr, 1) := by decide +kernel
end
section
theorem dJ6_bitCount_0f7a4_39 : decode cJ6_bitCount_0f7a4 39 = .ok (.iadd, 1) := by decide +kernel
theorem dJ6_bitCount_0f7a4_40 : decode cJ6_bitCount_0f7a4 40 = .ok (.istore_n 0, 1) := by decide +kernel
theorem dJ6_bitCount_0f7a4_41 : decode cJ6_bitCount_0f7a4 41 = .ok (.iload_n 0, 1) := by decide +kernel
theorem dJ6_bitCount_0f7a4_42 : decode cJ6_bitCount_0f7a4 42 = .ok (.iload_n 0, 1) := by decide +kernel
theorem dJ6_bitCount_0f7a4_43 : decode cJ6_bitCount_0f7a4 43 = .ok (.bipush 16, 2) := by decide +kernel
theorem dJ6_bitCount_0f7a4_45 : decode cJ6_bitCount_0f7a4 45 = .ok (.iushr, 1) := by decide +kernel
theorem dJ6_bitCount_0f7a4_46 : decode cJ6_bitCount_0f7a4 46 = .ok (.iadd, 1) := by decide +kernel
theorem dJ6_bitCount_0f7a4_47 : decode cJ6_bitCount_0f7a4 47 = .ok (.istore_n 0, 1) := by decide +kernel
theorem dJ6_bitCount_0f7a4_48 : decode cJ6_bitCount_0f7a4 48 = .ok (.iload_n 0, 1) := by decide +kernel
theorem dJ6_bitCount_0f7a4_49 : decode cJ6_bitCount_0f7a4 49 = .ok (.bipush 63, 2) := by decide +kernel
theorem dJ6_bitCount_0f7a4_51 : decode cJ6_bitCount_0f7a4 51 = .ok (.iand, 1) := by decide +kernel
theorem dJ6_bitCount_0f7a4_52 : decode cJ6_bitCount_0f7a4 52 = .ok (.ireturn, 1) := by decide +kernel
theorem dJ9_abs_0f7a4_0 : decode cJ9_abs_0f7a4 0 = .ok (.iload_n 0, 1) := by decide +kernel
theorem dJ9_abs_0f7a4_1 : decode cJ9_abs_0f7a4 1 = .ok (.ifCond .ge 8, 3) := by decide +kernel
theorem dJ9_abs_0f7a4_4 : decode cJ9_abs_0f7a4 4 = .ok (.iload_n 0, 1) := by decide +kernel
theorem dJ9_abs_0f7a4_5 : decode cJ9_abs_0f7a4 5 = .ok (.ineg, 1) := by decide +kernel
theorem dJ9_abs_0f7a4_6 : decode cJ9_abs_0f7a4 6 = .ok (.goto 4, 3) := by decide +kernel
theorem dJ9_abs_0f7a4_9 : decode cJ9_abs_0f7a4 9 = .ok (.iload_n 0, 1) := by decide +kernel
theorem dJ9_abs_0f7a4_10 : decode cJ9_abs_0f7a4 10 = .ok (.ireturn, 1) := by decide +kernel
theorem dJ9_max_7cf53_0 : decode cJ9_max_7cf53 0 = .ok (.iload_n 0, 1) := by decide +kernel
theorem dJ9_max_7cf53_1 : decode cJ9_max_7cf53 1 = .ok (.iload_n 1, 1) := by decide +kernel
theorem dJ9_max_7cf53_2 : decode cJ9_max_7cf53 2 = .ok (.if_icmp .lt 7, 3) := by decide +kernel
theorem dJ9_max_7cf53_5 : decode cJ9_max_7cf53 5 = .ok (.iload_n 0, 1) := by decide +kernel
theorem dJ9_max_7cf53_6 : decode cJ9_max_7cf53 6 = .ok (.goto 4, 3) := by decide +kernel
theorem dJ9_max_7cf53_9 : decode cJ9_max_7cf53 9 = .ok (.iload_n 1, 1) := by decide +kernel
theorem dJ9_max_7cf53_10 : decode cJ9_max_7cf53 10 = .ok (.ireturn, 1) := by decide +kernel
theorem dJ9_min_7cf53_0 : decode cJ9_min_7cf53 0 = .ok (.iload_n 0, 1) := by decide +kernel
theorem dJ9_min_7cf53_1 : decode cJ9_min_7cf53 1 = .ok (.iload_n 1, 1) := by decide +kernel
theorem dJ9_min_7cf53_2 : decode cJ9_min_7cf53 2 = .ok (.if_icmp .gt 7, 3) := by decide +kernel
theorem dJ9_min_7cf53_5 : decode cJ9_min_7cf53 5 = .ok (.iload_n 0, 1) := by decide +kernel
theorem dJ9_min_7cf53_6 : decode cJ9_min_7cf53 6 = .ok (.goto 4, 3) := by decide +kernel
theorem dJ9_min_7cf53_9 : decode cJ9_min_7cf53 9 = .ok (.iload_n 1, 1) := by decide +kernel
theorem dJ9_min_7cf53_10 : decode cJ9_min_7cf53 10 = .ok (.ireturn, 1) := by decide +kernel
theorem dJ7_fill_53178_0 : decode cJ7_fill_53178 0 = .ok (.iconst 0, 1) := by decide +kernel
theorem dJ7_fill_53178_1 : decode cJ7_fill_53178 1 = .ok (.istore_n 2, 1) := by decide +kernel
theorem dJ7_fill_53178_2 : decode cJ7_fill_53178 2 = .ok (.aload_n 0, 1) := by decide +kernel
theorem dJ7_fill_53178_3 : decode cJ7_fill_53178 3 = .ok (.arraylength, 1) := by decide +kernel
theorem dJ7_fill_53178_4 : decode cJ7_fill_53178 4 = .ok (.istore_n 3, 1) := by decide +kernel
theorem dJ7_fill_53178_5 : decode cJ7_fill_53178 5 = .ok (.iload_n 2, 1) := by decide +kernel
theorem dJ7_fill_53178_6 : decode cJ7_fill_53178 6 = .ok (.iload_n 3, 1) := by decide +kernel
theorem dJ7_fill_53178_7 : decode cJ7_fill_53178 7 = .ok (.if_icmp .ge 13, 3) := by decide +kernel
theorem dJ7_fill_53178_10 : decode cJ7_fill_53178 10 = .ok (.aload_n 0, 1) := by decide +kernel
theorem dJ7_fill_53178_11 : decode cJ7_fill_53178 11 = .ok (.iload_n 2, 1) := by decide +kernel
theorem dJ7_fill_53178_12 : decode cJ7_fill_53178 12 = .ok (.iload_n 1, 1) := by decide +kernel
theorem dJ7_fill_53178_13 : decode cJ7_fill_53178 13 = .ok (.iastore, 1) := by decide +kernel
theorem dJ7_fill_53178_14 : decode cJ7_fill_53178 14 = .ok (.iinc 2 1, 3) := by decide +kernel
theorem dJ7_fill_53178_17 : decode cJ7_fill_53178 17 = .ok (.goto (-12), 3) := by decide +kernel
theorem dJ7_fill_53178_20 : decode cJ7_fill_53178 20 = .ok (.return_, 1) := by decide +kernel
theorem dJ7_copyOf_59c91_0 : decode cJ7_copyOf_59c91 0 = .ok (.iload_n 1, 1) := by decide +kernel
theorem dJ7_copyOf_59c91_1 : decode cJ7_copyOf_59c91 1 = .ok (.aload_n 0, 1) := by decide +kernel
theorem dJ7_copyOf_59c91_2 : decode cJ7_copyOf_59c91 2 = .ok (.arraylength, 1) := by decide +kernel
theorem dJ7_copyOf_59c91_3 : decode cJ7_copyOf_59c91 3 = .ok (.if_icmp .ne 11, 3) := by decide +kernel
theorem dJ7_copyOf_59c91_6 : decode cJ7_copyOf_59c91 6 = .ok (.aload_n 0, 1) := by decide +kernel
theorem dJ7_copyOf_59c91_7 : decode cJ7_copyOf_59c91 7 = .ok (.invokevirtual 316, 3) := by decide +kernel
theorem dJ7_copyOf_59c91_10 : decode cJ7_copyOf_59c91 10 = .ok (.checkcast 317, 3) := by decide +kernel
theorem dJ7_copyOf_59c91_13 : decode cJ7_copyOf_59c91 13 = .ok (.areturn, 1) := by decide +kernel
theorem dJ7_copyOf_59c91_14 : decode cJ7_copyOf_59c91 14 = .ok (.iload_n 1, 1) := by decide +kernel
theorem dJ7_copyOf_59c91_15 : decode cJ7_copyOf_59c91 15 = .ok (.newarray .int, 2) := by decide +kernel
theorem dJ7_copyOf_59c91_17 : decode cJ7_copyOf_59c91 17 = .ok (.astore_n 2, 1) := by decide +kernel
theorem dJ7_copyOf_59c91_18 : decode cJ7_copyOf_59c91 18 = .ok (.aload_n 0, 1) := by decide +kernel
theorem dJ7_copyOf_59c91_19 : decode cJ7_copyOf_59c91 19 = .ok (.iconst 0, 1) := by decide +kernel
theorem dJ7_copyOf_59c91_20 : decode cJ7_copyOf_59c91 20 = .ok (.aload_n 2, 1) := by decide +kernel
theorem dJ7_copyOf_59c91_21 : decode cJ7_copyOf_59c91 21 = .ok (.iconst 0, 1) := by decide +kernel
theorem dJ7_copyOf_59c91_22 : decode cJ7_copyOf_59c91 22 = .ok (.aload_n 0, 1) := by decide +kernel
theorem dJ7_copyOf_59c91_23 : decode cJ7_copyOf_59c91 23 = .ok (.arraylength, 1) := by decide +kernel
theorem dJ7_copyOf_59c91_24 : decode cJ7_copyOf_59c91 24 = .ok (.iload_n 1, 1) := by decide +kernel
theorem dJ7_copyOf_59c91_25 : decode cJ7_copyOf_59c91 25 = .ok (.invokestatic 304, 3) := by decide +kernel
theorem dJ7_copyOf_59c91_28 : decode cJ7_copyOf_59c91 28 = .ok (.invokestatic 150, 3) := by decide +kernel
theorem dJ7_copyOf_59c91_31 : decode cJ7_copyOf_59c91 31 = .ok (.aload_n 2, 1) := by decide +kernel
theorem dJ7_copyOf_59c91_32 : decode cJ7_copyOf_59c91 32 = .ok (.areturn, 1) := by decide +kernel
end
section
theorem dL_law_0 : decode cL_law 0 = .ok (.new 7, 3) := by decide +kernel
theorem dL_law_3 : decode cL_law 3 = .ok (.dup, 1) := by decide +kernel
theorem dL_law_4 : decode cL_law 4 = .ok (.invokespecial 9, 3) := by decide +kernel
theorem dL_law_7 : decode cL_law 7 = .ok (.astore_n 1, 1) := by decide +kernel
theorem dL_law_8 : decode cL_law 8 = .ok (.new 10, 3) := by decide +kernel
theorem dL_law_11 : decode cL_law 11 = .ok (.dup, 1) := by decide +kernel
theorem dL_law_12 : decode cL_law 12 = .ok (.invokespecial 12, 3) := by decide +kernel
theorem dL_law_15 : decode cL_law 15 = .ok (.astore_n 2, 1) := by decide +kernel
theorem dL_law_16 : decode cL_law 16 = .ok (.iconst 0, 1) := by decide +kernel
theorem dL_law_17 : decode cL_law 17 = .ok (.istore_n 3, 1) := by decide +kernel
theorem dL_law_18 : decode cL_law 18 = .ok (.iload_n 3, 1) := by decide +kernel
theorem dL_law_19 : decode cL_law 19 = .ok (.aload_n 0, 1) := by decide +kernel
theorem dL_law_20 : decode cL_law 20 = .ok (.arraylength, 1) := by decide +kernel
theorem dL_law_21 : decode cL_law 21 = .ok (.bipush 7, 2) := by decide +kernel
theorem dL_law_23 : decode cL_law 23 = .ok (.isub, 1) := by decide +kernel
theorem dL_law_24 : decode cL_law 24 = .ok (.if_icmp .gt 1078, 3) := by decide +kernel
theorem dL_law_27 : decode cL_law 27 = .ok (.aload_n 0, 1) := by decide +kernel
theorem dL_law_28 : decode cL_law 28 = .ok (.iload_n 3, 1) := by decide +kernel
theorem dL_law_29 : decode cL_law 29 = .ok (.iaload, 1) := by decide +kernel
theorem dL_law_30 : decode cL_law 30 = .ok (.bipush 31, 2) := by decide +kernel
theorem dL_law_32 : decode cL_law 32 = .ok (.iand, 1) := by decide +kernel
theorem dL_law_33 : decode cL_law 33 = .ok (.tableswitch 1063 0 28 #[131, 154, 187, 220, 243, 286, 319, 352, 395, 418, 493, 568, 611, 634, 657, 680, 703, 726, 749, 792, 815, 838, 881, 904, 937, 960, 983, 1026, 1049], 131) := by decide +kernel
theorem dL_law_164 : decode cL_law 164 = .ok (.aload_n 1, 1) := by decide +kernel
theorem dL_law_165 : decode cL_law 165 = .ok (.aload_n 0, 1) := by decide +kernel
theorem dL_law_166 : decode cL_law 166 = .ok (.iload_n 3, 1) := by decide +kernel
theorem dL_law_167 : decode cL_law 167 = .ok (.iconst 1, 1) := by decide +kernel
theorem dL_law_168 : decode cL_law 168 = .ok (.iadd, 1) := by decide +kernel
theorem dL_law_169 : decode cL_law 169 = .ok (.iaload, 1) := by decide +kernel
theorem dL_law_170 : decode cL_law 170 = .ok (.invokevirtual 13, 3) := by decide +kernel
theorem dL_law_173 : decode cL_law 173 = .ok (.aload_n 2, 1) := by decide +kernel
theorem dL_law_174 : decode cL_law 174 = .ok (.aload_n 0, 1) := by decide +kernel
theorem dL_law_175 : decode cL_law 175 = .ok (.iload_n 3, 1) := by decide +kernel
theorem dL_law_176 : decode cL_law 176 = .ok (.iconst 1, 1) := by decide +kernel
theorem dL_law_177 : decode cL_law 177 = .ok (.iadd, 1) := by decide +kernel
theorem dL_law_178 : decode cL_law 178 = .ok (.iaload, 1) := by decide +kernel
theorem dL_law_179 : decode cL_law 179 = .ok (.invokevirtual 17, 3) := by decide +kernel
theorem dL_law_182 : decode cL_law 182 = .ok (.if_icmp .eq 914, 3) := by decide +kernel
theorem dL_law_185 : decode cL_law 185 = .ok (.iconst 0, 1) := by decide +kernel
theorem dL_law_186 : decode cL_law 186 = .ok (.ireturn, 1) := by decide +kernel
theorem dL_law_187 : decode cL_law 187 = .ok (.aload_n 1, 1) := by decide +kernel
theorem dL_law_188 : decode cL_law 188 = .ok (.aload_n 0, 1) := by decide +kernel
theorem dL_law_189 : decode cL_law 189 = .ok (.iload_n 3, 1) := by decide +kernel
theorem dL_law_190 : decode cL_law 190 = .ok (.iconst 1, 1) := by decide +kernel
theorem dL_law_191 : decode cL_law 191 = .ok (.iadd, 1) := by decide +kernel
theorem dL_law_192 : decode cL_law 192 = .ok (.iaload, 1) := by decide +kernel
theorem dL_law_193 : decode cL_law 193 = .ok (.aload_n 0, 1) := by decide +kernel
theorem dL_law_194 : decode cL_law 194 = .ok (.iload_n 3, 1) := by decide +kernel
theorem dL_law_195 : decode cL_law 195 = .ok (.iconst 2, 1) := by decide +kernel
theorem dL_law_196 : decode cL_law 196 = .ok (.iadd, 1) := by decide +kernel
theorem dL_law_197 : decode cL_law 197 = .ok (.iaload, 1) := by decide +kernel
theorem dL_law_198 : decode cL_law 198 = .ok (.invokevirtual 18, 3) := by decide +kernel
theorem dL_law_201 : decode cL_law 201 = .ok (.aload_n 2, 1) := by decide +kernel
theorem dL_law_202 : decode cL_law 202 = .ok (.aload_n 0, 1) := by decide +kernel
theorem dL_law_203 : decode cL_law 203 = .ok (.iload_n 3, 1) := by decide +kernel
theorem dL_law_204 : decode cL_law 204 = .ok (.iconst 1, 1) := by decide +kernel
theorem dL_law_205 : decode cL_law 205 = .ok (.iadd, 1) := by decide +kernel
theorem dL_law_206 : decode cL_law 206 = .ok (.iaload, 1) := by decide +kernel
theorem dL_law_207 : decode cL_law 207 = .ok (.aload_n 0, 1) := by decide +kernel
theorem dL_law_208 : decode cL_law 208 = .ok (.iload_n 3, 1) := by decide +kernel
theorem dL_law_209 : decode cL_law 209 = .ok (.iconst 2, 1) := by decide +kernel
theorem dL_law_210 : decode cL_law 210 = .ok (.iadd, 1) := by decide +kernel
theorem dL_law_211 : decode cL_law 211 = .ok (.iaload, 1) := by decide +kernel
theorem dL_law_212 : decode cL_law 212 = .ok (.invokevirtual 22, 3) := by decide +kernel
theorem dL_law_215 : decode cL_law 215 = .ok (.if_icmp .eq 881, 3) := by decide +kernel
theorem dL_law_218 : decode cL_law 218 = .ok (.iconst 0, 1) := by decide +kernel
theorem dL_law_219 : decode cL_law 219 = .ok (.ireturn, 1) := by decide +kernel
theorem dL_law_220 : decode cL_law 220 = .ok (.aload_n 1, 1) := by decide +kernel
theorem dL_law_221 : decode cL_law 221 = .ok (.aload_n 0, 1) := by decide +kernel
theorem dL_law_222 : decode cL_law 222 = .ok (.iload_n 3, 1) := by decide +kernel
theorem dL_law_223 : decode cL_law 223 = .ok (.iconst 1, 1) := by decide +kernel
theorem dL_law_224 : decode cL_law 224 = .ok (.iadd, 1) := by decide +kernel
theorem dL_law_225 : decode cL_law 225 = .ok (.iaload, 1) := by decide +kernel
theorem dL_law_226 : decode cL_law 226 = .ok (.aload_n 0, 1) := by decide +kernel
theorem dL_law_227 : decode cL_law 227 = .ok (.iload_n 3, 1) := by decide +kernel
theorem dL_law_228 : decode cL_law 228 = .ok (.iconst 2, 1) := by decide +kernel
theorem dL_law_229 : decode cL_law 229 = .ok (.iadd, 1) := by decide +kernel
theorem dL_law_230 : decode cL_law 230 = .ok (.iaload, 1) := by decide +kernel
theorem dL_law_231 : decode cL_law 231 = .ok (.invokevirtual 23, 3) := by decide +kernel
theorem dL_law_234 : decode cL_law 234 = .ok (.aload_n 2, 1) := by decide +kernel
theorem dL_law_235 : decode cL_law 235 = .ok (.aload_n 0, 1) := by decide +kernel
theorem dL_law_236 : decode cL_law 236 = .ok (.iload_n 3, 1) := by decide +kernel
theorem dL_law_237 : decode cL_law 237 = .ok (.iconst 1, 1) := by decide +kernel
theorem dL_law_238 : decode cL_law 238 = .ok (.iadd, 1) := by decide +kernel
theorem dL_law_239 : decode cL_law 239 = .ok (.iaload, 1) := by decide +kernel
theorem dL_law_240 : decode cL_law 240 = .ok (.aload_n 0, 1) := by decide +kernel
theorem dL_law_241 : decode cL_law 241 = .ok (.iload_n 3, 1) := by decide +kernel
theorem dL_law_242 : decode cL_law 242 = .ok (.iconst 2, 1) := by decide +kernel
theorem dL_law_243 : decode cL_law 243 = .ok (.iadd, 1) := by decide +kernel
theorem dL_law_244 : decode cL_law 244 = .ok (.iaload, 1) := by decide +kernel
theorem dL_law_245 : decode cL_law 245 = .ok (.invokevirtual 26, 3) := by decide +kernel
theorem dL_law_248 : decode cL_law 248 = .ok (.if_icmp .eq 848, 3) := by decide +kernel
theorem dL_law_251 : decode cL_law 251 = .ok (.iconst 0, 1) := by decide +kernel
theorem dL_law_252 : decode cL_law 252 = .ok (.ireturn, 1) := by decide +kernel
theorem dL_law_253 : decode cL_law 253 = .ok (.aload_n 1, 1) := by decide +kernel
theorem dL_law_254 : decode cL_law 254 = .ok (.aload_n 0, 1) := by decide +kernel
theorem dL_law_255 : decode cL_law 255 = .ok (.iload_n 3, 1) := by decide +kernel
theorem dL_law_256 : decode cL_law 256 = .ok (.iconst 1, 1) := by decide +kernel
theorem dL_law_257 : decode cL_law 257 = .ok (.iadd, 1) := by decide +kernel
theorem dL_law_258 : decode cL_law 258 = .ok (.iaload, 1) := by decide +kernel
theorem dL_law_259 : decode cL_law 259 = .ok (.invokevirtual 27, 3) := by decide +kernel
theorem dL_law_262 : decode cL_law 262 = .ok (.aload_n 2, 1) := by decide +kernel
theorem dL_law_263 : decode cL_law 263 = .ok (.aload_n 0, 1) := by decide +kernel
theorem dL_law_264 : decode cL_law 264 = .ok (.iload_n 3, 1) := by decide +kernel
theorem dL_law_265 : decode cL_law 265 = .ok (.iconst 1, 1) := by decide +kernel
theorem dL_law_266 : decode cL_law 266 = .ok (.iadd, 1) := by decide +kernel
theorem dL_law_267 : decode cL_law 267 = .ok (.iaload, 1) := by decide +kernel
theorem dL_law_268 : decode cL_law 268 = .ok (.invokevirtual 30, 3) := by decide +kernel
theorem dL_law_271 : decode cL_law 271 = .ok (.if_icmp .eq 825, 3) := by decide +kernel
theorem dL_law_274 : decode cL_law 274 = .ok (.iconst 0, 1) := by decide +kernel
theorem dL_law_275 : decode cL_law 275 = .ok (.ireturn, 1) := by decide +kernel
theorem dL_law_276 : decode cL_law 276 = .ok (.aload_n 1, 1) := by decide +kernel
theorem dL_law_277 : decode cL_law 277 = .ok (.aload_n 0, 1) := by decide +kernel
theorem dL_law_278 : decode cL_law 278 = .ok (.iload_n 3, 1) := by decide +kernel
theorem dL_law_279 : decode cL_law 279 = .ok (.iconst 1, 1) := by decide +kernel
theorem dL_law_280 : decode cL_law 280 = .ok (.iadd, 1) := by decide +kernel
theorem dL_law_281 : decode cL_law 281 = .ok (.iaload, 1) := by decide +kernel
theorem dL_law_282 : decode cL_law 282 = .ok (.aload_n 0, 1) := by decide +kernel
theorem dL_law_283 : decode cL_law 283 = .ok (.iload_n 3, 1) := by decide +kernel
theorem dL_law_284 : decode cL_law 284 = .ok (.iconst 2, 1) := by decide +kernel
theorem dL_law_285 : decode cL_law 285 = .ok (.iadd, 1) := by decide +kernel
theorem dL_law_286 : decode cL_law 286 = .ok (.iaload, 1) := by decide +kernel
theorem dL_law_287 : decode cL_law 287 = .ok (.aload_n 0, 1) := by decide +kernel
theorem dL_law_288 : decode cL_law 288 = .ok (.iload_n 3, 1) := by decide +kernel
theorem dL_law_289 : decode cL_law 289 = .ok (.iconst 3, 1) := by decide +kernel
theorem dL_law_290 : decode cL_law 290 = .ok (.iadd, 1) := by decide +kernel
theorem dL_law_291 : decode cL_law 291 = .ok (.iaload, 1) := by decide +kernel
theorem dL_law_292 : decode cL_law 292 = .ok (.invokevirtual 31, 3) := by decide +kernel
theorem dL_law_295 : decode cL_law 295 = .ok (.aload_n 2, 1) := by decide +kernel
theorem dL_law_296 : decode cL_law 296 = .ok (.aload_n 0, 1) := by decide +kernel
theorem dL_law_297 : decode cL_law 297 = .ok (.iload_n 3, 1) := by decide +kernel
theorem dL_law_298 : decode cL_law 298 = .ok (.iconst 1, 1) := by decide +kernel
theorem dL_law_299 : decode cL_law 299 = .ok (.iadd, 1) := by decide +kernel
theorem dL_law_300 : decode cL_law 300 = .ok (.iaload, 1) := by decide +kernel
theorem dL_law_301 : decode cL_law 301 = .ok (.aload_n 0, 1) := by decide +kernel
theorem dL_law_302 : decode cL_law 302 = .ok (.iload_n 3, 1) := by decide +kernel
theorem dL_law_303 : decode cL_law 303 = .ok (.iconst 2, 1) := by decide +kernel
theorem dL_law_304 : decode cL_law 304 = .ok (.iadd, 1) := by decide +kernel
theorem dL_law_305 : decode cL_law 305 = .ok (.iaload, 1) := by decide +kernel
theorem dL_law_306 : decode cL_law 306 = .ok (.aload_n 0, 1) := by decide +kernel
theorem dL_law_307 : decode cL_law 307 = .ok (.iload_n 3, 1) := by decide +kernel
theorem dL_law_308 : decode cL_law 308 = .ok (.iconst 3, 1) := by decide +kernel
theorem dL_law_309 : decode cL_law 309 = .ok (.iadd, 1) := by decide +kernel
theorem dL_law_310 : decode cL_law 310 = .ok (.iaload, 1) := by decide +kernel
theorem dL_law_311 : decode cL_law 311 = .ok (.invokevirtual 35, 3) := by decide +kernel
theorem dL_law_314 : decode cL_law 314 = .ok (.if_icmp .eq 782, 3) := by decide +kernel
theorem dL_law_317 : decode cL_law 317 = .ok (.iconst 0, 1) := by decide +kernel
theorem dL_law_318 : decode cL_law 318 = .ok (.ireturn, 1) := by decide +kernel
theorem dL_law_319 : decode cL_law 319 = .ok (.aload_n 1, 1) := by decide +kernel
theorem dL_law_320 : decode cL_law 320 = .ok (.aload_n 0, 1) := by decide +kernel
theorem dL_law_321 : decode cL_law 321 = .ok (.iload_n 3, 1) := by decide +kernel
theorem dL_law_322 : decode cL_law 322 = .ok (.iconst 1, 1) := by decide +kernel
theorem dL_law_323 : decode cL_law 323 = .ok (.iadd, 1) := by decide +kernel
theorem dL_law_324 : decode cL_law 324 = .ok (.iaload, 1) := by decide +kernel
theorem dL_law_325 : decode cL_law 325 = .ok (.aload_n 0, 1) := by decide +kernel
theorem dL_law_326 : decode cL_law 326 = .ok (.iload_n 3, 1) := by decide +kernel
theorem dL_law_327 : decode cL_law 327 = .ok (.iconst 2, 1) := by decide +kernel
theorem dL_law_328 : decode cL_law 328 = .ok (.iadd, 1) := by decide +kernel
theorem dL_law_329 : decode cL_law 329 = .ok (.iaload, 1) := by decide +kernel
theorem dL_law_330 : decode cL_law 330 = .ok (.invokevirtual 36, 3) := by decide +kernel
theorem dL_law_333 : decode cL_law 333 = .ok (.aload_n 2, 1) := by decide +kernel
theorem dL_law_334 : decode cL_law 334 = .ok (.aload_n 0, 1) := by decide +kernel
theorem dL_law_335 : decode cL_law 335 = .ok (.iload_n 3, 1) := by decide +kernel
theorem dL_law_336 : decode cL_law 336 = .ok (.iconst 1, 1) := by decide +kernel
theorem dL_law_337 : decode cL_law 337 = .ok (.iadd, 1) := by decide +kernel
theorem dL_law_338 : decode cL_law 338 = .ok (.iaload, 1) := by decide +kernel
theorem dL_law_339 : decode cL_law 339 = .ok (.aload_n 0, 1) := by decide +kernel
theorem dL_law_340 : decode cL_law 340 = .ok (.iload_n 3, 1) := by decide +kernel
theorem dL_law_341 : decode cL_law 341 = .ok (.iconst 2, 1) := by decide +kernel
theorem dL_law_342 : decode cL_law 342 = .ok (.iadd, 1) := by decide +kernel
theorem dL_law_343 : decode cL_law 343 = .ok (.iaload, 1) := by decide +kernel
theorem dL_law_344 : decode cL_law 344 = .ok (.invokevirtual 39, 3) := by decide +kernel
theorem dL_law_347 : decode cL_law 347 = .ok (.if_icmp .eq 749, 3) := by decide +kernel
theorem dL_law_350 : decode cL_law 350 = .ok (.iconst 0, 1) := by decide +kernel
theorem dL_law_351 : decode cL_law 351 = .ok (.ireturn, 1) := by decide +kernel
theorem dL_law_352 : decode cL_law 352 = .ok (.aload_n 1, 1) := by decide +kernel
theorem dL_law_353 : decode cL_law 353 = .ok (.aload_n 0, 1) := by decide +kernel
theorem dL_law_354 : decode cL_law 354 = .ok (.iload_n 3, 1) := by decide +kernel
theorem dL_law_355 : decode cL_law 355 = .ok (.iconst 1, 1) := by decide +kernel
theorem dL_law_356 : decode cL_law 356 = .ok (.iadd, 1) := by decide +kernel
theorem dL_law_357 : decode cL_law 357 = .ok (.iaload, 1) := by decide +kernel
theorem dL_law_358 : decode cL_law 358 = .ok (.aload_n 0, 1) := by decide +kernel
theorem dL_law_359 : decode cL_law 359 = .ok (.iload_n 3, 1) := by decide +kernel
theorem dL_law_360 : decode cL_law 360 = .ok (.iconst 2, 1) := by decide +kernel
theorem dL_law_361 : decode cL_law 361 = .ok (.iadd, 1) := by decide +kernel
theorem dL_law_362 : decode cL_law 362 = .ok (.iaload, 1) := by decide +kernel
theorem dL_law_363 : decode cL_law 363 = .ok (.invokevirtual 40, 3) := by decide +kernel
theorem dL_law_366 : decode cL_law 366 = .ok (.aload_n 2, 1) := by decide +kernel
theorem dL_law_367 : decode cL_law 367 = .ok (.aload_n 0, 1) := by decide +kernel
theorem dL_law_368 : decode cL_law 368 = .ok (.iload_n 3, 1) := by decide +kernel
theorem dL_law_369 : decode cL_law 369 = .ok (.iconst 1, 1) := by decide +kernel
theorem dL_law_370 : decode cL_law 370 = .ok (.iadd, 1) := by decide +kernel
theorem dL_law_371 : decode cL_law 371 = .ok (.iaload, 1) := by decide +kernel
theorem dL_law_372 : decode cL_law 372 = .ok (.aload_n 0, 1) := by decide +kernel
theorem dL_law_373 : decode cL_law 373 = .ok (.iload_n 3, 1) := by decide +kernel
theorem dL_law_374 : decode cL_law 374 = .ok (.iconst 2, 1) := by decide +kernel
theorem dL_law_375 : decode cL_law 375 = .ok (.iadd, 1) := by decide +kernel
theorem dL_law_376 : decode cL_law 376 = .ok (.iaload, 1) := by decide +kernel
theorem dL_law_377 : decode cL_law 377 = .ok (.invokevirtual 43, 3) := by decide +kernel
theorem dL_law_380 : decode cL_law 380 = .ok (.if_icmp .eq 716, 3) := by decide +kernel
theorem dL_law_383 : decode cL_law 383 = .ok (.iconst 0, 1) := by decide +kernel
theorem dL_law_384 : decode cL_law 384 = .ok (.ireturn, 1) := by decide +kernel
theorem dL_law_385 : decode cL_law 385 = .ok (.aload_n 1, 1) := by decide +kernel
theorem dL_law_386 : decode cL_law 386 = .ok (.aload_n 0, 1) := by decide +kernel
theorem dL_law_387 : decode cL_law 387 = .ok (.iload_n 3, 1) := by decide +kernel
theorem dL_law_388 : decode cL_law 388 = .ok (.iconst 1, 1) := by decide +kernel
theorem dL_law_389 : decode cL_law 389 = .ok (.iadd, 1) := by decide +kernel
theorem dL_law_390 : decode cL_law 390 = .ok (.iaload, 1) := by decide +kernel
theorem dL_law_391 : decode cL_law 391 = .ok (.aload_n 0, 1) := by decide +kernel
theorem dL_law_392 : decode cL_law 392 = .ok (.iload_n 3, 1) := by decide +kernel
theorem dL_law_393 : decode cL_law 393 = .ok (.iconst 2, 1) := by decide +kernel
theorem dL_law_394 : decode cL_law 394 = .ok (.iadd, 1) := by decide +kernel
theorem dL_law_395 : decode cL_law 395 = .ok (.iaload, 1) := by decide +kernel
theorem dL_law_396 : decode cL_law 396 = .ok (.aload_n 0, 1) := by decide +kernel
theorem dL_law_397 : decode cL_law 397 = .ok (.iload_n 3, 1) := by decide +kernel
theorem dL_law_398 : decode cL_law 398 = .ok (.iconst 3, 1) := by decide +kernel
theorem dL_law_399 : decode cL_law 399 = .ok (.iadd, 1) := by decide +kernel
theorem dL_law_400 : decode cL_law 400 = .ok (.iaload, 1) := by decide +kernel
theorem dL_law_401 : decode cL_law 401 = .ok (.invokevirtual 44, 3) := by decide +kernel
theorem dL_law_404 : decode cL_law 404 = .ok (.aload_n 2, 1) := by decide +kernel
theorem dL_law_405 : decode cL_law 405 = .ok (.aload_n 0, 1) := by decide +kernel
theorem dL_law_406 : decode cL_law 406 = .ok (.iload_n 3, 1) := by decide +kernel
theorem dL_law_407 : decode cL_law 407 = .ok (.iconst 1, 1) := by decide +kernel
theorem dL_law_408 : decode cL_law 408 = .ok (.iadd, 1) := by decide +kernel
theorem dL_law_409 : decode cL_law 409 = .ok (.iaload, 1) := by decide +kernel
theorem dL_law_410 : decode cL_law 410 = .ok (.aload_n 0, 1) := by decide +kernel
theorem dL_law_411 : decode cL_law 411 = .ok (.iload_n 3, 1) := by decide +kernel
theorem dL_law_412 : decode cL_law 412 = .ok (.iconst 2, 1) := by decide +kernel
theorem dL_law_413 : decode cL_law 413 = .ok (.iadd, 1) := by decide +kernel
theorem dL_law_414 : decode cL_law 414 = .ok (.iaload, 1) := by decide +kernel
theorem dL_law_415 : decode cL_law 415 = .ok (.aload_n 0, 1) := by decide +kernel
theorem dL_law_416 : decode cL_law 416 = .ok (.iload_n 3, 1) := by decide +kernel
theorem dL_law_417 : decode cL_law 417 = .ok (.iconst 3, 1) := by decide +kernel
theorem dL_law_418 : decode cL_law 418 = .ok (.iadd, 1) := by decide +kernel
theorem dL_law_419 : decode cL_law 419 = .ok (.iaload, 1) := by decide +kernel
theorem dL_law_420 : decode cL_law 420 = .ok (.invokevirtual 47, 3) := by decide +kernel
theorem dL_law_423 : decode cL_law 423 = .ok (.if_icmp .eq 673, 3) := by decide +kernel
theorem dL_law_426 : decode cL_law 426 = .ok (.iconst 0, 1) := by decide +kernel
theorem dL_law_427 : decode cL_law 427 = .ok (.ireturn, 1) := by decide +kernel
theorem dL_law_428 : decode cL_law 428 = .ok (.aload_n 1, 1) := by decide +kernel
theorem dL_law_429 : decode cL_law 429 = .ok (.aload_n 0, 1) := by decide +kernel
theorem dL_law_430 : decode cL_law 430 = .ok (.iload_n 3, 1) := by decide +kernel
theorem dL_law_431 : decode cL_law 431 = .ok (.iconst 1, 1) := by decide +kernel
theorem dL_law_432 : decode cL_law 432 = .ok (.iadd, 1) := by decide +kernel
theorem dL_law_433 : decode cL_law 433 = .ok (.iaload, 1) := by decide +kernel
theorem dL_law_434 : decode cL_law 434 = .ok (.invokevirtual 48, 3) := by decide +kernel
theorem dL_law_437 : decode cL_law 437 = .ok (.aload_n 2, 1) := by decide +kernel
theorem dL_law_438 : decode cL_law 438 = .ok (.aload_n 0, 1) := by decide +kernel
theorem dL_law_439 : decode cL_law 439 = .ok (.iload_n 3, 1) := by decide +kernel
theorem dL_law_440 : decode cL_law 440 = .ok (.iconst 1, 1) := by decide +kernel
theorem dL_law_441 : decode cL_law 441 = .ok (.iadd, 1) := by decide +kernel
theorem dL_law_442 : decode cL_law 442 = .ok (.iaload, 1) := by decide +kernel
theorem dL_law_443 : decode cL_law 443 = .ok (.invokevirtual 51, 3) := by decide +kernel
theorem dL_law_446 : decode cL_law 446 = .ok (.if_icmp .eq 650, 3) := by decide +kernel
theorem dL_law_449 : decode cL_law 449 = .ok (.iconst 0, 1) := by decide +kernel
theorem dL_law_450 : decode cL_law 450 = .ok (.ireturn, 1) := by decide +kernel
theorem dL_law_451 : decode cL_law 451 = .ok (.aload_n 1, 1) := by decide +kernel
theorem dL_law_452 : decode cL_law 452 = .ok (.aload_n 0, 1) := by decide +kernel
theorem dL_law_453 : decode cL_law 453 = .ok (.iload_n 3, 1) := by decide +kernel
theorem dL_law_454 : decode cL_law 454 = .ok (.iconst 1, 1) := by decide +kernel
theorem dL_law_455 : decode cL_law 455 = .ok (.iadd, 1) := by decide +kernel
theorem dL_law_456 : decode cL_law 456 = .ok (.iaload, 1) := by decide +kernel
theorem dL_law_457 : decode cL_law 457 = .ok (.aload_n 0, 1) := by decide +kernel
theorem dL_law_458 : decode cL_law 458 = .ok (.iload_n 3, 1) := by decide +kernel
theorem dL_law_459 : decode cL_law 459 = .ok (.iconst 2, 1) := by decide +kernel
theorem dL_law_460 : decode cL_law 460 = .ok (.iadd, 1) := by decide +kernel
theorem dL_law_461 : decode cL_law 461 = .ok (.iaload, 1) := by decide +kernel
theorem dL_law_462 : decode cL_law 462 = .ok (.aload_n 0, 1) := by decide +kernel
theorem dL_law_463 : decode cL_law 463 = .ok (.iload_n 3, 1) := by decide +kernel
theorem dL_law_464 : decode cL_law 464 = .ok (.iconst 3, 1) := by decide +kernel
theorem dL_law_465 : decode cL_law 465 = .ok (.iadd, 1) := by decide +kernel
theorem dL_law_466 : decode cL_law 466 = .ok (.iaload, 1) := by decide +kernel
theorem dL_law_467 : decode cL_law 467 = .ok (.aload_n 0, 1) := by decide +kernel
theorem dL_law_468 : decode cL_law 468 = .ok (.iload_n 3, 1) := by decide +kernel
theorem dL_law_469 : decode cL_law 469 = .ok (.iconst 4, 1) := by decide +kernel
theorem dL_law_470 : decode cL_law 470 = .ok (.iadd, 1) := by decide +kernel
theorem dL_law_471 : decode cL_law 471 = .ok (.iaload, 1) := by decide +kernel
theorem dL_law_472 : decode cL_law 472 = .ok (.aload_n 0, 1) := by decide +kernel
theorem dL_law_473 : decode cL_law 473 = .ok (.iload_n 3, 1) := by decide +kernel
theorem dL_law_474 : decode cL_law 474 = .ok (.iconst 5, 1) := by decide +kernel
theorem dL_law_475 : decode cL_law 475 = .ok (.iadd, 1) := by decide +kernel
theorem dL_law_476 : decode cL_law 476 = .ok (.iaload, 1) := by decide +kernel
theorem dL_law_477 : decode cL_law 477 = .ok (.aload_n 0, 1) := by decide +kernel
theorem dL_law_478 : decode cL_law 478 = .ok (.iload_n 3, 1) := by decide +kernel
theorem dL_law_479 : decode cL_law 479 = .ok (.bipush 6, 2) := by decide +kernel
theorem dL_law_481 : decode cL_law 481 = .ok (.iadd, 1) := by decide +kernel
theorem dL_law_482 : decode cL_law 482 = .ok (.iaload, 1) := by decide +kernel
theorem dL_law_483 : decode cL_law 483 = .ok (.invokevirtual 52, 3) := by decide +kernel
theorem dL_law_486 : decode cL_law 486 = .ok (.aload_n 2, 1) := by decide +kernel
theorem dL_law_487 : decode cL_law 487 = .ok (.aload_n 0, 1) := by decide +kernel
theorem dL_law_488 : decode cL_law 488 = .ok (.iload_n 3, 1) := by decide +kernel
theorem dL_law_489 : decode cL_law 489 = .ok (.iconst 1, 1) := by decide +kernel
theorem dL_law_490 : decode cL_law 490 = .ok (.iadd, 1) := by decide +kernel
theorem dL_law_491 : decode cL_law 491 = .ok (.iaload, 1) := by decide +kernel
theorem dL_law_492 : decode cL_law 492 = .ok (.aload_n 0, 1) := by decide +kernel
theorem dL_law_493 : decode cL_law 493 = .ok (.iload_n 3, 1) := by decide +kernel
theorem dL_law_494 : decode cL_law 494 = .ok (.iconst 2, 1) := by decide +kernel
theorem dL_law_495 : decode cL_law 495 = .ok (.iadd, 1) := by decide +kernel
theorem dL_law_496 : decode cL_law 496 = .ok (.iaload, 1) := by decide +kernel
theorem dL_law_497 : decode cL_law 497 = .ok (.aload_n 0, 1) := by decide +kernel
theorem dL_law_498 : decode cL_law 498 = .ok (.iload_n 3, 1) := by decide +kernel
theorem dL_law_499 : decode cL_law 499 = .ok (.iconst 3, 1) := by decide +kernel
theorem dL_law_500 : decode cL_law 500 = .ok (.iadd, 1) := by decide +kernel
theorem dL_law_501 : decode cL_law 501 = .ok (.iaload, 1) := by decide +kernel
theorem dL_law_502 : decode cL_law 502 = .ok (.aload_n 0, 1) := by decide +kernel
theorem dL_law_503 : decode cL_law 503 = .ok (.iload_n 3, 1) := by decide +kernel
theorem dL_law_504 : decode cL_law 504 = .ok (.iconst 4, 1) := by decide +kernel
theorem dL_law_505 : decode cL_law 505 = .ok (.iadd, 1) := by decide +kernel
theorem dL_law_506 : decode cL_law 506 = .ok (.iaload, 1) := by decide +kernel
theorem dL_law_507 : decode cL_law 507 = .ok (.aload_n 0, 1) := by decide +kernel
theorem dL_law_508 : decode cL_law 508 = .ok (.iload_n 3, 1) := by decide +kernel
theorem dL_law_509 : decode cL_law 509 = .ok (.iconst 5, 1) := by decide +kernel
theorem dL_law_510 : decode cL_law 510 = .ok (.iadd, 1) := by decide +kernel
theorem dL_law_511 : decode cL_law 511 = .ok (.iaload, 1) := by decide +kernel
theorem dL_law_512 : decode cL_law 512 = .ok (.aload_n 0, 1) := by decide +kernel
theorem dL_law_513 : decode cL_law 513 = .ok (.iload_n 3, 1) := by decide +kernel
theorem dL_law_514 : decode cL_law 514 = .ok (.bipush 6, 2) := by decide +kernel
theorem dL_law_516 : decode cL_law 516 = .ok (.iadd, 1) := by decide +kernel
theorem dL_law_517 : decode cL_law 517 = .ok (.iaload, 1) := by decide +kernel
theorem dL_law_518 : decode cL_law 518 = .ok (.invokevirtual 56, 3) := by decide +kernel
theorem dL_law_521 : decode cL_law 521 = .ok (.if_icmp .eq 575, 3) := by decide +kernel
theorem dL_law_524 : decode cL_law 524 = .ok (.iconst 0, 1) := by decide +kernel
theorem dL_law_525 : decode cL_law 525 = .ok (.ireturn, 1) := by decide +kernel
theorem dL_law_526 : decode cL_law 526 = .ok (.aload_n 1, 1) := by decide +kernel
theorem dL_law_527 : decode cL_law 527 = .ok (.aload_n 0, 1) := by decide +kernel
theorem dL_law_528 : decode cL_law 528 = .ok (.iload_n 3, 1) := by decide +kernel
theorem dL_law_529 : decode cL_law 529 = .ok (.iconst 1, 1) := by decide +kernel
theorem dL_law_530 : decode cL_law 530 = .ok (.iadd, 1) := by decide +kernel
theorem dL_law_531 : decode cL_law 531 = .ok (.iaload, 1) := by decide +kernel
theorem dL_law_532 : decode cL_law 532 = .ok (.aload_n 0, 1) := by decide +kernel
theorem dL_law_533 : decode cL_law 533 = .ok (.iload_n 3, 1) := by decide +kernel
theorem dL_law_534 : decode cL_law 534 = .ok (.iconst 2, 1) := by decide +kernel
theorem dL_law_535 : decode cL_law 535 = .ok (.iadd, 1) := by decide +kernel
theorem dL_law_536 : decode cL_law 536 = .ok (.iaload, 1) := by decide +kernel
theorem dL_law_537 : decode cL_law 537 = .ok (.aload_n 0, 1) := by decide +kernel
theorem dL_law_538 : decode cL_law 538 = .ok (.iload_n 3, 1) := by decide +kernel
theorem dL_law_539 : decode cL_law 539 = .ok (.iconst 3, 1) := by decide +kernel
theorem dL_law_540 : decode cL_law 540 = .ok (.iadd, 1) := by decide +kernel
theorem dL_law_541 : decode cL_law 541 = .ok (.iaload, 1) := by decide +kernel
theorem dL_law_542 : decode cL_law 542 = .ok (.aload_n 0, 1) := by decide +kernel
theorem dL_law_543 : decode cL_law 543 = .ok (.iload_n 3, 1) := by decide +kernel
theorem dL_law_544 : decode cL_law 544 = .ok (.iconst 4, 1) := by decide +kernel
theorem dL_law_545 : decode cL_law 545 = .ok (.iadd, 1) := by decide +kernel
theorem dL_law_546 : decode cL_law 546 = .ok (.iaload, 1) := by decide +kernel
theorem dL_law_547 : decode cL_law 547 = .ok (.aload_n 0, 1) := by decide +kernel
theorem dL_law_548 : decode cL_law 548 = .ok (.iload_n 3, 1) := by decide +kernel
theorem dL_law_549 : decode cL_law 549 = .ok (.iconst 5, 1) := by decide +kernel
theorem dL_law_550 : decode cL_law 550 = .ok (.iadd, 1) := by decide +kernel
theorem dL_law_551 : decode cL_law 551 = .ok (.iaload, 1) := by decide +kernel
theorem dL_law_552 : decode cL_law 552 = .ok (.aload_n 0, 1) := by decide +kernel
theorem dL_law_553 : decode cL_law 553 = .ok (.iload_n 3, 1) := by decide +kernel
theorem dL_law_554 : decode cL_law 554 = .ok (.bipush 6, 2) := by decide +kernel
theorem dL_law_556 : decode cL_law 556 = .ok (.iadd, 1) := by decide +kernel
theorem dL_law_557 : decode cL_law 557 = .ok (.iaload, 1) := by decide +kernel
theorem dL_law_558 : decode cL_law 558 = .ok (.invokevirtual 57, 3) := by decide +kernel
theorem dL_law_561 : decode cL_law 561 = .ok (.aload_n 2, 1) := by decide +kernel
theorem dL_law_562 : decode cL_law 562 = .ok (.aload_n 0, 1) := by decide +kernel
theorem dL_law_563 : decode cL_law 563 = .ok (.iload_n 3, 1) := by decide +kernel
theorem dL_law_564 : decode cL_law 564 = .ok (.iconst 1, 1) := by decide +kernel
theorem dL_law_565 : decode cL_law 565 = .ok (.iadd, 1) := by decide +kernel
theorem dL_law_566 : decode cL_law 566 = .ok (.iaload, 1) := by decide +kernel
theorem dL_law_567 : decode cL_law 567 = .ok (.aload_n 0, 1) := by decide +kernel
theorem dL_law_568 : decode cL_law 568 = .ok (.iload_n 3, 1) := by decide +kernel
theorem dL_law_569 : decode cL_law 569 = .ok (.iconst 2, 1) := by decide +kernel
theorem dL_law_570 : decode cL_law 570 = .ok (.iadd, 1) := by decide +kernel
theorem dL_law_571 : decode cL_law 571 = .ok (.iaload, 1) := by decide +kernel
theorem dL_law_572 : decode cL_law 572 = .ok (.aload_n 0, 1) := by decide +kernel
theorem dL_law_573 : decode cL_law 573 = .ok (.iload_n 3, 1) := by decide +kernel
theorem dL_law_574 : decode cL_law 574 = .ok (.iconst 3, 1) := by decide +kernel
theorem dL_law_575 : decode cL_law 575 = .ok (.iadd, 1) := by decide +kernel
theorem dL_law_576 : decode cL_law 576 = .ok (.iaload, 1) := by decide +kernel
theorem dL_law_577 : decode cL_law 577 = .ok (.aload_n 0, 1) := by decide +kernel
theorem dL_law_578 : decode cL_law 578 = .ok (.iload_n 3, 1) := by decide +kernel
theorem dL_law_579 : decode cL_law 579 = .ok (.iconst 4, 1) := by decide +kernel
theorem dL_law_580 : decode cL_law 580 = .ok (.iadd, 1) := by decide +kernel
theorem dL_law_581 : decode cL_law 581 = .ok (.iaload, 1) := by decide +kernel
theorem dL_law_582 : decode cL_law 582 = .ok (.aload_n 0, 1) := by decide +kernel
theorem dL_law_583 : decode cL_law 583 = .ok (.iload_n 3, 1) := by decide +kernel
theorem dL_law_584 : decode cL_law 584 = .ok (.iconst 5, 1) := by decide +kernel
theorem dL_law_585 : decode cL_law 585 = .ok (.iadd, 1) := by decide +kernel
theorem dL_law_586 : decode cL_law 586 = .ok (.iaload, 1) := by decide +kernel
theorem dL_law_587 : decode cL_law 587 = .ok (.aload_n 0, 1) := by decide +kernel
theorem dL_law_588 : decode cL_law 588 = .ok (.iload_n 3, 1) := by decide +kernel
theorem dL_law_589 : decode cL_law 589 = .ok (.bipush 6, 2) := by decide +kernel
theorem dL_law_591 : decode cL_law 591 = .ok (.iadd, 1) := by decide +kernel
theorem dL_law_592 : decode cL_law 592 = .ok (.iaload, 1) := by decide +kernel
theorem dL_law_593 : decode cL_law 593 = .ok (.invokevirtual 60, 3) := by decide +kernel
theorem dL_law_596 : decode cL_law 596 = .ok (.if_icmp .eq 500, 3) := by decide +kernel
theorem dL_law_599 : decode cL_law 599 = .ok (.iconst 0, 1) := by decide +kernel
theorem dL_law_600 : decode cL_law 600 = .ok (.ireturn, 1) := by decide +kernel
theorem dL_law_601 : decode cL_law 601 = .ok (.aload_n 1, 1) := by decide +kernel
theorem dL_law_602 : decode cL_law 602 = .ok (.aload_n 0, 1) := by decide +kernel
theorem dL_law_603 : decode cL_law 603 = .ok (.iload_n 3, 1) := by decide +kernel
theorem dL_law_604 : decode cL_law 604 = .ok (.iconst 1, 1) := by decide +kernel
theorem dL_law_605 : decode cL_law 605 = .ok (.iadd, 1) := by decide +kernel
theorem dL_law_606 : decode cL_law 606 = .ok (.iaload, 1) := by decide +kernel
theorem dL_law_607 : decode cL_law 607 = .ok (.aload_n 0, 1) := by decide +kernel
theorem dL_law_608 : decode cL_law 608 = .ok (.iload_n 3, 1) := by decide +kernel
theorem dL_law_609 : decode cL_law 609 = .ok (.iconst 2, 1) := by decide +kernel
theorem dL_law_610 : decode cL_law 610 = .ok (.iadd, 1) := by decide +kernel
theorem dL_law_611 : decode cL_law 611 = .ok (.iaload, 1) := by decide +kernel
theorem dL_law_612 : decode cL_law 612 = .ok (.aload_n 0, 1) := by decide +kernel
theorem dL_law_613 : decode cL_law 613 = .ok (.iload_n 3, 1) := by decide +kernel
theorem dL_law_614 : decode cL_law 614 = .ok (.iconst 3, 1) := by decide +kernel
theorem dL_law_615 : decode cL_law 615 = .ok (.iadd, 1) := by decide +kernel
theorem dL_law_616 : decode cL_law 616 = .ok (.iaload, 1) := by decide +kernel
theorem dL_law_617 : decode cL_law 617 = .ok (.invokevirtual 61, 3) := by decide +kernel
theorem dL_law_620 : decode cL_law 620 = .ok (.aload_n 2, 1) := by decide +kernel
theorem dL_law_621 : decode cL_law 621 = .ok (.aload_n 0, 1) := by decide +kernel
theorem dL_law_622 : decode cL_law 622 = .ok (.iload_n 3, 1) := by decide +kernel
theorem dL_law_623 : decode cL_law 623 = .ok (.iconst 1, 1) := by decide +kernel
theorem dL_law_624 : decode cL_law 624 = .ok (.iadd, 1) := by decide +kernel
theorem dL_law_625 : decode cL_law 625 = .ok (.iaload, 1) := by decide +kernel
theorem dL_law_626 : decode cL_law 626 = .ok (.aload_n 0, 1) := by decide +kernel
theorem dL_law_627 : decode cL_law 627 = .ok (.iload_n 3, 1) := by decide +kernel
theorem dL_law_628 : decode cL_law 628 = .ok (.iconst 2, 1) := by decide +kernel
theorem dL_law_629 : decode cL_law 629 = .ok (.iadd, 1) := by decide +kernel
theorem dL_law_630 : decode cL_law 630 = .ok (.iaload, 1) := by decide +kernel
theorem dL_law_631 : decode cL_law 631 = .ok (.aload_n 0, 1) := by decide +kernel
theorem dL_law_632 : decode cL_law 632 = .ok (.iload_n 3, 1) := by decide +kernel
theorem dL_law_633 : decode cL_law 633 = .ok (.iconst 3, 1) := by decide +kernel
theorem dL_law_634 : decode cL_law 634 = .ok (.iadd, 1) := by decide +kernel
theorem dL_law_635 : decode cL_law 635 = .ok (.iaload, 1) := by decide +kernel
theorem dL_law_636 : decode cL_law 636 = .ok (.invokevirtual 64, 3) := by decide +kernel
theorem dL_law_639 : decode cL_law 639 = .ok (.if_icmp .eq 457, 3) := by decide +kernel
theorem dL_law_642 : decode cL_law 642 = .ok (.iconst 0, 1) := by decide +kernel
theorem dL_law_643 : decode cL_law 643 = .ok (.ireturn, 1) := by decide +kernel
theorem dL_law_644 : decode cL_law 644 = .ok (.aload_n 1, 1) := by decide +kernel
theorem dL_law_645 : decode cL_law 645 = .ok (.aload_n 0, 1) := by decide +kernel
theorem dL_law_646 : decode cL_law 646 = .ok (.iload_n 3, 1) := by decide +kernel
theorem dL_law_647 : decode cL_law 647 = .ok (.iconst 1, 1) := by decide +kernel
theorem dL_law_648 : decode cL_law 648 = .ok (.iadd, 1) := by decide +kernel
theorem dL_law_649 : decode cL_law 649 = .ok (.iaload, 1) := by decide +kernel
theorem dL_law_650 : decode cL_law 650 = .ok (.invokevirtual 65, 3) := by decide +kernel
theorem dL_law_653 : decode cL_law 653 = .ok (.aload_n 2, 1) := by decide +kernel
theorem dL_law_654 : decode cL_law 654 = .ok (.aload_n 0, 1) := by decide +kernel
theorem dL_law_655 : decode cL_law 655 = .ok (.iload_n 3, 1) := by decide +kernel
theorem dL_law_656 : decode cL_law 656 = .ok (.iconst 1, 1) := by decide +kernel
theorem dL_law_657 : decode cL_law 657 = .ok (.iadd, 1) := by decide +kernel
theorem dL_law_658 : decode cL_law 658 = .ok (.iaload, 1) := by decide +kernel
theorem dL_law_659 : decode cL_law 659 = .ok (.invokevirtual 68, 3) := by decide +kernel
theorem dL_law_662 : decode cL_law 662 = .ok (.if_icmp .eq 434, 3) := by decide +kernel
theorem dL_law_665 : decode cL_law 665 = .ok (.iconst 0, 1) := by decide +kernel
theorem dL_law_666 : decode cL_law 666 = .ok (.ireturn, 1) := by decide +kernel
theorem dL_law_667 : decode cL_law 667 = .ok (.aload_n 1, 1) := by decide +kernel
theorem dL_law_668 : decode cL_law 668 = .ok (.aload_n 0, 1) := by decide +kernel
theorem dL_law_669 : decode cL_law 669 = .ok (.iload_n 3, 1) := by decide +kernel
theorem dL_law_670 : decode cL_law 670 = .ok (.iconst 1, 1) := by decide +kernel
theorem dL_law_671 : decode cL_law 671 = .ok (.iadd, 1) := by decide +kernel
theorem dL_law_672 : decode cL_law 672 = .ok (.iaload, 1) := by decide +kernel
theorem dL_law_673 : decode cL_law 673 = .ok (.invokevirtual 69, 3) := by decide +kernel
theorem dL_law_676 : decode cL_law 676 = .ok (.aload_n 2, 1) := by decide +kernel
theorem dL_law_677 : decode cL_law 677 = .ok (.aload_n 0, 1) := by decide +kernel
theorem dL_law_678 : decode cL_law 678 = .ok (.iload_n 3, 1) := by decide +kernel
theorem dL_law_679 : decode cL_law 679 = .ok (.iconst 1, 1) := by decide +kernel
theorem dL_law_680 : decode cL_law 680 = .ok (.iadd, 1) := by decide +kernel
theorem dL_law_681 : decode cL_law 681 = .ok (.iaload, 1) := by decide +kernel
theorem dL_law_682 : decode cL_law 682 = .ok (.invokevirtual 72, 3) := by decide +kernel
theorem dL_law_685 : decode cL_law 685 = .ok (.if_icmp .eq 411, 3) := by decide +kernel
theorem dL_law_688 : decode cL_law 688 = .ok (.iconst 0, 1) := by decide +kernel
theorem dL_law_689 : decode cL_law 689 = .ok (.ireturn, 1) := by decide +kernel
theorem dL_law_690 : decode cL_law 690 = .ok (.aload_n 1, 1) := by decide +kernel
theorem dL_law_691 : decode cL_law 691 = .ok (.aload_n 0, 1) := by decide +kernel
theorem dL_law_692 : decode cL_law 692 = .ok (.iload_n 3, 1) := by decide +kernel
theorem dL_law_693 : decode cL_law 693 = .ok (.iconst 1, 1) := by decide +kernel
theorem dL_law_694 : decode cL_law 694 = .ok (.iadd, 1) := by decide +kernel
theorem dL_law_695 : decode cL_law 695 = .ok (.iaload, 1) := by decide +kernel
theorem dL_law_696 : decode cL_law 696 = .ok (.invokevirtual 73, 3) := by decide +kernel
theorem dL_law_699 : decode cL_law 699 = .ok (.aload_n 2, 1) := by decide +kernel
theorem dL_law_700 : decode cL_law 700 = .ok (.aload_n 0, 1) := by decide +kernel
theorem dL_law_701 : decode cL_law 701 = .ok (.iload_n 3, 1) := by decide +kernel
theorem dL_law_702 : decode cL_law 702 = .ok (.iconst 1, 1) := by decide +kernel
theorem dL_law_703 : decode cL_law 703 = .ok (.iadd, 1) := by decide +kernel
theorem dL_law_704 : decode cL_law 704 = .ok (.iaload, 1) := by decide +kernel
theorem dL_law_705 : decode cL_law 705 = .ok (.invokevirtual 76, 3) := by decide +kernel
theorem dL_law_708 : decode cL_law 708 = .ok (.if_icmp .eq 388, 3) := by decide +kernel
theorem dL_law_711 : decode cL_law 711 = .ok (.iconst 0, 1) := by decide +kernel
theorem dL_law_712 : decode cL_law 712 = .ok (.ireturn, 1) := by decide +kernel
theorem dL_law_713 : decode cL_law 713 = .ok (.aload_n 1, 1) := by decide +kernel
theorem dL_law_714 : decode cL_law 714 = .ok (.aload_n 0, 1) := by decide +kernel
theorem dL_law_715 : decode cL_law 715 = .ok (.iload_n 3, 1) := by decide +kernel
theorem dL_law_716 : decode cL_law 716 = .ok (.iconst 1, 1) := by decide +kernel
theorem dL_law_717 : decode cL_law 717 = .ok (.iadd, 1) := by decide +kernel
theorem dL_law_718 : decode cL_law 718 = .ok (.iaload, 1) := by decide +kernel
theorem dL_law_719 : decode cL_law 719 = .ok (.invokevirtual 77, 3) := by decide +kernel
theorem dL_law_722 : decode cL_law 722 = .ok (.aload_n 2, 1) := by decide +kernel
theorem dL_law_723 : decode cL_law 723 = .ok (.aload_n 0, 1) := by decide +kernel
theorem dL_law_724 : decode cL_law 724 = .ok (.iload_n 3, 1) := by decide +kernel
theorem dL_law_725 : decode cL_law 725 = .ok (.iconst 1, 1) := by decide +kernel
theorem dL_law_726 : decode cL_law 726 = .ok (.iadd, 1) := by decide +kernel
theorem dL_law_727 : decode cL_law 727 = .ok (.iaload, 1) := by decide +kernel
theorem dL_law_728 : decode cL_law 728 = .ok (.invokevirtual 80, 3) := by decide +kernel
theorem dL_law_731 : decode cL_law 731 = .ok (.if_icmp .eq 365, 3) := by decide +kernel
theorem dL_law_734 : decode cL_law 734 = .ok (.iconst 0, 1) := by decide +kernel
theorem dL_law_735 : decode cL_law 735 = .ok (.ireturn, 1) := by decide +kernel
theorem dL_law_736 : decode cL_law 736 = .ok (.aload_n 1, 1) := by decide +kernel
theorem dL_law_737 : decode cL_law 737 = .ok (.aload_n 0, 1) := by decide +kernel
theorem dL_law_738 : decode cL_law 738 = .ok (.iload_n 3, 1) := by decide +kernel
theorem dL_law_739 : decode cL_law 739 = .ok (.iconst 1, 1) := by decide +kernel
end
section
theorem dL_law_740 : decode cL_law 740 = .ok (.iadd, 1) := by decide +kernel
theorem dL_law_741 : decode cL_law 741 = .ok (.iaload, 1) := by decide +kernel
theorem dL_law_742 : decode cL_law 742 = .ok (.invokevirtual 81, 3) := by decide +kernel
theorem dL_law_745 : decode cL_law 745 = .ok (.aload_n 2, 1) := by decide +kernel
theorem dL_law_746 : decode cL_law 746 = .ok (.aload_n 0, 1) := by decide +kernel
theorem dL_law_747 : decode cL_law 747 = .ok (.iload_n 3, 1) := by decide +kernel
theorem dL_law_748 : decode cL_law 748 = .ok (.iconst 1, 1) := by decide +kernel
theorem dL_law_749 : decode cL_law 749 = .ok (.iadd, 1) := by decide +kernel
theorem dL_law_750 : decode cL_law 750 = .ok (.iaload, 1) := by decide +kernel
theorem dL_law_751 : decode cL_law 751 = .ok (.invokevirtual 84, 3) := by decide +kernel
theorem dL_law_754 : decode cL_law 754 = .ok (.if_icmp .eq 342, 3) := by decide +kernel
theorem dL_law_757 : decode cL_law 757 = .ok (.iconst 0, 1) := by decide +kernel
theorem dL_law_758 : decode cL_law 758 = .ok (.ireturn, 1) := by decide +kernel
theorem dL_law_759 : decode cL_law 759 = .ok (.aload_n 1, 1) := by decide +kernel
theorem dL_law_760 : decode cL_law 760 = .ok (.aload_n 0, 1) := by decide +kernel
theorem dL_law_761 : decode cL_law 761 = .ok (.iload_n 3, 1) := by decide +kernel
theorem dL_law_762 : decode cL_law 762 = .ok (.iconst 1, 1) := by decide +kernel
theorem dL_law_763 : decode cL_law 763 = .ok (.iadd, 1) := by decide +kernel
theorem dL_law_764 : decode cL_law 764 = .ok (.iaload, 1) := by decide +kernel
theorem dL_law_765 : decode cL_law 765 = .ok (.invokevirtual 85, 3) := by decide +kernel
theorem dL_law_768 : decode cL_law 768 = .ok (.aload_n 2, 1) := by decide +kernel
theorem dL_law_769 : decode cL_law 769 = .ok (.aload_n 0, 1) := by decide +kernel
theorem dL_law_770 : decode cL_law 770 = .ok (.iload_n 3, 1) := by decide +kernel
theorem dL_law_771 : decode cL_law 771 = .ok (.iconst 1, 1) := by decide +kernel
theorem dL_law_772 : decode cL_law 772 = .ok (.iadd, 1) := by decide +kernel
theorem dL_law_773 : decode cL_law 773 = .ok (.iaload, 1) := by decide +kernel
theorem dL_law_774 : decode cL_law 774 = .ok (.invokevirtual 88, 3) := by decide +kernel
theorem dL_law_777 : decode cL_law 777 = .ok (.if_icmp .eq 319, 3) := by decide +kernel
theorem dL_law_780 : decode cL_law 780 = .ok (.iconst 0, 1) := by decide +kernel
theorem dL_law_781 : decode cL_law 781 = .ok (.ireturn, 1) := by decide +kernel
theorem dL_law_782 : decode cL_law 782 = .ok (.aload_n 1, 1) := by decide +kernel
theorem dL_law_783 : decode cL_law 783 = .ok (.aload_n 0, 1) := by decide +kernel
theorem dL_law_784 : decode cL_law 784 = .ok (.iload_n 3, 1) := by decide +kernel
theorem dL_law_785 : decode cL_law 785 = .ok (.iconst 1, 1) := by decide +kernel
theorem dL_law_786 : decode cL_law 786 = .ok (.iadd, 1) := by decide +kernel
theorem dL_law_787 : decode cL_law 787 = .ok (.iaload, 1) := by decide +kernel
theorem dL_law_788 : decode cL_law 788 = .ok (.aload_n 0, 1) := by decide +kernel
theorem dL_law_789 : decode cL_law 789 = .ok (.iload_n 3, 1) := by decide +kernel
theorem dL_law_790 : decode cL_law 790 = .ok (.iconst 2, 1) := by decide +kernel
theorem dL_law_791 : decode cL_law 791 = .ok (.iadd, 1) := by decide +kernel
theorem dL_law_792 : decode cL_law 792 = .ok (.iaload, 1) := by decide +kernel
theorem dL_law_793 : decode cL_law 793 = .ok (.aload_n 0, 1) := by decide +kernel
theorem dL_law_794 : decode cL_law 794 = .ok (.iload_n 3, 1) := by decide +kernel
theorem dL_law_795 : decode cL_law 795 = .ok (.iconst 3, 1) := by decide +kernel
theorem dL_law_796 : decode cL_law 796 = .ok (.iadd, 1) := by decide +kernel
theorem dL_law_797 : decode cL_law 797 = .ok (.iaload, 1) := by decide +kernel
theorem dL_law_798 : decode cL_law 798 = .ok (.invokevirtual 89, 3) := by decide +kernel
theorem dL_law_801 : decode cL_law 801 = .ok (.aload_n 2, 1) := by decide +kernel
theorem dL_law_802 : decode cL_law 802 = .ok (.aload_n 0, 1) := by decide +kernel
theorem dL_law_803 : decode cL_law 803 = .ok (.iload_n 3, 1) := by decide +kernel
theorem dL_law_804 : decode cL_law 804 = .ok (.iconst 1, 1) := by decide +kernel
theorem dL_law_805 : decode cL_law 805 = .ok (.iadd, 1) := by decide +kernel
theorem dL_law_806 : decode cL_law 806 = .ok (.iaload, 1) := by decide +kernel
theorem dL_law_807 : decode cL_law 807 = .ok (.aload_n 0, 1) := by decide +kernel
theorem dL_law_808 : decode cL_law 808 = .ok (.iload_n 3, 1) := by decide +kernel
theorem dL_law_809 : decode cL_law 809 = .ok (.iconst 2, 1) := by decide +kernel
theorem dL_law_810 : decode cL_law 810 = .ok (.iadd, 1) := by decide +kernel
theorem dL_law_811 : decode cL_law 811 = .ok (.iaload, 1) := by decide +kernel
theorem dL_law_812 : decode cL_law 812 = .ok (.aload_n 0, 1) := by decide +kernel
theorem dL_law_813 : decode cL_law 813 = .ok (.iload_n 3, 1) := by decide +kernel
theorem dL_law_814 : decode cL_law 814 = .ok (.iconst 3, 1) := by decide +kernel
theorem dL_law_815 : decode cL_law 815 = .ok (.iadd, 1) := by decide +kernel
theorem dL_law_816 : decode cL_law 816 = .ok (.iaload, 1) := by decide +kernel
theorem dL_law_817 : decode cL_law 817 = .ok (.invokevirtual 92, 3) := by decide +kernel
theorem dL_law_820 : decode cL_law 820 = .ok (.if_icmp .eq 276, 3) := by decide +kernel
theorem dL_law_823 : decode cL_law 823 = .ok (.iconst 0, 1) := by decide +kernel
theorem dL_law_824 : decode cL_law 824 = .ok (.ireturn, 1) := by decide +kernel
theorem dL_law_825 : decode cL_law 825 = .ok (.aload_n 1, 1) := by decide +kernel
theorem dL_law_826 : decode cL_law 826 = .ok (.aload_n 0, 1) := by decide +kernel
theorem dL_law_827 : decode cL_law 827 = .ok (.iload_n 3, 1) := by decide +kernel
theorem dL_law_828 : decode cL_law 828 = .ok (.iconst 1, 1) := by decide +kernel
theorem dL_law_829 : decode cL_law 829 = .ok (.iadd, 1) := by decide +kernel
theorem dL_law_830 : decode cL_law 830 = .ok (.iaload, 1) := by decide +kernel
theorem dL_law_831 : decode cL_law 831 = .ok (.invokevirtual 93, 3) := by decide +kernel
theorem dL_law_834 : decode cL_law 834 = .ok (.aload_n 2, 1) := by decide +kernel
theorem dL_law_835 : decode cL_law 835 = .ok (.aload_n 0, 1) := by decide +kernel
theorem dL_law_836 : decode cL_law 836 = .ok (.iload_n 3, 1) := by decide +kernel
theorem dL_law_837 : decode cL_law 837 = .ok (.iconst 1, 1) := by decide +kernel
theorem dL_law_838 : decode cL_law 838 = .ok (.iadd, 1) := by decide +kernel
theorem dL_law_839 : decode cL_law 839 = .ok (.iaload, 1) := by decide +kernel
theorem dL_law_840 : decode cL_law 840 = .ok (.invokevirtual 96, 3) := by decide +kernel
theorem dL_law_843 : decode cL_law 843 = .ok (.if_icmp .eq 253, 3) := by decide +kernel
theorem dL_law_846 : decode cL_law 846 = .ok (.iconst 0, 1) := by decide +kernel
theorem dL_law_847 : decode cL_law 847 = .ok (.ireturn, 1) := by decide +kernel
theorem dL_law_848 : decode cL_law 848 = .ok (.aload_n 1, 1) := by decide +kernel
theorem dL_law_849 : decode cL_law 849 = .ok (.aload_n 0, 1) := by decide +kernel
theorem dL_law_850 : decode cL_law 850 = .ok (.iload_n 3, 1) := by decide +kernel
theorem dL_law_851 : decode cL_law 851 = .ok (.iconst 1, 1) := by decide +kernel
theorem dL_law_852 : decode cL_law 852 = .ok (.iadd, 1) := by decide +kernel
theorem dL_law_853 : decode cL_law 853 = .ok (.iaload, 1) := by decide +kernel
theorem dL_law_854 : decode cL_law 854 = .ok (.invokevirtual 97, 3) := by decide +kernel
theorem dL_law_857 : decode cL_law 857 = .ok (.aload_n 2, 1) := by decide +kernel
theorem dL_law_858 : decode cL_law 858 = .ok (.aload_n 0, 1) := by decide +kernel
theorem dL_law_859 : decode cL_law 859 = .ok (.iload_n 3, 1) := by decide +kernel
theorem dL_law_860 : decode cL_law 860 = .ok (.iconst 1, 1) := by decide +kernel
theorem dL_law_861 : decode cL_law 861 = .ok (.iadd, 1) := by decide +kernel
theorem dL_law_862 : decode cL_law 862 = .ok (.iaload, 1) := by decide +kernel
theorem dL_law_863 : decode cL_law 863 = .ok (.invokevirtual 100, 3) := by decide +kernel
theorem dL_law_866 : decode cL_law 866 = .ok (.if_icmp .eq 230, 3) := by decide +kernel
theorem dL_law_869 : decode cL_law 869 = .ok (.iconst 0, 1) := by decide +kernel
theorem dL_law_870 : decode cL_law 870 = .ok (.ireturn, 1) := by decide +kernel
theorem dL_law_871 : decode cL_law 871 = .ok (.aload_n 1, 1) := by decide +kernel
theorem dL_law_872 : decode cL_law 872 = .ok (.aload_n 0, 1) := by decide +kernel
theorem dL_law_873 : decode cL_law 873 = .ok (.iload_n 3, 1) := by decide +kernel
theorem dL_law_874 : decode cL_law 874 = .ok (.iconst 1, 1) := by decide +kernel
theorem dL_law_875 : decode cL_law 875 = .ok (.iadd, 1) := by decide +kernel
theorem dL_law_876 : decode cL_law 876 = .ok (.iaload, 1) := by decide +kernel
theorem dL_law_877 : decode cL_law 877 = .ok (.aload_n 0, 1) := by decide +kernel
theorem dL_law_878 : decode cL_law 878 = .ok (.iload_n 3, 1) := by decide +kernel
theorem dL_law_879 : decode cL_law 879 = .ok (.iconst 2, 1) := by decide +kernel
theorem dL_law_880 : decode cL_law 880 = .ok (.iadd, 1) := by decide +kernel
theorem dL_law_881 : decode cL_law 881 = .ok (.iaload, 1) := by decide +kernel
theorem dL_law_882 : decode cL_law 882 = .ok (.aload_n 0, 1) := by decide +kernel
theorem dL_law_883 : decode cL_law 883 = .ok (.iload_n 3, 1) := by decide +kernel
theorem dL_law_884 : decode cL_law 884 = .ok (.iconst 3, 1) := by decide +kernel
theorem dL_law_885 : decode cL_law 885 = .ok (.iadd, 1) := by decide +kernel
theorem dL_law_886 : decode cL_law 886 = .ok (.iaload, 1) := by decide +kernel
theorem dL_law_887 : decode cL_law 887 = .ok (.invokevirtual 101, 3) := by decide +kernel
theorem dL_law_890 : decode cL_law 890 = .ok (.aload_n 2, 1) := by decide +kernel
theorem dL_law_891 : decode cL_law 891 = .ok (.aload_n 0, 1) := by decide +kernel
theorem dL_law_892 : decode cL_law 892 = .ok (.iload_n 3, 1) := by decide +kernel
theorem dL_law_893 : decode cL_law 893 = .ok (.iconst 1, 1) := by decide +kernel
theorem dL_law_894 : decode cL_law 894 = .ok (.iadd, 1) := by decide +kernel
theorem dL_law_895 : decode cL_law 895 = .ok (.iaload, 1) := by decide +kernel
theorem dL_law_896 : decode cL_law 896 = .ok (.aload_n 0, 1) := by decide +kernel
theorem dL_law_897 : decode cL_law 897 = .ok (.iload_n 3, 1) := by decide +kernel
theorem dL_law_898 : decode cL_law 898 = .ok (.iconst 2, 1) := by decide +kernel
theorem dL_law_899 : decode cL_law 899 = .ok (.iadd, 1) := by decide +kernel
theorem dL_law_900 : decode cL_law 900 = .ok (.iaload, 1) := by decide +kernel
theorem dL_law_901 : decode cL_law 901 = .ok (.aload_n 0, 1) := by decide +kernel
theorem dL_law_902 : decode cL_law 902 = .ok (.iload_n 3, 1) := by decide +kernel
theorem dL_law_903 : decode cL_law 903 = .ok (.iconst 3, 1) := by decide +kernel
theorem dL_law_904 : decode cL_law 904 = .ok (.iadd, 1) := by decide +kernel
theorem dL_law_905 : decode cL_law 905 = .ok (.iaload, 1) := by decide +kernel
theorem dL_law_906 : decode cL_law 906 = .ok (.invokevirtual 104, 3) := by decide +kernel
theorem dL_law_909 : decode cL_law 909 = .ok (.if_icmp .eq 187, 3) := by decide +kernel
theorem dL_law_912 : decode cL_law 912 = .ok (.iconst 0, 1) := by decide +kernel
theorem dL_law_913 : decode cL_law 913 = .ok (.ireturn, 1) := by decide +kernel
theorem dL_law_914 : decode cL_law 914 = .ok (.aload_n 1, 1) := by decide +kernel
theorem dL_law_915 : decode cL_law 915 = .ok (.aload_n 0, 1) := by decide +kernel
theorem dL_law_916 : decode cL_law 916 = .ok (.iload_n 3, 1) := by decide +kernel
theorem dL_law_917 : decode cL_law 917 = .ok (.iconst 1, 1) := by decide +kernel
theorem dL_law_918 : decode cL_law 918 = .ok (.iadd, 1) := by decide +kernel
theorem dL_law_919 : decode cL_law 919 = .ok (.iaload, 1) := by decide +kernel
theorem dL_law_920 : decode cL_law 920 = .ok (.invokevirtual 105, 3) := by decide +kernel
theorem dL_law_923 : decode cL_law 923 = .ok (.aload_n 2, 1) := by decide +kernel
theorem dL_law_924 : decode cL_law 924 = .ok (.aload_n 0, 1) := by decide +kernel
theorem dL_law_925 : decode cL_law 925 = .ok (.iload_n 3, 1) := by decide +kernel
theorem dL_law_926 : decode cL_law 926 = .ok (.iconst 1, 1) := by decide +kernel
theorem dL_law_927 : decode cL_law 927 = .ok (.iadd, 1) := by decide +kernel
theorem dL_law_928 : decode cL_law 928 = .ok (.iaload, 1) := by decide +kernel
theorem dL_law_929 : decode cL_law 929 = .ok (.invokevirtual 108, 3) := by decide +kernel
theorem dL_law_932 : decode cL_law 932 = .ok (.if_icmp .eq 164, 3) := by decide +kernel
theorem dL_law_935 : decode cL_law 935 = .ok (.iconst 0, 1) := by decide +kernel
theorem dL_law_936 : decode cL_law 936 = .ok (.ireturn, 1) := by decide +kernel
theorem dL_law_937 : decode cL_law 937 = .ok (.aload_n 1, 1) := by decide +kernel
theorem dL_law_938 : decode cL_law 938 = .ok (.aload_n 0, 1) := by decide +kernel
theorem dL_law_939 : decode cL_law 939 = .ok (.iload_n 3, 1) := by decide +kernel
theorem dL_law_940 : decode cL_law 940 = .ok (.iconst 1, 1) := by decide +kernel
theorem dL_law_941 : decode cL_law 941 = .ok (.iadd, 1) := by decide +kernel
theorem dL_law_942 : decode cL_law 942 = .ok (.iaload, 1) := by decide +kernel
theorem dL_law_943 : decode cL_law 943 = .ok (.aload_n 0, 1) := by decide +kernel
theorem dL_law_944 : decode cL_law 944 = .ok (.iload_n 3, 1) := by decide +kernel
theorem dL_law_945 : decode cL_law 945 = .ok (.iconst 2, 1) := by decide +kernel
theorem dL_law_946 : decode cL_law 946 = .ok (.iadd, 1) := by decide +kernel
theorem dL_law_947 : decode cL_law 947 = .ok (.iaload, 1) := by decide +kernel
theorem dL_law_948 : decode cL_law 948 = .ok (.invokevirtual 109, 3) := by decide +kernel
theorem dL_law_951 : decode cL_law 951 = .ok (.aload_n 2, 1) := by decide +kernel
theorem dL_law_952 : decode cL_law 952 = .ok (.aload_n 0, 1) := by decide +kernel
theorem dL_law_953 : decode cL_law 953 = .ok (.iload_n 3, 1) := by decide +kernel
theorem dL_law_954 : decode cL_law 954 = .ok (.iconst 1, 1) := by decide +kernel
theorem dL_law_955 : decode cL_law 955 = .ok (.iadd, 1) := by decide +kernel
theorem dL_law_956 : decode cL_law 956 = .ok (.iaload, 1) := by decide +kernel
theorem dL_law_957 : decode cL_law 957 = .ok (.aload_n 0, 1) := by decide +kernel
theorem dL_law_958 : decode cL_law 958 = .ok (.iload_n 3, 1) := by decide +kernel
theorem dL_law_959 : decode cL_law 959 = .ok (.iconst 2, 1) := by decide +kernel
theorem dL_law_960 : decode cL_law 960 = .ok (.iadd, 1) := by decide +kernel
theorem dL_law_961 : decode cL_law 961 = .ok (.iaload, 1) := by decide +kernel
theorem dL_law_962 : decode cL_law 962 = .ok (.invokevirtual 112, 3) := by decide +kernel
theorem dL_law_965 : decode cL_law 965 = .ok (.if_icmp .eq 131, 3) := by decide +kernel
theorem dL_law_968 : decode cL_law 968 = .ok (.iconst 0, 1) := by decide +kernel
theorem dL_law_969 : decode cL_law 969 = .ok (.ireturn, 1) := by decide +kernel
theorem dL_law_970 : decode cL_law 970 = .ok (.aload_n 1, 1) := by decide +kernel
theorem dL_law_971 : decode cL_law 971 = .ok (.aload_n 0, 1) := by decide +kernel
theorem dL_law_972 : decode cL_law 972 = .ok (.iload_n 3, 1) := by decide +kernel
theorem dL_law_973 : decode cL_law 973 = .ok (.iconst 1, 1) := by decide +kernel
theorem dL_law_974 : decode cL_law 974 = .ok (.iadd, 1) := by decide +kernel
theorem dL_law_975 : decode cL_law 975 = .ok (.iaload, 1) := by decide +kernel
theorem dL_law_976 : decode cL_law 976 = .ok (.invokevirtual 113, 3) := by decide +kernel
theorem dL_law_979 : decode cL_law 979 = .ok (.aload_n 2, 1) := by decide +kernel
theorem dL_law_980 : decode cL_law 980 = .ok (.aload_n 0, 1) := by decide +kernel
theorem dL_law_981 : decode cL_law 981 = .ok (.iload_n 3, 1) := by decide +kernel
theorem dL_law_982 : decode cL_law 982 = .ok (.iconst 1, 1) := by decide +kernel
theorem dL_law_983 : decode cL_law 983 = .ok (.iadd, 1) := by decide +kernel
theorem dL_law_984 : decode cL_law 984 = .ok (.iaload, 1) := by decide +kernel
theorem dL_law_985 : decode cL_law 985 = .ok (.invokevirtual 116, 3) := by decide +kernel
theorem dL_law_988 : decode cL_law 988 = .ok (.if_icmp .eq 108, 3) := by decide +kernel
theorem dL_law_991 : decode cL_law 991 = .ok (.iconst 0, 1) := by decide +kernel
theorem dL_law_992 : decode cL_law 992 = .ok (.ireturn, 1) := by decide +kernel
theorem dL_law_993 : decode cL_law 993 = .ok (.aload_n 1, 1) := by decide +kernel
theorem dL_law_994 : decode cL_law 994 = .ok (.aload_n 0, 1) := by decide +kernel
theorem dL_law_995 : decode cL_law 995 = .ok (.iload_n 3, 1) := by decide +kernel
theorem dL_law_996 : decode cL_law 996 = .ok (.iconst 1, 1) := by decide +kernel
theorem dL_law_997 : decode cL_law 997 = .ok (.iadd, 1) := by decide +kernel
theorem dL_law_998 : decode cL_law 998 = .ok (.iaload, 1) := by decide +kernel
theorem dL_law_999 : decode cL_law 999 = .ok (.invokevirtual 117, 3) := by decide +kernel
theorem dL_law_1002 : decode cL_law 1002 = .ok (.aload_n 2, 1) := by decide +kernel
theorem dL_law_1003 : decode cL_law 1003 = .ok (.aload_n 0, 1) := by decide +kernel
theorem dL_law_1004 : decode cL_law 1004 = .ok (.iload_n 3, 1) := by decide +kernel
theorem dL_law_1005 : decode cL_law 1005 = .ok (.iconst 1, 1) := by decide +kernel
theorem dL_law_1006 : decode cL_law 1006 = .ok (.iadd, 1) := by decide +kernel
theorem dL_law_1007 : decode cL_law 1007 = .ok (.iaload, 1) := by decide +kernel
theorem dL_law_1008 : decode cL_law 1008 = .ok (.invokevirtual 120, 3) := by decide +kernel
theorem dL_law_1011 : decode cL_law 1011 = .ok (.if_icmp .eq 85, 3) := by decide +kernel
theorem dL_law_1014 : decode cL_law 1014 = .ok (.iconst 0, 1) := by decide +kernel
theorem dL_law_1015 : decode cL_law 1015 = .ok (.ireturn, 1) := by decide +kernel
theorem dL_law_1016 : decode cL_law 1016 = .ok (.aload_n 1, 1) := by decide +kernel
theorem dL_law_1017 : decode cL_law 1017 = .ok (.aload_n 0, 1) := by decide +kernel
theorem dL_law_1018 : decode cL_law 1018 = .ok (.iload_n 3, 1) := by decide +kernel
theorem dL_law_1019 : decode cL_law 1019 = .ok (.iconst 1, 1) := by decide +kernel
theorem dL_law_1020 : decode cL_law 1020 = .ok (.iadd, 1) := by decide +kernel
theorem dL_law_1021 : decode cL_law 1021 = .ok (.iaload, 1) := by decide +kernel
theorem dL_law_1022 : decode cL_law 1022 = .ok (.aload_n 0, 1) := by decide +kernel
theorem dL_law_1023 : decode cL_law 1023 = .ok (.iload_n 3, 1) := by decide +kernel
theorem dL_law_1024 : decode cL_law 1024 = .ok (.iconst 2, 1) := by decide +kernel
theorem dL_law_1025 : decode cL_law 1025 = .ok (.iadd, 1) := by decide +kernel
theorem dL_law_1026 : decode cL_law 1026 = .ok (.iaload, 1) := by decide +kernel
theorem dL_law_1027 : decode cL_law 1027 = .ok (.aload_n 0, 1) := by decide +kernel
theorem dL_law_1028 : decode cL_law 1028 = .ok (.iload_n 3, 1) := by decide +kernel
theorem dL_law_1029 : decode cL_law 1029 = .ok (.iconst 3, 1) := by decide +kernel
theorem dL_law_1030 : decode cL_law 1030 = .ok (.iadd, 1) := by decide +kernel
theorem dL_law_1031 : decode cL_law 1031 = .ok (.iaload, 1) := by decide +kernel
theorem dL_law_1032 : decode cL_law 1032 = .ok (.invokevirtual 121, 3) := by decide +kernel
theorem dL_law_1035 : decode cL_law 1035 = .ok (.aload_n 2, 1) := by decide +kernel
theorem dL_law_1036 : decode cL_law 1036 = .ok (.aload_n 0, 1) := by decide +kernel
theorem dL_law_1037 : decode cL_law 1037 = .ok (.iload_n 3, 1) := by decide +kernel
theorem dL_law_1038 : decode cL_law 1038 = .ok (.iconst 1, 1) := by decide +kernel
theorem dL_law_1039 : decode cL_law 1039 = .ok (.iadd, 1) := by decide +kernel
theorem dL_law_1040 : decode cL_law 1040 = .ok (.iaload, 1) := by decide +kernel
theorem dL_law_1041 : decode cL_law 1041 = .ok (.aload_n 0, 1) := by decide +kernel
theorem dL_law_1042 : decode cL_law 1042 = .ok (.iload_n 3, 1) := by decide +kernel
theorem dL_law_1043 : decode cL_law 1043 = .ok (.iconst 2, 1) := by decide +kernel
theorem dL_law_1044 : decode cL_law 1044 = .ok (.iadd, 1) := by decide +kernel
theorem dL_law_1045 : decode cL_law 1045 = .ok (.iaload, 1) := by decide +kernel
theorem dL_law_1046 : decode cL_law 1046 = .ok (.aload_n 0, 1) := by decide +kernel
theorem dL_law_1047 : decode cL_law 1047 = .ok (.iload_n 3, 1) := by decide +kernel
theorem dL_law_1048 : decode cL_law 1048 = .ok (.iconst 3, 1) := by decide +kernel
theorem dL_law_1049 : decode cL_law 1049 = .ok (.iadd, 1) := by decide +kernel
theorem dL_law_1050 : decode cL_law 1050 = .ok (.iaload, 1) := by decide +kernel
theorem dL_law_1051 : decode cL_law 1051 = .ok (.invokevirtual 124, 3) := by decide +kernel
theorem dL_law_1054 : decode cL_law 1054 = .ok (.if_icmp .eq 42, 3) := by decide +kernel
theorem dL_law_1057 : decode cL_law 1057 = .ok (.iconst 0, 1) := by decide +kernel
theorem dL_law_1058 : decode cL_law 1058 = .ok (.ireturn, 1) := by decide +kernel
theorem dL_law_1059 : decode cL_law 1059 = .ok (.aload_n 1, 1) := by decide +kernel
theorem dL_law_1060 : decode cL_law 1060 = .ok (.aload_n 0, 1) := by decide +kernel
theorem dL_law_1061 : decode cL_law 1061 = .ok (.iload_n 3, 1) := by decide +kernel
theorem dL_law_1062 : decode cL_law 1062 = .ok (.iconst 1, 1) := by decide +kernel
theorem dL_law_1063 : decode cL_law 1063 = .ok (.iadd, 1) := by decide +kernel
theorem dL_law_1064 : decode cL_law 1064 = .ok (.iaload, 1) := by decide +kernel
theorem dL_law_1065 : decode cL_law 1065 = .ok (.invokevirtual 125, 3) := by decide +kernel
theorem dL_law_1068 : decode cL_law 1068 = .ok (.aload_n 2, 1) := by decide +kernel
theorem dL_law_1069 : decode cL_law 1069 = .ok (.aload_n 0, 1) := by decide +kernel
theorem dL_law_1070 : decode cL_law 1070 = .ok (.iload_n 3, 1) := by decide +kernel
theorem dL_law_1071 : decode cL_law 1071 = .ok (.iconst 1, 1) := by decide +kernel
theorem dL_law_1072 : decode cL_law 1072 = .ok (.iadd, 1) := by decide +kernel
theorem dL_law_1073 : decode cL_law 1073 = .ok (.iaload, 1) := by decide +kernel
theorem dL_law_1074 : decode cL_law 1074 = .ok (.invokevirtual 128, 3) := by decide +kernel
theorem dL_law_1077 : decode cL_law 1077 = .ok (.if_icmp .eq 19, 3) := by decide +kernel
theorem dL_law_1080 : decode cL_law 1080 = .ok (.iconst 0, 1) := by decide +kernel
theorem dL_law_1081 : decode cL_law 1081 = .ok (.ireturn, 1) := by decide +kernel
theorem dL_law_1082 : decode cL_law 1082 = .ok (.aload_n 1, 1) := by decide +kernel
theorem dL_law_1083 : decode cL_law 1083 = .ok (.invokevirtual 129, 3) := by decide +kernel
theorem dL_law_1086 : decode cL_law 1086 = .ok (.aload_n 2, 1) := by decide +kernel
theorem dL_law_1087 : decode cL_law 1087 = .ok (.invokevirtual 133, 3) := by decide +kernel
theorem dL_law_1090 : decode cL_law 1090 = .ok (.lcmp, 1) := by decide +kernel
theorem dL_law_1091 : decode cL_law 1091 = .ok (.ifCond .eq 5, 3) := by decide +kernel
theorem dL_law_1094 : decode cL_law 1094 = .ok (.iconst 0, 1) := by decide +kernel
theorem dL_law_1095 : decode cL_law 1095 = .ok (.ireturn, 1) := by decide +kernel
theorem dL_law_1096 : decode cL_law 1096 = .ok (.iinc 3 7, 3) := by decide +kernel
theorem dL_law_1099 : decode cL_law 1099 = .ok (.goto (-1081), 3) := by decide +kernel
theorem dL_law_1102 : decode cL_law 1102 = .ok (.iconst 1, 1) := by decide +kernel
theorem dL_law_1103 : decode cL_law 1103 = .ok (.ireturn, 1) := by decide +kernel
end
section
/-- the words that every contract takes: those of the tables that are kept from state to state -/
def WA : List Cond := lw_tbl.filter goodWord
theorem wa_of {w : Cond} (i : Nat) (h : lw_tbl[i]? = some w) (hg : goodWord w = true) : w ∈ WA := List.mem_filter.mpr ⟨List.mem_of_getElem? h, hg⟩
theorem wa_tbl {w : Cond} (h : w ∈ WA) : w ∈ lw_tbl := (List.mem_filter.mp h).1
theorem wa_good {w : Cond} (h : w ∈ WA) : goodWord w = true := (List.mem_filter.mp h).2
theorem wa_all (ws : List Cond) (ps : List Nat) (hp : ws = ps.filterMap (fun i => lw_tbl[i]?)) (h : ws.all goodWord = true) : ∀ w ∈ ws, w ∈ WA := by
  intro w hw
  have h1 := List.all_eq_true.mp h w hw
  rw [hp] at hw
  obtain ⟨i, -, hi⟩ := List.mem_filterMap.mp hw
  exact wa_of i hi h1
theorem cl_L_7 : (Cond.classLink RL 7 RX3 : Cond) ∈ WA := wa_of 60 (by decide +kernel) (by decide +kernel)
theorem ins_RX3 : (Cond.instantiable RX3 8 : Cond) ∈ WA := wa_of 61 (by decide +kernel) (by decide +kernel)
theorem ini_RX3 : (Cond.initialized RX3 : Cond) ∈ WA := wa_of 51 (by decide +kernel) (by decide +kernel)
theorem cl_L_10 : (Cond.classLink RL 10 RX4 : Cond) ∈ WA := wa_of 510 (by decide +kernel) (by decide +kernel)
theorem ins_RX4 : (Cond.instantiable RX4 10 : Cond) ∈ WA := wa_of 511 (by decide +kernel) (by decide +kernel)
theorem ini_RX4 : (Cond.initialized RX4 : Cond) ∈ WA := wa_of 54 (by decide +kernel) (by decide +kernel)
theorem ml_L_9 : (Cond.methodLink RL 9 yX3_init : Cond) ∈ WA := wa_of 62 (by decide +kernel) (by decide +kernel)
theorem im_X3_init : (Cond.instanceMethod yX3_init : Cond) ∈ WA := wa_of 63 (by decide +kernel) (by decide +kernel)
theorem co_X3_init : (Cond.code yX3_init cX3_init 1 none : Cond) ∈ WA := wa_of 64 (by decide +kernel) (by decide +kernel)
theorem ml_X3_1 : (Cond.methodLink RX3 1 objectInit : Cond) ∈ WA := wa_of 65 (by decide +kernel) (by decide +kernel)
theorem im_objectInit : (Cond.instanceMethod objectInit : Cond) ∈ WA := wa_of 66 (by decide +kernel) (by decide +kernel)
theorem co_objectInit : (Cond.code objectInit ⟨#[0xb1]⟩ 1 none : Cond) ∈ WA := wa_of 67 (by decide +kernel) (by decide +kernel)
theorem cl_X3_9 : (Cond.classLink RX3 9 RX0 : Cond) ∈ WA := wa_of 68 (by decide +kernel) (by decide +kernel)
theorem fl_X3_11 : (Cond.fieldLink RX3 11 "ShuffleMaps" "fields" "[LShuffleMaps$Field;" : Cond) ∈ WA := wa_of 175 (by decide +kernel) (by decide +kernel)
theorem cl_X3_15 : (Cond.classLink RX3 15 "[[I" : Cond) ∈ WA := wa_of 70 (by decide +kernel) (by decide +kernel)
theorem ac_int : (Cond.arrayClass .int : Cond) ∈ WA := wa_of 95 (by decide +kernel) (by decide +kernel)
theorem fl_X3_17 : (Cond.fieldLink RX3 17 "ShuffleMaps" "maps" "[[I" : Cond) ∈ WA := wa_of 176 (by decide +kernel) (by decide +kernel)
theorem fl_X3_20 : (Cond.fieldLink RX3 20 "ShuffleMaps" "spare" "[I" : Cond) ∈ WA := wa_of 177 (by decide +kernel) (by decide +kernel)
theorem fl_X3_24 : (Cond.fieldLink RX3 24 "ShuffleMaps" "tally" "[I" : Cond) ∈ WA := wa_of 178 (by decide +kernel) (by decide +kernel)
theorem cl_X3_27 : (Cond.classLink RX3 27 RX2 : Cond) ∈ WA := wa_of 72 (by decide +kernel) (by decide +kernel)
theorem ins_RX2 : (Cond.instantiable RX2 5 : Cond) ∈ WA := wa_of 73 (by decide +kernel) (by decide +kernel)
theorem ini_RX2 : (Cond.initialized RX2 : Cond) ∈ WA := wa_of 52 (by decide +kernel) (by decide +kernel)
theorem fl_X3_30 : (Cond.fieldLink RX3 30 "ShuffleMaps" "recipe" "LShuffleMaps$Recipe;" : Cond) ∈ WA := wa_of 179 (by decide +kernel) (by decide +kernel)
theorem im_X2_init : (Cond.instanceMethod yX2_init : Cond) ∈ WA := wa_of 75 (by decide +kernel) (by decide +kernel)
theorem co_X2_init : (Cond.code yX2_init cX2_init 1 none : Cond) ∈ WA := wa_of 76 (by decide +kernel) (by decide +kernel)
theorem ml_X2_3 : (Cond.methodLink RX2 3 objectInit : Cond) ∈ WA := wa_of 77 (by decide +kernel) (by decide +kernel)
theorem ml_X3_34 : (Cond.methodLink RX3 34 yX3_enter : Cond) ∈ WA := wa_of 96 (by decide +kernel) (by decide +kernel)
theorem im_X3_enter : (Cond.instanceMethod yX3_enter : Cond) ∈ WA := wa_of 98 (by decide +kernel) (by decide +kernel)
theorem se_X3_enter : (Cond.selects RX3 yX3_enter yX3_enter : Cond) ∈ WA := wa_of 0 (by decide +kernel) (by decide +kernel)
theorem co_X3_enter : (Cond.code yX3_enter cX3_enter 4 none : Cond) ∈ WA := wa_of 99 (by decide +kernel) (by decide +kernel)
theorem ins_RX0 : (Cond.instantiable RX0 9 : Cond) ∈ WA := wa_of 100 (by decide +kernel) (by decide +kernel)
theorem ini_RX0 : (Cond.initialized RX0 : Cond) ∈ WA := wa_of 53 (by decide +kernel) (by decide +kernel)
theorem fl_X3_49 : (Cond.fieldLink RX3 49 "ShuffleMaps" "here" "LShuffleMaps$Field;" : Cond) ∈ WA := wa_of 180 (by decide +kernel) (by decide +kernel)
theorem fl_X3_42 : (Cond.fieldLink RX3 42 "ShuffleMaps" "q" "I" : Cond) ∈ WA := wa_of 181 (by decide +kernel) (by decide +kernel)
theorem ml_X3_188 : (Cond.methodLink RX3 188 yX0_init : Cond) ∈ WA := wa_of 101 (by decide +kernel) (by decide +kernel)
theorem im_X0_init : (Cond.instanceMethod yX0_init : Cond) ∈ WA := wa_of 102 (by decide +kernel) (by decide +kernel)
theorem co_X0_init : (Cond.code yX0_init cX0_init 2 none : Cond) ∈ WA := wa_of 103 (by decide +kernel) (by decide +kernel)
theorem ml_X0_3 : (Cond.methodLink RX0 3 objectInit : Cond) ∈ WA := wa_of 104 (by decide +kernel) (by decide +kernel)
theorem fl_X0_9 : (Cond.fieldLink RX0 9 "ShuffleMaps$Field" "coefficients" "[I" : Cond) ∈ WA := wa_of 154 (by decide +kernel) (by decide +kernel)
theorem cl_X0_15 : (Cond.classLink RX0 15 RX1 : Cond) ∈ WA := wa_of 105 (by decide +kernel) (by decide +kernel)
theorem fl_X0_17 : (Cond.fieldLink RX0 17 "ShuffleMaps$Field" "listings" "[LShuffleMaps$Listing;" : Cond) ∈ WA := wa_of 155 (by decide +kernel) (by decide +kernel)
theorem fl_X0_21 : (Cond.fieldLink RX0 21 "ShuffleMaps$Field" "q" "I" : Cond) ∈ WA := wa_of 148 (by decide +kernel) (by decide +kernel)
theorem fl_X0_29 : (Cond.fieldLink RX0 29 "ShuffleMaps$Field" "p" "I" : Cond) ∈ WA := wa_of 146 (by decide +kernel) (by decide +kernel)
theorem fl_X0_32 : (Cond.fieldLink RX0 32 "ShuffleMaps$Field" "sums" "[I" : Cond) ∈ WA := wa_of 149 (by decide +kernel) (by decide +kernel)
theorem fl_X0_35 : (Cond.fieldLink RX0 35 "ShuffleMaps$Field" "products" "[I" : Cond) ∈ WA := wa_of 150 (by decide +kernel) (by decide +kernel)
theorem fl_X0_38 : (Cond.fieldLink RX0 38 "ShuffleMaps$Field" "powers" "[I" : Cond) ∈ WA := wa_of 151 (by decide +kernel) (by decide +kernel)
theorem fl_X0_41 : (Cond.fieldLink RX0 41 "ShuffleMaps$Field" "negatives" "[I" : Cond) ∈ WA := wa_of 152 (by decide +kernel) (by decide +kernel)
theorem fl_X0_44 : (Cond.fieldLink RX0 44 "ShuffleMaps$Field" "inverses" "[I" : Cond) ∈ WA := wa_of 153 (by decide +kernel) (by decide +kernel)
theorem ml_X0_25 : (Cond.methodLink RX0 25 yX0_primeOf : Cond) ∈ WA := wa_of 107 (by decide +kernel) (by decide +kernel)
theorem st_X0_primeOf : (Cond.static yX0_primeOf : Cond) ∈ WA := wa_of 108 (by decide +kernel) (by decide +kernel)
theorem co_X0_primeOf : (Cond.code yX0_primeOf cX0_primeOf 1 (some .int) : Cond) ∈ WA := wa_of 109 (by decide +kernel) (by decide +kernel)
theorem ml_X0_47 : (Cond.methodLink RX0 47 yX0_fillSums : Cond) ∈ WA := wa_of 110 (by decide +kernel) (by decide +kernel)
theorem im_X0_fillSums : (Cond.instanceMethod yX0_fillSums : Cond) ∈ WA := wa_of 112 (by decide +kernel) (by decide +kernel)
theorem se_X0_fillSums : (Cond.selects RX0 yX0_fillSums yX0_fillSums : Cond) ∈ WA := wa_of 1 (by decide +kernel) (by decide +kernel)
theorem co_X0_fillSums : (Cond.code yX0_fillSums cX0_fillSums 4 none : Cond) ∈ WA := wa_of 113 (by decide +kernel) (by decide +kernel)
theorem ml_X0_56 : (Cond.methodLink RX0 56 yX0_digitwise : Cond) ∈ WA := wa_of 114 (by decide +kernel) (by decide +kernel)
theorem im_X0_digitwise : (Cond.instanceMethod yX0_digitwise : Cond) ∈ WA := wa_of 116 (by decide +kernel) (by decide +kernel)
theorem se_X0_digitwise : (Cond.selects RX0 yX0_digitwise yX0_digitwise : Cond) ∈ WA := wa_of 2 (by decide +kernel) (by decide +kernel)
theorem co_X0_digitwise : (Cond.code yX0_digitwise cX0_digitwise 5 (some .int) : Cond) ∈ WA := wa_of 117 (by decide +kernel) (by decide +kernel)
theorem ml_X0_50 : (Cond.methodLink RX0 50 yX0_fillProducts : Cond) ∈ WA := wa_of 118 (by decide +kernel) (by decide +kernel)
theorem im_X0_fillProducts : (Cond.instanceMethod yX0_fillProducts : Cond) ∈ WA := wa_of 120 (by decide +kernel) (by decide +kernel)
theorem se_X0_fillProducts : (Cond.selects RX0 yX0_fillProducts yX0_fillProducts : Cond) ∈ WA := wa_of 3 (by decide +kernel) (by decide +kernel)
theorem co_X0_fillProducts : (Cond.code yX0_fillProducts cX0_fillProducts 4 none : Cond) ∈ WA := wa_of 121 (by decide +kernel) (by decide +kernel)
theorem ml_X0_60 : (Cond.methodLink RX0 60 yX0_polynomialProduct : Cond) ∈ WA := wa_of 122 (by decide +kernel) (by decide +kernel)
theorem im_X0_polynomialProduct : (Cond.instanceMethod yX0_polynomialProduct : Cond) ∈ WA := wa_of 124 (by decide +kernel) (by decide +kernel)
theorem se_X0_polynomialProduct : (Cond.selects RX0 yX0_polynomialProduct yX0_polynomialProduct : Cond) ∈ WA := wa_of 4 (by decide +kernel) (by decide +kernel)
theorem co_X0_polynomialProduct : (Cond.code yX0_polynomialProduct cX0_polynomialProduct 5 (some .int) : Cond) ∈ WA := wa_of 125 (by decide +kernel) (by decide +kernel)
theorem ml_X0_63 : (Cond.methodLink RX0 63 yX0_timesZ : Cond) ∈ WA := wa_of 126 (by decide +kernel) (by decide +kernel)
theorem im_X0_timesZ : (Cond.instanceMethod yX0_timesZ : Cond) ∈ WA := wa_of 128 (by decide +kernel) (by decide +kernel)
theorem se_X0_timesZ : (Cond.selects RX0 yX0_timesZ yX0_timesZ : Cond) ∈ WA := wa_of 5 (by decide +kernel) (by decide +kernel)
theorem co_X0_timesZ : (Cond.code yX0_timesZ cX0_timesZ 4 (some .int) : Cond) ∈ WA := wa_of 129 (by decide +kernel) (by decide +kernel)
theorem ml_X0_66 : (Cond.methodLink RX0 66 yX0_repeated : Cond) ∈ WA := wa_of 130 (by decide +kernel) (by decide +kernel)
theorem im_X0_repeated : (Cond.instanceMethod yX0_repeated : Cond) ∈ WA := wa_of 132 (by decide +kernel) (by decide +kernel)
theorem se_X0_repeated : (Cond.selects RX0 yX0_repeated yX0_repeated : Cond) ∈ WA := wa_of 6 (by decide +kernel) (by decide +kernel)
theorem co_X0_repeated : (Cond.code yX0_repeated cX0_repeated 5 (some .int) : Cond) ∈ WA := wa_of 133 (by decide +kernel) (by decide +kernel)
theorem ml_X0_69 : (Cond.methodLink RX0 69 yX0_sum : Cond) ∈ WA := wa_of 134 (by decide +kernel) (by decide +kernel)
theorem im_X0_sum : (Cond.instanceMethod yX0_sum : Cond) ∈ WA := wa_of 135 (by decide +kernel) (by decide +kernel)
theorem se_X0_sum : (Cond.selects RX0 yX0_sum yX0_sum : Cond) ∈ WA := wa_of 136 (by decide +kernel) (by decide +kernel)
theorem co_X0_sum : (Cond.code yX0_sum cX0_sum 3 (some .int) : Cond) ∈ WA := wa_of 137 (by decide +kernel) (by decide +kernel)
theorem ml_X0_53 : (Cond.methodLink RX0 53 yX0_fillPowers : Cond) ∈ WA := wa_of 138 (by decide +kernel) (by decide +kernel)
theorem im_X0_fillPowers : (Cond.instanceMethod yX0_fillPowers : Cond) ∈ WA := wa_of 140 (by decide +kernel) (by decide +kernel)
theorem se_X0_fillPowers : (Cond.selects RX0 yX0_fillPowers yX0_fillPowers : Cond) ∈ WA := wa_of 7 (by decide +kernel) (by decide +kernel)
theorem co_X0_fillPowers : (Cond.code yX0_fillPowers cX0_fillPowers 4 none : Cond) ∈ WA := wa_of 141 (by decide +kernel) (by decide +kernel)
theorem ml_X0_72 : (Cond.methodLink RX0 72 yX0_product : Cond) ∈ WA := wa_of 142 (by decide +kernel) (by decide +kernel)
theorem im_X0_product : (Cond.instanceMethod yX0_product : Cond) ∈ WA := wa_of 143 (by decide +kernel) (by decide +kernel)
theorem se_X0_product : (Cond.selects RX0 yX0_product yX0_product : Cond) ∈ WA := wa_of 144 (by decide +kernel) (by decide +kernel)
theorem co_X0_product : (Cond.code yX0_product cX0_product 3 (some .int) : Cond) ∈ WA := wa_of 145 (by decide +kernel) (by decide +kernel)
theorem ml_L_12 : (Cond.methodLink RL 12 yX4_init : Cond) ∈ WA := wa_of 512 (by decide +kernel) (by decide +kernel)
theorem im_X4_init : (Cond.instanceMethod yX4_init : Cond) ∈ WA := wa_of 513 (by decide +kernel) (by decide +kernel)
theorem co_X4_init : (Cond.code yX4_init cX4_init 1 none : Cond) ∈ WA := wa_of 514 (by decide +kernel) (by decide +kernel)
theorem ml_X4_1 : (Cond.methodLink RX4 1 objectInit : Cond) ∈ WA := wa_of 515 (by decide +kernel) (by decide +kernel)
theorem fl_X4_7 : (Cond.fieldLink RX4 7 "ShuffleMapsModel" "sums" "[I" : Cond) ∈ WA := wa_of 532 (by decide +kernel) (by decide +kernel)
theorem fl_X4_13 : (Cond.fieldLink RX4 13 "ShuffleMapsModel" "products" "[I" : Cond) ∈ WA := wa_of 533 (by decide +kernel) (by decide +kernel)
theorem fl_X4_16 : (Cond.fieldLink RX4 16 "ShuffleMapsModel" "maps" "[I" : Cond) ∈ WA := wa_of 534 (by decide +kernel) (by decide +kernel)
theorem fl_X4_19 : (Cond.fieldLink RX4 19 "ShuffleMapsModel" "row" "[I" : Cond) ∈ WA := wa_of 535 (by decide +kernel) (by decide +kernel)
theorem fl_X4_22 : (Cond.fieldLink RX4 22 "ShuffleMapsModel" "best" "[I" : Cond) ∈ WA := wa_of 536 (by decide +kernel) (by decide +kernel)
theorem fl_X4_25 : (Cond.fieldLink RX4 25 "ShuffleMapsModel" "digits" "[I" : Cond) ∈ WA := wa_of 537 (by decide +kernel) (by decide +kernel)
theorem ml_X4_28 : (Cond.methodLink RX4 28 yX4_begins : Cond) ∈ WA := wa_of 516 (by decide +kernel) (by decide +kernel)
theorem im_X4_begins : (Cond.instanceMethod yX4_begins : Cond) ∈ WA := wa_of 518 (by decide +kernel) (by decide +kernel)
theorem se_X4_begins : (Cond.selects RX4 yX4_begins yX4_begins : Cond) ∈ WA := wa_of 29 (by decide +kernel) (by decide +kernel)
theorem co_X4_begins : (Cond.code yX4_begins cX4_begins 4 none : Cond) ∈ WA := wa_of 519 (by decide +kernel) (by decide +kernel)
theorem fl_X4_39 : (Cond.fieldLink RX4 39 "ShuffleMapsModel" "q" "I" : Cond) ∈ WA := wa_of 530 (by decide +kernel) (by decide +kernel)
theorem fl_X4_36 : (Cond.fieldLink RX4 36 "ShuffleMapsModel" "p" "I" : Cond) ∈ WA := wa_of 531 (by decide +kernel) (by decide +kernel)
theorem ml_X4_42 : (Cond.methodLink RX4 42 yX4_sumOf : Cond) ∈ WA := wa_of 520 (by decide +kernel) (by decide +kernel)
theorem im_X4_sumOf : (Cond.instanceMethod yX4_sumOf : Cond) ∈ WA := wa_of 522 (by decide +kernel) (by decide +kernel)
theorem se_X4_sumOf : (Cond.selects RX4 yX4_sumOf yX4_sumOf : Cond) ∈ WA := wa_of 30 (by decide +kernel) (by decide +kernel)
theorem co_X4_sumOf : (Cond.code yX4_sumOf cX4_sumOf 7 (some .int) : Cond) ∈ WA := wa_of 523 (by decide +kernel) (by decide +kernel)
theorem ml_X4_46 : (Cond.methodLink RX4 46 yX4_productOf : Cond) ∈ WA := wa_of 524 (by decide +kernel) (by decide +kernel)
theorem im_X4_productOf : (Cond.instanceMethod yX4_productOf : Cond) ∈ WA := wa_of 526 (by decide +kernel) (by decide +kernel)
theorem se_X4_productOf : (Cond.selects RX4 yX4_productOf yX4_productOf : Cond) ∈ WA := wa_of 31 (by decide +kernel) (by decide +kernel)
theorem co_X4_productOf : (Cond.code yX4_productOf cX4_productOf 7 (some .int) : Cond) ∈ WA := wa_of 527 (by decide +kernel) (by decide +kernel)
theorem ml_L_13 : (Cond.methodLink RL 13 yX3_field : Cond) ∈ WA := wa_of 200 (by decide +kernel) (by decide +kernel)
theorem im_X3_field : (Cond.instanceMethod yX3_field : Cond) ∈ WA := wa_of 201 (by decide +kernel) (by decide +kernel)
theorem se_X3_field : (Cond.selects RX3 yX3_field yX3_field : Cond) ∈ WA := wa_of 202 (by decide +kernel) (by decide +kernel)
theorem co_X3_field : (Cond.code yX3_field cX3_field 3 (some .int) : Cond) ∈ WA := wa_of 203 (by decide +kernel) (by decide +kernel)
theorem ml_X3_38 : (Cond.methodLink RX3 38 yX3_isFieldSize : Cond) ∈ WA := wa_of 204 (by decide +kernel) (by decide +kernel)
theorem st_X3_isFieldSize : (Cond.static yX3_isFieldSize : Cond) ∈ WA := wa_of 205 (by decide +kernel) (by decide +kernel)
theorem co_X3_isFieldSize : (Cond.code yX3_isFieldSize cX3_isFieldSize 1 (some .boolean) : Cond) ∈ WA := wa_of 206 (by decide +kernel) (by decide +kernel)
theorem ml_L_17 : (Cond.methodLink RL 17 yX4_field : Cond) ∈ WA := wa_of 559 (by decide +kernel) (by decide +kernel)
theorem im_X4_field : (Cond.instanceMethod yX4_field : Cond) ∈ WA := wa_of 560 (by decide +kernel) (by decide +kernel)
theorem se_X4_field : (Cond.selects RX4 yX4_field yX4_field : Cond) ∈ WA := wa_of 561 (by decide +kernel) (by decide +kernel)
theorem co_X4_field : (Cond.code yX4_field cX4_field 3 (some .int) : Cond) ∈ WA := wa_of 562 (by decide +kernel) (by decide +kernel)
theorem fl_X4_32 : (Cond.fieldLink RX4 32 "ShuffleMapsModel" "thrown" "I" : Cond) ∈ WA := wa_of 528 (by decide +kernel) (by decide +kernel)
theorem ml_X4_52 : (Cond.methodLink RX4 52 yX4_in : Cond) ∈ WA := wa_of 563 (by decide +kernel) (by decide +kernel)
theorem st_X4_in : (Cond.static yX4_in : Cond) ∈ WA := wa_of 564 (by decide +kernel) (by decide +kernel)
theorem co_X4_in : (Cond.code yX4_in cX4_in 3 (some .boolean) : Cond) ∈ WA := wa_of 565 (by decide +kernel) (by decide +kernel)
theorem ml_L_18 : (Cond.methodLink RL 18 yX3_plus : Cond) ∈ WA := wa_of 207 (by decide +kernel) (by decide +kernel)
theorem im_X3_plus : (Cond.instanceMethod yX3_plus : Cond) ∈ WA := wa_of 208 (by decide +kernel) (by decide +kernel)
theorem se_X3_plus : (Cond.selects RX3 yX3_plus yX3_plus : Cond) ∈ WA := wa_of 209 (by decide +kernel) (by decide +kernel)
theorem co_X3_plus : (Cond.code yX3_plus cX3_plus 3 (some .int) : Cond) ∈ WA := wa_of 210 (by decide +kernel) (by decide +kernel)
theorem ml_X3_46 : (Cond.methodLink RX3 46 yX3_isNumber : Cond) ∈ WA := wa_of 211 (by decide +kernel) (by decide +kernel)
theorem im_X3_isNumber : (Cond.instanceMethod yX3_isNumber : Cond) ∈ WA := wa_of 213 (by decide +kernel) (by decide +kernel)
theorem se_X3_isNumber : (Cond.selects RX3 yX3_isNumber yX3_isNumber : Cond) ∈ WA := wa_of 8 (by decide +kernel) (by decide +kernel)
theorem co_X3_isNumber : (Cond.code yX3_isNumber cX3_isNumber 2 (some .boolean) : Cond) ∈ WA := wa_of 214 (by decide +kernel) (by decide +kernel)
theorem ml_X3_53 : (Cond.methodLink RX3 53 yX0_sum : Cond) ∈ WA := wa_of 215 (by decide +kernel) (by decide +kernel)
theorem ml_L_22 : (Cond.methodLink RL 22 yX4_plus : Cond) ∈ WA := wa_of 566 (by decide +kernel) (by decide +kernel)
theorem im_X4_plus : (Cond.instanceMethod yX4_plus : Cond) ∈ WA := wa_of 567 (by decide +kernel) (by decide +kernel)
theorem se_X4_plus : (Cond.selects RX4 yX4_plus yX4_plus : Cond) ∈ WA := wa_of 568 (by decide +kernel) (by decide +kernel)
theorem co_X4_plus : (Cond.code yX4_plus cX4_plus 3 (some .int) : Cond) ∈ WA := wa_of 569 (by decide +kernel) (by decide +kernel)
theorem ml_X4_59 : (Cond.methodLink RX4 59 yX4_isNumber : Cond) ∈ WA := wa_of 570 (by decide +kernel) (by decide +kernel)
theorem im_X4_isNumber : (Cond.instanceMethod yX4_isNumber : Cond) ∈ WA := wa_of 572 (by decide +kernel) (by decide +kernel)
theorem se_X4_isNumber : (Cond.selects RX4 yX4_isNumber yX4_isNumber : Cond) ∈ WA := wa_of 32 (by decide +kernel) (by decide +kernel)
theorem co_X4_isNumber : (Cond.code yX4_isNumber cX4_isNumber 2 (some .boolean) : Cond) ∈ WA := wa_of 573 (by decide +kernel) (by decide +kernel)
theorem ml_X4_49 : (Cond.methodLink RX4 49 yX4_add : Cond) ∈ WA := wa_of 574 (by decide +kernel) (by decide +kernel)
theorem im_X4_add : (Cond.instanceMethod yX4_add : Cond) ∈ WA := wa_of 576 (by decide +kernel) (by decide +kernel)
theorem se_X4_add : (Cond.selects RX4 yX4_add yX4_add : Cond) ∈ WA := wa_of 33 (by decide +kernel) (by decide +kernel)
theorem co_X4_add : (Cond.code yX4_add cX4_add 3 (some .int) : Cond) ∈ WA := wa_of 577 (by decide +kernel) (by decide +kernel)
theorem ml_L_23 : (Cond.methodLink RL 23 yX3_times : Cond) ∈ WA := wa_of 216 (by decide +kernel) (by decide +kernel)
theorem im_X3_times : (Cond.instanceMethod yX3_times : Cond) ∈ WA := wa_of 217 (by decide +kernel) (by decide +kernel)
theorem se_X3_times : (Cond.selects RX3 yX3_times yX3_times : Cond) ∈ WA := wa_of 218 (by decide +kernel) (by decide +kernel)
theorem co_X3_times : (Cond.code yX3_times cX3_times 3 (some .int) : Cond) ∈ WA := wa_of 219 (by decide +kernel) (by decide +kernel)
theorem ml_X3_57 : (Cond.methodLink RX3 57 yX0_product : Cond) ∈ WA := wa_of 220 (by decide +kernel) (by decide +kernel)
theorem ml_L_26 : (Cond.methodLink RL 26 yX4_times : Cond) ∈ WA := wa_of 578 (by decide +kernel) (by decide +kernel)
theorem im_X4_times : (Cond.instanceMethod yX4_times : Cond) ∈ WA := wa_of 579 (by decide +kernel) (by decide +kernel)
theorem se_X4_times : (Cond.selects RX4 yX4_times yX4_times : Cond) ∈ WA := wa_of 580 (by decide +kernel) (by decide +kernel)
theorem co_X4_times : (Cond.code yX4_times cX4_times 3 (some .int) : Cond) ∈ WA := wa_of 581 (by decide +kernel) (by decide +kernel)
theorem ml_X4_56 : (Cond.methodLink RX4 56 yX4_by : Cond) ∈ WA := wa_of 582 (by decide +kernel) (by decide +kernel)
theorem im_X4_by : (Cond.instanceMethod yX4_by : Cond) ∈ WA := wa_of 584 (by decide +kernel) (by decide +kernel)
theorem se_X4_by : (Cond.selects RX4 yX4_by yX4_by : Cond) ∈ WA := wa_of 34 (by decide +kernel) (by decide +kernel)
theorem co_X4_by : (Cond.code yX4_by cX4_by 3 (some .int) : Cond) ∈ WA := wa_of 585 (by decide +kernel) (by decide +kernel)
theorem ml_L_27 : (Cond.methodLink RL 27 yX3_over : Cond) ∈ WA := wa_of 221 (by decide +kernel) (by decide +kernel)
theorem im_X3_over : (Cond.instanceMethod yX3_over : Cond) ∈ WA := wa_of 222 (by decide +kernel) (by decide +kernel)
theorem se_X3_over : (Cond.selects RX3 yX3_over yX3_over : Cond) ∈ WA := wa_of 223 (by decide +kernel) (by decide +kernel)
theorem co_X3_over : (Cond.code yX3_over cX3_over 2 (some .int) : Cond) ∈ WA := wa_of 224 (by decide +kernel) (by decide +kernel)
theorem ml_X3_60 : (Cond.methodLink RX3 60 yX0_inverse : Cond) ∈ WA := wa_of 225 (by decide +kernel) (by decide +kernel)
theorem im_X0_inverse : (Cond.instanceMethod yX0_inverse : Cond) ∈ WA := wa_of 226 (by decide +kernel) (by decide +kernel)
theorem se_X0_inverse : (Cond.selects RX0 yX0_inverse yX0_inverse : Cond) ∈ WA := wa_of 227 (by decide +kernel) (by decide +kernel)
theorem co_X0_inverse : (Cond.code yX0_inverse cX0_inverse 2 (some .int) : Cond) ∈ WA := wa_of 228 (by decide +kernel) (by decide +kernel)
theorem ml_L_30 : (Cond.methodLink RL 30 yX4_over : Cond) ∈ WA := wa_of 586 (by decide +kernel) (by decide +kernel)
theorem im_X4_over : (Cond.instanceMethod yX4_over : Cond) ∈ WA := wa_of 587 (by decide +kernel) (by decide +kernel)
theorem se_X4_over : (Cond.selects RX4 yX4_over yX4_over : Cond) ∈ WA := wa_of 588 (by decide +kernel) (by decide +kernel)
theorem co_X4_over : (Cond.code yX4_over cX4_over 3 (some .int) : Cond) ∈ WA := wa_of 589 (by decide +kernel) (by decide +kernel)
theorem ml_L_31 : (Cond.methodLink RL 31 yX3_set : Cond) ∈ WA := wa_of 229 (by decide +kernel) (by decide +kernel)
theorem im_X3_set : (Cond.instanceMethod yX3_set : Cond) ∈ WA := wa_of 230 (by decide +kernel) (by decide +kernel)
theorem se_X3_set : (Cond.selects RX3 yX3_set yX3_set : Cond) ∈ WA := wa_of 231 (by decide +kernel) (by decide +kernel)
theorem co_X3_set : (Cond.code yX3_set cX3_set 5 (some .int) : Cond) ∈ WA := wa_of 232 (by decide +kernel) (by decide +kernel)
theorem ml_X3_64 : (Cond.methodLink RX3 64 yX3_isMap : Cond) ∈ WA := wa_of 233 (by decide +kernel) (by decide +kernel)
theorem st_X3_isMap : (Cond.static yX3_isMap : Cond) ∈ WA := wa_of 234 (by decide +kernel) (by decide +kernel)
theorem co_X3_isMap : (Cond.code yX3_isMap cX3_isMap 1 (some .boolean) : Cond) ∈ WA := wa_of 235 (by decide +kernel) (by decide +kernel)
theorem ml_L_35 : (Cond.methodLink RL 35 yX4_set : Cond) ∈ WA := wa_of 590 (by decide +kernel) (by decide +kernel)
theorem im_X4_set : (Cond.instanceMethod yX4_set : Cond) ∈ WA := wa_of 591 (by decide +kernel) (by decide +kernel)
theorem se_X4_set : (Cond.selects RX4 yX4_set yX4_set : Cond) ∈ WA := wa_of 592 (by decide +kernel) (by decide +kernel)
theorem co_X4_set : (Cond.code yX4_set cX4_set 5 (some .int) : Cond) ∈ WA := wa_of 593 (by decide +kernel) (by decide +kernel)
theorem ml_X4_63 : (Cond.methodLink RX4 63 yX4_isMap : Cond) ∈ WA := wa_of 594 (by decide +kernel) (by decide +kernel)
theorem st_X4_isMap : (Cond.static yX4_isMap : Cond) ∈ WA := wa_of 595 (by decide +kernel) (by decide +kernel)
theorem co_X4_isMap : (Cond.code yX4_isMap cX4_isMap 1 (some .boolean) : Cond) ∈ WA := wa_of 596 (by decide +kernel) (by decide +kernel)
theorem ml_L_36 : (Cond.methodLink RL 36 yX3_at : Cond) ∈ WA := wa_of 236 (by decide +kernel) (by decide +kernel)
theorem im_X3_at : (Cond.instanceMethod yX3_at : Cond) ∈ WA := wa_of 237 (by decide +kernel) (by decide +kernel)
theorem se_X3_at : (Cond.selects RX3 yX3_at yX3_at : Cond) ∈ WA := wa_of 238 (by decide +kernel) (by decide +kernel)
theorem co_X3_at : (Cond.code yX3_at cX3_at 3 (some .int) : Cond) ∈ WA := wa_of 239 (by decide +kernel) (by decide +kernel)
theorem ml_L_39 : (Cond.methodLink RL 39 yX4_at : Cond) ∈ WA := wa_of 597 (by decide +kernel) (by decide +kernel)
theorem im_X4_at : (Cond.instanceMethod yX4_at : Cond) ∈ WA := wa_of 598 (by decide +kernel) (by decide +kernel)
theorem se_X4_at : (Cond.selects RX4 yX4_at yX4_at : Cond) ∈ WA := wa_of 599 (by decide +kernel) (by decide +kernel)
theorem co_X4_at : (Cond.code yX4_at cX4_at 3 (some .int) : Cond) ∈ WA := wa_of 600 (by decide +kernel) (by decide +kernel)
theorem ml_L_40 : (Cond.methodLink RL 40 yX3_coefficient : Cond) ∈ WA := wa_of 240 (by decide +kernel) (by decide +kernel)
theorem im_X3_coefficient : (Cond.instanceMethod yX3_coefficient : Cond) ∈ WA := wa_of 241 (by decide +kernel) (by decide +kernel)
theorem se_X3_coefficient : (Cond.selects RX3 yX3_coefficient yX3_coefficient : Cond) ∈ WA := wa_of 242 (by decide +kernel) (by decide +kernel)
theorem co_X3_coefficient : (Cond.code yX3_coefficient cX3_coefficient 3 (some .int) : Cond) ∈ WA := wa_of 243 (by decide +kernel) (by decide +kernel)
theorem ml_X3_67 : (Cond.methodLink RX3 67 yX3_coefficientOf : Cond) ∈ WA := wa_of 244 (by decide +kernel) (by decide +kernel)
theorem im_X3_coefficientOf : (Cond.instanceMethod yX3_coefficientOf : Cond) ∈ WA := wa_of 246 (by decide +kernel) (by decide +kernel)
theorem se_X3_coefficientOf : (Cond.selects RX3 yX3_coefficientOf yX3_coefficientOf : Cond) ∈ WA := wa_of 9 (by decide +kernel) (by decide +kernel)
theorem co_X3_coefficientOf : (Cond.code yX3_coefficientOf cX3_coefficientOf 5 (some .int) : Cond) ∈ WA := wa_of 247 (by decide +kernel) (by decide +kernel)
theorem ml_X3_74 : (Cond.methodLink RX3 74 yX0_raised : Cond) ∈ WA := wa_of 248 (by decide +kernel) (by decide +kernel)
theorem im_X0_raised : (Cond.instanceMethod yX0_raised : Cond) ∈ WA := wa_of 249 (by decide +kernel) (by decide +kernel)
theorem se_X0_raised : (Cond.selects RX0 yX0_raised yX0_raised : Cond) ∈ WA := wa_of 250 (by decide +kernel) (by decide +kernel)
theorem co_X0_raised : (Cond.code yX0_raised cX0_raised 3 (some .int) : Cond) ∈ WA := wa_of 251 (by decide +kernel) (by decide +kernel)
theorem ml_X3_71 : (Cond.methodLink RX3 71 yX0_less : Cond) ∈ WA := wa_of 252 (by decide +kernel) (by decide +kernel)
theorem im_X0_less : (Cond.instanceMethod yX0_less : Cond) ∈ WA := wa_of 253 (by decide +kernel) (by decide +kernel)
theorem se_X0_less : (Cond.selects RX0 yX0_less yX0_less : Cond) ∈ WA := wa_of 254 (by decide +kernel) (by decide +kernel)
theorem co_X0_less : (Cond.code yX0_less cX0_less 3 (some .int) : Cond) ∈ WA := wa_of 255 (by decide +kernel) (by decide +kernel)
theorem ml_L_43 : (Cond.methodLink RL 43 yX4_coefficient : Cond) ∈ WA := wa_of 601 (by decide +kernel) (by decide +kernel)
theorem im_X4_coefficient : (Cond.instanceMethod yX4_coefficient : Cond) ∈ WA := wa_of 602 (by decide +kernel) (by decide +kernel)
theorem se_X4_coefficient : (Cond.selects RX4 yX4_coefficient yX4_coefficient : Cond) ∈ WA := wa_of 603 (by decide +kernel) (by decide +kernel)
theorem co_X4_coefficient : (Cond.code yX4_coefficient cX4_coefficient 3 (some .int) : Cond) ∈ WA := wa_of 604 (by decide +kernel) (by decide +kernel)
theorem ml_X4_73 : (Cond.methodLink RX4 73 yX4_coefficientOf : Cond) ∈ WA := wa_of 605 (by decide +kernel) (by decide +kernel)
theorem im_X4_coefficientOf : (Cond.instanceMethod yX4_coefficientOf : Cond) ∈ WA := wa_of 607 (by decide +kernel) (by decide +kernel)
theorem se_X4_coefficientOf : (Cond.selects RX4 yX4_coefficientOf yX4_coefficientOf : Cond) ∈ WA := wa_of 35 (by decide +kernel) (by decide +kernel)
theorem co_X4_coefficientOf : (Cond.code yX4_coefficientOf cX4_coefficientOf 5 (some .int) : Cond) ∈ WA := wa_of 608 (by decide +kernel) (by decide +kernel)
theorem ml_X4_66 : (Cond.methodLink RX4 66 yX4_power : Cond) ∈ WA := wa_of 609 (by decide +kernel) (by decide +kernel)
theorem im_X4_power : (Cond.instanceMethod yX4_power : Cond) ∈ WA := wa_of 611 (by decide +kernel) (by decide +kernel)
theorem se_X4_power : (Cond.selects RX4 yX4_power yX4_power : Cond) ∈ WA := wa_of 36 (by decide +kernel) (by decide +kernel)
theorem co_X4_power : (Cond.code yX4_power cX4_power 5 (some .int) : Cond) ∈ WA := wa_of 612 (by decide +kernel) (by decide +kernel)
theorem ml_X4_69 : (Cond.methodLink RX4 69 yX4_minus : Cond) ∈ WA := wa_of 613 (by decide +kernel) (by decide +kernel)
theorem im_X4_minus : (Cond.instanceMethod yX4_minus : Cond) ∈ WA := wa_of 615 (by decide +kernel) (by decide +kernel)
theorem se_X4_minus : (Cond.selects RX4 yX4_minus yX4_minus : Cond) ∈ WA := wa_of 37 (by decide +kernel) (by decide +kernel)
theorem co_X4_minus : (Cond.code yX4_minus cX4_minus 3 (some .int) : Cond) ∈ WA := wa_of 616 (by decide +kernel) (by decide +kernel)
theorem ml_L_44 : (Cond.methodLink RL 44 yX3_change : Cond) ∈ WA := wa_of 256 (by decide +kernel) (by decide +kernel)
theorem im_X3_change : (Cond.instanceMethod yX3_change : Cond) ∈ WA := wa_of 257 (by decide +kernel) (by decide +kernel)
theorem se_X3_change : (Cond.selects RX3 yX3_change yX3_change : Cond) ∈ WA := wa_of 258 (by decide +kernel) (by decide +kernel)
theorem co_X3_change : (Cond.code yX3_change cX3_change 8 (some .int) : Cond) ∈ WA := wa_of 259 (by decide +kernel) (by decide +kernel)
theorem ml_L_47 : (Cond.methodLink RL 47 yX4_change : Cond) ∈ WA := wa_of 617 (by decide +kernel) (by decide +kernel)
theorem im_X4_change : (Cond.instanceMethod yX4_change : Cond) ∈ WA := wa_of 618 (by decide +kernel) (by decide +kernel)
theorem se_X4_change : (Cond.selects RX4 yX4_change yX4_change : Cond) ∈ WA := wa_of 619 (by decide +kernel) (by decide +kernel)
theorem co_X4_change : (Cond.code yX4_change cX4_change 7 (some .int) : Cond) ∈ WA := wa_of 620 (by decide +kernel) (by decide +kernel)
theorem ml_L_48 : (Cond.methodLink RL 48 yX3_degree : Cond) ∈ WA := wa_of 260 (by decide +kernel) (by decide +kernel)
theorem im_X3_degree : (Cond.instanceMethod yX3_degree : Cond) ∈ WA := wa_of 261 (by decide +kernel) (by decide +kernel)
theorem se_X3_degree : (Cond.selects RX3 yX3_degree yX3_degree : Cond) ∈ WA := wa_of 262 (by decide +kernel) (by decide +kernel)
theorem co_X3_degree : (Cond.code yX3_degree cX3_degree 3 (some .int) : Cond) ∈ WA := wa_of 263 (by decide +kernel) (by decide +kernel)
theorem ml_L_51 : (Cond.methodLink RL 51 yX4_degree : Cond) ∈ WA := wa_of 621 (by decide +kernel) (by decide +kernel)
theorem im_X4_degree : (Cond.instanceMethod yX4_degree : Cond) ∈ WA := wa_of 622 (by decide +kernel) (by decide +kernel)
theorem se_X4_degree : (Cond.selects RX4 yX4_degree yX4_degree : Cond) ∈ WA := wa_of 623 (by decide +kernel) (by decide +kernel)
theorem co_X4_degree : (Cond.code yX4_degree cX4_degree 3 (some .int) : Cond) ∈ WA := wa_of 624 (by decide +kernel) (by decide +kernel)
theorem ml_L_52 : (Cond.methodLink RL 52 yX3_make : Cond) ∈ WA := wa_of 264 (by decide +kernel) (by decide +kernel)
theorem im_X3_make : (Cond.instanceMethod yX3_make : Cond) ∈ WA := wa_of 265 (by decide +kernel) (by decide +kernel)
theorem se_X3_make : (Cond.selects RX3 yX3_make yX3_make : Cond) ∈ WA := wa_of 266 (by decide +kernel) (by decide +kernel)
theorem co_X3_make : (Cond.code yX3_make cX3_make 8 (some .int) : Cond) ∈ WA := wa_of 267 (by decide +kernel) (by decide +kernel)
theorem ml_X3_77 : (Cond.methodLink RX3 77 yX3_isRecipe : Cond) ∈ WA := wa_of 268 (by decide +kernel) (by decide +kernel)
theorem im_X3_isRecipe : (Cond.instanceMethod yX3_isRecipe : Cond) ∈ WA := wa_of 270 (by decide +kernel) (by decide +kernel)
theorem se_X3_isRecipe : (Cond.selects RX3 yX3_isRecipe yX3_isRecipe : Cond) ∈ WA := wa_of 10 (by decide +kernel) (by decide +kernel)
theorem co_X3_isRecipe : (Cond.code yX3_isRecipe cX3_isRecipe 6 (some .boolean) : Cond) ∈ WA := wa_of 271 (by decide +kernel) (by decide +kernel)
theorem ml_X3_81 : (Cond.methodLink RX3 81 yX2_write : Cond) ∈ WA := wa_of 272 (by decide +kernel) (by decide +kernel)
theorem im_X2_write : (Cond.instanceMethod yX2_write : Cond) ∈ WA := wa_of 273 (by decide +kernel) (by decide +kernel)
theorem se_X2_write : (Cond.selects RX2 yX2_write yX2_write : Cond) ∈ WA := wa_of 274 (by decide +kernel) (by decide +kernel)
theorem co_X2_write : (Cond.code yX2_write cX2_write 5 none : Cond) ∈ WA := wa_of 275 (by decide +kernel) (by decide +kernel)
theorem fl_X2_9 : (Cond.fieldLink RX2 9 "ShuffleMaps$Recipe" "e" "I" : Cond) ∈ WA := wa_of 78 (by decide +kernel) (by decide +kernel)
theorem fl_X2_15 : (Cond.fieldLink RX2 15 "ShuffleMaps$Recipe" "a" "I" : Cond) ∈ WA := wa_of 79 (by decide +kernel) (by decide +kernel)
theorem fl_X2_18 : (Cond.fieldLink RX2 18 "ShuffleMaps$Recipe" "b" "I" : Cond) ∈ WA := wa_of 80 (by decide +kernel) (by decide +kernel)
theorem fl_X2_21 : (Cond.fieldLink RX2 21 "ShuffleMaps$Recipe" "c" "I" : Cond) ∈ WA := wa_of 81 (by decide +kernel) (by decide +kernel)
theorem fl_X2_24 : (Cond.fieldLink RX2 24 "ShuffleMaps$Recipe" "asked" "I" : Cond) ∈ WA := wa_of 82 (by decide +kernel) (by decide +kernel)
theorem ml_X3_85 : (Cond.methodLink RX3 85 yX2_takes : Cond) ∈ WA := wa_of 276 (by decide +kernel) (by decide +kernel)
theorem im_X2_takes : (Cond.instanceMethod yX2_takes : Cond) ∈ WA := wa_of 277 (by decide +kernel) (by decide +kernel)
theorem se_X2_takes : (Cond.selects RX2 yX2_takes yX2_takes : Cond) ∈ WA := wa_of 278 (by decide +kernel) (by decide +kernel)
theorem co_X2_takes : (Cond.code yX2_takes cX2_takes 4 (some .int) : Cond) ∈ WA := wa_of 279 (by decide +kernel) (by decide +kernel)
theorem ml_X2_27 : (Cond.methodLink RX2 27 yX2_power : Cond) ∈ WA := wa_of 280 (by decide +kernel) (by decide +kernel)
theorem im_X2_power : (Cond.instanceMethod yX2_power : Cond) ∈ WA := wa_of 282 (by decide +kernel) (by decide +kernel)
theorem se_X2_power : (Cond.selects RX2 yX2_power yX2_power : Cond) ∈ WA := wa_of 11 (by decide +kernel) (by decide +kernel)
theorem co_X2_power : (Cond.code yX2_power cX2_power 3 (some .int) : Cond) ∈ WA := wa_of 283 (by decide +kernel) (by decide +kernel)
theorem ml_X2_37 : (Cond.methodLink RX2 37 yX0_raised : Cond) ∈ WA := wa_of 284 (by decide +kernel) (by decide +kernel)
theorem ml_X2_31 : (Cond.methodLink RX2 31 yX2_dressed : Cond) ∈ WA := wa_of 285 (by decide +kernel) (by decide +kernel)
theorem im_X2_dressed : (Cond.instanceMethod yX2_dressed : Cond) ∈ WA := wa_of 287 (by decide +kernel) (by decide +kernel)
theorem se_X2_dressed : (Cond.selects RX2 yX2_dressed yX2_dressed : Cond) ∈ WA := wa_of 12 (by decide +kernel) (by decide +kernel)
theorem co_X2_dressed : (Cond.code yX2_dressed cX2_dressed 3 (some .int) : Cond) ∈ WA := wa_of 288 (by decide +kernel) (by decide +kernel)
theorem ml_X2_43 : (Cond.methodLink RX2 43 yX0_sum : Cond) ∈ WA := wa_of 289 (by decide +kernel) (by decide +kernel)
theorem ml_X2_46 : (Cond.methodLink RX2 46 yX0_product : Cond) ∈ WA := wa_of 290 (by decide +kernel) (by decide +kernel)
theorem ml_X2_34 : (Cond.methodLink RX2 34 yX2_twice : Cond) ∈ WA := wa_of 291 (by decide +kernel) (by decide +kernel)
theorem im_X2_twice : (Cond.instanceMethod yX2_twice : Cond) ∈ WA := wa_of 293 (by decide +kernel) (by decide +kernel)
theorem se_X2_twice : (Cond.selects RX2 yX2_twice yX2_twice : Cond) ∈ WA := wa_of 13 (by decide +kernel) (by decide +kernel)
theorem co_X2_twice : (Cond.code yX2_twice cX2_twice 3 (some .int) : Cond) ∈ WA := wa_of 294 (by decide +kernel) (by decide +kernel)
theorem ml_L_56 : (Cond.methodLink RL 56 yX4_make : Cond) ∈ WA := wa_of 625 (by decide +kernel) (by decide +kernel)
theorem im_X4_make : (Cond.instanceMethod yX4_make : Cond) ∈ WA := wa_of 626 (by decide +kernel) (by decide +kernel)
theorem se_X4_make : (Cond.selects RX4 yX4_make yX4_make : Cond) ∈ WA := wa_of 627 (by decide +kernel) (by decide +kernel)
theorem co_X4_make : (Cond.code yX4_make cX4_make 8 (some .int) : Cond) ∈ WA := wa_of 628 (by decide +kernel) (by decide +kernel)
theorem ml_X4_80 : (Cond.methodLink RX4 80 yX4_isRecipe : Cond) ∈ WA := wa_of 629 (by decide +kernel) (by decide +kernel)
theorem im_X4_isRecipe : (Cond.instanceMethod yX4_isRecipe : Cond) ∈ WA := wa_of 631 (by decide +kernel) (by decide +kernel)
theorem se_X4_isRecipe : (Cond.selects RX4 yX4_isRecipe yX4_isRecipe : Cond) ∈ WA := wa_of 38 (by decide +kernel) (by decide +kernel)
theorem co_X4_isRecipe : (Cond.code yX4_isRecipe cX4_isRecipe 6 (some .boolean) : Cond) ∈ WA := wa_of 632 (by decide +kernel) (by decide +kernel)
theorem ml_X4_84 : (Cond.methodLink RX4 84 yX4_tasteOf : Cond) ∈ WA := wa_of 633 (by decide +kernel) (by decide +kernel)
theorem im_X4_tasteOf : (Cond.instanceMethod yX4_tasteOf : Cond) ∈ WA := wa_of 635 (by decide +kernel) (by decide +kernel)
theorem se_X4_tasteOf : (Cond.selects RX4 yX4_tasteOf yX4_tasteOf : Cond) ∈ WA := wa_of 39 (by decide +kernel) (by decide +kernel)
theorem co_X4_tasteOf : (Cond.code yX4_tasteOf cX4_tasteOf 8 (some .int) : Cond) ∈ WA := wa_of 636 (by decide +kernel) (by decide +kernel)
theorem ml_X4_76 : (Cond.methodLink RX4 76 yX4_dressed : Cond) ∈ WA := wa_of 637 (by decide +kernel) (by decide +kernel)
theorem im_X4_dressed : (Cond.instanceMethod yX4_dressed : Cond) ∈ WA := wa_of 639 (by decide +kernel) (by decide +kernel)
theorem se_X4_dressed : (Cond.selects RX4 yX4_dressed yX4_dressed : Cond) ∈ WA := wa_of 40 (by decide +kernel) (by decide +kernel)
theorem co_X4_dressed : (Cond.code yX4_dressed cX4_dressed 6 (some .int) : Cond) ∈ WA := wa_of 640 (by decide +kernel) (by decide +kernel)
theorem ml_L_57 : (Cond.methodLink RL 57 yX3_taste : Cond) ∈ WA := wa_of 295 (by decide +kernel) (by decide +kernel)
theorem im_X3_taste : (Cond.instanceMethod yX3_taste : Cond) ∈ WA := wa_of 296 (by decide +kernel) (by decide +kernel)
theorem se_X3_taste : (Cond.selects RX3 yX3_taste yX3_taste : Cond) ∈ WA := wa_of 297 (by decide +kernel) (by decide +kernel)
theorem co_X3_taste : (Cond.code yX3_taste cX3_taste 8 (some .int) : Cond) ∈ WA := wa_of 298 (by decide +kernel) (by decide +kernel)
theorem fl_X3_89 : (Cond.fieldLink RX3 89 "ShuffleMaps" "asked" "J" : Cond) ∈ WA := wa_of 182 (by decide +kernel) (by decide +kernel)
theorem fl_X3_93 : (Cond.fieldLink RX3 93 "ShuffleMaps$Recipe" "asked" "I" : Cond) ∈ WA := wa_of 83 (by decide +kernel) (by decide +kernel)
theorem ml_L_60 : (Cond.methodLink RL 60 yX4_taste : Cond) ∈ WA := wa_of 641 (by decide +kernel) (by decide +kernel)
theorem im_X4_taste : (Cond.instanceMethod yX4_taste : Cond) ∈ WA := wa_of 642 (by decide +kernel) (by decide +kernel)
theorem se_X4_taste : (Cond.selects RX4 yX4_taste yX4_taste : Cond) ∈ WA := wa_of 643 (by decide +kernel) (by decide +kernel)
theorem co_X4_taste : (Cond.code yX4_taste cX4_taste 7 (some .int) : Cond) ∈ WA := wa_of 644 (by decide +kernel) (by decide +kernel)
theorem fl_X4_88 : (Cond.fieldLink RX4 88 "ShuffleMapsModel" "trace" "J" : Cond) ∈ WA := wa_of 529 (by decide +kernel) (by decide +kernel)
theorem cs_X4_92 : (Cond.constantLong RX4 92 (11) : Cond) ∈ WA := wa_of 645 (by decide +kernel) (by decide +kernel)
theorem cs_X4_94 : (Cond.constantLong RX4 94 (122) : Cond) ∈ WA := wa_of 646 (by decide +kernel) (by decide +kernel)
theorem ml_L_61 : (Cond.methodLink RL 61 yX3_chain : Cond) ∈ WA := wa_of 299 (by decide +kernel) (by decide +kernel)
theorem im_X3_chain : (Cond.instanceMethod yX3_chain : Cond) ∈ WA := wa_of 300 (by decide +kernel) (by decide +kernel)
theorem se_X3_chain : (Cond.selects RX3 yX3_chain yX3_chain : Cond) ∈ WA := wa_of 301 (by decide +kernel) (by decide +kernel)
theorem co_X3_chain : (Cond.code yX3_chain cX3_chain 5 (some .int) : Cond) ∈ WA := wa_of 302 (by decide +kernel) (by decide +kernel)
theorem ml_X3_95 : (Cond.methodLink RX3 95 yX3_putSpare : Cond) ∈ WA := wa_of 303 (by decide +kernel) (by decide +kernel)
theorem im_X3_putSpare : (Cond.instanceMethod yX3_putSpare : Cond) ∈ WA := wa_of 305 (by decide +kernel) (by decide +kernel)
theorem se_X3_putSpare : (Cond.selects RX3 yX3_putSpare yX3_putSpare : Cond) ∈ WA := wa_of 14 (by decide +kernel) (by decide +kernel)
theorem co_X3_putSpare : (Cond.code yX3_putSpare cX3_putSpare 2 none : Cond) ∈ WA := wa_of 306 (by decide +kernel) (by decide +kernel)
theorem ml_X3_190 : (Cond.methodLink RX3 190 arraycopyName : Cond) ∈ WA := wa_of 307 (by decide +kernel) (by decide +kernel)
theorem na_arraycopyName : (Cond.native arraycopyName : Cond) ∈ WA := wa_of 309 (by decide +kernel) (by decide +kernel)
theorem st_arraycopyName : (Cond.static arraycopyName : Cond) ∈ WA := wa_of 308 (by decide +kernel) (by decide +kernel)
theorem ini_java_lang_System : (Cond.initialized "java/lang/System" : Cond) ∈ WA := wa_of 55 (by decide +kernel) (by decide +kernel)
theorem ml_L_64 : (Cond.methodLink RL 64 yX4_chain : Cond) ∈ WA := wa_of 647 (by decide +kernel) (by decide +kernel)
theorem im_X4_chain : (Cond.instanceMethod yX4_chain : Cond) ∈ WA := wa_of 648 (by decide +kernel) (by decide +kernel)
theorem se_X4_chain : (Cond.selects RX4 yX4_chain yX4_chain : Cond) ∈ WA := wa_of 649 (by decide +kernel) (by decide +kernel)
theorem co_X4_chain : (Cond.code yX4_chain cX4_chain 5 (some .int) : Cond) ∈ WA := wa_of 650 (by decide +kernel) (by decide +kernel)
theorem ml_X4_96 : (Cond.methodLink RX4 96 yX4_lays : Cond) ∈ WA := wa_of 651 (by decide +kernel) (by decide +kernel)
theorem im_X4_lays : (Cond.instanceMethod yX4_lays : Cond) ∈ WA := wa_of 653 (by decide +kernel) (by decide +kernel)
theorem se_X4_lays : (Cond.selects RX4 yX4_lays yX4_lays : Cond) ∈ WA := wa_of 41 (by decide +kernel) (by decide +kernel)
theorem co_X4_lays : (Cond.code yX4_lays cX4_lays 3 none : Cond) ∈ WA := wa_of 654 (by decide +kernel) (by decide +kernel)
theorem ml_L_65 : (Cond.methodLink RL 65 yX3_shuffles : Cond) ∈ WA := wa_of 310 (by decide +kernel) (by decide +kernel)
theorem im_X3_shuffles : (Cond.instanceMethod yX3_shuffles : Cond) ∈ WA := wa_of 311 (by decide +kernel) (by decide +kernel)
theorem se_X3_shuffles : (Cond.selects RX3 yX3_shuffles yX3_shuffles : Cond) ∈ WA := wa_of 312 (by decide +kernel) (by decide +kernel)
theorem co_X3_shuffles : (Cond.code yX3_shuffles cX3_shuffles 2 (some .int) : Cond) ∈ WA := wa_of 313 (by decide +kernel) (by decide +kernel)
theorem ml_X3_98 : (Cond.methodLink RX3 98 yX3_isShuffle : Cond) ∈ WA := wa_of 314 (by decide +kernel) (by decide +kernel)
theorem im_X3_isShuffle : (Cond.instanceMethod yX3_isShuffle : Cond) ∈ WA := wa_of 316 (by decide +kernel) (by decide +kernel)
theorem se_X3_isShuffle : (Cond.selects RX3 yX3_isShuffle yX3_isShuffle : Cond) ∈ WA := wa_of 15 (by decide +kernel) (by decide +kernel)
theorem co_X3_isShuffle : (Cond.code yX3_isShuffle cX3_isShuffle 2 (some .boolean) : Cond) ∈ WA := wa_of 317 (by decide +kernel) (by decide +kernel)
theorem ml_X3_115 : (Cond.methodLink RX3 115 yX3_imageSize : Cond) ∈ WA := wa_of 318 (by decide +kernel) (by decide +kernel)
theorem im_X3_imageSize : (Cond.instanceMethod yX3_imageSize : Cond) ∈ WA := wa_of 320 (by decide +kernel) (by decide +kernel)
theorem se_X3_imageSize : (Cond.selects RX3 yX3_imageSize yX3_imageSize : Cond) ∈ WA := wa_of 16 (by decide +kernel) (by decide +kernel)
theorem co_X3_imageSize : (Cond.code yX3_imageSize cX3_imageSize 4 (some .int) : Cond) ∈ WA := wa_of 321 (by decide +kernel) (by decide +kernel)
theorem ml_X3_196 : (Cond.methodLink RX3 196 yJ6_bitCount_0f7a4 : Cond) ∈ WA := wa_of 322 (by decide +kernel) (by decide +kernel)
theorem st_J6_bitCount_0f7a4 : (Cond.static yJ6_bitCount_0f7a4 : Cond) ∈ WA := wa_of 323 (by decide +kernel) (by decide +kernel)
theorem ini_RJ6 : (Cond.initialized RJ6 : Cond) ∈ WA := wa_of 56 (by decide +kernel) (by decide +kernel)
theorem co_J6_bitCount_0f7a4 : (Cond.code yJ6_bitCount_0f7a4 cJ6_bitCount_0f7a4 1 (some .int) : Cond) ∈ WA := wa_of 324 (by decide +kernel) (by decide +kernel)
theorem cs_J6_265 : (Cond.constant RJ6 265 (1431655765) : Cond) ∈ WA := wa_of 325 (by decide +kernel) (by decide +kernel)
theorem cs_J6_266 : (Cond.constant RJ6 266 (858993459) : Cond) ∈ WA := wa_of 326 (by decide +kernel) (by decide +kernel)
theorem cs_J6_267 : (Cond.constant RJ6 267 (252645135) : Cond) ∈ WA := wa_of 327 (by decide +kernel) (by decide +kernel)
theorem ml_X3_102 : (Cond.methodLink RX3 102 yX3_truth : Cond) ∈ WA := wa_of 328 (by decide +kernel) (by decide +kernel)
theorem st_X3_truth : (Cond.static yX3_truth : Cond) ∈ WA := wa_of 329 (by decide +kernel) (by decide +kernel)
theorem co_X3_truth : (Cond.code yX3_truth cX3_truth 1 (some .int) : Cond) ∈ WA := wa_of 330 (by decide +kernel) (by decide +kernel)
theorem ml_L_68 : (Cond.methodLink RL 68 yX4_shuffles : Cond) ∈ WA := wa_of 655 (by decide +kernel) (by decide +kernel)
theorem im_X4_shuffles : (Cond.instanceMethod yX4_shuffles : Cond) ∈ WA := wa_of 656 (by decide +kernel) (by decide +kernel)
theorem se_X4_shuffles : (Cond.selects RX4 yX4_shuffles yX4_shuffles : Cond) ∈ WA := wa_of 657 (by decide +kernel) (by decide +kernel)
theorem co_X4_shuffles : (Cond.code yX4_shuffles cX4_shuffles 2 (some .int) : Cond) ∈ WA := wa_of 658 (by decide +kernel) (by decide +kernel)
theorem ml_X4_102 : (Cond.methodLink RX4 102 yX4_isShuffle : Cond) ∈ WA := wa_of 659 (by decide +kernel) (by decide +kernel)
theorem im_X4_isShuffle : (Cond.instanceMethod yX4_isShuffle : Cond) ∈ WA := wa_of 661 (by decide +kernel) (by decide +kernel)
theorem se_X4_isShuffle : (Cond.selects RX4 yX4_isShuffle yX4_isShuffle : Cond) ∈ WA := wa_of 42 (by decide +kernel) (by decide +kernel)
theorem co_X4_isShuffle : (Cond.code yX4_isShuffle cX4_isShuffle 2 (some .boolean) : Cond) ∈ WA := wa_of 662 (by decide +kernel) (by decide +kernel)
theorem ml_X4_99 : (Cond.methodLink RX4 99 yX4_imageOf : Cond) ∈ WA := wa_of 663 (by decide +kernel) (by decide +kernel)
theorem im_X4_imageOf : (Cond.instanceMethod yX4_imageOf : Cond) ∈ WA := wa_of 665 (by decide +kernel) (by decide +kernel)
theorem se_X4_imageOf : (Cond.selects RX4 yX4_imageOf yX4_imageOf : Cond) ∈ WA := wa_of 43 (by decide +kernel) (by decide +kernel)
theorem co_X4_imageOf : (Cond.code yX4_imageOf cX4_imageOf 5 (some .int) : Cond) ∈ WA := wa_of 666 (by decide +kernel) (by decide +kernel)
theorem ml_L_69 : (Cond.methodLink RL 69 yX3_fails : Cond) ∈ WA := wa_of 331 (by decide +kernel) (by decide +kernel)
theorem im_X3_fails : (Cond.instanceMethod yX3_fails : Cond) ∈ WA := wa_of 332 (by decide +kernel) (by decide +kernel)
theorem se_X3_fails : (Cond.selects RX3 yX3_fails yX3_fails : Cond) ∈ WA := wa_of 333 (by decide +kernel) (by decide +kernel)
theorem co_X3_fails : (Cond.code yX3_fails cX3_fails 5 (some .int) : Cond) ∈ WA := wa_of 334 (by decide +kernel) (by decide +kernel)
theorem ml_X3_106 : (Cond.methodLink RX3 106 yJ7_fill_53178 : Cond) ∈ WA := wa_of 335 (by decide +kernel) (by decide +kernel)
theorem st_J7_fill_53178 : (Cond.static yJ7_fill_53178 : Cond) ∈ WA := wa_of 336 (by decide +kernel) (by decide +kernel)
theorem ini_RJ7 : (Cond.initialized RJ7 : Cond) ∈ WA := wa_of 57 (by decide +kernel) (by decide +kernel)
theorem co_J7_fill_53178 : (Cond.code yJ7_fill_53178 cJ7_fill_53178 4 none : Cond) ∈ WA := wa_of 337 (by decide +kernel) (by decide +kernel)
theorem ml_X3_112 : (Cond.methodLink RX3 112 yX3_timesTaken : Cond) ∈ WA := wa_of 338 (by decide +kernel) (by decide +kernel)
theorem im_X3_timesTaken : (Cond.instanceMethod yX3_timesTaken : Cond) ∈ WA := wa_of 340 (by decide +kernel) (by decide +kernel)
theorem se_X3_timesTaken : (Cond.selects RX3 yX3_timesTaken yX3_timesTaken : Cond) ∈ WA := wa_of 17 (by decide +kernel) (by decide +kernel)
theorem co_X3_timesTaken : (Cond.code yX3_timesTaken cX3_timesTaken 5 (some .int) : Cond) ∈ WA := wa_of 341 (by decide +kernel) (by decide +kernel)
theorem ml_L_72 : (Cond.methodLink RL 72 yX4_fails : Cond) ∈ WA := wa_of 667 (by decide +kernel) (by decide +kernel)
theorem im_X4_fails : (Cond.instanceMethod yX4_fails : Cond) ∈ WA := wa_of 668 (by decide +kernel) (by decide +kernel)
theorem se_X4_fails : (Cond.selects RX4 yX4_fails yX4_fails : Cond) ∈ WA := wa_of 669 (by decide +kernel) (by decide +kernel)
theorem co_X4_fails : (Cond.code yX4_fails cX4_fails 5 (some .int) : Cond) ∈ WA := wa_of 670 (by decide +kernel) (by decide +kernel)
theorem ml_L_73 : (Cond.methodLink RL 73 yX3_image : Cond) ∈ WA := wa_of 342 (by decide +kernel) (by decide +kernel)
theorem im_X3_image : (Cond.instanceMethod yX3_image : Cond) ∈ WA := wa_of 343 (by decide +kernel) (by decide +kernel)
theorem se_X3_image : (Cond.selects RX3 yX3_image yX3_image : Cond) ∈ WA := wa_of 344 (by decide +kernel) (by decide +kernel)
theorem co_X3_image : (Cond.code yX3_image cX3_image 2 (some .int) : Cond) ∈ WA := wa_of 345 (by decide +kernel) (by decide +kernel)
theorem ml_L_76 : (Cond.methodLink RL 76 yX4_image : Cond) ∈ WA := wa_of 671 (by decide +kernel) (by decide +kernel)
theorem im_X4_image : (Cond.instanceMethod yX4_image : Cond) ∈ WA := wa_of 672 (by decide +kernel) (by decide +kernel)
theorem se_X4_image : (Cond.selects RX4 yX4_image yX4_image : Cond) ∈ WA := wa_of 673 (by decide +kernel) (by decide +kernel)
theorem co_X4_image : (Cond.code yX4_image cX4_image 2 (some .int) : Cond) ∈ WA := wa_of 674 (by decide +kernel) (by decide +kernel)
theorem ml_L_77 : (Cond.methodLink RL 77 yX3_turn : Cond) ∈ WA := wa_of 346 (by decide +kernel) (by decide +kernel)
theorem im_X3_turn : (Cond.instanceMethod yX3_turn : Cond) ∈ WA := wa_of 347 (by decide +kernel) (by decide +kernel)
theorem se_X3_turn : (Cond.selects RX3 yX3_turn yX3_turn : Cond) ∈ WA := wa_of 348 (by decide +kernel) (by decide +kernel)
theorem co_X3_turn : (Cond.code yX3_turn cX3_turn 3 (some .int) : Cond) ∈ WA := wa_of 349 (by decide +kernel) (by decide +kernel)
theorem ml_L_80 : (Cond.methodLink RL 80 yX4_turn : Cond) ∈ WA := wa_of 675 (by decide +kernel) (by decide +kernel)
theorem im_X4_turn : (Cond.instanceMethod yX4_turn : Cond) ∈ WA := wa_of 676 (by decide +kernel) (by decide +kernel)
theorem se_X4_turn : (Cond.selects RX4 yX4_turn yX4_turn : Cond) ∈ WA := wa_of 677 (by decide +kernel) (by decide +kernel)
theorem co_X4_turn : (Cond.code yX4_turn cX4_turn 3 (some .int) : Cond) ∈ WA := wa_of 678 (by decide +kernel) (by decide +kernel)
theorem ml_L_81 : (Cond.methodLink RL 81 yX3_order : Cond) ∈ WA := wa_of 350 (by decide +kernel) (by decide +kernel)
theorem im_X3_order : (Cond.instanceMethod yX3_order : Cond) ∈ WA := wa_of 351 (by decide +kernel) (by decide +kernel)
theorem se_X3_order : (Cond.selects RX3 yX3_order yX3_order : Cond) ∈ WA := wa_of 352 (by decide +kernel) (by decide +kernel)
theorem co_X3_order : (Cond.code yX3_order cX3_order 4 (some .int) : Cond) ∈ WA := wa_of 353 (by decide +kernel) (by decide +kernel)
theorem ml_X3_119 : (Cond.methodLink RX3 119 yX3_roundOf : Cond) ∈ WA := wa_of 354 (by decide +kernel) (by decide +kernel)
theorem im_X3_roundOf : (Cond.instanceMethod yX3_roundOf : Cond) ∈ WA := wa_of 356 (by decide +kernel) (by decide +kernel)
theorem se_X3_roundOf : (Cond.selects RX3 yX3_roundOf yX3_roundOf : Cond) ∈ WA := wa_of 18 (by decide +kernel) (by decide +kernel)
theorem co_X3_roundOf : (Cond.code yX3_roundOf cX3_roundOf 5 (some .int) : Cond) ∈ WA := wa_of 357 (by decide +kernel) (by decide +kernel)
theorem ml_X3_122 : (Cond.methodLink RX3 122 yX3_leastCommonMultiple : Cond) ∈ WA := wa_of 358 (by decide +kernel) (by decide +kernel)
theorem st_X3_leastCommonMultiple : (Cond.static yX3_leastCommonMultiple : Cond) ∈ WA := wa_of 359 (by decide +kernel) (by decide +kernel)
theorem co_X3_leastCommonMultiple : (Cond.code yX3_leastCommonMultiple cX3_leastCommonMultiple 4 (some .int) : Cond) ∈ WA := wa_of 360 (by decide +kernel) (by decide +kernel)
theorem ml_L_84 : (Cond.methodLink RL 84 yX4_order : Cond) ∈ WA := wa_of 679 (by decide +kernel) (by decide +kernel)
theorem im_X4_order : (Cond.instanceMethod yX4_order : Cond) ∈ WA := wa_of 680 (by decide +kernel) (by decide +kernel)
theorem se_X4_order : (Cond.selects RX4 yX4_order yX4_order : Cond) ∈ WA := wa_of 681 (by decide +kernel) (by decide +kernel)
theorem co_X4_order : (Cond.code yX4_order cX4_order 5 (some .int) : Cond) ∈ WA := wa_of 682 (by decide +kernel) (by decide +kernel)
theorem ml_L_85 : (Cond.methodLink RL 85 yX3_fixed : Cond) ∈ WA := wa_of 361 (by decide +kernel) (by decide +kernel)
theorem im_X3_fixed : (Cond.instanceMethod yX3_fixed : Cond) ∈ WA := wa_of 362 (by decide +kernel) (by decide +kernel)
theorem se_X3_fixed : (Cond.selects RX3 yX3_fixed yX3_fixed : Cond) ∈ WA := wa_of 363 (by decide +kernel) (by decide +kernel)
theorem co_X3_fixed : (Cond.code yX3_fixed cX3_fixed 4 (some .int) : Cond) ∈ WA := wa_of 364 (by decide +kernel) (by decide +kernel)
theorem ml_L_88 : (Cond.methodLink RL 88 yX4_fixed : Cond) ∈ WA := wa_of 683 (by decide +kernel) (by decide +kernel)
theorem im_X4_fixed : (Cond.instanceMethod yX4_fixed : Cond) ∈ WA := wa_of 684 (by decide +kernel) (by decide +kernel)
theorem se_X4_fixed : (Cond.selects RX4 yX4_fixed yX4_fixed : Cond) ∈ WA := wa_of 685 (by decide +kernel) (by decide +kernel)
theorem co_X4_fixed : (Cond.code yX4_fixed cX4_fixed 4 (some .int) : Cond) ∈ WA := wa_of 686 (by decide +kernel) (by decide +kernel)
theorem ml_L_89 : (Cond.methodLink RL 89 yX3_difference : Cond) ∈ WA := wa_of 365 (by decide +kernel) (by decide +kernel)
theorem im_X3_difference : (Cond.instanceMethod yX3_difference : Cond) ∈ WA := wa_of 366 (by decide +kernel) (by decide +kernel)
theorem se_X3_difference : (Cond.selects RX3 yX3_difference yX3_difference : Cond) ∈ WA := wa_of 367 (by decide +kernel) (by decide +kernel)
theorem co_X3_difference : (Cond.code yX3_difference cX3_difference 6 (some .int) : Cond) ∈ WA := wa_of 368 (by decide +kernel) (by decide +kernel)
theorem ml_X3_125 : (Cond.methodLink RX3 125 yX3_differenceAt : Cond) ∈ WA := wa_of 369 (by decide +kernel) (by decide +kernel)
theorem im_X3_differenceAt : (Cond.instanceMethod yX3_differenceAt : Cond) ∈ WA := wa_of 371 (by decide +kernel) (by decide +kernel)
theorem se_X3_differenceAt : (Cond.selects RX3 yX3_differenceAt yX3_differenceAt : Cond) ∈ WA := wa_of 19 (by decide +kernel) (by decide +kernel)
theorem co_X3_differenceAt : (Cond.code yX3_differenceAt cX3_differenceAt 4 (some .int) : Cond) ∈ WA := wa_of 372 (by decide +kernel) (by decide +kernel)
theorem ml_L_92 : (Cond.methodLink RL 92 yX4_difference : Cond) ∈ WA := wa_of 687 (by decide +kernel) (by decide +kernel)
theorem im_X4_difference : (Cond.instanceMethod yX4_difference : Cond) ∈ WA := wa_of 688 (by decide +kernel) (by decide +kernel)
theorem se_X4_difference : (Cond.selects RX4 yX4_difference yX4_difference : Cond) ∈ WA := wa_of 689 (by decide +kernel) (by decide +kernel)
theorem co_X4_difference : (Cond.code yX4_difference cX4_difference 4 (some .int) : Cond) ∈ WA := wa_of 690 (by decide +kernel) (by decide +kernel)
theorem ml_X4_105 : (Cond.methodLink RX4 105 yX4_differenceOf : Cond) ∈ WA := wa_of 691 (by decide +kernel) (by decide +kernel)
theorem im_X4_differenceOf : (Cond.instanceMethod yX4_differenceOf : Cond) ∈ WA := wa_of 693 (by decide +kernel) (by decide +kernel)
theorem se_X4_differenceOf : (Cond.selects RX4 yX4_differenceOf yX4_differenceOf : Cond) ∈ WA := wa_of 44 (by decide +kernel) (by decide +kernel)
theorem co_X4_differenceOf : (Cond.code yX4_differenceOf cX4_differenceOf 6 (some .int) : Cond) ∈ WA := wa_of 694 (by decide +kernel) (by decide +kernel)
theorem ml_L_93 : (Cond.methodLink RL 93 yX3_spread : Cond) ∈ WA := wa_of 373 (by decide +kernel) (by decide +kernel)
theorem im_X3_spread : (Cond.instanceMethod yX3_spread : Cond) ∈ WA := wa_of 374 (by decide +kernel) (by decide +kernel)
theorem se_X3_spread : (Cond.selects RX3 yX3_spread yX3_spread : Cond) ∈ WA := wa_of 375 (by decide +kernel) (by decide +kernel)
theorem co_X3_spread : (Cond.code yX3_spread cX3_spread 2 (some .int) : Cond) ∈ WA := wa_of 376 (by decide +kernel) (by decide +kernel)
theorem ml_X3_129 : (Cond.methodLink RX3 129 yX3_greatestSpread : Cond) ∈ WA := wa_of 377 (by decide +kernel) (by decide +kernel)
theorem im_X3_greatestSpread : (Cond.instanceMethod yX3_greatestSpread : Cond) ∈ WA := wa_of 379 (by decide +kernel) (by decide +kernel)
theorem se_X3_greatestSpread : (Cond.selects RX3 yX3_greatestSpread yX3_greatestSpread : Cond) ∈ WA := wa_of 20 (by decide +kernel) (by decide +kernel)
theorem co_X3_greatestSpread : (Cond.code yX3_greatestSpread cX3_greatestSpread 6 (some .int) : Cond) ∈ WA := wa_of 380 (by decide +kernel) (by decide +kernel)
theorem ml_X3_145 : (Cond.methodLink RX3 145 Lib.Math.max.name : Cond) ∈ WA := wa_of 381 (by decide +kernel) (by decide +kernel)
theorem st_Math_max_name : (Cond.static Lib.Math.max.name : Cond) ∈ WA := wa_of 382 (by decide +kernel) (by decide +kernel)
theorem ini_java_lang_Math : (Cond.initialized "java/lang/Math" : Cond) ∈ WA := wa_of 58 (by decide +kernel) (by decide +kernel)
theorem co_Math_max_name : (Cond.code Lib.Math.max.name Lib.Math.max.code 2 (some .int) : Cond) ∈ WA := wa_of 383 (by decide +kernel) (by decide +kernel)
theorem ml_L_96 : (Cond.methodLink RL 96 yX4_spread : Cond) ∈ WA := wa_of 695 (by decide +kernel) (by decide +kernel)
theorem im_X4_spread : (Cond.instanceMethod yX4_spread : Cond) ∈ WA := wa_of 696 (by decide +kernel) (by decide +kernel)
theorem se_X4_spread : (Cond.selects RX4 yX4_spread yX4_spread : Cond) ∈ WA := wa_of 697 (by decide +kernel) (by decide +kernel)
theorem co_X4_spread : (Cond.code yX4_spread cX4_spread 2 (some .int) : Cond) ∈ WA := wa_of 698 (by decide +kernel) (by decide +kernel)
theorem ml_X4_109 : (Cond.methodLink RX4 109 yX4_spreadOf : Cond) ∈ WA := wa_of 699 (by decide +kernel) (by decide +kernel)
theorem im_X4_spreadOf : (Cond.instanceMethod yX4_spreadOf : Cond) ∈ WA := wa_of 701 (by decide +kernel) (by decide +kernel)
theorem se_X4_spreadOf : (Cond.selects RX4 yX4_spreadOf yX4_spreadOf : Cond) ∈ WA := wa_of 45 (by decide +kernel) (by decide +kernel)
theorem co_X4_spreadOf : (Cond.code yX4_spreadOf cX4_spreadOf 6 (some .int) : Cond) ∈ WA := wa_of 702 (by decide +kernel) (by decide +kernel)
theorem ml_L_97 : (Cond.methodLink RL 97 yX3_planar : Cond) ∈ WA := wa_of 384 (by decide +kernel) (by decide +kernel)
theorem im_X3_planar : (Cond.instanceMethod yX3_planar : Cond) ∈ WA := wa_of 385 (by decide +kernel) (by decide +kernel)
theorem se_X3_planar : (Cond.selects RX3 yX3_planar yX3_planar : Cond) ∈ WA := wa_of 386 (by decide +kernel) (by decide +kernel)
theorem co_X3_planar : (Cond.code yX3_planar cX3_planar 2 (some .int) : Cond) ∈ WA := wa_of 387 (by decide +kernel) (by decide +kernel)
theorem ml_L_100 : (Cond.methodLink RL 100 yX4_planar : Cond) ∈ WA := wa_of 703 (by decide +kernel) (by decide +kernel)
theorem im_X4_planar : (Cond.instanceMethod yX4_planar : Cond) ∈ WA := wa_of 704 (by decide +kernel) (by decide +kernel)
theorem se_X4_planar : (Cond.selects RX4 yX4_planar yX4_planar : Cond) ∈ WA := wa_of 705 (by decide +kernel) (by decide +kernel)
theorem co_X4_planar : (Cond.code yX4_planar cX4_planar 2 (some .int) : Cond) ∈ WA := wa_of 706 (by decide +kernel) (by decide +kernel)
theorem ml_L_101 : (Cond.methodLink RL 101 yX3_walk : Cond) ∈ WA := wa_of 388 (by decide +kernel) (by decide +kernel)
theorem im_X3_walk : (Cond.instanceMethod yX3_walk : Cond) ∈ WA := wa_of 389 (by decide +kernel) (by decide +kernel)
theorem se_X3_walk : (Cond.selects RX3 yX3_walk yX3_walk : Cond) ∈ WA := wa_of 390 (by decide +kernel) (by decide +kernel)
theorem co_X3_walk : (Cond.code yX3_walk cX3_walk 4 (some .int) : Cond) ∈ WA := wa_of 391 (by decide +kernel) (by decide +kernel)
theorem cs_X3_136 : (Cond.constant RX3 136 (-1000000) : Cond) ∈ WA := wa_of 396 (by decide +kernel) (by decide +kernel)
theorem ml_X3_132 : (Cond.methodLink RX3 132 yX3_hasBits : Cond) ∈ WA := wa_of 392 (by decide +kernel) (by decide +kernel)
theorem im_X3_hasBits : (Cond.instanceMethod yX3_hasBits : Cond) ∈ WA := wa_of 394 (by decide +kernel) (by decide +kernel)
theorem se_X3_hasBits : (Cond.selects RX3 yX3_hasBits yX3_hasBits : Cond) ∈ WA := wa_of 21 (by decide +kernel) (by decide +kernel)
theorem co_X3_hasBits : (Cond.code yX3_hasBits cX3_hasBits 1 (some .boolean) : Cond) ∈ WA := wa_of 395 (by decide +kernel) (by decide +kernel)
theorem fl_X3_181 : (Cond.fieldLink RX3 181 "ShuffleMaps$Field" "p" "I" : Cond) ∈ WA := wa_of 147 (by decide +kernel) (by decide +kernel)
theorem ml_X3_137 : (Cond.methodLink RX3 137 yX3_walkOf : Cond) ∈ WA := wa_of 397 (by decide +kernel) (by decide +kernel)
theorem im_X3_walkOf : (Cond.instanceMethod yX3_walkOf : Cond) ∈ WA := wa_of 399 (by decide +kernel) (by decide +kernel)
theorem se_X3_walkOf : (Cond.selects RX3 yX3_walkOf yX3_walkOf : Cond) ∈ WA := wa_of 22 (by decide +kernel) (by decide +kernel)
theorem co_X3_walkOf : (Cond.code yX3_walkOf cX3_walkOf 7 (some .int) : Cond) ∈ WA := wa_of 400 (by decide +kernel) (by decide +kernel)
theorem ml_L_104 : (Cond.methodLink RL 104 yX4_walk : Cond) ∈ WA := wa_of 707 (by decide +kernel) (by decide +kernel)
theorem im_X4_walk : (Cond.instanceMethod yX4_walk : Cond) ∈ WA := wa_of 708 (by decide +kernel) (by decide +kernel)
theorem se_X4_walk : (Cond.selects RX4 yX4_walk yX4_walk : Cond) ∈ WA := wa_of 709 (by decide +kernel) (by decide +kernel)
theorem co_X4_walk : (Cond.code yX4_walk cX4_walk 4 (some .int) : Cond) ∈ WA := wa_of 710 (by decide +kernel) (by decide +kernel)
theorem cs_X4_122 : (Cond.constant RX4 122 (-1000000) : Cond) ∈ WA := wa_of 722 (by decide +kernel) (by decide +kernel)
theorem ml_X4_115 : (Cond.methodLink RX4 115 yX4_isTwos : Cond) ∈ WA := wa_of 711 (by decide +kernel) (by decide +kernel)
theorem im_X4_isTwos : (Cond.instanceMethod yX4_isTwos : Cond) ∈ WA := wa_of 713 (by decide +kernel) (by decide +kernel)
theorem se_X4_isTwos : (Cond.selects RX4 yX4_isTwos yX4_isTwos : Cond) ∈ WA := wa_of 46 (by decide +kernel) (by decide +kernel)
theorem co_X4_isTwos : (Cond.code yX4_isTwos cX4_isTwos 1 (some .boolean) : Cond) ∈ WA := wa_of 714 (by decide +kernel) (by decide +kernel)
theorem ml_X4_119 : (Cond.methodLink RX4 119 yX4_walkOf : Cond) ∈ WA := wa_of 715 (by decide +kernel) (by decide +kernel)
theorem im_X4_walkOf : (Cond.instanceMethod yX4_walkOf : Cond) ∈ WA := wa_of 717 (by decide +kernel) (by decide +kernel)
theorem se_X4_walkOf : (Cond.selects RX4 yX4_walkOf yX4_walkOf : Cond) ∈ WA := wa_of 47 (by decide +kernel) (by decide +kernel)
theorem co_X4_walkOf : (Cond.code yX4_walkOf cX4_walkOf 6 (some .int) : Cond) ∈ WA := wa_of 718 (by decide +kernel) (by decide +kernel)
theorem ml_X4_112 : (Cond.methodLink RX4 112 yX4_odd : Cond) ∈ WA := wa_of 719 (by decide +kernel) (by decide +kernel)
theorem st_X4_odd : (Cond.static yX4_odd : Cond) ∈ WA := wa_of 720 (by decide +kernel) (by decide +kernel)
theorem co_X4_odd : (Cond.code yX4_odd cX4_odd 1 (some .int) : Cond) ∈ WA := wa_of 721 (by decide +kernel) (by decide +kernel)
theorem ml_L_105 : (Cond.methodLink RL 105 yX3_linear : Cond) ∈ WA := wa_of 401 (by decide +kernel) (by decide +kernel)
theorem im_X3_linear : (Cond.instanceMethod yX3_linear : Cond) ∈ WA := wa_of 402 (by decide +kernel) (by decide +kernel)
theorem se_X3_linear : (Cond.selects RX3 yX3_linear yX3_linear : Cond) ∈ WA := wa_of 403 (by decide +kernel) (by decide +kernel)
theorem co_X3_linear : (Cond.code yX3_linear cX3_linear 5 (some .int) : Cond) ∈ WA := wa_of 404 (by decide +kernel) (by decide +kernel)
theorem ml_X3_140 : (Cond.methodLink RX3 140 Lib.Math.abs.name : Cond) ∈ WA := wa_of 405 (by decide +kernel) (by decide +kernel)
theorem st_Math_abs_name : (Cond.static Lib.Math.abs.name : Cond) ∈ WA := wa_of 406 (by decide +kernel) (by decide +kernel)
theorem co_Math_abs_name : (Cond.code Lib.Math.abs.name Lib.Math.abs.code 1 (some .int) : Cond) ∈ WA := wa_of 407 (by decide +kernel) (by decide +kernel)
theorem ml_L_108 : (Cond.methodLink RL 108 yX4_linear : Cond) ∈ WA := wa_of 723 (by decide +kernel) (by decide +kernel)
theorem im_X4_linear : (Cond.instanceMethod yX4_linear : Cond) ∈ WA := wa_of 724 (by decide +kernel) (by decide +kernel)
theorem se_X4_linear : (Cond.selects RX4 yX4_linear yX4_linear : Cond) ∈ WA := wa_of 725 (by decide +kernel) (by decide +kernel)
theorem co_X4_linear : (Cond.code yX4_linear cX4_linear 6 (some .int) : Cond) ∈ WA := wa_of 726 (by decide +kernel) (by decide +kernel)
theorem ml_L_109 : (Cond.methodLink RL 109 yX3_like : Cond) ∈ WA := wa_of 408 (by decide +kernel) (by decide +kernel)
theorem im_X3_like : (Cond.instanceMethod yX3_like : Cond) ∈ WA := wa_of 409 (by decide +kernel) (by decide +kernel)
theorem se_X3_like : (Cond.selects RX3 yX3_like yX3_like : Cond) ∈ WA := wa_of 410 (by decide +kernel) (by decide +kernel)
theorem co_X3_like : (Cond.code yX3_like cX3_like 6 (some .int) : Cond) ∈ WA := wa_of 411 (by decide +kernel) (by decide +kernel)
theorem ml_X3_148 : (Cond.methodLink RX3 148 yX3_isDress : Cond) ∈ WA := wa_of 412 (by decide +kernel) (by decide +kernel)
theorem im_X3_isDress : (Cond.instanceMethod yX3_isDress : Cond) ∈ WA := wa_of 414 (by decide +kernel) (by decide +kernel)
theorem se_X3_isDress : (Cond.selects RX3 yX3_isDress yX3_isDress : Cond) ∈ WA := wa_of 23 (by decide +kernel) (by decide +kernel)
theorem co_X3_isDress : (Cond.code yX3_isDress cX3_isDress 8 (some .boolean) : Cond) ∈ WA := wa_of 415 (by decide +kernel) (by decide +kernel)
theorem ml_X3_201 : (Cond.methodLink RX3 201 yX3_dressedAt : Cond) ∈ WA := wa_of 416 (by decide +kernel) (by decide +kernel)
theorem im_X3_dressedAt : (Cond.instanceMethod yX3_dressedAt : Cond) ∈ WA := wa_of 418 (by decide +kernel) (by decide +kernel)
theorem se_X3_dressedAt : (Cond.selects RX3 yX3_dressedAt yX3_dressedAt : Cond) ∈ WA := wa_of 24 (by decide +kernel) (by decide +kernel)
theorem co_X3_dressedAt : (Cond.code yX3_dressedAt cX3_dressedAt 6 (some .int) : Cond) ∈ WA := wa_of 419 (by decide +kernel) (by decide +kernel)
theorem ml_L_112 : (Cond.methodLink RL 112 yX4_like : Cond) ∈ WA := wa_of 727 (by decide +kernel) (by decide +kernel)
theorem im_X4_like : (Cond.instanceMethod yX4_like : Cond) ∈ WA := wa_of 728 (by decide +kernel) (by decide +kernel)
theorem se_X4_like : (Cond.selects RX4 yX4_like yX4_like : Cond) ∈ WA := wa_of 729 (by decide +kernel) (by decide +kernel)
theorem co_X4_like : (Cond.code yX4_like cX4_like 9 (some .int) : Cond) ∈ WA := wa_of 730 (by decide +kernel) (by decide +kernel)
theorem ml_L_113 : (Cond.methodLink RL 113 yX3_least : Cond) ∈ WA := wa_of 420 (by decide +kernel) (by decide +kernel)
theorem im_X3_least : (Cond.instanceMethod yX3_least : Cond) ∈ WA := wa_of 421 (by decide +kernel) (by decide +kernel)
theorem se_X3_least : (Cond.selects RX3 yX3_least yX3_least : Cond) ∈ WA := wa_of 422 (by decide +kernel) (by decide +kernel)
theorem co_X3_least : (Cond.code yX3_least cX3_least 5 (some .int) : Cond) ∈ WA := wa_of 423 (by decide +kernel) (by decide +kernel)
theorem ml_X3_152 : (Cond.methodLink RX3 152 yX3_keepIfLess : Cond) ∈ WA := wa_of 424 (by decide +kernel) (by decide +kernel)
theorem im_X3_keepIfLess : (Cond.instanceMethod yX3_keepIfLess : Cond) ∈ WA := wa_of 426 (by decide +kernel) (by decide +kernel)
theorem se_X3_keepIfLess : (Cond.selects RX3 yX3_keepIfLess yX3_keepIfLess : Cond) ∈ WA := wa_of 25 (by decide +kernel) (by decide +kernel)
theorem co_X3_keepIfLess : (Cond.code yX3_keepIfLess cX3_keepIfLess 9 none : Cond) ∈ WA := wa_of 427 (by decide +kernel) (by decide +kernel)
theorem ml_L_116 : (Cond.methodLink RL 116 yX4_least : Cond) ∈ WA := wa_of 731 (by decide +kernel) (by decide +kernel)
theorem im_X4_least : (Cond.instanceMethod yX4_least : Cond) ∈ WA := wa_of 732 (by decide +kernel) (by decide +kernel)
theorem se_X4_least : (Cond.selects RX4 yX4_least yX4_least : Cond) ∈ WA := wa_of 733 (by decide +kernel) (by decide +kernel)
theorem co_X4_least : (Cond.code yX4_least cX4_least 8 (some .int) : Cond) ∈ WA := wa_of 734 (by decide +kernel) (by decide +kernel)
theorem ml_L_117 : (Cond.methodLink RL 117 yX3_many : Cond) ∈ WA := wa_of 428 (by decide +kernel) (by decide +kernel)
theorem im_X3_many : (Cond.instanceMethod yX3_many : Cond) ∈ WA := wa_of 429 (by decide +kernel) (by decide +kernel)
theorem se_X3_many : (Cond.selects RX3 yX3_many yX3_many : Cond) ∈ WA := wa_of 430 (by decide +kernel) (by decide +kernel)
theorem co_X3_many : (Cond.code yX3_many cX3_many 2 (some .int) : Cond) ∈ WA := wa_of 431 (by decide +kernel) (by decide +kernel)
theorem fl_X3_166 : (Cond.fieldLink RX3 166 "ShuffleMaps$Listing" "size" "I" : Cond) ∈ WA := wa_of 455 (by decide +kernel) (by decide +kernel)
theorem ml_X3_156 : (Cond.methodLink RX3 156 yX3_isListDegree : Cond) ∈ WA := wa_of 432 (by decide +kernel) (by decide +kernel)
theorem st_X3_isListDegree : (Cond.static yX3_isListDegree : Cond) ∈ WA := wa_of 433 (by decide +kernel) (by decide +kernel)
theorem co_X3_isListDegree : (Cond.code yX3_isListDegree cX3_isListDegree 1 (some .boolean) : Cond) ∈ WA := wa_of 434 (by decide +kernel) (by decide +kernel)
theorem ml_X3_159 : (Cond.methodLink RX3 159 yX0_polynomials : Cond) ∈ WA := wa_of 435 (by decide +kernel) (by decide +kernel)
theorem im_X0_polynomials : (Cond.instanceMethod yX0_polynomials : Cond) ∈ WA := wa_of 436 (by decide +kernel) (by decide +kernel)
theorem se_X0_polynomials : (Cond.selects RX0 yX0_polynomials yX0_polynomials : Cond) ∈ WA := wa_of 437 (by decide +kernel) (by decide +kernel)
theorem co_X0_polynomials : (Cond.code yX0_polynomials cX0_polynomials 4 (some .int) : Cond) ∈ WA := wa_of 438 (by decide +kernel) (by decide +kernel)
theorem ml_X3_162 : (Cond.methodLink RX3 162 yX0_listing : Cond) ∈ WA := wa_of 439 (by decide +kernel) (by decide +kernel)
theorem im_X0_listing : (Cond.instanceMethod yX0_listing : Cond) ∈ WA := wa_of 440 (by decide +kernel) (by decide +kernel)
theorem se_X0_listing : (Cond.selects RX0 yX0_listing yX0_listing : Cond) ∈ WA := wa_of 441 (by decide +kernel) (by decide +kernel)
theorem co_X0_listing : (Cond.code yX0_listing cX0_listing 2 (some (.object "ShuffleMaps$Listing")) : Cond) ∈ WA := wa_of 442 (by decide +kernel) (by decide +kernel)
theorem ml_X0_75 : (Cond.methodLink RX0 75 yX0_listed : Cond) ∈ WA := wa_of 443 (by decide +kernel) (by decide +kernel)
theorem im_X0_listed : (Cond.instanceMethod yX0_listed : Cond) ∈ WA := wa_of 445 (by decide +kernel) (by decide +kernel)
theorem se_X0_listed : (Cond.selects RX0 yX0_listed yX0_listed : Cond) ∈ WA := wa_of 26 (by decide +kernel) (by decide +kernel)
theorem co_X0_listed : (Cond.code yX0_listed cX0_listed 5 (some (.object "ShuffleMaps$Listing")) : Cond) ∈ WA := wa_of 446 (by decide +kernel) (by decide +kernel)
theorem ins_RX1 : (Cond.instantiable RX1 2 : Cond) ∈ WA := wa_of 447 (by decide +kernel) (by decide +kernel)
theorem ini_RX1 : (Cond.initialized RX1 : Cond) ∈ WA := wa_of 59 (by decide +kernel) (by decide +kernel)
theorem im_X1_init : (Cond.instanceMethod yX1_init : Cond) ∈ WA := wa_of 449 (by decide +kernel) (by decide +kernel)
theorem co_X1_init : (Cond.code yX1_init cX1_init 1 none : Cond) ∈ WA := wa_of 450 (by decide +kernel) (by decide +kernel)
theorem ml_X1_1 : (Cond.methodLink RX1 1 objectInit : Cond) ∈ WA := wa_of 451 (by decide +kernel) (by decide +kernel)
theorem fl_X1_9 : (Cond.fieldLink RX1 9 "ShuffleMaps$Listing" "numbers" "[I" : Cond) ∈ WA := wa_of 452 (by decide +kernel) (by decide +kernel)
theorem ml_X0_80 : (Cond.methodLink RX0 80 yX0_polynomials : Cond) ∈ WA := wa_of 461 (by decide +kernel) (by decide +kernel)
theorem ml_X0_83 : (Cond.methodLink RX0 83 yX0_writePolynomial : Cond) ∈ WA := wa_of 462 (by decide +kernel) (by decide +kernel)
theorem im_X0_writePolynomial : (Cond.instanceMethod yX0_writePolynomial : Cond) ∈ WA := wa_of 463 (by decide +kernel) (by decide +kernel)
theorem se_X0_writePolynomial : (Cond.selects RX0 yX0_writePolynomial yX0_writePolynomial : Cond) ∈ WA := wa_of 464 (by decide +kernel) (by decide +kernel)
theorem co_X0_writePolynomial : (Cond.code yX0_writePolynomial cX0_writePolynomial 5 none : Cond) ∈ WA := wa_of 465 (by decide +kernel) (by decide +kernel)
theorem ml_X0_87 : (Cond.methodLink RX0 87 yX0_polynomialShuffles : Cond) ∈ WA := wa_of 466 (by decide +kernel) (by decide +kernel)
theorem im_X0_polynomialShuffles : (Cond.instanceMethod yX0_polynomialShuffles : Cond) ∈ WA := wa_of 468 (by decide +kernel) (by decide +kernel)
theorem se_X0_polynomialShuffles : (Cond.selects RX0 yX0_polynomialShuffles yX0_polynomialShuffles : Cond) ∈ WA := wa_of 27 (by decide +kernel) (by decide +kernel)
theorem co_X0_polynomialShuffles : (Cond.code yX0_polynomialShuffles cX0_polynomialShuffles 5 (some .boolean) : Cond) ∈ WA := wa_of 469 (by decide +kernel) (by decide +kernel)
theorem ml_X0_95 : (Cond.methodLink RX0 95 yX0_polynomialAt : Cond) ∈ WA := wa_of 470 (by decide +kernel) (by decide +kernel)
theorem im_X0_polynomialAt : (Cond.instanceMethod yX0_polynomialAt : Cond) ∈ WA := wa_of 471 (by decide +kernel) (by decide +kernel)
theorem se_X0_polynomialAt : (Cond.selects RX0 yX0_polynomialAt yX0_polynomialAt : Cond) ∈ WA := wa_of 472 (by decide +kernel) (by decide +kernel)
theorem co_X0_polynomialAt : (Cond.code yX0_polynomialAt cX0_polynomialAt 5 (some .int) : Cond) ∈ WA := wa_of 473 (by decide +kernel) (by decide +kernel)
theorem ml_X0_91 : (Cond.methodLink RX0 91 yX1_append : Cond) ∈ WA := wa_of 474 (by decide +kernel) (by decide +kernel)
theorem im_X1_append : (Cond.instanceMethod yX1_append : Cond) ∈ WA := wa_of 475 (by decide +kernel) (by decide +kernel)
theorem se_X1_append : (Cond.selects RX1 yX1_append yX1_append : Cond) ∈ WA := wa_of 476 (by decide +kernel) (by decide +kernel)
theorem co_X1_append : (Cond.code yX1_append cX1_append 2 none : Cond) ∈ WA := wa_of 477 (by decide +kernel) (by decide +kernel)
theorem fl_X1_13 : (Cond.fieldLink RX1 13 "ShuffleMaps$Listing" "size" "I" : Cond) ∈ WA := wa_of 454 (by decide +kernel) (by decide +kernel)
theorem ml_X1_17 : (Cond.methodLink RX1 17 yJ7_copyOf_59c91 : Cond) ∈ WA := wa_of 478 (by decide +kernel) (by decide +kernel)
theorem st_J7_copyOf_59c91 : (Cond.static yJ7_copyOf_59c91 : Cond) ∈ WA := wa_of 479 (by decide +kernel) (by decide +kernel)
theorem co_J7_copyOf_59c91 : (Cond.code yJ7_copyOf_59c91 cJ7_copyOf_59c91 3 (some (.array .int)) : Cond) ∈ WA := wa_of 480 (by decide +kernel) (by decide +kernel)
theorem ml_J7_316 : (Cond.methodLink RJ7 316 ⟨"[I", "clone", "()Ljava/lang/Object;"⟩ : Cond) ∈ WA := wa_of 481 (by decide +kernel) (by decide +kernel)
theorem same_clone : (Cond.sameMethod "[I" "java/lang/Object" "clone" "()Ljava/lang/Object;" : Cond) ∈ WA := wa_of 482 (by decide +kernel) (by decide +kernel)
theorem na_clone : (Cond.native ⟨"java/lang/Object", "clone", "()Ljava/lang/Object;"⟩ : Cond) ∈ WA := wa_of 483 (by decide +kernel) (by decide +kernel)
theorem im_clone : (Cond.instanceMethod ⟨"java/lang/Object", "clone", "()Ljava/lang/Object;"⟩ : Cond) ∈ WA := wa_of 484 (by decide +kernel) (by decide +kernel)
theorem se_clone : (Cond.selects "[I" ⟨"[I", "clone", "()Ljava/lang/Object;"⟩ ⟨"java/lang/Object", "clone", "()Ljava/lang/Object;"⟩ : Cond) ∈ WA := wa_of 485 (by decide +kernel) (by decide +kernel)
theorem cl_J7_317 : (Cond.classLink RJ7 317 "[I" : Cond) ∈ WA := wa_of 487 (by decide +kernel) (by decide +kernel)
theorem ml_J7_304 : (Cond.methodLink RJ7 304 Lib.Math.min.name : Cond) ∈ WA := wa_of 488 (by decide +kernel) (by decide +kernel)
theorem st_Math_min_name : (Cond.static Lib.Math.min.name : Cond) ∈ WA := wa_of 489 (by decide +kernel) (by decide +kernel)
theorem co_Math_min_name : (Cond.code Lib.Math.min.name Lib.Math.min.code 2 (some .int) : Cond) ∈ WA := wa_of 490 (by decide +kernel) (by decide +kernel)
theorem ml_J7_150 : (Cond.methodLink RJ7 150 arraycopyName : Cond) ∈ WA := wa_of 491 (by decide +kernel) (by decide +kernel)
theorem ml_L_120 : (Cond.methodLink RL 120 yX4_many : Cond) ∈ WA := wa_of 735 (by decide +kernel) (by decide +kernel)
theorem im_X4_many : (Cond.instanceMethod yX4_many : Cond) ∈ WA := wa_of 736 (by decide +kernel) (by decide +kernel)
theorem se_X4_many : (Cond.selects RX4 yX4_many yX4_many : Cond) ∈ WA := wa_of 737 (by decide +kernel) (by decide +kernel)
theorem co_X4_many : (Cond.code yX4_many cX4_many 5 (some .int) : Cond) ∈ WA := wa_of 738 (by decide +kernel) (by decide +kernel)
theorem ml_X4_123 : (Cond.methodLink RX4 123 yX4_allOf : Cond) ∈ WA := wa_of 739 (by decide +kernel) (by decide +kernel)
theorem im_X4_allOf : (Cond.instanceMethod yX4_allOf : Cond) ∈ WA := wa_of 741 (by decide +kernel) (by decide +kernel)
theorem se_X4_allOf : (Cond.selects RX4 yX4_allOf yX4_allOf : Cond) ∈ WA := wa_of 48 (by decide +kernel) (by decide +kernel)
theorem co_X4_allOf : (Cond.code yX4_allOf cX4_allOf 4 (some .int) : Cond) ∈ WA := wa_of 742 (by decide +kernel) (by decide +kernel)
theorem ml_X4_126 : (Cond.methodLink RX4 126 yX4_shufflesAt : Cond) ∈ WA := wa_of 743 (by decide +kernel) (by decide +kernel)
theorem im_X4_shufflesAt : (Cond.instanceMethod yX4_shufflesAt : Cond) ∈ WA := wa_of 745 (by decide +kernel) (by decide +kernel)
theorem se_X4_shufflesAt : (Cond.selects RX4 yX4_shufflesAt yX4_shufflesAt : Cond) ∈ WA := wa_of 49 (by decide +kernel) (by decide +kernel)
theorem co_X4_shufflesAt : (Cond.code yX4_shufflesAt cX4_shufflesAt 9 (some .boolean) : Cond) ∈ WA := wa_of 746 (by decide +kernel) (by decide +kernel)
theorem ml_L_121 : (Cond.methodLink RL 121 yX3_pick : Cond) ∈ WA := wa_of 492 (by decide +kernel) (by decide +kernel)
theorem im_X3_pick : (Cond.instanceMethod yX3_pick : Cond) ∈ WA := wa_of 493 (by decide +kernel) (by decide +kernel)
theorem se_X3_pick : (Cond.selects RX3 yX3_pick yX3_pick : Cond) ∈ WA := wa_of 494 (by decide +kernel) (by decide +kernel)
theorem co_X3_pick : (Cond.code yX3_pick cX3_pick 7 (some .int) : Cond) ∈ WA := wa_of 495 (by decide +kernel) (by decide +kernel)
theorem fl_X3_171 : (Cond.fieldLink RX3 171 "ShuffleMaps$Listing" "numbers" "[I" : Cond) ∈ WA := wa_of 453 (by decide +kernel) (by decide +kernel)
theorem ml_X3_174 : (Cond.methodLink RX3 174 yX0_writePolynomial : Cond) ∈ WA := wa_of 496 (by decide +kernel) (by decide +kernel)
theorem ml_X3_178 : (Cond.methodLink RX3 178 yX0_polynomialAt : Cond) ∈ WA := wa_of 497 (by decide +kernel) (by decide +kernel)
theorem ml_L_124 : (Cond.methodLink RL 124 yX4_pick : Cond) ∈ WA := wa_of 747 (by decide +kernel) (by decide +kernel)
theorem im_X4_pick : (Cond.instanceMethod yX4_pick : Cond) ∈ WA := wa_of 748 (by decide +kernel) (by decide +kernel)
theorem se_X4_pick : (Cond.selects RX4 yX4_pick yX4_pick : Cond) ∈ WA := wa_of 749 (by decide +kernel) (by decide +kernel)
theorem co_X4_pick : (Cond.code yX4_pick cX4_pick 7 (some .int) : Cond) ∈ WA := wa_of 750 (by decide +kernel) (by decide +kernel)
theorem ml_L_125 : (Cond.methodLink RL 125 yX3_count : Cond) ∈ WA := wa_of 498 (by decide +kernel) (by decide +kernel)
theorem im_X3_count : (Cond.instanceMethod yX3_count : Cond) ∈ WA := wa_of 499 (by decide +kernel) (by decide +kernel)
theorem se_X3_count : (Cond.selects RX3 yX3_count yX3_count : Cond) ∈ WA := wa_of 500 (by decide +kernel) (by decide +kernel)
theorem co_X3_count : (Cond.code yX3_count cX3_count 2 (some .int) : Cond) ∈ WA := wa_of 501 (by decide +kernel) (by decide +kernel)
theorem ml_X3_184 : (Cond.methodLink RX3 184 yX3_shufflingMaps : Cond) ∈ WA := wa_of 502 (by decide +kernel) (by decide +kernel)
theorem im_X3_shufflingMaps : (Cond.instanceMethod yX3_shufflingMaps : Cond) ∈ WA := wa_of 504 (by decide +kernel) (by decide +kernel)
theorem se_X3_shufflingMaps : (Cond.selects RX3 yX3_shufflingMaps yX3_shufflingMaps : Cond) ∈ WA := wa_of 28 (by decide +kernel) (by decide +kernel)
theorem co_X3_shufflingMaps : (Cond.code yX3_shufflingMaps cX3_shufflingMaps 3 (some .int) : Cond) ∈ WA := wa_of 505 (by decide +kernel) (by decide +kernel)
theorem ml_L_128 : (Cond.methodLink RL 128 yX4_count : Cond) ∈ WA := wa_of 751 (by decide +kernel) (by decide +kernel)
theorem im_X4_count : (Cond.instanceMethod yX4_count : Cond) ∈ WA := wa_of 752 (by decide +kernel) (by decide +kernel)
theorem se_X4_count : (Cond.selects RX4 yX4_count yX4_count : Cond) ∈ WA := wa_of 753 (by decide +kernel) (by decide +kernel)
theorem co_X4_count : (Cond.code yX4_count cX4_count 4 (some .int) : Cond) ∈ WA := wa_of 754 (by decide +kernel) (by decide +kernel)
theorem ml_L_129 : (Cond.methodLink RL 129 yX3_trace : Cond) ∈ WA := wa_of 506 (by decide +kernel) (by decide +kernel)
theorem im_X3_trace : (Cond.instanceMethod yX3_trace : Cond) ∈ WA := wa_of 507 (by decide +kernel) (by decide +kernel)
theorem se_X3_trace : (Cond.selects RX3 yX3_trace yX3_trace : Cond) ∈ WA := wa_of 508 (by decide +kernel) (by decide +kernel)
theorem co_X3_trace : (Cond.code yX3_trace cX3_trace 1 (some .long) : Cond) ∈ WA := wa_of 509 (by decide +kernel) (by decide +kernel)
theorem ml_L_133 : (Cond.methodLink RL 133 yX4_trace : Cond) ∈ WA := wa_of 755 (by decide +kernel) (by decide +kernel)
theorem im_X4_trace : (Cond.instanceMethod yX4_trace : Cond) ∈ WA := wa_of 756 (by decide +kernel) (by decide +kernel)
theorem se_X4_trace : (Cond.selects RX4 yX4_trace yX4_trace : Cond) ∈ WA := wa_of 757 (by decide +kernel) (by decide +kernel)
theorem co_X4_trace : (Cond.code yX4_trace cX4_trace 1 (some .long) : Cond) ∈ WA := wa_of 758 (by decide +kernel) (by decide +kernel)
theorem inX0 : ∀ w ∈ wsX00, w ∈ WA := wa_all _ [156, 158, 160, 162, 164, 166, 168, 170, 172] (by decide +kernel) (by decide +kernel)
theorem inX1 : ∀ w ∈ wsX10, w ∈ WA := wa_all _ [456, 458] (by decide +kernel) (by decide +kernel)
theorem inX2 : ∀ w ∈ wsX20, w ∈ WA := wa_all _ [84, 86, 88, 90, 92] (by decide +kernel) (by decide +kernel)
theorem inX3 : ∀ w ∈ wsX30, w ∈ WA := wa_all _ [183, 185, 187, 189, 191, 193, 195, 197] (by decide +kernel) (by decide +kernel)
theorem inX4 : ∀ w ∈ wsX40, w ∈ WA := wa_all _ [538, 540, 542, 544, 546, 548, 550, 552, 554, 556] (by decide +kernel) (by decide +kernel)
theorem tb_over_F : (Cond.arrayOver (.object "ShuffleMaps$Field") : Cond) ∈ lw_tbl := List.mem_of_getElem? (i := 69) (by decide +kernel)
theorem tb_over_L : (Cond.arrayOver (.object "ShuffleMaps$Listing") : Cond) ∈ lw_tbl := List.mem_of_getElem? (i := 106) (by decide +kernel)
theorem tb_over_I : (Cond.arrayOver (.array .int) : Cond) ∈ lw_tbl := List.mem_of_getElem? (i := 71) (by decide +kernel)
theorem tb_nest_L : (Cond.methodLinkNest RX0 79 yX1_init "ShuffleMaps" : Cond) ∈ lw_tbl := List.mem_of_getElem? (i := 448) (by decide +kernel)
theorem tb_nest_R : (Cond.methodLinkNest RX3 29 yX2_init "ShuffleMaps" : Cond) ∈ lw_tbl := List.mem_of_getElem? (i := 74) (by decide +kernel)
end
section
/-- class numbers and slots of the objects, class numbers of the arrays -/
abbrev GG : Type := va_G × (Nat → ClassId)
abbrev tyl (G : GG) : List (ClassId × FieldType) := [(G.2 0, .int), (G.2 1, .object "ShuffleMaps$Field"), (G.2 2, .object "ShuffleMaps$Listing"), (G.2 3, .array .int)]
def va_AOA (ty : FieldType) (U : State) : Prop := (Cond.arrayOver (.array ty)).before #[] U = true
theorem va_AOA.of {ty : FieldType} {A : Array Value} {U : State} (h : (Cond.arrayOver (.array ty)).before A U = true) : va_AOA ty U := h
theorem va_AOA.use {ty : FieldType} {A : Array Value} {U : State} (h : va_AOA ty U) : (Cond.arrayOver (.array ty)).before A U = true := h
theorem va_AOA.spec {ty : FieldType} {s : State} (h : va_AOA ty s) : ∃ comp c k, s.vm.findClass (FieldType.array ty).toString = some comp ∧ (s.vm.classes.findIdx? fun (x : Class) => match x.kind with | .array component _ => component == comp | _ => false) = some c ∧ s.vm.classes[c]? = some k ∧ k.kind = .array comp (.array ty) ∧ s.vm.findClass ("[" ++ (FieldType.array ty).toString) = some c := by
  unfold va_AOA Cond.before at h
  simp only [Cond.holds, Cond.value, beq_iff_eq] at h
  cases hc : s.vm.findClass (FieldType.array ty).toString with
  | none => simp [hc] at h
  | some comp =>
    simp only [hc, Option.bind_some, Option.bind_eq_some_iff, Option.map_eq_some_iff] at h
    obtain ⟨c, hi, k, hk, hb⟩ := h
    obtain ⟨hlt, hp, -⟩ := Array.findIdx?_eq_some_iff_getElem.mp hi
    have hkk : s.vm.classes[c] = k := (Array.getElem?_eq_some_iff.mp hk).2
    rw [hkk] at hp
    cases hkind : k.kind with
    | array component ty2 =>
      rw [hkind] at hb hp
      simp at hb hp
      exact ⟨comp, c, k, rfl, hi, hk, by rw [hkind, hp, hb.1], hb.2⟩
    | _ => rw [hkind] at hb; simp at hb
theorem va_AOA.moved {ty : FieldType} {u U : State} (hvm : u.vm.Alike U.vm) (h : va_AOA ty u) : va_AOA ty U := by
  obtain ⟨comp, c, k, h1, h2, h3, h4, h5⟩ := h.spec
  obtain ⟨k', hk', he⟩ := hvm.2.2 _ _ h3
  have hb9 : U.vm.bare = u.vm.bare := by first | exact hvm.bare_eq | exact hvm.bare_eq.symm
  have hi : (U.vm.classes.findIdx? fun (x : Class) => match x.kind with | .array component _ => component == comp | _ => false) = some c := ((va_idx_bare U.vm comp).symm.trans ((congrArg (fun v : Vm => v.classes.findIdx? fun (x : Class) => match x.kind with | .array component _ => component == comp | _ => false) hb9).trans (va_idx_bare u.vm comp))).trans h2
  have hkind : k'.kind = .array comp (.array ty) := by rw [he]; exact h4
  have f1 : U.vm.findClass (FieldType.array ty).toString = some comp := by rw [hvm.findClass]; exact h1
  have f2 : U.vm.findClass ("[" ++ (FieldType.array ty).toString) = some c := by rw [hvm.findClass]; exact h5
  unfold va_AOA Cond.before
  simp only [Cond.holds, Cond.value, f1, Option.bind_some, beq_iff_eq]
  rw [Option.bind_eq_some_iff]
  refine ⟨c, hi, ?_⟩
  simp [hk', hkind, f2]
/-- what is known of the tables -/
def KK (G : GG) (U : State) : Prop := va_K G.1 vwCl (tyl G) U ∧ va_AO "ShuffleMaps$Field" U ∧ va_AO "ShuffleMaps$Listing" U ∧ va_AOA .int U ∧ va_Nw (.methodLinkNest RX0 79 yX1_init "ShuffleMaps") U ∧ va_Nw (.methodLinkNest RX3 29 yX2_init "ShuffleMaps") U
theorem KK.warm {G : GG} {s U : State} (hW : s.WarmedH U.vm) (h : KK G s) : KK G U := ⟨va_K.moved hW.alike h.1, h.2.1.moved hW.alike, h.2.2.1.moved hW.alike, h.2.2.2.1.moved hW.alike, h.2.2.2.2.1.warmM hW, h.2.2.2.2.2.warmM hW⟩
theorem KK.calling {G : GG} {U : State} {g : JFrame} {mk : MethodId} {a : Array Value} (h : KK G U) : KK G (U.calling g mk a) := ⟨va_K.moved (u := U) (U := U.calling g mk a) (Vm.Alike.refl U.vm) h.1, va_AO.moved (u := U) (U := U.calling g mk a) (Vm.Alike.refl U.vm) h.2.1, va_AO.moved (u := U) (U := U.calling g mk a) (Vm.Alike.refl U.vm) h.2.2.1, va_AOA.moved (u := U) (U := U.calling g mk a) (Vm.Alike.refl U.vm) h.2.2.2.1, va_Nw.same rfl rfl h.2.2.2.2.1, va_Nw.same rfl rfl h.2.2.2.2.2⟩
/-- what holds throughout a method's body -/
def Cx (p : Program) (s : State) (m : MethodId) (args : Array Value) (meth : Method) (c : Code) (G : GG) (A : Nat → Prop) (own : String) (cc : ByteArray) (nL : Nat) (ret : Option FieldType) : Prop :=
  p.tables.exec = Jvm.exec ∧ c.code = cc ∧ c.maxLocals = nL ∧ meth.sig.returnType = ret ∧ meth.locks = false ∧ s.vm.findClass own = some m.cls ∧ (∀ w ∈ WA, w.before args s = true) ∧ KK G s ∧ (∀ q, s.heap.size ≤ q → A q)
/-- the machine goes on from pc with the world ws, the locals lv and the stack st -/
def Wd (p : Program) (l : Launch) (e : Env) (R : Room) (s : State) (m : MethodId) (args : Array Value) (below : List Frame) (meth : Method) (c : Code) (G : GG) (A : Nat → Prop) (nL cells slots : Nat) (Q : State → Prop) (ws : va_W) (lv : List (Nat × Value)) (pc : Nat) (st : List Value) : Prop :=
  ∀ (H : Heap) (locs : List Loc) (ls : Array Slot), va_P G.1 vwCl ws H → va_D A ws → va_S A s.heap H locs → lv_has ls nL lv → W p l e R s m args below meth c H locs cells slots Q (F0 m pc ls st)
section
variable {p : Program} {l : Launch} {e : Env} {R : Room} {s : State} {m : MethodId} {args : Array Value} {below : List Frame} {meth : Method} {c : Code} {G : GG} {A : Nat → Prop} {own : String} {cc : ByteArray} {nL cells slots : Nat} {ret : Option FieldType} {Q : State → Prop} {ws : va_W} {lv : List (Nat × Value)} {pc : Nat} {st : List Value}
theorem w_iconst (C : Cx p s m args meth c G A own cc nL ret) {n : Int} {v : Int32} (hdg : decode cc pc = .ok (.iconst n, 1)) (hv : Int32.ofInt n = v) (kk : Wd p l e R s m args below meth c G A nL cells slots Q ws lv (pc + 1) (.int v :: st)) : Wd p l e R s m args below meth c G A nL cells slots Q ws lv pc st := fun H locs ls hP hD hS hl => lv_iconst C.1 C.2.1 hdg hv (kk H locs ls hP hD hS hl)
theorem w_bipush (C : Cx p s m args meth c G A own cc nL ret) {n : Int} {v : Int32} (hdg : decode cc pc = .ok (.bipush n, 2)) (hv : (Int8.ofInt n).toInt32 = v) (kk : Wd p l e R s m args below meth c G A nL cells slots Q ws lv (pc + 2) (.int v :: st)) : Wd p l e R s m args below meth c G A nL cells slots Q ws lv pc st := fun H locs ls hP hD hS hl => lv_bipush C.1 C.2.1 hdg hv (kk H locs ls hP hD hS hl)
theorem w_sipush (C : Cx p s m args meth c G A own cc nL ret) {n : Int} {v : Int32} (hdg : decode cc pc = .ok (.sipush n, 3)) (hv : (Int16.ofInt n).toInt32 = v) (kk : Wd p l e R s m args below meth c G A nL cells slots Q ws lv (pc + 3) (.int v :: st)) : Wd p l e R s m args below meth c G A nL cells slots Q ws lv pc st := fun H locs ls hP hD hS hl => lv_sipush C.1 C.2.1 hdg hv (kk H locs ls hP hD hS hl)
theorem w_lconst (C : Cx p s m args meth c G A own cc nL ret) {n : Fin 2} {v : Int64} (hdg : decode cc pc = .ok (.lconst n, 1)) (hv : Int64.ofNat (n : Nat) = v) (kk : Wd p l e R s m args below meth c G A nL cells slots Q ws lv (pc + 1) (.long v :: st)) : Wd p l e R s m args below meth c G A nL cells slots Q ws lv pc st := fun H locs ls hP hD hS hl => lv_lconst C.1 C.2.1 hdg hv (kk H locs ls hP hD hS hl)
theorem w_ldc (C : Cx p s m args meth c G A own cc nL ret) {index : Nat} {v : Int32} (hc : (Cond.constant own index v) ∈ WA) (hdg : decode cc pc = .ok (.ldc index, 2)) (kk : Wd p l e R s m args below meth c G A nL cells slots Q ws lv (pc + 2) (.int v :: st)) : Wd p l e R s m args below meth c G A nL cells slots Q ws lv pc st := fun H locs ls hP hD hS hl => lv_ldc C.1 C.2.1 C.2.2.2.2.2.1 (C.2.2.2.2.2.2.1 _ hc) hdg (kk H locs ls hP hD hS hl)
theorem w_ldcw (C : Cx p s m args meth c G A own cc nL ret) {index : Nat} {v : Int32} (hc : (Cond.constant own index v) ∈ WA) (hdg : decode cc pc = .ok (.ldc_w index, 3)) (kk : Wd p l e R s m args below meth c G A nL cells slots Q ws lv (pc + 3) (.int v :: st)) : Wd p l e R s m args below meth c G A nL cells slots Q ws lv pc st := fun H locs ls hP hD hS hl => lv_ldcw C.1 C.2.1 C.2.2.2.2.2.1 (C.2.2.2.2.2.2.1 _ hc) hdg (kk H locs ls hP hD hS hl)
theorem w_ldc2 (C : Cx p s m args meth c G A own cc nL ret) {index : Nat} {v : Int64} (hc : (Cond.constantLong own index v) ∈ WA) (hdg : decode cc pc = .ok (.ldc2_w index, 3)) (kk : Wd p l e R s m args below meth c G A nL cells slots Q ws lv (pc + 3) (.long v :: st)) : Wd p l e R s m args below meth c G A nL cells slots Q ws lv pc st := fun H locs ls hP hD hS hl => lv_ldc2 C.1 C.2.1 C.2.2.2.2.2.1 (C.2.2.2.2.2.2.1 _ hc) hdg (kk H locs ls hP hD hS hl)
theorem w_iload_n (C : Cx p s m args meth c G A own cc nL ret) {k : Fin 4} {x : Int32} (j : Nat) (hj : lv[j]? = some ((k : Nat), .int x)) (hdg : decode cc pc = .ok (.iload_n k, 1)) (kk : Wd p l e R s m args below meth c G A nL cells slots Q ws lv (pc + 1) (.int x :: st)) : Wd p l e R s m args below meth c G A nL cells slots Q ws lv pc st := fun H locs ls hP hD hS hl => lv_iload_n C.1 C.2.1 hdg rfl (lv_at hl j hj) (kk H locs ls hP hD hS hl)
theorem w_iload (C : Cx p s m args meth c G A own cc nL ret) {i : Nat} {x : Int32} (j : Nat) (hj : lv[j]? = some (i, .int x)) (hdg : decode cc pc = .ok (.iload i, 2)) (kk : Wd p l e R s m args below meth c G A nL cells slots Q ws lv (pc + 2) (.int x :: st)) : Wd p l e R s m args below meth c G A nL cells slots Q ws lv pc st := fun H locs ls hP hD hS hl => lv_iload C.1 C.2.1 hdg (lv_at hl j hj) (kk H locs ls hP hD hS hl)
theorem w_aload_n (C : Cx p s m args meth c G A own cc nL ret) {k : Fin 4} {x : Nat} (j : Nat) (hj : lv[j]? = some ((k : Nat), .ref x)) (hdg : decode cc pc = .ok (.aload_n k, 1)) (kk : Wd p l e R s m args below meth c G A nL cells slots Q ws lv (pc + 1) (.ref x :: st)) : Wd p l e R s m args below meth c G A nL cells slots Q ws lv pc st := fun H locs ls hP hD hS hl => lv_aload_n C.1 C.2.1 hdg rfl (lv_at hl j hj) (kk H locs ls hP hD hS hl)
theorem w_aload (C : Cx p s m args meth c G A own cc nL ret) {i : Nat} {x : Nat} (j : Nat) (hj : lv[j]? = some (i, .ref x)) (hdg : decode cc pc = .ok (.aload i, 2)) (kk : Wd p l e R s m args below meth c G A nL cells slots Q ws lv (pc + 2) (.ref x :: st)) : Wd p l e R s m args below meth c G A nL cells slots Q ws lv pc st := fun H locs ls hP hD hS hl => lv_aload C.1 C.2.1 hdg (lv_at hl j hj) (kk H locs ls hP hD hS hl)
theorem w_istore_n (C : Cx p s m args meth c G A own cc nL ret) {k : Fin 4} {x : Int32} {lv' : List (Nat × Value)} (hn : (k : Nat) < nL) (hl' : ((k : Nat), Value.int x) :: lv.filter (fun q => !(q.1 == (k : Nat)) && !(q.1 + 1 == (k : Nat) && q.2.category == 2)) = lv') (hdg : decode cc pc = .ok (.istore_n k, 1)) (kk : Wd p l e R s m args below meth c G A nL cells slots Q ws lv' (pc + 1) st) : Wd p l e R s m args below meth c G A nL cells slots Q ws lv pc (.int x :: st) := fun H locs ls hP hD hS hl => lv_istore_n C.1 C.2.1 hdg rfl hl hn hl' (fun ls2 hl2 => kk H locs ls2 hP hD hS hl2)
theorem w_istore (C : Cx p s m args meth c G A own cc nL ret) {i : Nat} {x : Int32} {lv' : List (Nat × Value)} (hn : i < nL) (hl' : (i, Value.int x) :: lv.filter (fun q => !(q.1 == i) && !(q.1 + 1 == i && q.2.category == 2)) = lv') (hdg : decode cc pc = .ok (.istore i, 2)) (kk : Wd p l e R s m args below meth c G A nL cells slots Q ws lv' (pc + 2) st) : Wd p l e R s m args below meth c G A nL cells slots Q ws lv pc (.int x :: st) := fun H locs ls hP hD hS hl => lv_istore C.1 C.2.1 hdg hl hn hl' (fun ls2 hl2 => kk H locs ls2 hP hD hS hl2)
theorem w_astore_n (C : Cx p s m args meth c G A own cc nL ret) {k : Fin 4} {x : Nat} {lv' : List (Nat × Value)} (hn : (k : Nat) < nL) (hl' : ((k : Nat), Value.ref x) :: lv.filter (fun q => !(q.1 == (k : Nat)) && !(q.1 + 1 == (k : Nat) && q.2.category == 2)) = lv') (hdg : decode cc pc = .ok (.astore_n k, 1)) (kk : Wd p l e R s m args below meth c G A nL cells slots Q ws lv' (pc + 1) st) : Wd p l e R s m args below meth c G A nL cells slots Q ws lv pc (.ref x :: st) := fun H locs ls hP hD hS hl => lv_astore_n C.1 C.2.1 hdg rfl hl hn hl' (fun ls2 hl2 => kk H locs ls2 hP hD hS hl2)
theorem w_astore (C : Cx p s m args meth c G A own cc nL ret) {i : Nat} {x : Nat} {lv' : List (Nat × Value)} (hn : i < nL) (hl' : (i, Value.ref x) :: lv.filter (fun q => !(q.1 == i) && !(q.1 + 1 == i && q.2.category == 2)) = lv') (hdg : decode cc pc = .ok (.astore i, 2)) (kk : Wd p l e R s m args below meth c G A nL cells slots Q ws lv' (pc + 2) st) : Wd p l e R s m args below meth c G A nL cells slots Q ws lv pc (.ref x :: st) := fun H locs ls hP hD hS hl => lv_astore C.1 C.2.1 hdg hl hn hl' (fun ls2 hl2 => kk H locs ls2 hP hD hS hl2)
theorem w_iinc (C : Cx p s m args meth c G A own cc nL ret) {i k : Nat} {n : Int} {x v : Int32} {lv' : List (Nat × Value)} (hk : lv[k]? = some (i, .int x)) (hv : x + Int32.ofInt n = v) (hn : i < nL) (hl' : (i, Value.int v) :: lv.filter (fun q => !(q.1 == i) && !(q.1 + 1 == i && q.2.category == 2)) = lv') (hdg : decode cc pc = .ok (.iinc i n, 3)) (kk : Wd p l e R s m args below meth c G A nL cells slots Q ws lv' (pc + 3) st) : Wd p l e R s m args below meth c G A nL cells slots Q ws lv pc st := fun H locs ls hP hD hS hl => lv_iinc C.1 C.2.1 hdg hl hk hv hn hl' (fun ls2 hl2 => kk H locs ls2 hP hD hS hl2)
theorem w_iadd (C : Cx p s m args meth c G A own cc nL ret) {x y : Int32} (hdg : decode cc pc = .ok (.iadd, 1)) (kk : Wd p l e R s m args below meth c G A nL cells slots Q ws lv (pc + 1) (.int (x + y) :: st)) : Wd p l e R s m args below meth c G A nL cells slots Q ws lv pc (.int y :: .int x :: st) := fun H locs ls hP hD hS hl => lv_iadd C.1 C.2.1 hdg (kk H locs ls hP hD hS hl)
theorem w_isub (C : Cx p s m args meth c G A own cc nL ret) {x y : Int32} (hdg : decode cc pc = .ok (.isub, 1)) (kk : Wd p l e R s m args below meth c G A nL cells slots Q ws lv (pc + 1) (.int (x - y) :: st)) : Wd p l e R s m args below meth c G A nL cells slots Q ws lv pc (.int y :: .int x :: st) := fun H locs ls hP hD hS hl => lv_isub C.1 C.2.1 hdg (kk H locs ls hP hD hS hl)
theorem w_imul (C : Cx p s m args meth c G A own cc nL ret) {x y : Int32} (hdg : decode cc pc = .ok (.imul, 1)) (kk : Wd p l e R s m args below meth c G A nL cells slots Q ws lv (pc + 1) (.int (x * y) :: st)) : Wd p l e R s m args below meth c G A nL cells slots Q ws lv pc (.int y :: .int x :: st) := fun H locs ls hP hD hS hl => lv_imul C.1 C.2.1 hdg (kk H locs ls hP hD hS hl)
theorem w_iand (C : Cx p s m args meth c G A own cc nL ret) {x y : Int32} (hdg : decode cc pc = .ok (.iand, 1)) (kk : Wd p l e R s m args below meth c G A nL cells slots Q ws lv (pc + 1) (.int (x &&& y) :: st)) : Wd p l e R s m args below meth c G A nL cells slots Q ws lv pc (.int y :: .int x :: st) := fun H locs ls hP hD hS hl => lv_iand C.1 C.2.1 hdg (kk H locs ls hP hD hS hl)
theorem w_ior (C : Cx p s m args meth c G A own cc nL ret) {x y : Int32} (hdg : decode cc pc = .ok (.ior, 1)) (kk : Wd p l e R s m args below meth c G A nL cells slots Q ws lv (pc + 1) (.int (x ||| y) :: st)) : Wd p l e R s m args below meth c G A nL cells slots Q ws lv pc (.int y :: .int x :: st) := fun H locs ls hP hD hS hl => lv_ior C.1 C.2.1 hdg (kk H locs ls hP hD hS hl)
theorem w_ixor (C : Cx p s m args meth c G A own cc nL ret) {x y : Int32} (hdg : decode cc pc = .ok (.ixor, 1)) (kk : Wd p l e R s m args below meth c G A nL cells slots Q ws lv (pc + 1) (.int (x ^^^ y) :: st)) : Wd p l e R s m args below meth c G A nL cells slots Q ws lv pc (.int y :: .int x :: st) := fun H locs ls hP hD hS hl => lv_ixor C.1 C.2.1 hdg (kk H locs ls hP hD hS hl)
theorem w_ishl (C : Cx p s m args meth c G A own cc nL ret) {x y : Int32} (hdg : decode cc pc = .ok (.ishl, 1)) (kk : Wd p l e R s m args below meth c G A nL cells slots Q ws lv (pc + 1) (.int (x <<< (y &&& 31)) :: st)) : Wd p l e R s m args below meth c G A nL cells slots Q ws lv pc (.int y :: .int x :: st) := fun H locs ls hP hD hS hl => lv_ishl C.1 C.2.1 hdg (kk H locs ls hP hD hS hl)
theorem w_ishr (C : Cx p s m args meth c G A own cc nL ret) {x y : Int32} (hdg : decode cc pc = .ok (.ishr, 1)) (kk : Wd p l e R s m args below meth c G A nL cells slots Q ws lv (pc + 1) (.int (x >>> (y &&& 31)) :: st)) : Wd p l e R s m args below meth c G A nL cells slots Q ws lv pc (.int y :: .int x :: st) := fun H locs ls hP hD hS hl => lv_ishr C.1 C.2.1 hdg (kk H locs ls hP hD hS hl)
theorem w_idiv (C : Cx p s m args meth c G A own cc nL ret) {x y : Int32} (hne : ¬ y = 0) (hdg : decode cc pc = .ok (.idiv, 1)) (kk : Wd p l e R s m args below meth c G A nL cells slots Q ws lv (pc + 1) (.int (x / y) :: st)) : Wd p l e R s m args below meth c G A nL cells slots Q ws lv pc (.int y :: .int x :: st) := fun H locs ls hP hD hS hl => lv_idiv C.1 C.2.1 hdg hne (kk H locs ls hP hD hS hl)
theorem w_irem (C : Cx p s m args meth c G A own cc nL ret) {x y : Int32} (hne : ¬ y = 0) (hdg : decode cc pc = .ok (.irem, 1)) (kk : Wd p l e R s m args below meth c G A nL cells slots Q ws lv (pc + 1) (.int (x - x / y * y) :: st)) : Wd p l e R s m args below meth c G A nL cells slots Q ws lv pc (.int y :: .int x :: st) := fun H locs ls hP hD hS hl => lv_irem C.1 C.2.1 hdg hne (kk H locs ls hP hD hS hl)
theorem w_ineg (C : Cx p s m args meth c G A own cc nL ret) {x : Int32} (hdg : decode cc pc = .ok (.ineg, 1)) (kk : Wd p l e R s m args below meth c G A nL cells slots Q ws lv (pc + 1) (.int (-x) :: st)) : Wd p l e R s m args below meth c G A nL cells slots Q ws lv pc (.int x :: st) := fun H locs ls hP hD hS hl => lv_ineg C.1 C.2.1 hdg (kk H locs ls hP hD hS hl)
theorem w_iushr (C : Cx p s m args meth c G A own cc nL ret) {x y : Int32} (hdg : decode cc pc = .ok (.iushr, 1)) (kk : Wd p l e R s m args below meth c G A nL cells slots Q ws lv (pc + 1) (.int (x.toUInt32 >>> (y.toUInt32 &&& Int32.toUInt32 31)).toInt32 :: st)) : Wd p l e R s m args below meth c G A nL cells slots Q ws lv pc (.int y :: .int x :: st) := fun H locs ls hP hD hS hl => lv_iushr C.1 C.2.1 hdg rfl (kk H locs ls hP hD hS hl)
theorem w_ladd (C : Cx p s m args meth c G A own cc nL ret) {x y : Int64} (hdg : decode cc pc = .ok (.ladd, 1)) (kk : Wd p l e R s m args below meth c G A nL cells slots Q ws lv (pc + 1) (.long (x + y) :: st)) : Wd p l e R s m args below meth c G A nL cells slots Q ws lv pc (.long y :: .long x :: st) := fun H locs ls hP hD hS hl => lv_ladd C.1 C.2.1 hdg (kk H locs ls hP hD hS hl)
theorem w_i2l (C : Cx p s m args meth c G A own cc nL ret) {x : Int32} (hdg : decode cc pc = .ok (.i2l, 1)) (kk : Wd p l e R s m args below meth c G A nL cells slots Q ws lv (pc + 1) (.long x.toInt64 :: st)) : Wd p l e R s m args below meth c G A nL cells slots Q ws lv pc (.int x :: st) := fun H locs ls hP hD hS hl => lv_i2l C.1 C.2.1 hdg rfl (kk H locs ls hP hD hS hl)
theorem w_dup (C : Cx p s m args meth c G A own cc nL ret) {va : Value} (hdg : decode cc pc = .ok (.dup, 1)) (h1 : va.category = 1) (kk : Wd p l e R s m args below meth c G A nL cells slots Q ws lv (pc + 1) (va :: va :: st)) : Wd p l e R s m args below meth c G A nL cells slots Q ws lv pc (va :: st) := fun H locs ls hP hD hS hl => lv_dup C.1 C.2.1 hdg h1 (kk H locs ls hP hD hS hl)
theorem w_dup2 (C : Cx p s m args meth c G A own cc nL ret) {va vb : Value} (hdg : decode cc pc = .ok (.dup2, 1)) (h1 : va.category = 1) (h2 : vb.category = 1) (kk : Wd p l e R s m args below meth c G A nL cells slots Q ws lv (pc + 1) (va :: vb :: va :: vb :: st)) : Wd p l e R s m args below meth c G A nL cells slots Q ws lv pc (va :: vb :: st) := fun H locs ls hP hD hS hl => lv_dup2_11 C.1 C.2.1 hdg h1 h2 (kk H locs ls hP hD hS hl)
theorem w_icmp_eq (C : Cx p s m args meth c G A own cc nL ret) {x y : Int32} {off : Int} {tgt : Nat} (hdg : decode cc pc = .ok (.if_icmp .eq off, 3)) (ht : (pc : Int) + off = (tgt : Int)) (kt : x = y → Wd p l e R s m args below meth c G A nL cells slots Q ws lv tgt st) (kf : ¬ x = y → Wd p l e R s m args below meth c G A nL cells slots Q ws lv (pc + 3) st) : Wd p l e R s m args below meth c G A nL cells slots Q ws lv pc (.int y :: .int x :: st) := fun H locs ls hP hD hS hl => lv_icmp_eq C.1 C.2.1 hdg ht (fun h => kt h H locs ls hP hD hS hl) (fun h => kf h H locs ls hP hD hS hl)
theorem w_if_eq (C : Cx p s m args meth c G A own cc nL ret) {x : Int32} {off : Int} {tgt : Nat} (hdg : decode cc pc = .ok (.ifCond .eq off, 3)) (ht : (pc : Int) + off = (tgt : Int)) (kt : x = 0 → Wd p l e R s m args below meth c G A nL cells slots Q ws lv tgt st) (kf : ¬ x = 0 → Wd p l e R s m args below meth c G A nL cells slots Q ws lv (pc + 3) st) : Wd p l e R s m args below meth c G A nL cells slots Q ws lv pc (.int x :: st) := fun H locs ls hP hD hS hl => lv_if_eq C.1 C.2.1 hdg ht (fun h => kt h H locs ls hP hD hS hl) (fun h => kf h H locs ls hP hD hS hl)
theorem w_icmp_ne (C : Cx p s m args meth c G A own cc nL ret) {x y : Int32} {off : Int} {tgt : Nat} (hdg : decode cc pc = .ok (.if_icmp .ne off, 3)) (ht : (pc : Int) + off = (tgt : Int)) (kt : ¬ x = y → Wd p l e R s m args below meth c G A nL cells slots Q ws lv tgt st) (kf : x = y → Wd p l e R s m args below meth c G A nL cells slots Q ws lv (pc + 3) st) : Wd p l e R s m args below meth c G A nL cells slots Q ws lv pc (.int y :: .int x :: st) := fun H locs ls hP hD hS hl => lv_icmp_ne C.1 C.2.1 hdg ht (fun h => kt h H locs ls hP hD hS hl) (fun h => kf h H locs ls hP hD hS hl)
theorem w_if_ne (C : Cx p s m args meth c G A own cc nL ret) {x : Int32} {off : Int} {tgt : Nat} (hdg : decode cc pc = .ok (.ifCond .ne off, 3)) (ht : (pc : Int) + off = (tgt : Int)) (kt : ¬ x = 0 → Wd p l e R s m args below meth c G A nL cells slots Q ws lv tgt st) (kf : x = 0 → Wd p l e R s m args below meth c G A nL cells slots Q ws lv (pc + 3) st) : Wd p l e R s m args below meth c G A nL cells slots Q ws lv pc (.int x :: st) := fun H locs ls hP hD hS hl => lv_if_ne C.1 C.2.1 hdg ht (fun h => kt h H locs ls hP hD hS hl) (fun h => kf h H locs ls hP hD hS hl)
theorem w_icmp_lt (C : Cx p s m args meth c G A own cc nL ret) {x y : Int32} {off : Int} {tgt : Nat} (hdg : decode cc pc = .ok (.if_icmp .lt off, 3)) (ht : (pc : Int) + off = (tgt : Int)) (kt : x < y → Wd p l e R s m args below meth c G A nL cells slots Q ws lv tgt st) (kf : ¬ x < y → Wd p l e R s m args below meth c G A nL cells slots Q ws lv (pc + 3) st) : Wd p l e R s m args below meth c G A nL cells slots Q ws lv pc (.int y :: .int x :: st) := fun H locs ls hP hD hS hl => lv_icmp_lt C.1 C.2.1 hdg ht (fun h => kt h H locs ls hP hD hS hl) (fun h => kf h H locs ls hP hD hS hl)
theorem w_if_lt (C : Cx p s m args meth c G A own cc nL ret) {x : Int32} {off : Int} {tgt : Nat} (hdg : decode cc pc = .ok (.ifCond .lt off, 3)) (ht : (pc : Int) + off = (tgt : Int)) (kt : x < 0 → Wd p l e R s m args below meth c G A nL cells slots Q ws lv tgt st) (kf : ¬ x < 0 → Wd p l e R s m args below meth c G A nL cells slots Q ws lv (pc + 3) st) : Wd p l e R s m args below meth c G A nL cells slots Q ws lv pc (.int x :: st) := fun H locs ls hP hD hS hl => lv_if_lt C.1 C.2.1 hdg ht (fun h => kt h H locs ls hP hD hS hl) (fun h => kf h H locs ls hP hD hS hl)
theorem w_icmp_ge (C : Cx p s m args meth c G A own cc nL ret) {x y : Int32} {off : Int} {tgt : Nat} (hdg : decode cc pc = .ok (.if_icmp .ge off, 3)) (ht : (pc : Int) + off = (tgt : Int)) (kt : y ≤ x → Wd p l e R s m args below meth c G A nL cells slots Q ws lv tgt st) (kf : ¬ y ≤ x → Wd p l e R s m args below meth c G A nL cells slots Q ws lv (pc + 3) st) : Wd p l e R s m args below meth c G A nL cells slots Q ws lv pc (.int y :: .int x :: st) := fun H locs ls hP hD hS hl => lv_icmp_ge C.1 C.2.1 hdg ht (fun h => kt h H locs ls hP hD hS hl) (fun h => kf h H locs ls hP hD hS hl)
theorem w_if_ge (C : Cx p s m args meth c G A own cc nL ret) {x : Int32} {off : Int} {tgt : Nat} (hdg : decode cc pc = .ok (.ifCond .ge off, 3)) (ht : (pc : Int) + off = (tgt : Int)) (kt : 0 ≤ x → Wd p l e R s m args below meth c G A nL cells slots Q ws lv tgt st) (kf : ¬ 0 ≤ x → Wd p l e R s m args below meth c G A nL cells slots Q ws lv (pc + 3) st) : Wd p l e R s m args below meth c G A nL cells slots Q ws lv pc (.int x :: st) := fun H locs ls hP hD hS hl => lv_if_ge C.1 C.2.1 hdg ht (fun h => kt h H locs ls hP hD hS hl) (fun h => kf h H locs ls hP hD hS hl)
theorem w_icmp_gt (C : Cx p s m args meth c G A own cc nL ret) {x y : Int32} {off : Int} {tgt : Nat} (hdg : decode cc pc = .ok (.if_icmp .gt off, 3)) (ht : (pc : Int) + off = (tgt : Int)) (kt : y < x → Wd p l e R s m args below meth c G A nL cells slots Q ws lv tgt st) (kf : ¬ y < x → Wd p l e R s m args below meth c G A nL cells slots Q ws lv (pc + 3) st) : Wd p l e R s m args below meth c G A nL cells slots Q ws lv pc (.int y :: .int x :: st) := fun H locs ls hP hD hS hl => lv_icmp_gt C.1 C.2.1 hdg ht (fun h => kt h H locs ls hP hD hS hl) (fun h => kf h H locs ls hP hD hS hl)
theorem w_if_gt (C : Cx p s m args meth c G A own cc nL ret) {x : Int32} {off : Int} {tgt : Nat} (hdg : decode cc pc = .ok (.ifCond .gt off, 3)) (ht : (pc : Int) + off = (tgt : Int)) (kt : 0 < x → Wd p l e R s m args below meth c G A nL cells slots Q ws lv tgt st) (kf : ¬ 0 < x → Wd p l e R s m args below meth c G A nL cells slots Q ws lv (pc + 3) st) : Wd p l e R s m args below meth c G A nL cells slots Q ws lv pc (.int x :: st) := fun H locs ls hP hD hS hl => lv_if_gt C.1 C.2.1 hdg ht (fun h => kt h H locs ls hP hD hS hl) (fun h => kf h H locs ls hP hD hS hl)
theorem w_icmp_le (C : Cx p s m args meth c G A own cc nL ret) {x y : Int32} {off : Int} {tgt : Nat} (hdg : decode cc pc = .ok (.if_icmp .le off, 3)) (ht : (pc : Int) + off = (tgt : Int)) (kt : x ≤ y → Wd p l e R s m args below meth c G A nL cells slots Q ws lv tgt st) (kf : ¬ x ≤ y → Wd p l e R s m args below meth c G A nL cells slots Q ws lv (pc + 3) st) : Wd p l e R s m args below meth c G A nL cells slots Q ws lv pc (.int y :: .int x :: st) := fun H locs ls hP hD hS hl => lv_icmp_le C.1 C.2.1 hdg ht (fun h => kt h H locs ls hP hD hS hl) (fun h => kf h H locs ls hP hD hS hl)
theorem w_if_le (C : Cx p s m args meth c G A own cc nL ret) {x : Int32} {off : Int} {tgt : Nat} (hdg : decode cc pc = .ok (.ifCond .le off, 3)) (ht : (pc : Int) + off = (tgt : Int)) (kt : x ≤ 0 → Wd p l e R s m args below meth c G A nL cells slots Q ws lv tgt st) (kf : ¬ x ≤ 0 → Wd p l e R s m args below meth c G A nL cells slots Q ws lv (pc + 3) st) : Wd p l e R s m args below meth c G A nL cells slots Q ws lv pc (.int x :: st) := fun H locs ls hP hD hS hl => lv_if_le C.1 C.2.1 hdg ht (fun h => kt h H locs ls hP hD hS hl) (fun h => kf h H locs ls hP hD hS hl)
theorem w_goto (C : Cx p s m args meth c G A own cc nL ret) {off : Int} {tgt : Nat} (hdg : decode cc pc = .ok (.goto off, 3)) (ht : (pc : Int) + off = (tgt : Int)) (kk : Wd p l e R s m args below meth c G A nL cells slots Q ws lv tgt st) : Wd p l e R s m args below meth c G A nL cells slots Q ws lv pc st := fun H locs ls hP hD hS hl => lv_goto C.1 C.2.1 hdg ht (kk H locs ls hP hD hS hl)
theorem w_tableOut (C : Cx p s m args meth c G A own cc nL ret) {dflt lo hi : Int} {offs : Array Int} {len : Nat} {x : Int32} {tgt : Nat} (hdg : decode cc pc = .ok (.tableswitch dflt lo hi offs, len)) (h : x.toInt < lo ∨ hi < x.toInt) (ht : (pc : Int) + dflt = (tgt : Int)) (kk : Wd p l e R s m args below meth c G A nL cells slots Q ws lv tgt st) : Wd p l e R s m args below meth c G A nL cells slots Q ws lv pc (.int x :: st) := fun H locs ls hP hD hS hl => lv_tableOut C.1 C.2.1 hdg h ht (kk H locs ls hP hD hS hl)
theorem w_tableIn (C : Cx p s m args meth c G A own cc nL ret) {dflt lo hi : Int} {offs : Array Int} {len : Nat} {x : Int32} {off : Int} {tgt : Nat} (hdg : decode cc pc = .ok (.tableswitch dflt lo hi offs, len)) (h1 : ¬ x.toInt < lo) (h2 : ¬ hi < x.toInt) (ho : offs[(x.toInt - lo).toNat]? = some off) (ht : (pc : Int) + off = (tgt : Int)) (kk : Wd p l e R s m args below meth c G A nL cells slots Q ws lv tgt st) : Wd p l e R s m args below meth c G A nL cells slots Q ws lv pc (.int x :: st) := fun H locs ls hP hD hS hl => lv_tableIn C.1 C.2.1 hdg h1 h2 ho ht (kk H locs ls hP hD hS hl)
theorem w_lookup (C : Cx p s m args meth c G A own cc nL ret) {dflt : Int} {ps : Array (Int × Int)} {len : Nat} {x : Int32} {off : Int} {tgt : Nat} (hdg : decode cc pc = .ok (.lookupswitch dflt ps, len)) (hp : (ps.toList.zip (ps.toList.drop 1)).all (fun (a, next) => a.1 < next.1) = true) (ho : Op.lookupswitch.offset ps.toList dflt x.toInt = off) (ht : (pc : Int) + off = (tgt : Int)) (kk : Wd p l e R s m args below meth c G A nL cells slots Q ws lv tgt st) : Wd p l e R s m args below meth c G A nL cells slots Q ws lv pc (.int x :: st) := fun H locs ls hP hD hS hl => lv_lookup C.1 C.2.1 hdg hp ho ht (kk H locs ls hP hD hS hl)
theorem w_ifnonnull (C : Cx p s m args meth c G A own cc nL ret) {x : Nat} {off : Int} {tgt : Nat} (hdg : decode cc pc = .ok (.ifnonnull off, 3)) (ht : (pc : Int) + off = (tgt : Int)) (kk : Wd p l e R s m args below meth c G A nL cells slots Q ws lv tgt st) : Wd p l e R s m args below meth c G A nL cells slots Q ws lv pc (.ref x :: st) := fun H locs ls hP hD hS hl => lv_ifnonnull C.1 C.2.1 hdg ht (kk H locs ls hP hD hS hl)
theorem w_ifnonnullN (C : Cx p s m args meth c G A own cc nL ret) {off : Int} (hdg : decode cc pc = .ok (.ifnonnull off, 3)) (kk : Wd p l e R s m args below meth c G A nL cells slots Q ws lv (pc + 3) st) : Wd p l e R s m args below meth c G A nL cells slots Q ws lv pc (.null :: st) := fun H locs ls hP hD hS hl => lv_ifnonnullN C.1 C.2.1 hdg (kk H locs ls hP hD hS hl)
theorem w_lv {lv' : List (Nat × Value)} (ks : List Nat) (h : lv_pick lv ks = lv') (kk : Wd p l e R s m args below meth c G A nL cells slots Q ws lv' pc st) : Wd p l e R s m args below meth c G A nL cells slots Q ws lv pc st := fun H locs ls hP hD hS hl => kk H locs ls hP hD hS (lv_sub hl ks h)
theorem w_widen {k n : Nat} (h1 : cells ≤ k) (h2 : slots ≤ n) (kk : Wd p l e R s m args below meth c G A nL k n Q ws lv pc st) : Wd p l e R s m args below meth c G A nL cells slots Q ws lv pc st := fun H locs ls hP hD hS hl => W.widen h1 h2 (kk H locs ls hP hD hS hl)
theorem w_lcmp (C : Cx p s m args meth c G A own cc nL ret) {x y : Int64} (hdg : decode cc pc = .ok (.lcmp, 1)) (kk : Wd p l e R s m args below meth c G A nL cells slots Q ws lv (pc + 1) (.int (lg_cmp x y) :: st)) : Wd p l e R s m args below meth c G A nL cells slots Q ws lv pc (.long y :: .long x :: st) := fun H locs ls hP hD hS hl => W.lcmp C.1 C.2.1 hdg (kk H locs ls hP hD hS hl)
theorem w_get (C : Cx p s m args meth c G A own cc nL ret) {ref cls : String} {T : u_T} {N ci index a : Nat} {fs : List Value} (q0 : Nat) (he : ws[q0]? = some (a, .inr (ci, fs))) (hc : vwCl[ci]? = some (cls, T, N)) (hin : ∀ w ∈ u_ws cls T N, w ∈ WA) (k : Nat) (hk : k < N) (hlink : (Cond.fieldLink own index ref (T k).2.1 (T k).2.2.1) ∈ WA) (href : (T k).1 = ref) {v : Value} (hv : fs[k]? = some v) (hdg : decode cc pc = .ok (.getfield index, 3)) (kk : Wd p l e R s m args below meth c G A nL cells slots Q ws lv (pc + 3) (v :: st)) : Wd p l e R s m args below meth c G A nL cells slots Q ws lv pc (.ref a :: st) := fun H locs ls hP hD hS hl => va_get C.1 C.2.1 C.2.2.2.2.2.2.1 hin C.2.2.2.2.2.1 C.2.2.2.2.2.2.2.1.1 hP q0 he hc k hk (C.2.2.2.2.2.2.1 _ hlink) (fun _ h => by rw [← href]; exact h) hv hdg (kk H locs ls hP hD hS hl)
theorem w_put (C : Cx p s m args meth c G A own cc nL ret) {ref cls : String} {T : u_T} {N ci index a : Nat} {fs : List Value} {ws2 : va_W} (q0 : Nat) (he : ws[q0]? = some (a, .inr (ci, fs))) (hc : vwCl[ci]? = some (cls, T, N)) (hin : ∀ w ∈ u_ws cls T N, w ∈ WA) (ty0 : Nat → FieldType) (hty : ∀ k, k < N → parseFieldDescriptor (T k).2.2.1 = some (ty0 k)) (hnm : ∀ a, a < N → ∀ b, b < N → a ≠ b → (T a).2.1 ≠ (T b).2.1) (k : Nat) (hk : k < N) (hlink : (Cond.fieldLink own index ref (T k).2.1 (T k).2.2.1) ∈ WA) (href : (T k).1 = ref) (hfin : (T k).2.2.2 = false) {ty : FieldType} {v : Value} (hd : ty0 k = ty) (hn : narrow ty v = v) (hfit : fits ty v = true) (hl0 : k < fs.length) (hws : ws.set q0 (a, .inr (ci, fs.set k v)) = ws2) (hdg : decode cc pc = .ok (.putfield index, 3)) (kk : Wd p l e R s m args below meth c G A nL cells slots Q ws2 lv (pc + 3) st) : Wd p l e R s m args below meth c G A nL cells slots Q ws lv pc (v :: .ref a :: st) := fun H locs ls hP hD hS hl => va_put C.1 C.2.1 C.2.2.2.2.2.2.1 hin ty0 hty hnm C.2.2.2.2.2.1 C.2.2.2.2.2.2.2.1.1 hP hD hS q0 he hc k hk (C.2.2.2.2.2.2.1 _ hlink) (fun _ h => by rw [← href]; exact h) hfin (by rw [hty k hk, hd]) hn hfit hl0 hdg (fun H1 locs1 hP1 hD1 hS1 => kk H1 locs1 ls (hws ▸ hP1) (hws ▸ hD1) hS1 hl)
theorem w_putF (C : Cx p s m args meth c G A own cc nL ret) (hini : meth.name = "<init>") {ref cls : String} {T : u_T} {N ci index a : Nat} {fs : List Value} {ws2 : va_W} (q0 : Nat) (he : ws[q0]? = some (a, .inr (ci, fs))) (hc : vwCl[ci]? = some (cls, T, N)) (hin : ∀ w ∈ u_ws cls T N, w ∈ WA) (ty0 : Nat → FieldType) (hty : ∀ k, k < N → parseFieldDescriptor (T k).2.2.1 = some (ty0 k)) (hnm : ∀ a, a < N → ∀ b, b < N → a ≠ b → (T a).2.1 ≠ (T b).2.1) (k : Nat) (hk : k < N) (hlink : (Cond.fieldLink own index ref (T k).2.1 (T k).2.2.1) ∈ WA) (href : (T k).1 = ref) (hown : (T k).1 = own) (hfin : (T k).2.2.2 = true) {ty : FieldType} {v : Value} (hd : ty0 k = ty) (hn : narrow ty v = v) (hfit : fits ty v = true) (hl0 : k < fs.length) (hws : ws.set q0 (a, .inr (ci, fs.set k v)) = ws2) (hdg : decode cc pc = .ok (.putfield index, 3)) (kk : Wd p l e R s m args below meth c G A nL cells slots Q ws2 lv (pc + 3) st) : Wd p l e R s m args below meth c G A nL cells slots Q ws lv pc (v :: .ref a :: st) := fun H locs ls hP hD hS hl => va_putF C.1 C.2.1 C.2.2.2.2.2.2.1 hin ty0 hty hnm C.2.2.2.2.2.1 C.2.2.2.2.2.2.2.1.1 hP hD hS q0 he hc k hk (C.2.2.2.2.2.2.1 _ hlink) (fun _ h => by rw [← href]; exact h) hfin hini hown (by rw [hty k hk, hd]) hn hfit hl0 hdg (fun H1 locs1 hP1 hD1 hS1 => kk H1 locs1 ls (hws ▸ hP1) (hws ▸ hD1) hS1 hl)
theorem w_iald (C : Cx p s m args meth c G A own cc nL ret) {a n : Nat} {f : Nat → Int32} {i : Int32} (q0 : Nat) (ha : ws[q0]? = some (a, .inl (G.2 0, n, .inl f))) (hin : vp_in i n) (hdg : decode cc pc = .ok (.iaload, 1)) (kk : Wd p l e R s m args below meth c G A nL cells slots Q ws lv (pc + 1) (.int (f i.toNatClampNeg) :: st)) : Wd p l e R s m args below meth c G A nL cells slots Q ws lv pc (.int i :: .ref a :: st) := fun H locs ls hP hD hS hl => va_iald C.1 C.2.1 C.2.2.2.2.2.2.2.1.1 hP q0 0 ha rfl hin hdg (kk H locs ls hP hD hS hl)
theorem w_iast (C : Cx p s m args meth c G A own cc nL ret) {a n : Nat} {f : Nat → Int32} {i x : Int32} {ws2 : va_W} (q0 : Nat) (ha : ws[q0]? = some (a, .inl (G.2 0, n, .inl f))) (hin : vp_in i n) (hws : ws.set q0 (a, .inl (G.2 0, n, .inl (upd f i.toNatClampNeg x))) = ws2) (hdg : decode cc pc = .ok (.iastore, 1)) (kk : Wd p l e R s m args below meth c G A nL cells slots Q ws2 lv (pc + 1) st) : Wd p l e R s m args below meth c G A nL cells slots Q ws lv pc (.int x :: .int i :: .ref a :: st) := fun H locs ls hP hD hS hl => va_iast C.1 C.2.1 C.2.2.2.2.2.2.2.1.1 hP hD hS q0 0 ha rfl hin hdg (fun H1 locs1 hP1 hD1 hS1 => kk H1 locs1 ls (hws ▸ hP1) (hws ▸ hD1) hS1 hl)
theorem w_alen (C : Cx p s m args meth c G A own cc nL ret) {a n : Nat} {f : Nat → Int32} {v : Int32} (q0 : Nat) (ha : ws[q0]? = some (a, .inl (G.2 0, n, .inl f))) (hv : Int32.ofNat n = v) (hdg : decode cc pc = .ok (.arraylength, 1)) (kk : Wd p l e R s m args below meth c G A nL cells slots Q ws lv (pc + 1) (.int v :: st)) : Wd p l e R s m args below meth c G A nL cells slots Q ws lv pc (.ref a :: st) := fun H locs ls hP hD hS hl => va_alen C.1 C.2.1 C.2.2.2.2.2.2.2.1.1 hP q0 0 ha (ty := .int) rfl hv hdg (kk H locs ls hP hD hS hl)
/-- an array of references to objects: a place is read -/
theorem w_aldq (C : Cx p s m args meth c G A own cc nL ret) {a n : Nat} {f : Nat → Option Nat} {i : Int32} {cA : ClassId} {nm : String} (q0 t0 : Nat) (ht : (tyl G)[t0]? = some (cA, .object nm)) (ha : ws[q0]? = some (a, .inl (cA, n, .inr (.inr (.inr (.inr f)))))) (hin : vp_in i n) (hdg : decode cc pc = .ok (.aaload, 1)) (kk : Wd p l e R s m args below meth c G A nL cells slots Q ws lv (pc + 1) (va_rf (f i.toNatClampNeg) :: st)) : Wd p l e R s m args below meth c G A nL cells slots Q ws lv pc (.int i :: .ref a :: st) := fun H locs ls hP hD hS hl => va_aldq C.1 C.2.1 C.2.2.2.2.2.2.2.1.1 hP q0 t0 ha ht hin hdg (kk H locs ls hP hD hS hl)
/-- an array of arrays: a place is read -/
theorem w_alda (C : Cx p s m args meth c G A own cc nL ret) {a n : Nat} {f : Nat → Option Nat} {i : Int32} (q0 : Nat) (ha : ws[q0]? = some (a, .inl (G.2 3, n, .inr (.inr (.inr (.inr f)))))) (hin : vp_in i n) (hdg : decode cc pc = .ok (.aaload, 1)) (kk : Wd p l e R s m args below meth c G A nL cells slots Q ws lv (pc + 1) (va_rf (f i.toNatClampNeg) :: st)) : Wd p l e R s m args below meth c G A nL cells slots Q ws lv pc (.int i :: .ref a :: st) := fun H locs ls hP hD hS hl => by
  have hlt : i.toNatClampNeg < n := Nat.not_le.mp fun q => hin (Or.inr q)
  exact W.aald (v := va_rf (f i.toNatClampNeg)) (ty := .array .int) C.1 C.2.1 (hP q0 _ ha) ((C.2.2.2.2.2.2.2.1.1.2 3 _ rfl).1 n (fun j => va_rf (f j))) rfl (fun q => by cases q) (by show ¬ (i < 0 ∨ (arrV _ _ _).slots.size ≤ _); rw [arrV_size]; exact hin) (by show (arrV _ _ _).slots[_]? = _; rw [arrV_read _ _ hlt]) rfl rfl hdg (kk H locs ls hP hD hS hl)
theorem w_mmax (C : Cx p s m args meth c G A own cc nL ret) {index : Nat} {x y : Int32} (hlink : (Cond.methodLink own index Lib.Math.max.name) ∈ WA) (hf : 1 ≤ R.frames) (hlo : (st.map fun v => v.category).sum + 13 ≤ R.locals) (hc : cells ≤ R.cells) (hs : slots ≤ R.slots) (hdg : decode cc pc = .ok (.invokestatic index, 3)) (kk : Wd p l e R s m args below meth c G A nL cells slots Q ws lv (pc + 3) (.int (if x < y then y else x) :: st)) : Wd p l e R s m args below meth c G A nL cells slots Q ws lv pc (.int y :: .int x :: st) := fun H locs ls hP hD hS hl => va_mmax C.1 C.2.1 (C.2.2.1.trans hl.1.symm) C.2.2.2.2.2.1 (C.2.2.2.2.2.2.1 _ hlink) (C.2.2.2.2.2.2.1 _ st_Math_max_name) (C.2.2.2.2.2.2.1 _ ini_java_lang_Math) (C.2.2.2.2.2.2.1 _ co_Math_max_name) hf hlo hc hs hdg (kk H locs ls hP hD hS hl)
theorem w_mmin (C : Cx p s m args meth c G A own cc nL ret) {index : Nat} {x y : Int32} (hlink : (Cond.methodLink own index Lib.Math.min.name) ∈ WA) (hf : 1 ≤ R.frames) (hlo : (st.map fun v => v.category).sum + 13 ≤ R.locals) (hc : cells ≤ R.cells) (hs : slots ≤ R.slots) (hdg : decode cc pc = .ok (.invokestatic index, 3)) (kk : Wd p l e R s m args below meth c G A nL cells slots Q ws lv (pc + 3) (.int (if y < x then y else x) :: st)) : Wd p l e R s m args below meth c G A nL cells slots Q ws lv pc (.int y :: .int x :: st) := fun H locs ls hP hD hS hl => va_mmin C.1 C.2.1 (C.2.2.1.trans hl.1.symm) C.2.2.2.2.2.1 (C.2.2.2.2.2.2.1 _ hlink) (C.2.2.2.2.2.2.1 _ st_Math_min_name) (C.2.2.2.2.2.2.1 _ ini_java_lang_Math) (C.2.2.2.2.2.2.1 _ co_Math_min_name) hf hlo hc hs hdg (kk H locs ls hP hD hS hl)
theorem w_mabs (C : Cx p s m args meth c G A own cc nL ret) {index : Nat} {x : Int32} (hlink : (Cond.methodLink own index Lib.Math.abs.name) ∈ WA) (hf : 1 ≤ R.frames) (hlo : (st.map fun v => v.category).sum + 13 ≤ R.locals) (hc : cells ≤ R.cells) (hs : slots ≤ R.slots) (hdg : decode cc pc = .ok (.invokestatic index, 3)) (kk : Wd p l e R s m args below meth c G A nL cells slots Q ws lv (pc + 3) (.int (if 0 ≤ x then x else 0 - x) :: st)) : Wd p l e R s m args below meth c G A nL cells slots Q ws lv pc (.int x :: st) := fun H locs ls hP hD hS hl => va_mabs C.1 C.2.1 (C.2.2.1.trans hl.1.symm) C.2.2.2.2.2.1 (C.2.2.2.2.2.2.1 _ hlink) (C.2.2.2.2.2.2.1 _ st_Math_abs_name) (C.2.2.2.2.2.2.1 _ ini_java_lang_Math) (C.2.2.2.2.2.2.1 _ co_Math_abs_name) hf hlo hc hs hdg (kk H locs ls hP hD hS hl)
theorem w_copyi (C : Cx p s m args meth c G A own cc nL ret) {index : Nat} {a0 a1 n0 n1 : Nat} {f g : Nat → Int32} {sp dp n : Int32} {ws2 : va_W} (hlink : (Cond.methodLink own index arraycopyName) ∈ WA) (q0 q1 : Nat) (ha0 : ws[q0]? = some (a0, .inl (G.2 0, n0, .inl f))) (ha1 : ws[q1]? = some (a1, .inl (G.2 0, n1, .inl g))) (h1 : ¬ sp < 0) (h2 : ¬ dp < 0) (h3 : ¬ n < 0) (h4 : sp.toNatClampNeg + n.toNatClampNeg ≤ n0) (h5 : dp.toNatClampNeg + n.toNatClampNeg ≤ n1) (hf : 1 ≤ R.frames) (hlo : (st.map fun v => v.category).sum + (nativeFrameWords "java/lang/System" "arraycopy" 5 + 11) ≤ R.locals) (hws : ws.set q1 (a1, .inl (G.2 0, n1, .inl (va_cpy f g sp.toNatClampNeg dp.toNatClampNeg n.toNatClampNeg))) = ws2) (hdg : decode cc pc = .ok (.invokestatic index, 3)) (kk : Wd p l e R s m args below meth c G A nL cells slots Q ws2 lv (pc + 3) st) : Wd p l e R s m args below meth c G A nL cells slots Q ws lv pc (.int n :: .int dp :: .ref a1 :: .int sp :: .ref a0 :: st) := fun H locs ls hP hD hS hl => va_copyi C.1 C.2.1 (C.2.2.1.trans hl.1.symm) C.2.2.2.2.2.1 (C.2.2.2.2.2.2.1 _ hlink) (C.2.2.2.2.2.2.1 _ na_arraycopyName) (C.2.2.2.2.2.2.1 _ st_arraycopyName) (C.2.2.2.2.2.2.1 _ ini_java_lang_System) C.2.2.2.2.2.2.2.1.1 hP hD hS q0 q1 0 0 ha0 ha1 (ty := .int) rfl rfl rfl h1 h2 h3 h4 h5 (fun i hi => rfl) hf hlo hdg (fun H1 locs1 hP1 hD1 hS1 => kk H1 locs1 ls (hws ▸ hP1) (hws ▸ hD1) hS1 hl)
theorem w_objInit (C : Cx p s m args meth c G A own cc nL ret) {index a : Nat} (hlink : (Cond.methodLink own index objectInit) ∈ WA) (hf : 1 ≤ R.frames) (hlo : (st.map fun v => v.category).sum + 12 ≤ R.locals) (hdg : decode cc pc = .ok (.invokespecial index, 3)) (kk : Wd p l e R s m args below meth c G A nL cells slots Q ws lv (pc + 3) st) : Wd p l e R s m args below meth c G A nL cells slots Q ws lv pc (.ref a :: st) := fun H locs ls hP hD hS hl => W.objInit C.1 C.2.1 C.2.2.2.2.2.1 (C.2.2.2.2.2.2.1 _ hlink) (C.2.2.2.2.2.2.1 _ im_objectInit) (C.2.2.2.2.2.2.1 _ co_objectInit) (g := F0 m pc ls (.ref a :: st)) rfl (hl.1.trans C.2.2.1.symm) rfl hdg hf (by show 2 * 0 + _ + 12 ≤ _; omega) (kk H locs ls hP hD hS hl)

theorem vP_iff {D : va_G} {cl : List vw_C} {ws : va_W} {H : Heap} : va_P D cl ws H ↔ ∀ q ∈ ws, va_at D cl q H := ⟨fun h q hq => by obtain ⟨k, hk⟩ := List.getElem?_of_mem hq; exact h k q hk, fun h k q hk => h q (List.mem_of_getElem? hk)⟩
theorem vD_iff {A : Nat → Prop} {ws : va_W} : va_D A ws ↔ (ws.map Prod.fst).Nodup ∧ ∀ q ∈ ws, A q.1 := by
  constructor
  · intro h
    refine ⟨?_, fun q hq => by obtain ⟨k, hk⟩ := List.getElem?_of_mem hq; exact h.2 k q hk⟩
    rw [List.nodup_iff_pairwise_ne, List.pairwise_iff_getElem]
    intro i j hi hj hij he
    have hi' : i < ws.length := by simpa using hi
    have hj' : j < ws.length := by simpa using hj
    have := h.1 i j ws[i] ws[j] (List.getElem?_eq_getElem hi') (List.getElem?_eq_getElem hj') (by simpa using he)
    omega
  · intro h
    refine ⟨fun i j p q hi hj hpq => ?_, fun k q hk => h.2 q (List.mem_of_getElem? hk)⟩
    have h1 : (ws.map Prod.fst)[i]? = some p.1 := by rw [List.getElem?_map, hi]; rfl
    have h2 : (ws.map Prod.fst)[j]? = some q.1 := by rw [List.getElem?_map, hj]; rfl
    have hl : i < (ws.map Prod.fst).length := (List.getElem?_eq_some_iff.mp h1).1
    exact (List.getElem?_inj hl h.1).mp (by rw [h1, h2, hpq])
theorem vP_perm {D : va_G} {cl : List vw_C} {ws ws2 : va_W} {H : Heap} (h : va_P D cl ws H) (hp : ws.Perm ws2) : va_P D cl ws2 H := vP_iff.mpr fun q hq => vP_iff.mp h q (hp.mem_iff.mpr hq)
theorem vD_perm {A : Nat → Prop} {ws ws2 : va_W} (h : va_D A ws) (hp : ws.Perm ws2) : va_D A ws2 := by
  have h1 := vD_iff.mp h
  exact vD_iff.mpr ⟨(hp.map Prod.fst).nodup_iff.mp h1.1, fun q hq => h1.2 q (hp.mem_iff.mpr hq)⟩
theorem w_perm {ws2 : va_W} (hp : ws.Perm ws2) (kk : Wd p l e R s m args below meth c G A nL cells slots Q ws2 lv pc st) : Wd p l e R s m args below meth c G A nL cells slots Q ws lv pc st := fun H locs ls hP hD hS hl => kk H locs ls (vP_perm hP hp) (vD_perm hD hp) hS hl
theorem w_eqs {ws2 : va_W} (hp : ws = ws2) (kk : Wd p l e R s m args below meth c G A nL cells slots Q ws2 lv pc st) : Wd p l e R s m args below meth c G A nL cells slots Q ws lv pc st := hp ▸ kk
theorem vj_join {A0 : Nat → Prop} {D : va_G} {cl : List vw_C} {wc wr w1 : va_W} {H H1 : Heap} (hP : va_P D cl (wr ++ wc) H) (hD : va_D A0 (wr ++ wc)) (hk : ∀ q : Nat, q < H.size → ¬ va_A wc H.size q → H1[q]? = H[q]?) (hF : ∀ q, va_A wc H.size q → A0 q) (hP1 : va_P D cl w1 H1) (hD1 : va_D (va_A wc H.size) w1) : va_P D cl (wr ++ w1) H1 ∧ va_D A0 (wr ++ w1) := by
  have apart : ∀ (k : Nat) (q : Nat × va_E), wr[k]? = some q → q.1 < H.size ∧ ¬ va_A wc H.size q.1 := by
    intro k q hq
    have hkl : k < wr.length := (List.getElem?_eq_some_iff.mp hq).1
    have hq' : (wr ++ wc)[k]? = some q := by rw [List.getElem?_append_left hkl]; exact hq
    refine ⟨(hP k q hq').lt, fun h => ?_⟩
    rcases h with ⟨k2, e, h⟩ | h
    · have h2 : (wr ++ wc)[wr.length + k2]? = some (q.1, e) := by rw [List.getElem?_append_right (by omega), Nat.add_sub_cancel_left]; exact h
      have := hD.1 k (wr.length + k2) q (q.1, e) hq' h2 rfl
      omega
    · have := (hP k q hq').lt
      omega
  have hDr : va_D A0 wr := by
    have h := vD_iff.mp hD
    rw [List.map_append] at h
    exact vD_iff.mpr ⟨(List.nodup_append.mp h.1).1, fun q hq => h.2 q (List.mem_append_left _ hq)⟩
  refine ⟨va_P.app (fun k q hq => ?_) hP1, va_D.app hDr (hD1.weaken (fun k q _ h => hF q.1 h)) (fun i j x y hx hy hxy => ?_)⟩
  · obtain ⟨g1, g2⟩ := apart k q hq
    have hkl : k < wr.length := (List.getElem?_eq_some_iff.mp hq).1
    exact (hP k q (by rw [List.getElem?_append_left hkl]; exact hq)).kept (hk q.1 g1 g2)
  · exact (apart i x hx).2 (by rw [hxy]; exact hD1.2 j y hy)
/-- a method's end: what it answers and leaves, of the pairs that Po has -/
def Qd (G : GG) (A : Nat → Prop) (Po : Option Value → va_W → Prop) : Array Value → State → Outcome → State → Prop := fun _ st oc t => (∃ (o : Option Value) (w1 : va_W), oc = .returned o ∧ Po o w1 ∧ va_P G.1 vwCl w1 t.heap ∧ va_D A w1) ∧ va_F A st t
/-- a method's contract: over the world wc, with the arguments As -/
def Ct (l : Launch) (y : MethodName) (bytes : ByteArray) (maxL : Nat) (rty : Option FieldType) (G : GG) (rm : Room) (As : List Value) (wc : va_W) (Po : Option Value → va_W → Prop) (mc ms : Nat) : Prop :=
  ∀ sz : Nat, Met l y (.code y bytes maxL rty :: WA) rm (va_Pc As (fun U => U.heap.size = sz ∧ va_P G.1 vwCl wc U.heap ∧ KK G U ∧ va_D (fun _ => True) wc)) (Qd G (va_A wc sz) Po) mc ms (va_A wc sz)
abbrev QQ (G : GG) (A : Nat → Prop) (Po : Option Value → va_W → Prop) (below : List Frame) (args : Array Value) (s : State) (mc ms : Nat) : State → Prop := MQ below (Qd G A Po) args s mc ms A
theorem Ct.of {y : MethodName} {bytes : ByteArray} {maxL : Nat} {rty : Option FieldType} {rm : Room} {As : List Value} {wc : va_W} {Po : Option Value → va_W → Prop} {mc ms : Nat} (hy : plainName y.cls = true) (hent : (lg_sl As).length ≤ maxL)
    (body : ∀ (p : Program) (e : Env) (s : State) (m : MethodId) (args : Array Value) (below : List Frame) (meth : Method) (c : Code) (A : Nat → Prop), Cx p s m args meth c G A y.cls bytes maxL rty → meth.name = y.name → Wd p l e rm s m args below meth c G A maxL 0 0 (QQ G A Po below args s mc ms) wc (lv_args 0 As) 0 []) : Ct l y bytes maxL rty G rm As wc Po mc ms := by
  intro sz
  refine Met.ofW (cc := bytes) (maxL := maxL) (ret := rty) hy rfl ?_
  intro p e s m args below meth c s₁ B hml hv
  obtain ⟨rfl, hsz, hP, hK, hD0⟩ := hv
  have hts := atoms_spec (ws := .code y bytes maxL rty :: WA) B.pre
  have hown : s.vm.findClass y.cls = some m.cls := findClass_of_methodNamed B.named
  subst hsz
  have hD := hD0.self (sz := s.heap.size)
  have hl := lv_entry As hent
  rw [lg_entry_eq]
  exact body p e s m As.toArray below meth c (va_A wc s.heap.size) ⟨B.exec, B.bytes, hml, B.returns, B.notSynchronized, hown, fun w hw => hts w (List.mem_cons_of_mem _ hw), hK, fun q h => Or.inr h⟩ (name_of_methodNamed B.named B.method).1 s.heap [] _ hP hD va_S.rf hl
theorem w_back {wc wr : va_W} {Po : Option Value → va_W → Prop} {mc ms : Nat} {H : Heap} {locs : List Loc} {ls : Array Slot} {st0 rest : List Value} {a : Array Value} (C : Cx p s m args meth c G A own cc nL ret) (hP : va_P G.1 vwCl (wr ++ wc) H) (hD : va_D A (wr ++ wc)) (hS : va_S A s.heap H locs) (hl : lv_has ls nL lv) (hr : va_Run p l e R s m args below meth c H locs cells slots mc ms (F0 m pc ls st0) rest (Qd G (va_A wc H.size) Po a) (va_A wc H.size))
    (kk : ∀ (o : Option Value) (w1 : va_W), Po o w1 → Wd p l e R s m args below meth c G A nL (cells + mc) (slots + ms) Q (wr ++ w1) lv (pc + 3) (o.toList ++ rest)) : W p l e R s m args below meth c H locs cells slots Q (F0 m pc ls st0) := by
  intro T hT X
  obtain ⟨v, st₀, t, T', L, h0, X', hL, e1, e2, ⟨⟨o, w1, hv, hp, hP1, hD1⟩, hz, hk⟩, st⟩ := hr T hT X
  cases hv
  rw [h0] at hz hk
  have hF : ∀ q, va_A wc H.size q → A q := by
    intro q h
    rcases h with ⟨k, e, h⟩ | h
    · have h2 : (wr ++ wc)[wr.length + k]? = some (q, e) := by rw [List.getElem?_append_right (by omega), Nat.add_sub_cancel_left]; exact h
      exact hD.2 _ (q, e) h2
    · exact C.2.2.2.2.2.2.2.2 q (Nat.le_trans hS.1 h)
  rw [← e1] at hP1 hz hk
  obtain ⟨hP2, hD2⟩ := vj_join hP hD hk hF hP1 hD1
  obtain ⟨t2, a1, b1⟩ := kk v w1 hp T'.heap (locs ++ L) ls hP2 hD2 ⟨Nat.le_trans hS.1 hz, fun q h1 h2 => by rw [hk q (Nat.lt_of_lt_of_le h1 hS.1) (fun z => h2 (hF q z))]; exact hS.2.1 q h1 h2, fun q hq => by
      rcases List.mem_append.mp hq with h | h
      · exact hS.2.2 q h
      · exact hF _ (hL q h)⟩ hl T' rfl X'
  exact ⟨t2, st t2 a1, b1⟩
/-- the words of a method that is called: virtual, static, a constructor -/
def PkV (cls : String) (y : MethodName) (bytes : ByteArray) (maxL : Nat) (rty : Option FieldType) (n : Nat) : Prop := y.cls = cls ∧ Cond.code y bytes maxL rty ∈ WA ∧ Cond.initialized y.cls ∈ WA ∧ Cond.instanceMethod y ∈ WA ∧ Cond.selects cls y y ∈ WA ∧ (y.cls ≠ "java/lang/invoke/MethodHandle" ∧ y.cls ≠ "java/lang/invoke/VarHandle" ∧ (parseMethodDescriptor y.desc).map (fun d => d.parameters.length) = some n)
def PkS (y : MethodName) (bytes : ByteArray) (maxL : Nat) (rty : Option FieldType) (n : Nat) : Prop := Cond.code y bytes maxL rty ∈ WA ∧ Cond.initialized y.cls ∈ WA ∧ Cond.static y ∈ WA ∧ (y.cls ≠ "java/lang/invoke/MethodHandle" ∧ y.cls ≠ "java/lang/invoke/VarHandle" ∧ (parseMethodDescriptor y.desc).map (fun d => d.parameters.length) = some n)
def PkI (y : MethodName) (bytes : ByteArray) (maxL : Nat) (n : Nat) : Prop := y.name = "<init>" ∧ Cond.code y bytes maxL none ∈ WA ∧ Cond.initialized y.cls ∈ WA ∧ Cond.instanceMethod y ∈ WA ∧ (y.cls ≠ "java/lang/invoke/MethodHandle" ∧ y.cls ≠ "java/lang/invoke/VarHandle" ∧ (parseMethodDescriptor y.desc).map (fun d => d.parameters.length) = some n)
theorem good_w {w : Cond} (h : w ∈ WA) : (w.onTables && w.keeps) = true ∨ ∃ ty, w = .arrayClass ty := good_of_word (wa_good h)
theorem goodCons {w : Cond} (h : w ∈ WA) : GoodIn WA (w :: WA) := fun v hv => by
  rcases List.mem_cons.mp hv with e | hv
  · subst e; exact ⟨h, good_w h⟩
  · exact ⟨hv, good_w hv⟩
/-- a start of a call, whatever the kind -/
theorem pre_ok {s0 : State} {As : List Value} {wc : va_W} {sz : Nat} : FrameBlind (va_Pc As (fun U => U.heap.size = sz ∧ va_P G.1 vwCl wc U.heap ∧ KK G U ∧ va_D (fun _ => True) wc)) := fun a U g mk q => by
  obtain ⟨q0, q1, qP, qK, qD⟩ := q
  exact ⟨q0, q1, qP, qK.calling, qD⟩
theorem vDr {wr wc : va_W} (hD : va_D A (wr ++ wc)) : va_D (fun _ => True) wc := by
  have h := vD_iff.mp hD
  rw [List.map_append] at h
  exact vD_iff.mpr ⟨(List.nodup_append.mp h.1).2.1, fun _ _ => trivial⟩
theorem vPr {D : va_G} {cl : List vw_C} {wr wc : va_W} {H : Heap} (hP : va_P D cl (wr ++ wc) H) : va_P D cl wc H := vP_iff.mpr fun q hq => vP_iff.mp hP q (List.mem_append_right _ hq)
theorem w_callV {wc wr : va_W} {Po : Option Value → va_W → Prop} {mc ms maxL n index b ci k9 : Nat} {y : MethodName} {bytes : ByteArray} {rty : Option FieldType} {rm : Room} {As rest : List Value} {fs : List Value} {qc : vw_C} (C : Cx p s m args meth c G A own cc nL ret) (hM : Ct l y bytes maxL rty G rm (.ref b :: As) wc Po mc ms) (hk : PkV qc.1 y bytes maxL rty n) (hl0 : Cond.methodLink own index y ∈ WA) (he : wc[k9]? = some (b, .inr (ci, fs))) (hc : vwCl[ci]? = some qc)
    (hR : (rm.cells = mc ∧ rm.slots = ms) ∧ rm.frames + 1 ≤ R.frames ∧ 8 + (maxL + 11) + rm.locals ≤ R.locals) (hn : As.length = n) (hf : cells + mc ≤ R.cells ∧ slots + ms ≤ R.slots) (hro : (rest.map fun v => v.category).sum ≤ 8) {st0 : List Value} (hst : st0 = As.reverse ++ .ref b :: rest) (hdg : decode cc pc = .ok (.invokevirtual index, 3))
    (kk : ∀ (o : Option Value) (w1 : va_W), Po o w1 → Wd p l e R s m args below meth c G A nL (cells + mc) (slots + ms) Q (wr ++ w1) lv (pc + 3) (o.toList ++ rest)) : Wd p l e R s m args below meth c G A nL cells slots Q (wr ++ wc) lv pc st0 := fun H locs ls hP hD hS hl => by
  obtain ⟨k1, k2, k3, k4, k5, k6⟩ := hk
  have hA := C.2.2.2.2.2.2.1
  refine w_back C hP hD hS hl (va_runV (As := As) (rest := rest) (C := qc.1) ⟨C.1, C.2.1, C.2.2.1, C.2.2.2.2.2.1, hA⟩ (hM H.size) ⟨callB_of n hA (goodCons k2) rfl hR.1.1 hR.1.2 (hA _ k3) (hA _ hl0) k6 hR.2, hA _ k4, hA _ k5⟩ ⟨pre_ok (s0 := s), va_recv C.2.2.2.2.2.2.2.1.1 (vPr hP) hc he, fun U hU hW => ⟨rfl, by rw [hU], by rw [hU]; exact vPr hP, C.2.2.2.2.2.2.2.1.warm hW, vDr hD⟩⟩ rfl hn hl.1 hst (lv_room hro) hdg hf) kk
theorem w_callS {wc wr : va_W} {Po : Option Value → va_W → Prop} {mc ms maxL n index : Nat} {y : MethodName} {bytes : ByteArray} {rty : Option FieldType} {rm : Room} {As rest : List Value} (C : Cx p s m args meth c G A own cc nL ret) (hM : Ct l y bytes maxL rty G rm As wc Po mc ms) (hk : PkS y bytes maxL rty n) (hl0 : Cond.methodLink own index y ∈ WA)
    (hR : (rm.cells = mc ∧ rm.slots = ms) ∧ rm.frames + 1 ≤ R.frames ∧ 8 + (maxL + 11) + rm.locals ≤ R.locals) (hn : As.length = n) (hf : cells + mc ≤ R.cells ∧ slots + ms ≤ R.slots) (hro : (rest.map fun v => v.category).sum ≤ 8) {st0 : List Value} (hst : st0 = As.reverse ++ rest) (hdg : decode cc pc = .ok (.invokestatic index, 3))
    (kk : ∀ (o : Option Value) (w1 : va_W), Po o w1 → Wd p l e R s m args below meth c G A nL (cells + mc) (slots + ms) Q (wr ++ w1) lv (pc + 3) (o.toList ++ rest)) : Wd p l e R s m args below meth c G A nL cells slots Q (wr ++ wc) lv pc st0 := fun H locs ls hP hD hS hl => by
  obtain ⟨k2, k3, k4, k6⟩ := hk
  have hA := C.2.2.2.2.2.2.1
  refine w_back C hP hD hS hl (va_runS (As := As) (rest := rest) ⟨C.1, C.2.1, C.2.2.1, C.2.2.2.2.2.1, hA⟩ (hM H.size) ⟨callB_of n hA (goodCons k2) rfl hR.1.1 hR.1.2 (hA _ k3) (hA _ hl0) k6 hR.2, hA _ k4⟩ ⟨pre_ok (s0 := s), fun U hU hW => ⟨rfl, by rw [hU], by rw [hU]; exact vPr hP, C.2.2.2.2.2.2.2.1.warm hW, vDr hD⟩⟩ rfl hn hl.1 hst (lv_room hro) hdg hf) kk
theorem w_callI {wc wr : va_W} {Po : Option Value → va_W → Prop} {mc ms maxL n index b : Nat} {y : MethodName} {bytes : ByteArray} {rm : Room} {As rest : List Value} (C : Cx p s m args meth c G A own cc nL ret) (hM : Ct l y bytes maxL none G rm (.ref b :: As) wc Po mc ms) (hk : PkI y bytes maxL n) (hl0 : Cond.methodLink own index y ∈ WA)
    (hR : (rm.cells = mc ∧ rm.slots = ms) ∧ rm.frames + 1 ≤ R.frames ∧ 8 + (maxL + 11) + rm.locals ≤ R.locals) (hn : As.length = n) (hf : cells + mc ≤ R.cells ∧ slots + ms ≤ R.slots) (hro : (rest.map fun v => v.category).sum ≤ 8) {st0 : List Value} (hst : st0 = As.reverse ++ .ref b :: rest) (hdg : decode cc pc = .ok (.invokespecial index, 3))
    (kk : ∀ (o : Option Value) (w1 : va_W), Po o w1 → Wd p l e R s m args below meth c G A nL (cells + mc) (slots + ms) Q (wr ++ w1) lv (pc + 3) (o.toList ++ rest)) : Wd p l e R s m args below meth c G A nL cells slots Q (wr ++ wc) lv pc st0 := fun H locs ls hP hD hS hl => by
  obtain ⟨k1, k2, k3, k4, k6⟩ := hk
  have hA := C.2.2.2.2.2.2.1
  refine w_back C hP hD hS hl (va_runI (As := As) (rest := rest) ⟨C.1, C.2.1, C.2.2.1, C.2.2.2.2.2.1, hA⟩ (hM H.size) ⟨callB_of n hA (goodCons k2) rfl hR.1.1 hR.1.2 (hA _ k3) (hA _ hl0) k6 hR.2, k1, hA _ k4⟩ ⟨pre_ok (s0 := s), fun U hU hW => ⟨rfl, by rw [hU], by rw [hU]; exact vPr hP, C.2.2.2.2.2.2.2.1.warm hW, vDr hD⟩⟩ rfl hn hl.1 hst (lv_room hro) hdg hf) kk
theorem w_callIN {host : String} {wc wr : va_W} {Po : Option Value → va_W → Prop} {mc ms maxL n index b : Nat} {y : MethodName} {bytes : ByteArray} {rm : Room} {As rest : List Value} (C : Cx p s m args meth c G A own cc nL ret) (hM : Ct l y bytes maxL none G rm (.ref b :: As) wc Po mc ms) (hk : PkI y bytes maxL n) (hl0 : va_Nw (.methodLinkNest own index y host) s)
    (hR : (rm.cells = mc ∧ rm.slots = ms) ∧ rm.frames + 1 ≤ R.frames ∧ 8 + (maxL + 11) + rm.locals ≤ R.locals) (hn : As.length = n) (hf : cells + mc ≤ R.cells ∧ slots + ms ≤ R.slots) (hro : (rest.map fun v => v.category).sum ≤ 8) {st0 : List Value} (hst : st0 = As.reverse ++ .ref b :: rest) (hdg : decode cc pc = .ok (.invokespecial index, 3))
    (kk : ∀ (o : Option Value) (w1 : va_W), Po o w1 → Wd p l e R s m args below meth c G A nL (cells + mc) (slots + ms) Q (wr ++ w1) lv (pc + 3) (o.toList ++ rest)) : Wd p l e R s m args below meth c G A nL cells slots Q (wr ++ wc) lv pc st0 := fun H locs ls hP hD hS hl => by
  obtain ⟨k1, k2, k3, k4, k6⟩ := hk
  have hA := C.2.2.2.2.2.2.1
  refine w_back C hP hD hS hl (va_runIN (As := As) (rest := rest) ⟨C.1, C.2.1, C.2.2.1, C.2.2.2.2.2.1, hA⟩ (hM H.size) ⟨va_cnB n hA (goodCons k2) rfl hR.1.1 hR.1.2 hl0 (hA _ k3) k6 hR.2, k1, hA _ k4⟩ ⟨pre_ok (s0 := s), fun U hU hW => ⟨rfl, by rw [hU], by rw [hU]; exact vPr hP, C.2.2.2.2.2.2.2.1.warm hW, vDr hD⟩⟩ rfl hn hl.1 hst (lv_room hro) hdg hf) kk

theorem w_iret {Po : Option Value → va_W → Prop} {v : Int32} (C : Cx p s m args meth c G A own cc nL (some .int)) (hq : Po (some (.int v)) ws) (hdg : decode cc pc = .ok (.ireturn, 1)) : Wd p l e R s m args below meth c G A nL cells slots (QQ G A Po below args s cells slots) ws lv pc [.int v] := fun H locs ls hP hD hS hl => W.iret (v := v) C.1 C.2.1 C.2.2.2.1 (fun t ht hW => ⟨⟨_, ws, rfl, hq, by rw [ht]; exact hP, hD⟩, hS.F ht⟩) hS.2.2 hdg C.2.2.2.2.1
theorem w_zret {Po : Option Value → va_W → Prop} {v : Int32} (C : Cx p s m args meth c G A own cc nL (some .boolean)) (hn : narrow .boolean (.int v) = .int v) (hq : Po (some (.int v)) ws) (hdg : decode cc pc = .ok (.ireturn, 1)) : Wd p l e R s m args below meth c G A nL cells slots (QQ G A Po below args s cells slots) ws lv pc [.int v] := fun H locs ls hP hD hS hl => W.zret (v := v) C.1 C.2.1 C.2.2.2.1 hn (fun t ht hW => ⟨⟨_, ws, rfl, hq, by rw [ht]; exact hP, hD⟩, hS.F ht⟩) hS.2.2 hdg C.2.2.2.2.1
theorem w_vret {Po : Option Value → va_W → Prop} (C : Cx p s m args meth c G A own cc nL none) (hq : Po none ws) (hdg : decode cc pc = .ok (.return_, 1)) : Wd p l e R s m args below meth c G A nL cells slots (QQ G A Po below args s cells slots) ws lv pc [] := fun H locs ls hP hD hS hl => W.vret C.1 C.2.1 C.2.2.2.1 (fun t ht hW => ⟨⟨_, ws, rfl, hq, by rw [ht]; exact hP, hD⟩, hS.F ht⟩) hS.2.2 hdg C.2.2.2.2.1
theorem w_lret {Po : Option Value → va_W → Prop} {v : Int64} (C : Cx p s m args meth c G A own cc nL (some .long)) (hq : Po (some (.long v)) ws) (hdg : decode cc pc = .ok (.lreturn, 1)) : Wd p l e R s m args below meth c G A nL cells slots (QQ G A Po below args s cells slots) ws lv pc [.long v] := fun H locs ls hP hD hS hl => W.lret (v := v) C.1 C.2.1 C.2.2.2.1 (fun t ht hW => ⟨⟨_, ws, rfl, hq, by rw [ht]; exact hP, hD⟩, hS.F ht⟩) hS.2.2 hdg C.2.2.2.2.1
theorem w_aret {Po : Option Value → va_W → Prop} {v : Nat} {rt : FieldType} (C : Cx p s m args meth c G A own cc nL (some rt)) (hrt : (∃ n, rt = .object n) ∨ ∃ t, rt = .array t) (hq : Po (some (.ref v)) ws) (hdg : decode cc pc = .ok (.areturn, 1)) : Wd p l e R s m args below meth c G A nL cells slots (QQ G A Po below args s cells slots) ws lv pc [.ref v] := fun H locs ls hP hD hS hl => W.aret (v := .ref v) C.1 C.2.1 C.2.2.2.1 hrt (Or.inr ⟨v, rfl⟩) (fun t ht hW => ⟨⟨_, ws, rfl, hq, by rw [ht]; exact hP, hD⟩, hS.F ht⟩) hS.2.2 hdg C.2.2.2.2.1
end
/-- pure words: a check, a loop -/
def ckI {α : Type} (i : Int32) (n : Nat) (k : Option α) : Option α := if i < 0 ∨ n ≤ i.toNatClampNeg then none else k
def ckZ {α : Type} (y : Int32) (k : Option α) : Option α := if y = 0 then none else k
def itr {σ : Type} (bot : σ) (F : σ → σ) : Nat → σ
  | 0 => bot
  | n + 1 => F (itr bot F n)
theorem ckI_some {α : Type} {i : Int32} {n : Nat} {k : Option α} {r : α} (h : ckI i n k = some r) : vp_in i n ∧ k = some r := by
  unfold ckI at h
  split at h
  · cases h
  · exact ⟨by assumption, h⟩
theorem ckZ_some {α : Type} {y : Int32} {k : Option α} {r : α} (h : ckZ y k = some r) : ¬ y = 0 ∧ k = some r := by
  unfold ckZ at h
  split at h
  · cases h
  · exact ⟨by assumption, h⟩
theorem vp_lt {i : Int32} {n : Nat} (h : vp_in i n) : i.toNatClampNeg < n := Nat.not_le.mp fun q => h (Or.inr q)
theorem bd_some {α β : Type} {x : Option α} {k : α → Option β} {r : β} (h : x.bind k = some r) : ∃ y, x = some y ∧ k y = some r := Option.bind_eq_some_iff.mp h
theorem if_t {c : Prop} [Decidable c] {α : Type} {a b : α} {r : α} (hc : c) (h : (if c then a else b) = r) : a = r := by rw [if_pos hc] at h; exact h
theorem if_f {c : Prop} [Decidable c] {α : Type} {a b : α} {r : α} (hc : ¬ c) (h : (if c then a else b) = r) : b = r := by rw [if_neg hc] at h; exact h
end
section
/-- the reference's cells -/
def mw (G : GG) (ma : Nat → Nat) (th : Int32) (tr : Int64) (kq kp : Int32) (su pr ms ro be di : Nat → Int32) : va_W :=
  [(ma 0, .inr (4, [.int th, .long tr, .int kq, .int kp, .ref (ma 1), .ref (ma 2), .ref (ma 3), .ref (ma 4), .ref (ma 5), .ref (ma 6)])), (ma 1, .inl (G.2 0, 256, .inl su)), (ma 2, .inl (G.2 0, 256, .inl pr)), (ma 3, .inl (G.2 0, 64, .inl ms)), (ma 4, .inl (G.2 0, 16, .inl ro)), (ma 5, .inl (G.2 0, 16, .inl be)), (ma 6, .inl (G.2 0, 8, .inl di))]
/-- a field's cells -/
def fw (G : GG) (fa : Nat → Nat) (N : Nat) (fp fq : Int32) (t0 t1 t2 t3 t4 t5 : Nat → Int32) (tL : Nat → Option Nat) : va_W :=
  [(fa 0, .inr (0, [.int fp, .int fq, .ref (fa 1), .ref (fa 2), .ref (fa 3), .ref (fa 4), .ref (fa 5), .ref (fa 6), .ref (fa 7)])), (fa 1, .inl (G.2 0, N * N, .inl t0)), (fa 2, .inl (G.2 0, N * N, .inl t1)), (fa 3, .inl (G.2 0, N * N, .inl t2)), (fa 4, .inl (G.2 0, N, .inl t3)), (fa 5, .inl (G.2 0, N, .inl t4)), (fa 6, .inl (G.2 0, 6, .inl t5)), (fa 7, .inl (G.2 2, 6, .inr (.inr (.inr (.inr tL)))))]
def rcw (ra : Nat) (r1 r2 r3 r4 r5 : Int32) : Nat × va_E := (ra, .inr (2, [.int r1, .int r2, .int r3, .int r4, .int r5]))
/-- the class's own cells: the object, its fields' array, its maps' array, four maps, the spare row, the tally -/
def xm (G : GG) (xa : Nat → Nat) (FA : Nat → Option Nat) (hr ra : Nat) (xq : Int32) (ak : Int64) (RR : Nat → Nat → Int32) : va_W :=
  [(xa 0, .inr (3, [.ref (xa 1), .ref (xa 2), .ref (xa (3 + 4)), .ref (xa (3 + 5)), .ref ra, .ref hr, .int xq, .long ak])), (xa 1, .inl (G.2 1, 17, .inr (.inr (.inr (.inr FA))))), (xa 2, .inl (G.2 3, 4, .inr (.inr (.inr (.inr (fun i => if i < 4 then some (xa (3 + i)) else none)))))), (xa (3 + 0), .inl (G.2 0, 16, .inl (RR 0))), (xa (3 + 1), .inl (G.2 0, 16, .inl (RR 1))), (xa (3 + 2), .inl (G.2 0, 16, .inl (RR 2))), (xa (3 + 3), .inl (G.2 0, 16, .inl (RR 3))), (xa (3 + 4), .inl (G.2 0, 16, .inl (RR 4))), (xa (3 + 5), .inl (G.2 0, 16, .inl (RR 5)))]
section
variable {p : Program} {l : Launch} {e : Env} {R : Room} {s : State} {m : MethodId} {args : Array Value} {below : List Frame} {meth : Method} {c : Code} {G : GG} {A : Nat → Prop} {own : String} {cc : ByteArray} {nL cells slots : Nat} {ret : Option FieldType} {Q : State → Prop} {ws : va_W} {lv : List (Nat × Value)} {pc : Nat} {st : List Value}
variable {ma fa xa : Nat → Nat} {ra hr N : Nat} {th kq kp fp fq r1 r2 r3 r4 r5 xq : Int32} {tr ak : Int64} {su pr ms ro be di t0 t1 t2 t3 t4 t5 : Nat → Int32} {tL FA : Nat → Option Nat} {RR : Nat → Nat → Int32} {Z : va_W}
theorem gt_X3_11 (C : Cx p s m args meth c G A RX3 cc nL ret) (hdg : decode cc pc = .ok (.getfield 11, 3)) (kk : Wd p l e R s m args below meth c G A nL cells slots Q (xm G xa FA hr ra xq ak RR ++ Z) lv (pc + 3) (.ref (xa 1) :: st)) : Wd p l e R s m args below meth c G A nL cells slots Q (xm G xa FA hr ra xq ak RR ++ Z) lv pc (.ref (xa 0) :: st) := w_get C 0 rfl rfl inX3 0 (by decide) fl_X3_11 rfl rfl hdg kk
theorem gt_X3_17 (C : Cx p s m args meth c G A RX3 cc nL ret) (hdg : decode cc pc = .ok (.getfield 17, 3)) (kk : Wd p l e R s m args below meth c G A nL cells slots Q (xm G xa FA hr ra xq ak RR ++ Z) lv (pc + 3) (.ref (xa 2) :: st)) : Wd p l e R s m args below meth c G A nL cells slots Q (xm G xa FA hr ra xq ak RR ++ Z) lv pc (.ref (xa 0) :: st) := w_get C 0 rfl rfl inX3 1 (by decide) fl_X3_17 rfl rfl hdg kk
theorem gt_X3_20 (C : Cx p s m args meth c G A RX3 cc nL ret) (hdg : decode cc pc = .ok (.getfield 20, 3)) (kk : Wd p l e R s m args below meth c G A nL cells slots Q (xm G xa FA hr ra xq ak RR ++ Z) lv (pc + 3) (.ref (xa (3 + 4)) :: st)) : Wd p l e R s m args below meth c G A nL cells slots Q (xm G xa FA hr ra xq ak RR ++ Z) lv pc (.ref (xa 0) :: st) := w_get C 0 rfl rfl inX3 2 (by decide) fl_X3_20 rfl rfl hdg kk
theorem gt_X3_24 (C : Cx p s m args meth c G A RX3 cc nL ret) (hdg : decode cc pc = .ok (.getfield 24, 3)) (kk : Wd p l e R s m args below meth c G A nL cells slots Q (xm G xa FA hr ra xq ak RR ++ Z) lv (pc + 3) (.ref (xa (3 + 5)) :: st)) : Wd p l e R s m args below meth c G A nL cells slots Q (xm G xa FA hr ra xq ak RR ++ Z) lv pc (.ref (xa 0) :: st) := w_get C 0 rfl rfl inX3 3 (by decide) fl_X3_24 rfl rfl hdg kk
theorem gt_X3_30 (C : Cx p s m args meth c G A RX3 cc nL ret) (hdg : decode cc pc = .ok (.getfield 30, 3)) (kk : Wd p l e R s m args below meth c G A nL cells slots Q (xm G xa FA hr ra xq ak RR ++ Z) lv (pc + 3) (.ref ra :: st)) : Wd p l e R s m args below meth c G A nL cells slots Q (xm G xa FA hr ra xq ak RR ++ Z) lv pc (.ref (xa 0) :: st) := w_get C 0 rfl rfl inX3 4 (by decide) fl_X3_30 rfl rfl hdg kk
theorem gt_X3_49 (C : Cx p s m args meth c G A RX3 cc nL ret) (hdg : decode cc pc = .ok (.getfield 49, 3)) (kk : Wd p l e R s m args below meth c G A nL cells slots Q (xm G xa FA hr ra xq ak RR ++ Z) lv (pc + 3) (.ref hr :: st)) : Wd p l e R s m args below meth c G A nL cells slots Q (xm G xa FA hr ra xq ak RR ++ Z) lv pc (.ref (xa 0) :: st) := w_get C 0 rfl rfl inX3 5 (by decide) fl_X3_49 rfl rfl hdg kk
theorem pt_X3_49 {x : Nat} (C : Cx p s m args meth c G A RX3 cc nL ret) (hdg : decode cc pc = .ok (.putfield 49, 3)) (kk : Wd p l e R s m args below meth c G A nL cells slots Q (xm G xa FA x ra xq ak RR ++ Z) lv (pc + 3) st) : Wd p l e R s m args below meth c G A nL cells slots Q (xm G xa FA hr ra xq ak RR ++ Z) lv pc (.ref x :: .ref (xa 0) :: st) := w_put (ws2 := (xm G xa FA x ra xq ak RR ++ Z)) C 0 rfl rfl inX3 tyX3 tyX3_ok nmX3 5 (by decide) fl_X3_49 rfl rfl rfl rfl rfl (Nat.le_of_ble_eq_true rfl) rfl hdg kk
theorem gt_X3_42 (C : Cx p s m args meth c G A RX3 cc nL ret) (hdg : decode cc pc = .ok (.getfield 42, 3)) (kk : Wd p l e R s m args below meth c G A nL cells slots Q (xm G xa FA hr ra xq ak RR ++ Z) lv (pc + 3) (.int xq :: st)) : Wd p l e R s m args below meth c G A nL cells slots Q (xm G xa FA hr ra xq ak RR ++ Z) lv pc (.ref (xa 0) :: st) := w_get C 0 rfl rfl inX3 6 (by decide) fl_X3_42 rfl rfl hdg kk
theorem pt_X3_42 {x : Int32} (C : Cx p s m args meth c G A RX3 cc nL ret) (hdg : decode cc pc = .ok (.putfield 42, 3)) (kk : Wd p l e R s m args below meth c G A nL cells slots Q (xm G xa FA hr ra x ak RR ++ Z) lv (pc + 3) st) : Wd p l e R s m args below meth c G A nL cells slots Q (xm G xa FA hr ra xq ak RR ++ Z) lv pc (.int x :: .ref (xa 0) :: st) := w_put (ws2 := (xm G xa FA hr ra x ak RR ++ Z)) C 0 rfl rfl inX3 tyX3 tyX3_ok nmX3 6 (by decide) fl_X3_42 rfl rfl rfl rfl rfl (Nat.le_of_ble_eq_true rfl) rfl hdg kk
theorem gt_X0_9 (C : Cx p s m args meth c G A RX0 cc nL ret) (hdg : decode cc pc = .ok (.getfield 9, 3)) (kk : Wd p l e R s m args below meth c G A nL cells slots Q (fw G fa N fp fq t0 t1 t2 t3 t4 t5 tL) lv (pc + 3) (.ref (fa 6) :: st)) : Wd p l e R s m args below meth c G A nL cells slots Q (fw G fa N fp fq t0 t1 t2 t3 t4 t5 tL) lv pc (.ref (fa 0) :: st) := w_get C 0 rfl rfl inX0 7 (by decide) fl_X0_9 rfl rfl hdg kk
theorem gt_X0_17 (C : Cx p s m args meth c G A RX0 cc nL ret) (hdg : decode cc pc = .ok (.getfield 17, 3)) (kk : Wd p l e R s m args below meth c G A nL cells slots Q (fw G fa N fp fq t0 t1 t2 t3 t4 t5 tL) lv (pc + 3) (.ref (fa 7) :: st)) : Wd p l e R s m args below meth c G A nL cells slots Q (fw G fa N fp fq t0 t1 t2 t3 t4 t5 tL) lv pc (.ref (fa 0) :: st) := w_get C 0 rfl rfl inX0 8 (by decide) fl_X0_17 rfl rfl hdg kk
theorem gt_X0_21 (C : Cx p s m args meth c G A RX0 cc nL ret) (hdg : decode cc pc = .ok (.getfield 21, 3)) (kk : Wd p l e R s m args below meth c G A nL cells slots Q (fw G fa N fp fq t0 t1 t2 t3 t4 t5 tL) lv (pc + 3) (.int fq :: st)) : Wd p l e R s m args below meth c G A nL cells slots Q (fw G fa N fp fq t0 t1 t2 t3 t4 t5 tL) lv pc (.ref (fa 0) :: st) := w_get C 0 rfl rfl inX0 1 (by decide) fl_X0_21 rfl rfl hdg kk
theorem gt_X0_29 (C : Cx p s m args meth c G A RX0 cc nL ret) (hdg : decode cc pc = .ok (.getfield 29, 3)) (kk : Wd p l e R s m args below meth c G A nL cells slots Q (fw G fa N fp fq t0 t1 t2 t3 t4 t5 tL) lv (pc + 3) (.int fp :: st)) : Wd p l e R s m args below meth c G A nL cells slots Q (fw G fa N fp fq t0 t1 t2 t3 t4 t5 tL) lv pc (.ref (fa 0) :: st) := w_get C 0 rfl rfl inX0 0 (by decide) fl_X0_29 rfl rfl hdg kk
theorem gt_X0_32 (C : Cx p s m args meth c G A RX0 cc nL ret) (hdg : decode cc pc = .ok (.getfield 32, 3)) (kk : Wd p l e R s m args below meth c G A nL cells slots Q (fw G fa N fp fq t0 t1 t2 t3 t4 t5 tL) lv (pc + 3) (.ref (fa 1) :: st)) : Wd p l e R s m args below meth c G A nL cells slots Q (fw G fa N fp fq t0 t1 t2 t3 t4 t5 tL) lv pc (.ref (fa 0) :: st) := w_get C 0 rfl rfl inX0 2 (by decide) fl_X0_32 rfl rfl hdg kk
theorem gt_X0_35 (C : Cx p s m args meth c G A RX0 cc nL ret) (hdg : decode cc pc = .ok (.getfield 35, 3)) (kk : Wd p l e R s m args below meth c G A nL cells slots Q (fw G fa N fp fq t0 t1 t2 t3 t4 t5 tL) lv (pc + 3) (.ref (fa 2) :: st)) : Wd p l e R s m args below meth c G A nL cells slots Q (fw G fa N fp fq t0 t1 t2 t3 t4 t5 tL) lv pc (.ref (fa 0) :: st) := w_get C 0 rfl rfl inX0 3 (by decide) fl_X0_35 rfl rfl hdg kk
theorem gt_X0_38 (C : Cx p s m args meth c G A RX0 cc nL ret) (hdg : decode cc pc = .ok (.getfield 38, 3)) (kk : Wd p l e R s m args below meth c G A nL cells slots Q (fw G fa N fp fq t0 t1 t2 t3 t4 t5 tL) lv (pc + 3) (.ref (fa 3) :: st)) : Wd p l e R s m args below meth c G A nL cells slots Q (fw G fa N fp fq t0 t1 t2 t3 t4 t5 tL) lv pc (.ref (fa 0) :: st) := w_get C 0 rfl rfl inX0 4 (by decide) fl_X0_38 rfl rfl hdg kk
theorem gt_X0_41 (C : Cx p s m args meth c G A RX0 cc nL ret) (hdg : decode cc pc = .ok (.getfield 41, 3)) (kk : Wd p l e R s m args below meth c G A nL cells slots Q (fw G fa N fp fq t0 t1 t2 t3 t4 t5 tL) lv (pc + 3) (.ref (fa 4) :: st)) : Wd p l e R s m args below meth c G A nL cells slots Q (fw G fa N fp fq t0 t1 t2 t3 t4 t5 tL) lv pc (.ref (fa 0) :: st) := w_get C 0 rfl rfl inX0 5 (by decide) fl_X0_41 rfl rfl hdg kk
theorem gt_X0_44 (C : Cx p s m args meth c G A RX0 cc nL ret) (hdg : decode cc pc = .ok (.getfield 44, 3)) (kk : Wd p l e R s m args below meth c G A nL cells slots Q (fw G fa N fp fq t0 t1 t2 t3 t4 t5 tL) lv (pc + 3) (.ref (fa 5) :: st)) : Wd p l e R s m args below meth c G A nL cells slots Q (fw G fa N fp fq t0 t1 t2 t3 t4 t5 tL) lv pc (.ref (fa 0) :: st) := w_get C 0 rfl rfl inX0 6 (by decide) fl_X0_44 rfl rfl hdg kk
theorem gt_X4_7 (C : Cx p s m args meth c G A RX4 cc nL ret) (hdg : decode cc pc = .ok (.getfield 7, 3)) (kk : Wd p l e R s m args below meth c G A nL cells slots Q (mw G ma th tr kq kp su pr ms ro be di) lv (pc + 3) (.ref (ma 1) :: st)) : Wd p l e R s m args below meth c G A nL cells slots Q (mw G ma th tr kq kp su pr ms ro be di) lv pc (.ref (ma 0) :: st) := w_get C 0 rfl rfl inX4 4 (by decide) fl_X4_7 rfl rfl hdg kk
theorem gt_X4_13 (C : Cx p s m args meth c G A RX4 cc nL ret) (hdg : decode cc pc = .ok (.getfield 13, 3)) (kk : Wd p l e R s m args below meth c G A nL cells slots Q (mw G ma th tr kq kp su pr ms ro be di) lv (pc + 3) (.ref (ma 2) :: st)) : Wd p l e R s m args below meth c G A nL cells slots Q (mw G ma th tr kq kp su pr ms ro be di) lv pc (.ref (ma 0) :: st) := w_get C 0 rfl rfl inX4 5 (by decide) fl_X4_13 rfl rfl hdg kk
theorem gt_X4_16 (C : Cx p s m args meth c G A RX4 cc nL ret) (hdg : decode cc pc = .ok (.getfield 16, 3)) (kk : Wd p l e R s m args below meth c G A nL cells slots Q (mw G ma th tr kq kp su pr ms ro be di) lv (pc + 3) (.ref (ma 3) :: st)) : Wd p l e R s m args below meth c G A nL cells slots Q (mw G ma th tr kq kp su pr ms ro be di) lv pc (.ref (ma 0) :: st) := w_get C 0 rfl rfl inX4 6 (by decide) fl_X4_16 rfl rfl hdg kk
theorem gt_X4_19 (C : Cx p s m args meth c G A RX4 cc nL ret) (hdg : decode cc pc = .ok (.getfield 19, 3)) (kk : Wd p l e R s m args below meth c G A nL cells slots Q (mw G ma th tr kq kp su pr ms ro be di) lv (pc + 3) (.ref (ma 4) :: st)) : Wd p l e R s m args below meth c G A nL cells slots Q (mw G ma th tr kq kp su pr ms ro be di) lv pc (.ref (ma 0) :: st) := w_get C 0 rfl rfl inX4 7 (by decide) fl_X4_19 rfl rfl hdg kk
theorem gt_X4_22 (C : Cx p s m args meth c G A RX4 cc nL ret) (hdg : decode cc pc = .ok (.getfield 22, 3)) (kk : Wd p l e R s m args below meth c G A nL cells slots Q (mw G ma th tr kq kp su pr ms ro be di) lv (pc + 3) (.ref (ma 5) :: st)) : Wd p l e R s m args below meth c G A nL cells slots Q (mw G ma th tr kq kp su pr ms ro be di) lv pc (.ref (ma 0) :: st) := w_get C 0 rfl rfl inX4 8 (by decide) fl_X4_22 rfl rfl hdg kk
theorem gt_X4_25 (C : Cx p s m args meth c G A RX4 cc nL ret) (hdg : decode cc pc = .ok (.getfield 25, 3)) (kk : Wd p l e R s m args below meth c G A nL cells slots Q (mw G ma th tr kq kp su pr ms ro be di) lv (pc + 3) (.ref (ma 6) :: st)) : Wd p l e R s m args below meth c G A nL cells slots Q (mw G ma th tr kq kp su pr ms ro be di) lv pc (.ref (ma 0) :: st) := w_get C 0 rfl rfl inX4 9 (by decide) fl_X4_25 rfl rfl hdg kk
theorem gt_X4_39 (C : Cx p s m args meth c G A RX4 cc nL ret) (hdg : decode cc pc = .ok (.getfield 39, 3)) (kk : Wd p l e R s m args below meth c G A nL cells slots Q (mw G ma th tr kq kp su pr ms ro be di) lv (pc + 3) (.int kq :: st)) : Wd p l e R s m args below meth c G A nL cells slots Q (mw G ma th tr kq kp su pr ms ro be di) lv pc (.ref (ma 0) :: st) := w_get C 0 rfl rfl inX4 2 (by decide) fl_X4_39 rfl rfl hdg kk
theorem pt_X4_39 {x : Int32} (C : Cx p s m args meth c G A RX4 cc nL ret) (hdg : decode cc pc = .ok (.putfield 39, 3)) (kk : Wd p l e R s m args below meth c G A nL cells slots Q (mw G ma th tr x kp su pr ms ro be di) lv (pc + 3) st) : Wd p l e R s m args below meth c G A nL cells slots Q (mw G ma th tr kq kp su pr ms ro be di) lv pc (.int x :: .ref (ma 0) :: st) := w_put (ws2 := (mw G ma th tr x kp su pr ms ro be di)) C 0 rfl rfl inX4 tyX4 tyX4_ok nmX4 2 (by decide) fl_X4_39 rfl rfl rfl rfl rfl (Nat.le_of_ble_eq_true rfl) rfl hdg kk
theorem gt_X4_36 (C : Cx p s m args meth c G A RX4 cc nL ret) (hdg : decode cc pc = .ok (.getfield 36, 3)) (kk : Wd p l e R s m args below meth c G A nL cells slots Q (mw G ma th tr kq kp su pr ms ro be di) lv (pc + 3) (.int kp :: st)) : Wd p l e R s m args below meth c G A nL cells slots Q (mw G ma th tr kq kp su pr ms ro be di) lv pc (.ref (ma 0) :: st) := w_get C 0 rfl rfl inX4 3 (by decide) fl_X4_36 rfl rfl hdg kk
theorem pt_X4_36 {x : Int32} (C : Cx p s m args meth c G A RX4 cc nL ret) (hdg : decode cc pc = .ok (.putfield 36, 3)) (kk : Wd p l e R s m args below meth c G A nL cells slots Q (mw G ma th tr kq x su pr ms ro be di) lv (pc + 3) st) : Wd p l e R s m args below meth c G A nL cells slots Q (mw G ma th tr kq kp su pr ms ro be di) lv pc (.int x :: .ref (ma 0) :: st) := w_put (ws2 := (mw G ma th tr kq x su pr ms ro be di)) C 0 rfl rfl inX4 tyX4 tyX4_ok nmX4 3 (by decide) fl_X4_36 rfl rfl rfl rfl rfl (Nat.le_of_ble_eq_true rfl) rfl hdg kk
theorem gt_X4_32 (C : Cx p s m args meth c G A RX4 cc nL ret) (hdg : decode cc pc = .ok (.getfield 32, 3)) (kk : Wd p l e R s m args below meth c G A nL cells slots Q (mw G ma th tr kq kp su pr ms ro be di) lv (pc + 3) (.int th :: st)) : Wd p l e R s m args below meth c G A nL cells slots Q (mw G ma th tr kq kp su pr ms ro be di) lv pc (.ref (ma 0) :: st) := w_get C 0 rfl rfl inX4 0 (by decide) fl_X4_32 rfl rfl hdg kk
theorem pt_X4_32 {x : Int32} (C : Cx p s m args meth c G A RX4 cc nL ret) (hdg : decode cc pc = .ok (.putfield 32, 3)) (kk : Wd p l e R s m args below meth c G A nL cells slots Q (mw G ma x tr kq kp su pr ms ro be di) lv (pc + 3) st) : Wd p l e R s m args below meth c G A nL cells slots Q (mw G ma th tr kq kp su pr ms ro be di) lv pc (.int x :: .ref (ma 0) :: st) := w_put (ws2 := (mw G ma x tr kq kp su pr ms ro be di)) C 0 rfl rfl inX4 tyX4 tyX4_ok nmX4 0 (by decide) fl_X4_32 rfl rfl rfl rfl rfl (Nat.le_of_ble_eq_true rfl) rfl hdg kk
theorem gt_X2_9 (C : Cx p s m args meth c G A RX2 cc nL ret) (hdg : decode cc pc = .ok (.getfield 9, 3)) (kk : Wd p l e R s m args below meth c G A nL cells slots Q ([rcw ra r1 r2 r3 r4 r5] ++ Z) lv (pc + 3) (.int r1 :: st)) : Wd p l e R s m args below meth c G A nL cells slots Q ([rcw ra r1 r2 r3 r4 r5] ++ Z) lv pc (.ref ra :: st) := w_get C 0 rfl rfl inX2 0 (by decide) fl_X2_9 rfl rfl hdg kk
theorem pt_X2_9 {x : Int32} (C : Cx p s m args meth c G A RX2 cc nL ret) (hdg : decode cc pc = .ok (.putfield 9, 3)) (kk : Wd p l e R s m args below meth c G A nL cells slots Q ([rcw ra x r2 r3 r4 r5] ++ Z) lv (pc + 3) st) : Wd p l e R s m args below meth c G A nL cells slots Q ([rcw ra r1 r2 r3 r4 r5] ++ Z) lv pc (.int x :: .ref ra :: st) := w_put (ws2 := ([rcw ra x r2 r3 r4 r5] ++ Z)) C 0 rfl rfl inX2 tyX2 tyX2_ok nmX2 0 (by decide) fl_X2_9 rfl rfl rfl rfl rfl (Nat.le_of_ble_eq_true rfl) rfl hdg kk
theorem gt_X2_15 (C : Cx p s m args meth c G A RX2 cc nL ret) (hdg : decode cc pc = .ok (.getfield 15, 3)) (kk : Wd p l e R s m args below meth c G A nL cells slots Q ([rcw ra r1 r2 r3 r4 r5] ++ Z) lv (pc + 3) (.int r2 :: st)) : Wd p l e R s m args below meth c G A nL cells slots Q ([rcw ra r1 r2 r3 r4 r5] ++ Z) lv pc (.ref ra :: st) := w_get C 0 rfl rfl inX2 1 (by decide) fl_X2_15 rfl rfl hdg kk
theorem pt_X2_15 {x : Int32} (C : Cx p s m args meth c G A RX2 cc nL ret) (hdg : decode cc pc = .ok (.putfield 15, 3)) (kk : Wd p l e R s m args below meth c G A nL cells slots Q ([rcw ra r1 x r3 r4 r5] ++ Z) lv (pc + 3) st) : Wd p l e R s m args below meth c G A nL cells slots Q ([rcw ra r1 r2 r3 r4 r5] ++ Z) lv pc (.int x :: .ref ra :: st) := w_put (ws2 := ([rcw ra r1 x r3 r4 r5] ++ Z)) C 0 rfl rfl inX2 tyX2 tyX2_ok nmX2 1 (by decide) fl_X2_15 rfl rfl rfl rfl rfl (Nat.le_of_ble_eq_true rfl) rfl hdg kk
theorem gt_X2_18 (C : Cx p s m args meth c G A RX2 cc nL ret) (hdg : decode cc pc = .ok (.getfield 18, 3)) (kk : Wd p l e R s m args below meth c G A nL cells slots Q ([rcw ra r1 r2 r3 r4 r5] ++ Z) lv (pc + 3) (.int r3 :: st)) : Wd p l e R s m args below meth c G A nL cells slots Q ([rcw ra r1 r2 r3 r4 r5] ++ Z) lv pc (.ref ra :: st) := w_get C 0 rfl rfl inX2 2 (by decide) fl_X2_18 rfl rfl hdg kk
theorem pt_X2_18 {x : Int32} (C : Cx p s m args meth c G A RX2 cc nL ret) (hdg : decode cc pc = .ok (.putfield 18, 3)) (kk : Wd p l e R s m args below meth c G A nL cells slots Q ([rcw ra r1 r2 x r4 r5] ++ Z) lv (pc + 3) st) : Wd p l e R s m args below meth c G A nL cells slots Q ([rcw ra r1 r2 r3 r4 r5] ++ Z) lv pc (.int x :: .ref ra :: st) := w_put (ws2 := ([rcw ra r1 r2 x r4 r5] ++ Z)) C 0 rfl rfl inX2 tyX2 tyX2_ok nmX2 2 (by decide) fl_X2_18 rfl rfl rfl rfl rfl (Nat.le_of_ble_eq_true rfl) rfl hdg kk
theorem gt_X2_21 (C : Cx p s m args meth c G A RX2 cc nL ret) (hdg : decode cc pc = .ok (.getfield 21, 3)) (kk : Wd p l e R s m args below meth c G A nL cells slots Q ([rcw ra r1 r2 r3 r4 r5] ++ Z) lv (pc + 3) (.int r4 :: st)) : Wd p l e R s m args below meth c G A nL cells slots Q ([rcw ra r1 r2 r3 r4 r5] ++ Z) lv pc (.ref ra :: st) := w_get C 0 rfl rfl inX2 3 (by decide) fl_X2_21 rfl rfl hdg kk
theorem pt_X2_21 {x : Int32} (C : Cx p s m args meth c G A RX2 cc nL ret) (hdg : decode cc pc = .ok (.putfield 21, 3)) (kk : Wd p l e R s m args below meth c G A nL cells slots Q ([rcw ra r1 r2 r3 x r5] ++ Z) lv (pc + 3) st) : Wd p l e R s m args below meth c G A nL cells slots Q ([rcw ra r1 r2 r3 r4 r5] ++ Z) lv pc (.int x :: .ref ra :: st) := w_put (ws2 := ([rcw ra r1 r2 r3 x r5] ++ Z)) C 0 rfl rfl inX2 tyX2 tyX2_ok nmX2 3 (by decide) fl_X2_21 rfl rfl rfl rfl rfl (Nat.le_of_ble_eq_true rfl) rfl hdg kk
theorem gt_X2_24 (C : Cx p s m args meth c G A RX2 cc nL ret) (hdg : decode cc pc = .ok (.getfield 24, 3)) (kk : Wd p l e R s m args below meth c G A nL cells slots Q ([rcw ra r1 r2 r3 r4 r5] ++ Z) lv (pc + 3) (.int r5 :: st)) : Wd p l e R s m args below meth c G A nL cells slots Q ([rcw ra r1 r2 r3 r4 r5] ++ Z) lv pc (.ref ra :: st) := w_get C 0 rfl rfl inX2 4 (by decide) fl_X2_24 rfl rfl hdg kk
theorem pt_X2_24 {x : Int32} (C : Cx p s m args meth c G A RX2 cc nL ret) (hdg : decode cc pc = .ok (.putfield 24, 3)) (kk : Wd p l e R s m args below meth c G A nL cells slots Q ([rcw ra r1 r2 r3 r4 x] ++ Z) lv (pc + 3) st) : Wd p l e R s m args below meth c G A nL cells slots Q ([rcw ra r1 r2 r3 r4 r5] ++ Z) lv pc (.int x :: .ref ra :: st) := w_put (ws2 := ([rcw ra r1 r2 r3 r4 x] ++ Z)) C 0 rfl rfl inX2 tyX2 tyX2_ok nmX2 4 (by decide) fl_X2_24 rfl rfl rfl rfl rfl (Nat.le_of_ble_eq_true rfl) rfl hdg kk
theorem gt_X3_89 (C : Cx p s m args meth c G A RX3 cc nL ret) (hdg : decode cc pc = .ok (.getfield 89, 3)) (kk : Wd p l e R s m args below meth c G A nL cells slots Q (xm G xa FA hr ra xq ak RR ++ Z) lv (pc + 3) (.long ak :: st)) : Wd p l e R s m args below meth c G A nL cells slots Q (xm G xa FA hr ra xq ak RR ++ Z) lv pc (.ref (xa 0) :: st) := w_get C 0 rfl rfl inX3 7 (by decide) fl_X3_89 rfl rfl hdg kk
theorem pt_X3_89 {x : Int64} (C : Cx p s m args meth c G A RX3 cc nL ret) (hdg : decode cc pc = .ok (.putfield 89, 3)) (kk : Wd p l e R s m args below meth c G A nL cells slots Q (xm G xa FA hr ra xq x RR ++ Z) lv (pc + 3) st) : Wd p l e R s m args below meth c G A nL cells slots Q (xm G xa FA hr ra xq ak RR ++ Z) lv pc (.long x :: .ref (xa 0) :: st) := w_put (ws2 := (xm G xa FA hr ra xq x RR ++ Z)) C 0 rfl rfl inX3 tyX3 tyX3_ok nmX3 7 (by decide) fl_X3_89 rfl rfl rfl rfl rfl (Nat.le_of_ble_eq_true rfl) rfl hdg kk
theorem gt_X3_93 (C : Cx p s m args meth c G A RX3 cc nL ret) (hdg : decode cc pc = .ok (.getfield 93, 3)) (kk : Wd p l e R s m args below meth c G A nL cells slots Q (xm G xa FA hr ra xq ak RR ++ ([rcw ra r1 r2 r3 r4 r5] ++ Z)) lv (pc + 3) (.int r5 :: st)) : Wd p l e R s m args below meth c G A nL cells slots Q (xm G xa FA hr ra xq ak RR ++ ([rcw ra r1 r2 r3 r4 r5] ++ Z)) lv pc (.ref ra :: st) := w_get C 9 rfl rfl inX2 4 (by decide) fl_X3_93 rfl rfl hdg kk
theorem gt_X4_88 (C : Cx p s m args meth c G A RX4 cc nL ret) (hdg : decode cc pc = .ok (.getfield 88, 3)) (kk : Wd p l e R s m args below meth c G A nL cells slots Q (mw G ma th tr kq kp su pr ms ro be di) lv (pc + 3) (.long tr :: st)) : Wd p l e R s m args below meth c G A nL cells slots Q (mw G ma th tr kq kp su pr ms ro be di) lv pc (.ref (ma 0) :: st) := w_get C 0 rfl rfl inX4 1 (by decide) fl_X4_88 rfl rfl hdg kk
theorem pt_X4_88 {x : Int64} (C : Cx p s m args meth c G A RX4 cc nL ret) (hdg : decode cc pc = .ok (.putfield 88, 3)) (kk : Wd p l e R s m args below meth c G A nL cells slots Q (mw G ma th x kq kp su pr ms ro be di) lv (pc + 3) st) : Wd p l e R s m args below meth c G A nL cells slots Q (mw G ma th tr kq kp su pr ms ro be di) lv pc (.long x :: .ref (ma 0) :: st) := w_put (ws2 := (mw G ma th x kq kp su pr ms ro be di)) C 0 rfl rfl inX4 tyX4 tyX4_ok nmX4 1 (by decide) fl_X4_88 rfl rfl rfl rfl rfl (Nat.le_of_ble_eq_true rfl) rfl hdg kk
theorem gt_X3_181 (C : Cx p s m args meth c G A RX3 cc nL ret) (hdg : decode cc pc = .ok (.getfield 181, 3)) (kk : Wd p l e R s m args below meth c G A nL cells slots Q (xm G xa FA (fa 0) ra xq ak RR ++ ([rcw ra r1 r2 r3 r4 r5] ++ (fw G fa N fp fq t0 t1 t2 t3 t4 t5 tL))) lv (pc + 3) (.int fp :: st)) : Wd p l e R s m args below meth c G A nL cells slots Q (xm G xa FA (fa 0) ra xq ak RR ++ ([rcw ra r1 r2 r3 r4 r5] ++ (fw G fa N fp fq t0 t1 t2 t3 t4 t5 tL))) lv pc (.ref (fa 0) :: st) := w_get C 10 rfl rfl inX0 0 (by decide) fl_X3_181 rfl rfl hdg kk
theorem ld_su {i : Int32} (C : Cx p s m args meth c G A own cc nL ret) (hin : vp_in i 256) (hdg : decode cc pc = .ok (.iaload, 1)) (kk : Wd p l e R s m args below meth c G A nL cells slots Q (mw G ma th tr kq kp su pr ms ro be di) lv (pc + 1) (.int (su i.toNatClampNeg) :: st)) : Wd p l e R s m args below meth c G A nL cells slots Q (mw G ma th tr kq kp su pr ms ro be di) lv pc (.int i :: .ref (ma 1) :: st) := w_iald C 1 rfl hin hdg kk
theorem sr_su {i x : Int32} (C : Cx p s m args meth c G A own cc nL ret) (hin : vp_in i 256) (hdg : decode cc pc = .ok (.iastore, 1)) (kk : Wd p l e R s m args below meth c G A nL cells slots Q (mw G ma th tr kq kp (upd su i.toNatClampNeg x) pr ms ro be di) lv (pc + 1) st) : Wd p l e R s m args below meth c G A nL cells slots Q (mw G ma th tr kq kp su pr ms ro be di) lv pc (.int x :: .int i :: .ref (ma 1) :: st) := w_iast C 1 rfl hin rfl hdg kk
theorem ld_pr {i : Int32} (C : Cx p s m args meth c G A own cc nL ret) (hin : vp_in i 256) (hdg : decode cc pc = .ok (.iaload, 1)) (kk : Wd p l e R s m args below meth c G A nL cells slots Q (mw G ma th tr kq kp su pr ms ro be di) lv (pc + 1) (.int (pr i.toNatClampNeg) :: st)) : Wd p l e R s m args below meth c G A nL cells slots Q (mw G ma th tr kq kp su pr ms ro be di) lv pc (.int i :: .ref (ma 2) :: st) := w_iald C 2 rfl hin hdg kk
theorem sr_pr {i x : Int32} (C : Cx p s m args meth c G A own cc nL ret) (hin : vp_in i 256) (hdg : decode cc pc = .ok (.iastore, 1)) (kk : Wd p l e R s m args below meth c G A nL cells slots Q (mw G ma th tr kq kp su (upd pr i.toNatClampNeg x) ms ro be di) lv (pc + 1) st) : Wd p l e R s m args below meth c G A nL cells slots Q (mw G ma th tr kq kp su pr ms ro be di) lv pc (.int x :: .int i :: .ref (ma 2) :: st) := w_iast C 2 rfl hin rfl hdg kk
theorem ld_ms {i : Int32} (C : Cx p s m args meth c G A own cc nL ret) (hin : vp_in i 64) (hdg : decode cc pc = .ok (.iaload, 1)) (kk : Wd p l e R s m args below meth c G A nL cells slots Q (mw G ma th tr kq kp su pr ms ro be di) lv (pc + 1) (.int (ms i.toNatClampNeg) :: st)) : Wd p l e R s m args below meth c G A nL cells slots Q (mw G ma th tr kq kp su pr ms ro be di) lv pc (.int i :: .ref (ma 3) :: st) := w_iald C 3 rfl hin hdg kk
theorem sr_ms {i x : Int32} (C : Cx p s m args meth c G A own cc nL ret) (hin : vp_in i 64) (hdg : decode cc pc = .ok (.iastore, 1)) (kk : Wd p l e R s m args below meth c G A nL cells slots Q (mw G ma th tr kq kp su pr (upd ms i.toNatClampNeg x) ro be di) lv (pc + 1) st) : Wd p l e R s m args below meth c G A nL cells slots Q (mw G ma th tr kq kp su pr ms ro be di) lv pc (.int x :: .int i :: .ref (ma 3) :: st) := w_iast C 3 rfl hin rfl hdg kk
theorem ld_ro {i : Int32} (C : Cx p s m args meth c G A own cc nL ret) (hin : vp_in i 16) (hdg : decode cc pc = .ok (.iaload, 1)) (kk : Wd p l e R s m args below meth c G A nL cells slots Q (mw G ma th tr kq kp su pr ms ro be di) lv (pc + 1) (.int (ro i.toNatClampNeg) :: st)) : Wd p l e R s m args below meth c G A nL cells slots Q (mw G ma th tr kq kp su pr ms ro be di) lv pc (.int i :: .ref (ma 4) :: st) := w_iald C 4 rfl hin hdg kk
theorem sr_ro {i x : Int32} (C : Cx p s m args meth c G A own cc nL ret) (hin : vp_in i 16) (hdg : decode cc pc = .ok (.iastore, 1)) (kk : Wd p l e R s m args below meth c G A nL cells slots Q (mw G ma th tr kq kp su pr ms (upd ro i.toNatClampNeg x) be di) lv (pc + 1) st) : Wd p l e R s m args below meth c G A nL cells slots Q (mw G ma th tr kq kp su pr ms ro be di) lv pc (.int x :: .int i :: .ref (ma 4) :: st) := w_iast C 4 rfl hin rfl hdg kk
theorem ld_be {i : Int32} (C : Cx p s m args meth c G A own cc nL ret) (hin : vp_in i 16) (hdg : decode cc pc = .ok (.iaload, 1)) (kk : Wd p l e R s m args below meth c G A nL cells slots Q (mw G ma th tr kq kp su pr ms ro be di) lv (pc + 1) (.int (be i.toNatClampNeg) :: st)) : Wd p l e R s m args below meth c G A nL cells slots Q (mw G ma th tr kq kp su pr ms ro be di) lv pc (.int i :: .ref (ma 5) :: st) := w_iald C 5 rfl hin hdg kk
theorem sr_be {i x : Int32} (C : Cx p s m args meth c G A own cc nL ret) (hin : vp_in i 16) (hdg : decode cc pc = .ok (.iastore, 1)) (kk : Wd p l e R s m args below meth c G A nL cells slots Q (mw G ma th tr kq kp su pr ms ro (upd be i.toNatClampNeg x) di) lv (pc + 1) st) : Wd p l e R s m args below meth c G A nL cells slots Q (mw G ma th tr kq kp su pr ms ro be di) lv pc (.int x :: .int i :: .ref (ma 5) :: st) := w_iast C 5 rfl hin rfl hdg kk
theorem ld_di {i : Int32} (C : Cx p s m args meth c G A own cc nL ret) (hin : vp_in i 8) (hdg : decode cc pc = .ok (.iaload, 1)) (kk : Wd p l e R s m args below meth c G A nL cells slots Q (mw G ma th tr kq kp su pr ms ro be di) lv (pc + 1) (.int (di i.toNatClampNeg) :: st)) : Wd p l e R s m args below meth c G A nL cells slots Q (mw G ma th tr kq kp su pr ms ro be di) lv pc (.int i :: .ref (ma 6) :: st) := w_iald C 6 rfl hin hdg kk
theorem sr_di {i x : Int32} (C : Cx p s m args meth c G A own cc nL ret) (hin : vp_in i 8) (hdg : decode cc pc = .ok (.iastore, 1)) (kk : Wd p l e R s m args below meth c G A nL cells slots Q (mw G ma th tr kq kp su pr ms ro be (upd di i.toNatClampNeg x)) lv (pc + 1) st) : Wd p l e R s m args below meth c G A nL cells slots Q (mw G ma th tr kq kp su pr ms ro be di) lv pc (.int x :: .int i :: .ref (ma 6) :: st) := w_iast C 6 rfl hin rfl hdg kk
theorem ld_t0 {i : Int32} (C : Cx p s m args meth c G A own cc nL ret) (hin : vp_in i (N * N)) (hdg : decode cc pc = .ok (.iaload, 1)) (kk : Wd p l e R s m args below meth c G A nL cells slots Q (fw G fa N fp fq t0 t1 t2 t3 t4 t5 tL) lv (pc + 1) (.int (t0 i.toNatClampNeg) :: st)) : Wd p l e R s m args below meth c G A nL cells slots Q (fw G fa N fp fq t0 t1 t2 t3 t4 t5 tL) lv pc (.int i :: .ref (fa 1) :: st) := w_iald C 1 rfl hin hdg kk
theorem sr_t0 {i x : Int32} (C : Cx p s m args meth c G A own cc nL ret) (hin : vp_in i (N * N)) (hdg : decode cc pc = .ok (.iastore, 1)) (kk : Wd p l e R s m args below meth c G A nL cells slots Q (fw G fa N fp fq (upd t0 i.toNatClampNeg x) t1 t2 t3 t4 t5 tL) lv (pc + 1) st) : Wd p l e R s m args below meth c G A nL cells slots Q (fw G fa N fp fq t0 t1 t2 t3 t4 t5 tL) lv pc (.int x :: .int i :: .ref (fa 1) :: st) := w_iast C 1 rfl hin rfl hdg kk
theorem ld_t1 {i : Int32} (C : Cx p s m args meth c G A own cc nL ret) (hin : vp_in i (N * N)) (hdg : decode cc pc = .ok (.iaload, 1)) (kk : Wd p l e R s m args below meth c G A nL cells slots Q (fw G fa N fp fq t0 t1 t2 t3 t4 t5 tL) lv (pc + 1) (.int (t1 i.toNatClampNeg) :: st)) : Wd p l e R s m args below meth c G A nL cells slots Q (fw G fa N fp fq t0 t1 t2 t3 t4 t5 tL) lv pc (.int i :: .ref (fa 2) :: st) := w_iald C 2 rfl hin hdg kk
theorem sr_t1 {i x : Int32} (C : Cx p s m args meth c G A own cc nL ret) (hin : vp_in i (N * N)) (hdg : decode cc pc = .ok (.iastore, 1)) (kk : Wd p l e R s m args below meth c G A nL cells slots Q (fw G fa N fp fq t0 (upd t1 i.toNatClampNeg x) t2 t3 t4 t5 tL) lv (pc + 1) st) : Wd p l e R s m args below meth c G A nL cells slots Q (fw G fa N fp fq t0 t1 t2 t3 t4 t5 tL) lv pc (.int x :: .int i :: .ref (fa 2) :: st) := w_iast C 2 rfl hin rfl hdg kk
theorem ld_t2 {i : Int32} (C : Cx p s m args meth c G A own cc nL ret) (hin : vp_in i (N * N)) (hdg : decode cc pc = .ok (.iaload, 1)) (kk : Wd p l e R s m args below meth c G A nL cells slots Q (fw G fa N fp fq t0 t1 t2 t3 t4 t5 tL) lv (pc + 1) (.int (t2 i.toNatClampNeg) :: st)) : Wd p l e R s m args below meth c G A nL cells slots Q (fw G fa N fp fq t0 t1 t2 t3 t4 t5 tL) lv pc (.int i :: .ref (fa 3) :: st) := w_iald C 3 rfl hin hdg kk
theorem sr_t2 {i x : Int32} (C : Cx p s m args meth c G A own cc nL ret) (hin : vp_in i (N * N)) (hdg : decode cc pc = .ok (.iastore, 1)) (kk : Wd p l e R s m args below meth c G A nL cells slots Q (fw G fa N fp fq t0 t1 (upd t2 i.toNatClampNeg x) t3 t4 t5 tL) lv (pc + 1) st) : Wd p l e R s m args below meth c G A nL cells slots Q (fw G fa N fp fq t0 t1 t2 t3 t4 t5 tL) lv pc (.int x :: .int i :: .ref (fa 3) :: st) := w_iast C 3 rfl hin rfl hdg kk
theorem ld_t3 {i : Int32} (C : Cx p s m args meth c G A own cc nL ret) (hin : vp_in i N) (hdg : decode cc pc = .ok (.iaload, 1)) (kk : Wd p l e R s m args below meth c G A nL cells slots Q (fw G fa N fp fq t0 t1 t2 t3 t4 t5 tL) lv (pc + 1) (.int (t3 i.toNatClampNeg) :: st)) : Wd p l e R s m args below meth c G A nL cells slots Q (fw G fa N fp fq t0 t1 t2 t3 t4 t5 tL) lv pc (.int i :: .ref (fa 4) :: st) := w_iald C 4 rfl hin hdg kk
theorem sr_t3 {i x : Int32} (C : Cx p s m args meth c G A own cc nL ret) (hin : vp_in i N) (hdg : decode cc pc = .ok (.iastore, 1)) (kk : Wd p l e R s m args below meth c G A nL cells slots Q (fw G fa N fp fq t0 t1 t2 (upd t3 i.toNatClampNeg x) t4 t5 tL) lv (pc + 1) st) : Wd p l e R s m args below meth c G A nL cells slots Q (fw G fa N fp fq t0 t1 t2 t3 t4 t5 tL) lv pc (.int x :: .int i :: .ref (fa 4) :: st) := w_iast C 4 rfl hin rfl hdg kk
theorem ld_t4 {i : Int32} (C : Cx p s m args meth c G A own cc nL ret) (hin : vp_in i N) (hdg : decode cc pc = .ok (.iaload, 1)) (kk : Wd p l e R s m args below meth c G A nL cells slots Q (fw G fa N fp fq t0 t1 t2 t3 t4 t5 tL) lv (pc + 1) (.int (t4 i.toNatClampNeg) :: st)) : Wd p l e R s m args below meth c G A nL cells slots Q (fw G fa N fp fq t0 t1 t2 t3 t4 t5 tL) lv pc (.int i :: .ref (fa 5) :: st) := w_iald C 5 rfl hin hdg kk
theorem sr_t4 {i x : Int32} (C : Cx p s m args meth c G A own cc nL ret) (hin : vp_in i N) (hdg : decode cc pc = .ok (.iastore, 1)) (kk : Wd p l e R s m args below meth c G A nL cells slots Q (fw G fa N fp fq t0 t1 t2 t3 (upd t4 i.toNatClampNeg x) t5 tL) lv (pc + 1) st) : Wd p l e R s m args below meth c G A nL cells slots Q (fw G fa N fp fq t0 t1 t2 t3 t4 t5 tL) lv pc (.int x :: .int i :: .ref (fa 5) :: st) := w_iast C 5 rfl hin rfl hdg kk
theorem ld_t5 {i : Int32} (C : Cx p s m args meth c G A own cc nL ret) (hin : vp_in i 6) (hdg : decode cc pc = .ok (.iaload, 1)) (kk : Wd p l e R s m args below meth c G A nL cells slots Q (fw G fa N fp fq t0 t1 t2 t3 t4 t5 tL) lv (pc + 1) (.int (t5 i.toNatClampNeg) :: st)) : Wd p l e R s m args below meth c G A nL cells slots Q (fw G fa N fp fq t0 t1 t2 t3 t4 t5 tL) lv pc (.int i :: .ref (fa 6) :: st) := w_iald C 6 rfl hin hdg kk
theorem sr_t5 {i x : Int32} (C : Cx p s m args meth c G A own cc nL ret) (hin : vp_in i 6) (hdg : decode cc pc = .ok (.iastore, 1)) (kk : Wd p l e R s m args below meth c G A nL cells slots Q (fw G fa N fp fq t0 t1 t2 t3 t4 (upd t5 i.toNatClampNeg x) tL) lv (pc + 1) st) : Wd p l e R s m args below meth c G A nL cells slots Q (fw G fa N fp fq t0 t1 t2 t3 t4 t5 tL) lv pc (.int x :: .int i :: .ref (fa 6) :: st) := w_iast C 6 rfl hin rfl hdg kk
theorem lt6 {P : Nat → Prop} (h0 : P 0) (h1 : P 1) (h2 : P 2) (h3 : P 3) (h4 : P 4) (h5 : P 5) {j : Nat} (hj : j < 6) : P j := by
  match j, hj with
  | 0, _ => exact h0
  | 1, _ => exact h1
  | 2, _ => exact h2
  | 3, _ => exact h3
  | 4, _ => exact h4
  | 5, _ => exact h5
theorem xm_at {j : Nat} (hj : j < 6) : (xm G xa FA hr ra xq ak RR ++ Z)[3 + j]? = some (xa (3 + j), .inl (G.2 0, 16, .inl (RR j))) := lt6 (P := fun j => (xm G xa FA hr ra xq ak RR ++ Z)[3 + j]? = some (xa (3 + j), .inl (G.2 0, 16, .inl (RR j)))) rfl rfl rfl rfl rfl rfl hj
theorem xm_set {j : Nat} (hj : j < 6) (g : Nat → Int32) : (xm G xa FA hr ra xq ak RR ++ Z).set (3 + j) (xa (3 + j), .inl (G.2 0, 16, .inl g)) = (xm G xa FA hr ra xq ak (va_up RR j g) ++ Z) := lt6 (P := fun j => (xm G xa FA hr ra xq ak RR ++ Z).set (3 + j) (xa (3 + j), .inl (G.2 0, 16, .inl g)) = (xm G xa FA hr ra xq ak (va_up RR j g) ++ Z)) rfl rfl rfl rfl rfl rfl hj
theorem ld_row {i : Int32} {j : Nat} (C : Cx p s m args meth c G A own cc nL ret) (hj : j < 6) (hin : vp_in i 16) (hdg : decode cc pc = .ok (.iaload, 1)) (kk : Wd p l e R s m args below meth c G A nL cells slots Q (xm G xa FA hr ra xq ak RR ++ Z) lv (pc + 1) (.int (RR j i.toNatClampNeg) :: st)) : Wd p l e R s m args below meth c G A nL cells slots Q (xm G xa FA hr ra xq ak RR ++ Z) lv pc (.int i :: .ref (xa (3 + j)) :: st) := w_iald C (3 + j) (xm_at hj) hin hdg kk
theorem sr_row {i x : Int32} {j : Nat} (C : Cx p s m args meth c G A own cc nL ret) (hj : j < 6) (hin : vp_in i 16) (hdg : decode cc pc = .ok (.iastore, 1)) (kk : Wd p l e R s m args below meth c G A nL cells slots Q (xm G xa FA hr ra xq ak (va_up RR j (upd (RR j) i.toNatClampNeg x)) ++ Z) lv (pc + 1) st) : Wd p l e R s m args below meth c G A nL cells slots Q (xm G xa FA hr ra xq ak RR ++ Z) lv pc (.int x :: .int i :: .ref (xa (3 + j)) :: st) := w_iast C (3 + j) (xm_at hj) hin (xm_set hj _) hdg kk
theorem ld_maps {i : Int32} (C : Cx p s m args meth c G A own cc nL ret) (hin : vp_in i 4) (hdg : decode cc pc = .ok (.aaload, 1)) (kk : Wd p l e R s m args below meth c G A nL cells slots Q (xm G xa FA hr ra xq ak RR ++ Z) lv (pc + 1) (.ref (xa (3 + i.toNatClampNeg)) :: st)) : Wd p l e R s m args below meth c G A nL cells slots Q (xm G xa FA hr ra xq ak RR ++ Z) lv pc (.int i :: .ref (xa 2) :: st) := w_alda C 2 rfl hin hdg (by rw [if_pos (vp_lt hin)]; exact kk)
theorem cp_row {index : Nat} {i j : Nat} {sp dp k : Int32} (C : Cx p s m args meth c G A own cc nL ret) (hlink : (Cond.methodLink own index arraycopyName) ∈ WA) (hi : i < 6) (hj : j < 6) (h1 : ¬ sp < 0) (h2 : ¬ dp < 0) (h3 : ¬ k < 0) (h4 : sp.toNatClampNeg + k.toNatClampNeg ≤ 16) (h5 : dp.toNatClampNeg + k.toNatClampNeg ≤ 16) (hf : 1 ≤ R.frames) (hlo : (st.map fun v => v.category).sum + (nativeFrameWords "java/lang/System" "arraycopy" 5 + 11) ≤ R.locals) (hdg : decode cc pc = .ok (.invokestatic index, 3)) (kk : Wd p l e R s m args below meth c G A nL cells slots Q (xm G xa FA hr ra xq ak (va_up RR j (va_cpy (RR i) (RR j) sp.toNatClampNeg dp.toNatClampNeg k.toNatClampNeg)) ++ Z) lv (pc + 3) st) : Wd p l e R s m args below meth c G A nL cells slots Q (xm G xa FA hr ra xq ak RR ++ Z) lv pc (.int k :: .int dp :: .ref (xa (3 + j)) :: .int sp :: .ref (xa (3 + i)) :: st) := w_copyi C hlink (3 + i) (3 + j) (xm_at hi) (xm_at hj) h1 h2 h3 h4 h5 hf hlo (xm_set hj _) hdg kk
theorem w_cVi {ws2 wc wr w0 : va_W} {v : Value} {maxL k index : Nat} {b ci k9 : Nat} {fs : List Value} {qc : vw_C} {y : MethodName} {bytes : ByteArray} {rty : Option FieldType} {rm : Room} {As rest : List Value} (C : Cx p s m args meth c G A own cc nL ret) (hM : Ct l y bytes maxL rty G rm (.ref b :: As) wc (fun o w => o = some v ∧ w = w0) 0 0) (hk : PkV qc.1 y bytes maxL rty k) (hl0 : Cond.methodLink own index y ∈ WA) (he : wc[k9]? = some (b, .inr (ci, fs))) (hc : vwCl[ci]? = some qc) (hR : (rm.cells = 0 ∧ rm.slots = 0) ∧ rm.frames + 1 ≤ R.frames ∧ 8 + (maxL + 11) + rm.locals ≤ R.locals) (hn : As.length = k) (hf : cells ≤ R.cells ∧ slots ≤ R.slots) (hro : (rest.map fun v => v.category).sum ≤ 8) {st0 : List Value} (hst : st0 = As.reverse ++ .ref b :: rest) (hw : ws = wr ++ wc) (hw2 : wr ++ w0 = ws2) (hdg : decode cc pc = .ok (.invokevirtual index, 3)) (kk : Wd p l e R s m args below meth c G A nL cells slots Q ws2 lv (pc + 3) (v :: rest)) : Wd p l e R s m args below meth c G A nL cells slots Q ws lv pc st0 := by
  subst hw
  subst hw2
  refine w_callV C hM hk hl0 he hc hR hn hf hro hst hdg (fun o w1 h => ?_)
  obtain ⟨rfl, rfl⟩ := h
  exact kk
theorem w_cVv {ws2 wc wr w0 : va_W} {maxL k index : Nat} {b ci k9 : Nat} {fs : List Value} {qc : vw_C} {y : MethodName} {bytes : ByteArray} {rty : Option FieldType} {rm : Room} {As rest : List Value} (C : Cx p s m args meth c G A own cc nL ret) (hM : Ct l y bytes maxL rty G rm (.ref b :: As) wc (fun o w => o = none ∧ w = w0) 0 0) (hk : PkV qc.1 y bytes maxL rty k) (hl0 : Cond.methodLink own index y ∈ WA) (he : wc[k9]? = some (b, .inr (ci, fs))) (hc : vwCl[ci]? = some qc) (hR : (rm.cells = 0 ∧ rm.slots = 0) ∧ rm.frames + 1 ≤ R.frames ∧ 8 + (maxL + 11) + rm.locals ≤ R.locals) (hn : As.length = k) (hf : cells ≤ R.cells ∧ slots ≤ R.slots) (hro : (rest.map fun v => v.category).sum ≤ 8) {st0 : List Value} (hst : st0 = As.reverse ++ .ref b :: rest) (hw : ws = wr ++ wc) (hw2 : wr ++ w0 = ws2) (hdg : decode cc pc = .ok (.invokevirtual index, 3)) (kk : Wd p l e R s m args below meth c G A nL cells slots Q ws2 lv (pc + 3) rest) : Wd p l e R s m args below meth c G A nL cells slots Q ws lv pc st0 := by
  subst hw
  subst hw2
  refine w_callV C hM hk hl0 he hc hR hn hf hro hst hdg (fun o w1 h => ?_)
  obtain ⟨rfl, rfl⟩ := h
  exact kk
theorem w_cSi {ws2 wc wr w0 : va_W} {v : Value} {maxL k index : Nat} {y : MethodName} {bytes : ByteArray} {rty : Option FieldType} {rm : Room} {As rest : List Value} (C : Cx p s m args meth c G A own cc nL ret) (hM : Ct l y bytes maxL rty G rm As wc (fun o w => o = some v ∧ w = w0) 0 0) (hk : PkS y bytes maxL rty k) (hl0 : Cond.methodLink own index y ∈ WA) (hR : (rm.cells = 0 ∧ rm.slots = 0) ∧ rm.frames + 1 ≤ R.frames ∧ 8 + (maxL + 11) + rm.locals ≤ R.locals) (hn : As.length = k) (hf : cells ≤ R.cells ∧ slots ≤ R.slots) (hro : (rest.map fun v => v.category).sum ≤ 8) {st0 : List Value} (hst : st0 = As.reverse ++ rest) (hw : ws = wr ++ wc) (hw2 : wr ++ w0 = ws2) (hdg : decode cc pc = .ok (.invokestatic index, 3)) (kk : Wd p l e R s m args below meth c G A nL cells slots Q ws2 lv (pc + 3) (v :: rest)) : Wd p l e R s m args below meth c G A nL cells slots Q ws lv pc st0 := by
  subst hw
  subst hw2
  refine w_callS C hM hk hl0 hR hn hf hro hst hdg (fun o w1 h => ?_)
  obtain ⟨rfl, rfl⟩ := h
  exact kk
theorem w_cSv {ws2 wc wr w0 : va_W} {maxL k index : Nat} {y : MethodName} {bytes : ByteArray} {rty : Option FieldType} {rm : Room} {As rest : List Value} (C : Cx p s m args meth c G A own cc nL ret) (hM : Ct l y bytes maxL rty G rm As wc (fun o w => o = none ∧ w = w0) 0 0) (hk : PkS y bytes maxL rty k) (hl0 : Cond.methodLink own index y ∈ WA) (hR : (rm.cells = 0 ∧ rm.slots = 0) ∧ rm.frames + 1 ≤ R.frames ∧ 8 + (maxL + 11) + rm.locals ≤ R.locals) (hn : As.length = k) (hf : cells ≤ R.cells ∧ slots ≤ R.slots) (hro : (rest.map fun v => v.category).sum ≤ 8) {st0 : List Value} (hst : st0 = As.reverse ++ rest) (hw : ws = wr ++ wc) (hw2 : wr ++ w0 = ws2) (hdg : decode cc pc = .ok (.invokestatic index, 3)) (kk : Wd p l e R s m args below meth c G A nL cells slots Q ws2 lv (pc + 3) rest) : Wd p l e R s m args below meth c G A nL cells slots Q ws lv pc st0 := by
  subst hw
  subst hw2
  refine w_callS C hM hk hl0 hR hn hf hro hst hdg (fun o w1 h => ?_)
  obtain ⟨rfl, rfl⟩ := h
  exact kk
end
end
