section
-- ===== PART A: goes FIRST, ahead of the names: the tables' words, and 'selects' of the private methods out of them =====
/-- a private method of a class that the tables say can be made, by its rows of tables_1 -/
def lw_okq (q : MethodName × Nat) : Prop := (q.1.cls ≠ "java/lang/invoke/MethodHandle" ∧ q.1.cls ≠ "java/lang/invoke/VarHandle") ∧ Cond.instantiable q.1.cls q.2 ∈ tables_1 ∧ Cond.privateMethod q.1 ∈ tables_1 ∧ Cond.instanceMethod q.1 ∈ tables_1
theorem lw_p0 : lw_okq (⟨"LimbKernel$Memory", "addFree", "(II)V"⟩, 4) := ⟨⟨by decide +kernel, by decide +kernel⟩, List.mem_of_getElem? (i := 20) (by decide +kernel), List.mem_of_getElem? (i := 42) (by decide +kernel), List.mem_of_getElem? (i := 43) (by decide +kernel)⟩
theorem lw_p1 : lw_okq (⟨"LimbKernel", "leastFreeHandle", "()I"⟩, 9) := ⟨⟨by decide +kernel, by decide +kernel⟩, List.mem_of_getElem? (i := 12) (by decide +kernel), List.mem_of_getElem? (i := 228) (by decide +kernel), List.mem_of_getElem? (i := 229) (by decide +kernel)⟩
theorem lw_p2 : lw_okq (⟨"LimbKernel$Memory", "leastFreeOrder", "(I)I"⟩, 4) := ⟨⟨by decide +kernel, by decide +kernel⟩, List.mem_of_getElem? (i := 20) (by decide +kernel), List.mem_of_getElem? (i := 239) (by decide +kernel), List.mem_of_getElem? (i := 240) (by decide +kernel)⟩
theorem lw_p3 : lw_okq (⟨"LimbKernel$Memory", "removeFree", "(II)V"⟩, 4) := ⟨⟨by decide +kernel, by decide +kernel⟩, List.mem_of_getElem? (i := 20) (by decide +kernel), List.mem_of_getElem? (i := 247) (by decide +kernel), List.mem_of_getElem? (i := 248) (by decide +kernel)⟩
theorem lw_p4 : lw_okq (⟨"LimbKernel", "occupy", "(IIII)V"⟩, 9) := ⟨⟨by decide +kernel, by decide +kernel⟩, List.mem_of_getElem? (i := 12) (by decide +kernel), List.mem_of_getElem? (i := 251) (by decide +kernel), List.mem_of_getElem? (i := 252) (by decide +kernel)⟩
theorem lw_p5 : lw_okq (⟨"LimbKernel", "isNumber", "(I)Z"⟩, 9) := ⟨⟨by decide +kernel, by decide +kernel⟩, List.mem_of_getElem? (i := 12) (by decide +kernel), List.mem_of_getElem? (i := 265) (by decide +kernel), List.mem_of_getElem? (i := 266) (by decide +kernel)⟩
theorem lw_p6 : lw_okq (⟨"LimbKernel", "isFinished", "(I)Z"⟩, 9) := ⟨⟨by decide +kernel, by decide +kernel⟩, List.mem_of_getElem? (i := 12) (by decide +kernel), List.mem_of_getElem? (i := 277) (by decide +kernel), List.mem_of_getElem? (i := 278) (by decide +kernel)⟩
theorem lw_p7 : lw_okq (⟨"LimbKernel", "vacate", "(I)V"⟩, 9) := ⟨⟨by decide +kernel, by decide +kernel⟩, List.mem_of_getElem? (i := 12) (by decide +kernel), List.mem_of_getElem? (i := 289) (by decide +kernel), List.mem_of_getElem? (i := 290) (by decide +kernel)⟩
theorem lw_p8 : lw_okq (⟨"LimbKernel", "isZero", "(I)Z"⟩, 9) := ⟨⟨by decide +kernel, by decide +kernel⟩, List.mem_of_getElem? (i := 12) (by decide +kernel), List.mem_of_getElem? (i := 301) (by decide +kernel), List.mem_of_getElem? (i := 302) (by decide +kernel)⟩
theorem lw_p9 : lw_okq (⟨"LimbKernel", "leastFreeJob", "()I"⟩, 9) := ⟨⟨by decide +kernel, by decide +kernel⟩, List.mem_of_getElem? (i := 12) (by decide +kernel), List.mem_of_getElem? (i := 309) (by decide +kernel), List.mem_of_getElem? (i := 310) (by decide +kernel)⟩
theorem lw_p10 : lw_okq (⟨"LimbKernel$Job", "need", "(JJJ)V"⟩, 11) := ⟨⟨by decide +kernel, by decide +kernel⟩, List.mem_of_getElem? (i := 89) (by decide +kernel), List.mem_of_getElem? (i := 317) (by decide +kernel), List.mem_of_getElem? (i := 318) (by decide +kernel)⟩
theorem lw_p11 : lw_okq (⟨"LimbKernel", "changePins", "(LLimbKernel$Job;I)V"⟩, 9) := ⟨⟨by decide +kernel, by decide +kernel⟩, List.mem_of_getElem? (i := 12) (by decide +kernel), List.mem_of_getElem? (i := 329) (by decide +kernel), List.mem_of_getElem? (i := 330) (by decide +kernel)⟩
theorem lw_p12 : lw_okq (⟨"LimbKernel$Queue", "slot", "(I)I"⟩, 3) := ⟨⟨by decide +kernel, by decide +kernel⟩, List.mem_of_getElem? (i := 166) (by decide +kernel), List.mem_of_getElem? (i := 337) (by decide +kernel), List.mem_of_getElem? (i := 338) (by decide +kernel)⟩
theorem lw_p13 : lw_okq (⟨"LimbKernel", "takeTurn", "()I"⟩, 9) := ⟨⟨by decide +kernel, by decide +kernel⟩, List.mem_of_getElem? (i := 12) (by decide +kernel), List.mem_of_getElem? (i := 345) (by decide +kernel), List.mem_of_getElem? (i := 346) (by decide +kernel)⟩
theorem lw_p14 : lw_okq (⟨"LimbKernel", "start", "(LLimbKernel$Job;)V"⟩, 9) := ⟨⟨by decide +kernel, by decide +kernel⟩, List.mem_of_getElem? (i := 12) (by decide +kernel), List.mem_of_getElem? (i := 353) (by decide +kernel), List.mem_of_getElem? (i := 354) (by decide +kernel)⟩
theorem lw_p15 : lw_okq (⟨"LimbKernel", "reckon", "(LLimbKernel$Job;)V"⟩, 9) := ⟨⟨by decide +kernel, by decide +kernel⟩, List.mem_of_getElem? (i := 12) (by decide +kernel), List.mem_of_getElem? (i := 361) (by decide +kernel), List.mem_of_getElem? (i := 362) (by decide +kernel)⟩
def lw_privs_1 : List (MethodName × Nat) := [(⟨"LimbKernel$Memory", "addFree", "(II)V"⟩, 4), (⟨"LimbKernel", "leastFreeHandle", "()I"⟩, 9), (⟨"LimbKernel$Memory", "leastFreeOrder", "(I)I"⟩, 4), (⟨"LimbKernel$Memory", "removeFree", "(II)V"⟩, 4), (⟨"LimbKernel", "occupy", "(IIII)V"⟩, 9), (⟨"LimbKernel", "isNumber", "(I)Z"⟩, 9), (⟨"LimbKernel", "isFinished", "(I)Z"⟩, 9), (⟨"LimbKernel", "vacate", "(I)V"⟩, 9), (⟨"LimbKernel", "isZero", "(I)Z"⟩, 9), (⟨"LimbKernel", "leastFreeJob", "()I"⟩, 9), (⟨"LimbKernel$Job", "need", "(JJJ)V"⟩, 11), (⟨"LimbKernel", "changePins", "(LLimbKernel$Job;I)V"⟩, 9), (⟨"LimbKernel$Queue", "slot", "(I)I"⟩, 3), (⟨"LimbKernel", "takeTurn", "()I"⟩, 9), (⟨"LimbKernel", "start", "(LLimbKernel$Job;)V"⟩, 9), (⟨"LimbKernel", "reckon", "(LLimbKernel$Job;)V"⟩, 9)]
theorem lw_r1 : ∀ q ∈ lw_privs_1, lw_okq q := List.forall_mem_cons.mpr ⟨lw_p0, List.forall_mem_cons.mpr ⟨lw_p1, List.forall_mem_cons.mpr ⟨lw_p2, List.forall_mem_cons.mpr ⟨lw_p3, List.forall_mem_cons.mpr ⟨lw_p4, List.forall_mem_cons.mpr ⟨lw_p5, List.forall_mem_cons.mpr ⟨lw_p6, List.forall_mem_cons.mpr ⟨lw_p7, List.forall_mem_cons.mpr ⟨lw_p8, List.forall_mem_cons.mpr ⟨lw_p9, List.forall_mem_cons.mpr ⟨lw_p10, List.forall_mem_cons.mpr ⟨lw_p11, List.forall_mem_cons.mpr ⟨lw_p12, List.forall_mem_cons.mpr ⟨lw_p13, List.forall_mem_cons.mpr ⟨lw_p14, List.forall_mem_cons.mpr ⟨lw_p15, fun _ h => absurd h List.not_mem_nil⟩⟩⟩⟩⟩⟩⟩⟩⟩⟩⟩⟩⟩⟩⟩⟩
theorem lw_p16 : lw_okq (⟨"LimbKernel$Reckoner", "chooseDivisor", "(II)Z"⟩, 6) := ⟨⟨by decide +kernel, by decide +kernel⟩, List.mem_of_getElem? (i := 63) (by decide +kernel), List.mem_of_getElem? (i := 374) (by decide +kernel), List.mem_of_getElem? (i := 375) (by decide +kernel)⟩
theorem lw_p17 : lw_okq (⟨"LimbKernel$Reckoner", "load", "(LLimbKernel$Numeral;I)V"⟩, 6) := ⟨⟨by decide +kernel, by decide +kernel⟩, List.mem_of_getElem? (i := 63) (by decide +kernel), List.mem_of_getElem? (i := 379) (by decide +kernel), List.mem_of_getElem? (i := 380) (by decide +kernel)⟩
theorem lw_p18 : lw_okq (⟨"LimbKernel$Reckoner", "reduce", "(III)V"⟩, 6) := ⟨⟨by decide +kernel, by decide +kernel⟩, List.mem_of_getElem? (i := 63) (by decide +kernel), List.mem_of_getElem? (i := 386) (by decide +kernel), List.mem_of_getElem? (i := 387) (by decide +kernel)⟩
theorem lw_p19 : lw_okq (⟨"LimbKernel$Reckoner", "guessDigit", "(I)J"⟩, 6) := ⟨⟨by decide +kernel, by decide +kernel⟩, List.mem_of_getElem? (i := 63) (by decide +kernel), List.mem_of_getElem? (i := 390) (by decide +kernel), List.mem_of_getElem? (i := 391) (by decide +kernel)⟩
theorem lw_p20 : lw_okq (⟨"LimbKernel$Reckoner", "subtractTimes", "(IJ)I"⟩, 6) := ⟨⟨by decide +kernel, by decide +kernel⟩, List.mem_of_getElem? (i := 63) (by decide +kernel), List.mem_of_getElem? (i := 394) (by decide +kernel), List.mem_of_getElem? (i := 395) (by decide +kernel)⟩
theorem lw_p21 : lw_okq (⟨"LimbKernel$Reckoner", "isOne", "(II)Z"⟩, 6) := ⟨⟨by decide +kernel, by decide +kernel⟩, List.mem_of_getElem? (i := 63) (by decide +kernel), List.mem_of_getElem? (i := 407) (by decide +kernel), List.mem_of_getElem? (i := 408) (by decide +kernel)⟩
theorem lw_p22 : lw_okq (⟨"LimbKernel$Reckoner", "reduceToBase", "(LLimbKernel$Numeral;II)V"⟩, 6) := ⟨⟨by decide +kernel, by decide +kernel⟩, List.mem_of_getElem? (i := 63) (by decide +kernel), List.mem_of_getElem? (i := 411) (by decide +kernel), List.mem_of_getElem? (i := 412) (by decide +kernel)⟩
theorem lw_p23 : lw_okq (⟨"LimbKernel$Reckoner", "multiplyModulo", "(III)V"⟩, 6) := ⟨⟨by decide +kernel, by decide +kernel⟩, List.mem_of_getElem? (i := 63) (by decide +kernel), List.mem_of_getElem? (i := 416) (by decide +kernel), List.mem_of_getElem? (i := 417) (by decide +kernel)⟩
theorem lw_p24 : lw_okq (⟨"LimbKernel$Reckoner", "hasBit", "(II)Z"⟩, 6) := ⟨⟨by decide +kernel, by decide +kernel⟩, List.mem_of_getElem? (i := 63) (by decide +kernel), List.mem_of_getElem? (i := 421) (by decide +kernel), List.mem_of_getElem? (i := 422) (by decide +kernel)⟩
theorem lw_p25 : lw_okq (⟨"LimbKernel", "settle", "(LLimbKernel$Job;)V"⟩, 9) := ⟨⟨by decide +kernel, by decide +kernel⟩, List.mem_of_getElem? (i := 12) (by decide +kernel), List.mem_of_getElem? (i := 425) (by decide +kernel), List.mem_of_getElem? (i := 426) (by decide +kernel)⟩
theorem lw_p26 : lw_okq (⟨"LimbKernel", "giveUpRoom", "(LLimbKernel$Job;)V"⟩, 9) := ⟨⟨by decide +kernel, by decide +kernel⟩, List.mem_of_getElem? (i := 12) (by decide +kernel), List.mem_of_getElem? (i := 429) (by decide +kernel), List.mem_of_getElem? (i := 430) (by decide +kernel)⟩
theorem lw_p27 : lw_okq (⟨"LimbKernel", "isJob", "(I)Z"⟩, 9) := ⟨⟨by decide +kernel, by decide +kernel⟩, List.mem_of_getElem? (i := 12) (by decide +kernel), List.mem_of_getElem? (i := 445) (by decide +kernel), List.mem_of_getElem? (i := 446) (by decide +kernel)⟩
theorem lw_p28 : lw_okq (⟨"LimbKernelModel", "begin", "()V"⟩, 33) := ⟨⟨by decide +kernel, by decide +kernel⟩, List.mem_of_getElem? (i := 500) (by decide +kernel), List.mem_of_getElem? (i := 509) (by decide +kernel), List.mem_of_getElem? (i := 510) (by decide +kernel)⟩
theorem lw_p29 : lw_okq (⟨"LimbKernelModel", "handlesInUse", "()I"⟩, 33) := ⟨⟨by decide +kernel, by decide +kernel⟩, List.mem_of_getElem? (i := 500) (by decide +kernel), List.mem_of_getElem? (i := 619) (by decide +kernel), List.mem_of_getElem? (i := 620) (by decide +kernel)⟩
theorem lw_p30 : lw_okq (⟨"LimbKernelModel", "jobsThere", "()I"⟩, 33) := ⟨⟨by decide +kernel, by decide +kernel⟩, List.mem_of_getElem? (i := 500) (by decide +kernel), List.mem_of_getElem? (i := 623) (by decide +kernel), List.mem_of_getElem? (i := 624) (by decide +kernel)⟩
theorem lw_p31 : lw_okq (⟨"LimbKernelModel", "pool", "()I"⟩, 33) := ⟨⟨by decide +kernel, by decide +kernel⟩, List.mem_of_getElem? (i := 500) (by decide +kernel), List.mem_of_getElem? (i := 631) (by decide +kernel), List.mem_of_getElem? (i := 632) (by decide +kernel)⟩
def lw_privs_2 : List (MethodName × Nat) := [(⟨"LimbKernel$Reckoner", "chooseDivisor", "(II)Z"⟩, 6), (⟨"LimbKernel$Reckoner", "load", "(LLimbKernel$Numeral;I)V"⟩, 6), (⟨"LimbKernel$Reckoner", "reduce", "(III)V"⟩, 6), (⟨"LimbKernel$Reckoner", "guessDigit", "(I)J"⟩, 6), (⟨"LimbKernel$Reckoner", "subtractTimes", "(IJ)I"⟩, 6), (⟨"LimbKernel$Reckoner", "isOne", "(II)Z"⟩, 6), (⟨"LimbKernel$Reckoner", "reduceToBase", "(LLimbKernel$Numeral;II)V"⟩, 6), (⟨"LimbKernel$Reckoner", "multiplyModulo", "(III)V"⟩, 6), (⟨"LimbKernel$Reckoner", "hasBit", "(II)Z"⟩, 6), (⟨"LimbKernel", "settle", "(LLimbKernel$Job;)V"⟩, 9), (⟨"LimbKernel", "giveUpRoom", "(LLimbKernel$Job;)V"⟩, 9), (⟨"LimbKernel", "isJob", "(I)Z"⟩, 9), (⟨"LimbKernelModel", "begin", "()V"⟩, 33), (⟨"LimbKernelModel", "handlesInUse", "()I"⟩, 33), (⟨"LimbKernelModel", "jobsThere", "()I"⟩, 33), (⟨"LimbKernelModel", "pool", "()I"⟩, 33)]
theorem lw_r2 : ∀ q ∈ lw_privs_2, lw_okq q := List.forall_mem_cons.mpr ⟨lw_p16, List.forall_mem_cons.mpr ⟨lw_p17, List.forall_mem_cons.mpr ⟨lw_p18, List.forall_mem_cons.mpr ⟨lw_p19, List.forall_mem_cons.mpr ⟨lw_p20, List.forall_mem_cons.mpr ⟨lw_p21, List.forall_mem_cons.mpr ⟨lw_p22, List.forall_mem_cons.mpr ⟨lw_p23, List.forall_mem_cons.mpr ⟨lw_p24, List.forall_mem_cons.mpr ⟨lw_p25, List.forall_mem_cons.mpr ⟨lw_p26, List.forall_mem_cons.mpr ⟨lw_p27, List.forall_mem_cons.mpr ⟨lw_p28, List.forall_mem_cons.mpr ⟨lw_p29, List.forall_mem_cons.mpr ⟨lw_p30, List.forall_mem_cons.mpr ⟨lw_p31, fun _ h => absurd h List.not_mem_nil⟩⟩⟩⟩⟩⟩⟩⟩⟩⟩⟩⟩⟩⟩⟩⟩
theorem lw_p32 : lw_okq (⟨"LimbKernelModel", "freeHandle", "()I"⟩, 33) := ⟨⟨by decide +kernel, by decide +kernel⟩, List.mem_of_getElem? (i := 500) (by decide +kernel), List.mem_of_getElem? (i := 635) (by decide +kernel), List.mem_of_getElem? (i := 636) (by decide +kernel)⟩
theorem lw_p33 : lw_okq (⟨"LimbKernelModel", "give", "(I)I"⟩, 33) := ⟨⟨by decide +kernel, by decide +kernel⟩, List.mem_of_getElem? (i := 500) (by decide +kernel), List.mem_of_getElem? (i := 642) (by decide +kernel), List.mem_of_getElem? (i := 643) (by decide +kernel)⟩
theorem lw_p34 : lw_okq (⟨"LimbKernelModel", "make", "(III)V"⟩, 33) := ⟨⟨by decide +kernel, by decide +kernel⟩, List.mem_of_getElem? (i := 500) (by decide +kernel), List.mem_of_getElem? (i := 646) (by decide +kernel), List.mem_of_getElem? (i := 647) (by decide +kernel)⟩
theorem lw_p35 : lw_okq (⟨"LimbKernelModel", "isThere", "(I)Z"⟩, 33) := ⟨⟨by decide +kernel, by decide +kernel⟩, List.mem_of_getElem? (i := 500) (by decide +kernel), List.mem_of_getElem? (i := 654) (by decide +kernel), List.mem_of_getElem? (i := 655) (by decide +kernel)⟩
theorem lw_p36 : lw_okq (⟨"LimbKernelModel", "go", "(I)V"⟩, 33) := ⟨⟨by decide +kernel, by decide +kernel⟩, List.mem_of_getElem? (i := 500) (by decide +kernel), List.mem_of_getElem? (i := 670) (by decide +kernel), List.mem_of_getElem? (i := 671) (by decide +kernel)⟩
theorem lw_p37 : lw_okq (⟨"LimbKernelModel", "free", "(II)V"⟩, 33) := ⟨⟨by decide +kernel, by decide +kernel⟩, List.mem_of_getElem? (i := 500) (by decide +kernel), List.mem_of_getElem? (i := 674) (by decide +kernel), List.mem_of_getElem? (i := 675) (by decide +kernel)⟩
theorem lw_p38 : lw_okq (⟨"LimbKernelModel", "isOperand", "(I)Z"⟩, 33) := ⟨⟨by decide +kernel, by decide +kernel⟩, List.mem_of_getElem? (i := 500) (by decide +kernel), List.mem_of_getElem? (i := 682) (by decide +kernel), List.mem_of_getElem? (i := 683) (by decide +kernel)⟩
theorem lw_p39 : lw_okq (⟨"LimbKernelModel", "length", "(I)I"⟩, 33) := ⟨⟨by decide +kernel, by decide +kernel⟩, List.mem_of_getElem? (i := 500) (by decide +kernel), List.mem_of_getElem? (i := 686) (by decide +kernel), List.mem_of_getElem? (i := 687) (by decide +kernel)⟩
theorem lw_p40 : lw_okq (⟨"LimbKernelModel", "start", "(I)V"⟩, 33) := ⟨⟨by decide +kernel, by decide +kernel⟩, List.mem_of_getElem? (i := 500) (by decide +kernel), List.mem_of_getElem? (i := 696) (by decide +kernel), List.mem_of_getElem? (i := 697) (by decide +kernel)⟩
theorem lw_p41 : lw_okq (⟨"LimbKernelModel", "resultSize", "(I)I"⟩, 33) := ⟨⟨by decide +kernel, by decide +kernel⟩, List.mem_of_getElem? (i := 500) (by decide +kernel), List.mem_of_getElem? (i := 700) (by decide +kernel), List.mem_of_getElem? (i := 701) (by decide +kernel)⟩
theorem lw_p42 : lw_okq (⟨"LimbKernelModel", "roomSize", "(I)I"⟩, 33) := ⟨⟨by decide +kernel, by decide +kernel⟩, List.mem_of_getElem? (i := 500) (by decide +kernel), List.mem_of_getElem? (i := 704) (by decide +kernel), List.mem_of_getElem? (i := 705) (by decide +kernel)⟩
theorem lw_p43 : lw_okq (⟨"LimbKernelModel", "reckon", "(I)V"⟩, 33) := ⟨⟨by decide +kernel, by decide +kernel⟩, List.mem_of_getElem? (i := 500) (by decide +kernel), List.mem_of_getElem? (i := 708) (by decide +kernel), List.mem_of_getElem? (i := 709) (by decide +kernel)⟩
theorem lw_p44 : lw_okq (⟨"LimbKernelModel", "loadU", "(I)V"⟩, 33) := ⟨⟨by decide +kernel, by decide +kernel⟩, List.mem_of_getElem? (i := 500) (by decide +kernel), List.mem_of_getElem? (i := 712) (by decide +kernel), List.mem_of_getElem? (i := 713) (by decide +kernel)⟩
theorem lw_p45 : lw_okq (⟨"LimbKernelModel", "uToR", "()V"⟩, 33) := ⟨⟨by decide +kernel, by decide +kernel⟩, List.mem_of_getElem? (i := 500) (by decide +kernel), List.mem_of_getElem? (i := 716) (by decide +kernel), List.mem_of_getElem? (i := 717) (by decide +kernel)⟩
theorem lw_p46 : lw_okq (⟨"LimbKernelModel", "times", "(Z)V"⟩, 33) := ⟨⟨by decide +kernel, by decide +kernel⟩, List.mem_of_getElem? (i := 500) (by decide +kernel), List.mem_of_getElem? (i := 720) (by decide +kernel), List.mem_of_getElem? (i := 721) (by decide +kernel)⟩
theorem lw_p47 : lw_okq (⟨"LimbKernelModel", "putU", "(I)V"⟩, 33) := ⟨⟨by decide +kernel, by decide +kernel⟩, List.mem_of_getElem? (i := 500) (by decide +kernel), List.mem_of_getElem? (i := 725) (by decide +kernel), List.mem_of_getElem? (i := 726) (by decide +kernel)⟩
def lw_privs_3 : List (MethodName × Nat) := [(⟨"LimbKernelModel", "freeHandle", "()I"⟩, 33), (⟨"LimbKernelModel", "give", "(I)I"⟩, 33), (⟨"LimbKernelModel", "make", "(III)V"⟩, 33), (⟨"LimbKernelModel", "isThere", "(I)Z"⟩, 33), (⟨"LimbKernelModel", "go", "(I)V"⟩, 33), (⟨"LimbKernelModel", "free", "(II)V"⟩, 33), (⟨"LimbKernelModel", "isOperand", "(I)Z"⟩, 33), (⟨"LimbKernelModel", "length", "(I)I"⟩, 33), (⟨"LimbKernelModel", "start", "(I)V"⟩, 33), (⟨"LimbKernelModel", "resultSize", "(I)I"⟩, 33), (⟨"LimbKernelModel", "roomSize", "(I)I"⟩, 33), (⟨"LimbKernelModel", "reckon", "(I)V"⟩, 33), (⟨"LimbKernelModel", "loadU", "(I)V"⟩, 33), (⟨"LimbKernelModel", "uToR", "()V"⟩, 33), (⟨"LimbKernelModel", "times", "(Z)V"⟩, 33), (⟨"LimbKernelModel", "putU", "(I)V"⟩, 33)]
theorem lw_r3 : ∀ q ∈ lw_privs_3, lw_okq q := List.forall_mem_cons.mpr ⟨lw_p32, List.forall_mem_cons.mpr ⟨lw_p33, List.forall_mem_cons.mpr ⟨lw_p34, List.forall_mem_cons.mpr ⟨lw_p35, List.forall_mem_cons.mpr ⟨lw_p36, List.forall_mem_cons.mpr ⟨lw_p37, List.forall_mem_cons.mpr ⟨lw_p38, List.forall_mem_cons.mpr ⟨lw_p39, List.forall_mem_cons.mpr ⟨lw_p40, List.forall_mem_cons.mpr ⟨lw_p41, List.forall_mem_cons.mpr ⟨lw_p42, List.forall_mem_cons.mpr ⟨lw_p43, List.forall_mem_cons.mpr ⟨lw_p44, List.forall_mem_cons.mpr ⟨lw_p45, List.forall_mem_cons.mpr ⟨lw_p46, List.forall_mem_cons.mpr ⟨lw_p47, fun _ h => absurd h List.not_mem_nil⟩⟩⟩⟩⟩⟩⟩⟩⟩⟩⟩⟩⟩⟩⟩⟩
theorem lw_p48 : lw_okq (⟨"LimbKernelModel", "loadV", "(I)V"⟩, 33) := ⟨⟨by decide +kernel, by decide +kernel⟩, List.mem_of_getElem? (i := 500) (by decide +kernel), List.mem_of_getElem? (i := 729) (by decide +kernel), List.mem_of_getElem? (i := 730) (by decide +kernel)⟩
theorem lw_p49 : lw_okq (⟨"LimbKernelModel", "divide", "()V"⟩, 33) := ⟨⟨by decide +kernel, by decide +kernel⟩, List.mem_of_getElem? (i := 500) (by decide +kernel), List.mem_of_getElem? (i := 733) (by decide +kernel), List.mem_of_getElem? (i := 734) (by decide +kernel)⟩
theorem lw_p50 : lw_okq (⟨"LimbKernelModel", "shiftOfV", "()I"⟩, 33) := ⟨⟨by decide +kernel, by decide +kernel⟩, List.mem_of_getElem? (i := 500) (by decide +kernel), List.mem_of_getElem? (i := 737) (by decide +kernel), List.mem_of_getElem? (i := 738) (by decide +kernel)⟩
theorem lw_p51 : lw_okq (⟨"LimbKernelModel", "digit", "(II)J"⟩, 33) := ⟨⟨by decide +kernel, by decide +kernel⟩, List.mem_of_getElem? (i := 500) (by decide +kernel), List.mem_of_getElem? (i := 742) (by decide +kernel), List.mem_of_getElem? (i := 743) (by decide +kernel)⟩
theorem lw_p52 : lw_okq (⟨"LimbKernelModel", "common", "(I)V"⟩, 33) := ⟨⟨by decide +kernel, by decide +kernel⟩, List.mem_of_getElem? (i := 500) (by decide +kernel), List.mem_of_getElem? (i := 747) (by decide +kernel), List.mem_of_getElem? (i := 748) (by decide +kernel)⟩
theorem lw_p53 : lw_okq (⟨"LimbKernelModel", "power", "(I)V"⟩, 33) := ⟨⟨by decide +kernel, by decide +kernel⟩, List.mem_of_getElem? (i := 500) (by decide +kernel), List.mem_of_getElem? (i := 751) (by decide +kernel), List.mem_of_getElem? (i := 752) (by decide +kernel)⟩
theorem lw_p54 : lw_okq (⟨"LimbKernelModel", "leave", "(I)V"⟩, 33) := ⟨⟨by decide +kernel, by decide +kernel⟩, List.mem_of_getElem? (i := 500) (by decide +kernel), List.mem_of_getElem? (i := 755) (by decide +kernel), List.mem_of_getElem? (i := 756) (by decide +kernel)⟩
theorem lw_p55 : lw_okq (⟨"LimbKernelModel", "unpin", "(I)V"⟩, 33) := ⟨⟨by decide +kernel, by decide +kernel⟩, List.mem_of_getElem? (i := 500) (by decide +kernel), List.mem_of_getElem? (i := 759) (by decide +kernel), List.mem_of_getElem? (i := 760) (by decide +kernel)⟩
theorem lw_p56 : lw_okq (⟨"LimbKernelModel", "isJob", "(I)Z"⟩, 33) := ⟨⟨by decide +kernel, by decide +kernel⟩, List.mem_of_getElem? (i := 500) (by decide +kernel), List.mem_of_getElem? (i := 772) (by decide +kernel), List.mem_of_getElem? (i := 773) (by decide +kernel)⟩
def lw_privs_4 : List (MethodName × Nat) := [(⟨"LimbKernelModel", "loadV", "(I)V"⟩, 33), (⟨"LimbKernelModel", "divide", "()V"⟩, 33), (⟨"LimbKernelModel", "shiftOfV", "()I"⟩, 33), (⟨"LimbKernelModel", "digit", "(II)J"⟩, 33), (⟨"LimbKernelModel", "common", "(I)V"⟩, 33), (⟨"LimbKernelModel", "power", "(I)V"⟩, 33), (⟨"LimbKernelModel", "leave", "(I)V"⟩, 33), (⟨"LimbKernelModel", "unpin", "(I)V"⟩, 33), (⟨"LimbKernelModel", "isJob", "(I)Z"⟩, 33)]
theorem lw_r4 : ∀ q ∈ lw_privs_4, lw_okq q := List.forall_mem_cons.mpr ⟨lw_p48, List.forall_mem_cons.mpr ⟨lw_p49, List.forall_mem_cons.mpr ⟨lw_p50, List.forall_mem_cons.mpr ⟨lw_p51, List.forall_mem_cons.mpr ⟨lw_p52, List.forall_mem_cons.mpr ⟨lw_p53, List.forall_mem_cons.mpr ⟨lw_p54, List.forall_mem_cons.mpr ⟨lw_p55, List.forall_mem_cons.mpr ⟨lw_p56, fun _ h => absurd h List.not_mem_nil⟩⟩⟩⟩⟩⟩⟩⟩⟩
def lw_privs : List (MethodName × Nat) := lw_privs_1 ++ (lw_privs_2 ++ (lw_privs_3 ++ (lw_privs_4)))
def lw_tbl : List Cond := k2_sels lw_privs ++ tables_1
theorem lw_privs_ok : ∀ q ∈ lw_privs, lw_okq q := by
  show ∀ q ∈ lw_privs_1 ++ (lw_privs_2 ++ (lw_privs_3 ++ (lw_privs_4))), lw_okq q
  exact List.forall_mem_append.mpr ⟨lw_r1, List.forall_mem_append.mpr ⟨lw_r2, List.forall_mem_append.mpr ⟨lw_r3, lw_r4⟩⟩⟩
-- ===== end of PART A; then your names; then what follows =====
end
section
/-! ===== BEGIN words of one list among another's, by their places ===== -/
/-! ===== END ===== -/

/-! ===== BEGIN printed: names, fields, word lists, decode rows ===== -/
def RX0 : String := "LimbKernel$Job"
def TX0 : u_T := fun k => match k with
  | 0 => ("LimbKernel$Job", "state", "I", false)
  | 1 => ("LimbKernel$Job", "op", "I", false)
  | 2 => ("LimbKernel$Job", "a", "I", false)
  | 3 => ("LimbKernel$Job", "b", "I", false)
  | 4 => ("LimbKernel$Job", "m", "I", false)
  | 5 => ("LimbKernel$Job", "result", "I", false)
  | 6 => ("LimbKernel$Job", "resultSize", "I", false)
  | 7 => ("LimbKernel$Job", "resultOrder", "I", false)
  | 8 => ("LimbKernel$Job", "room", "I", false)
  | 9 => ("LimbKernel$Job", "roomOrder", "I", false)
  | _ => ("LimbKernel$Job", "work", "J", false)
def tyX0 : Nat → FieldType := fun k => match k with
  | 0 => .int
  | 1 => .int
  | 2 => .int
  | 3 => .int
  | 4 => .int
  | 5 => .int
  | 6 => .int
  | 7 => .int
  | 8 => .int
  | 9 => .int
  | _ => .long
theorem nmX0 : ∀ a, a < 11 → ∀ b, b < 11 → a ≠ b → (TX0 a).2.1 ≠ (TX0 b).2.1 := by decide +kernel
theorem tyX0_ok : ∀ k, k < 11 → parseFieldDescriptor (TX0 k).2.2.1 = some (tyX0 k) := by decide +kernel
abbrev cX0_init : ByteArray := prog_2_method_1_code
def yX0_init : MethodName := ⟨RX0, "<init>", "()V"⟩
abbrev cX0_clear : ByteArray := prog_2_method_2_code
def yX0_clear : MethodName := ⟨RX0, "clear", "()V"⟩
abbrev cX0_isQueued : ByteArray := prog_2_method_3_code
def yX0_isQueued : MethodName := ⟨RX0, "isQueued", "()Z"⟩
abbrev cX0_plan : ByteArray := prog_2_method_4_code
def yX0_plan : MethodName := ⟨RX0, "plan", "(JJJ)V"⟩
abbrev cX0_need : ByteArray := prog_2_method_5_code
def yX0_need : MethodName := ⟨RX0, "need", "(JJJ)V"⟩
def RX1 : String := "LimbKernel$Memory"
def TX1 : u_T := fun k => match k with
  | 0 => ("LimbKernel$Memory", "log", "I", true)
  | 1 => ("LimbKernel$Memory", "limbs", "[I", true)
  | 2 => ("LimbKernel$Memory", "freeOf", "[I", true)
  | _ => ("LimbKernel$Memory", "freeAt", "[I", true)
def tyX1 : Nat → FieldType := fun k => match k with
  | 0 => .int
  | 1 => .array .int
  | 2 => .array .int
  | _ => .array .int
theorem nmX1 : ∀ a, a < 4 → ∀ b, b < 4 → a ≠ b → (TX1 a).2.1 ≠ (TX1 b).2.1 := by decide +kernel
theorem tyX1_ok : ∀ k, k < 4 → parseFieldDescriptor (TX1 k).2.2.1 = some (tyX1 k) := by decide +kernel
abbrev cX1_init : ByteArray := prog_3_method_1_code
def yX1_init : MethodName := ⟨RX1, "<init>", "(I)V"⟩
abbrev cX1_clear : ByteArray := prog_3_method_2_code
def yX1_clear : MethodName := ⟨RX1, "clear", "()V"⟩
abbrev cX1_orderFor : ByteArray := prog_3_method_3_code
def yX1_orderFor : MethodName := ⟨RX1, "orderFor", "(J)I"⟩
abbrev cX1_canGive : ByteArray := prog_3_method_4_code
def yX1_canGive : MethodName := ⟨RX1, "canGive", "(II)Z"⟩
abbrev cX1_give : ByteArray := prog_3_method_5_code
def yX1_give : MethodName := ⟨RX1, "give", "(I)I"⟩
abbrev cX1_takeBack : ByteArray := prog_3_method_6_code
def yX1_takeBack : MethodName := ⟨RX1, "takeBack", "(II)V"⟩
abbrev cX1_freeLimbs : ByteArray := prog_3_method_7_code
def yX1_freeLimbs : MethodName := ⟨RX1, "freeLimbs", "()I"⟩
abbrev cX1_addressOfFree : ByteArray := prog_3_method_8_code
def yX1_addressOfFree : MethodName := ⟨RX1, "addressOfFree", "(II)I"⟩
abbrev cX1_leastFreeOrder : ByteArray := prog_3_method_9_code
def yX1_leastFreeOrder : MethodName := ⟨RX1, "leastFreeOrder", "(I)I"⟩
abbrev cX1_addFree : ByteArray := prog_3_method_10_code
def yX1_addFree : MethodName := ⟨RX1, "addFree", "(II)V"⟩
abbrev cX1_removeFree : ByteArray := prog_3_method_11_code
def yX1_removeFree : MethodName := ⟨RX1, "removeFree", "(II)V"⟩
def RX2 : String := "LimbKernel$Numeral"
def TX2 : u_T := fun k => match k with
  | 0 => ("LimbKernel$Numeral", "inUse", "Z", false)
  | 1 => ("LimbKernel$Numeral", "unfinished", "Z", false)
  | 2 => ("LimbKernel$Numeral", "size", "I", false)
  | 3 => ("LimbKernel$Numeral", "address", "I", false)
  | 4 => ("LimbKernel$Numeral", "order", "I", false)
  | _ => ("LimbKernel$Numeral", "pins", "I", false)
def tyX2 : Nat → FieldType := fun k => match k with
  | 0 => .boolean
  | 1 => .boolean
  | 2 => .int
  | 3 => .int
  | 4 => .int
  | _ => .int
theorem nmX2 : ∀ a, a < 6 → ∀ b, b < 6 → a ≠ b → (TX2 a).2.1 ≠ (TX2 b).2.1 := by decide +kernel
theorem tyX2_ok : ∀ k, k < 6 → parseFieldDescriptor (TX2 k).2.2.1 = some (tyX2 k) := by decide +kernel
abbrev cX2_init : ByteArray := prog_4_method_1_code
def yX2_init : MethodName := ⟨RX2, "<init>", "()V"⟩
abbrev cX2_hasLimb : ByteArray := prog_4_method_2_code
def yX2_hasLimb : MethodName := ⟨RX2, "hasLimb", "(I)Z"⟩
def RX3 : String := "LimbKernel$Queue"
def TX3 : u_T := fun k => match k with
  | 0 => ("LimbKernel$Queue", "ring", "[I", true)
  | 1 => ("LimbKernel$Queue", "head", "I", false)
  | _ => ("LimbKernel$Queue", "length", "I", false)
def tyX3 : Nat → FieldType := fun k => match k with
  | 0 => .array .int
  | 1 => .int
  | _ => .int
theorem nmX3 : ∀ a, a < 3 → ∀ b, b < 3 → a ≠ b → (TX3 a).2.1 ≠ (TX3 b).2.1 := by decide +kernel
theorem tyX3_ok : ∀ k, k < 3 → parseFieldDescriptor (TX3 k).2.2.1 = some (tyX3 k) := by decide +kernel
abbrev cX3_init : ByteArray := prog_5_method_1_code
def yX3_init : MethodName := ⟨RX3, "<init>", "(I)V"⟩
abbrev cX3_clear : ByteArray := prog_5_method_2_code
def yX3_clear : MethodName := ⟨RX3, "clear", "()V"⟩
abbrev cX3_at : ByteArray := prog_5_method_3_code
def yX3_at : MethodName := ⟨RX3, "at", "(I)I"⟩
abbrev cX3_append : ByteArray := prog_5_method_4_code
def yX3_append : MethodName := ⟨RX3, "append", "(I)V"⟩
abbrev cX3_takeFirst : ByteArray := prog_5_method_5_code
def yX3_takeFirst : MethodName := ⟨RX3, "takeFirst", "()I"⟩
abbrev cX3_drop : ByteArray := prog_5_method_6_code
def yX3_drop : MethodName := ⟨RX3, "drop", "(I)V"⟩
abbrev cX3_slot : ByteArray := prog_5_method_7_code
def yX3_slot : MethodName := ⟨RX3, "slot", "(I)I"⟩
def RX4 : String := "LimbKernel$Reckoner"
def TX4 : u_T := fun k => match k with
  | 0 => ("LimbKernel$Reckoner", "limbs", "[I", true)
  | 1 => ("LimbKernel$Reckoner", "divisor", "I", false)
  | 2 => ("LimbKernel$Reckoner", "divisorSize", "I", false)
  | 3 => ("LimbKernel$Reckoner", "shift", "I", false)
  | 4 => ("LimbKernel$Reckoner", "divisorTop", "J", false)
  | _ => ("LimbKernel$Reckoner", "divisorNext", "J", false)
def tyX4 : Nat → FieldType := fun k => match k with
  | 0 => .array .int
  | 1 => .int
  | 2 => .int
  | 3 => .int
  | 4 => .long
  | _ => .long
theorem nmX4 : ∀ a, a < 6 → ∀ b, b < 6 → a ≠ b → (TX4 a).2.1 ≠ (TX4 b).2.1 := by decide +kernel
theorem tyX4_ok : ∀ k, k < 6 → parseFieldDescriptor (TX4 k).2.2.1 = some (tyX4 k) := by decide +kernel
abbrev cX4_init : ByteArray := prog_6_method_1_code
def yX4_init : MethodName := ⟨RX4, "<init>", "([I)V"⟩
abbrev cX4_significant : ByteArray := prog_6_method_2_code
def yX4_significant : MethodName := ⟨RX4, "significant", "(II)I"⟩
abbrev cX4_addProduct : ByteArray := prog_6_method_3_code
def yX4_addProduct : MethodName := ⟨RX4, "addProduct", "(IIIII)V"⟩
abbrev cX4_quotient : ByteArray := prog_6_method_4_code
def yX4_quotient : MethodName := ⟨RX4, "quotient", "(LLimbKernel$Numeral;LLimbKernel$Numeral;LLimbKernel$Numeral;I)V"⟩
abbrev cX4_greatestDivisor : ByteArray := prog_6_method_5_code
def yX4_greatestDivisor : MethodName := ⟨RX4, "greatestDivisor", "(LLimbKernel$Numeral;LLimbKernel$Numeral;LLimbKernel$Numeral;I)V"⟩
abbrev cX4_powerModulo : ByteArray := prog_6_method_6_code
def yX4_powerModulo : MethodName := ⟨RX4, "powerModulo", "(LLimbKernel$Numeral;LLimbKernel$Numeral;LLimbKernel$Numeral;LLimbKernel$Numeral;I)V"⟩
abbrev cX4_isOne : ByteArray := prog_6_method_7_code
def yX4_isOne : MethodName := ⟨RX4, "isOne", "(II)Z"⟩
abbrev cX4_hasBit : ByteArray := prog_6_method_8_code
def yX4_hasBit : MethodName := ⟨RX4, "hasBit", "(II)Z"⟩
abbrev cX4_load : ByteArray := prog_6_method_9_code
def yX4_load : MethodName := ⟨RX4, "load", "(LLimbKernel$Numeral;I)V"⟩
abbrev cX4_reduceToBase : ByteArray := prog_6_method_10_code
def yX4_reduceToBase : MethodName := ⟨RX4, "reduceToBase", "(LLimbKernel$Numeral;II)V"⟩
abbrev cX4_multiplyModulo : ByteArray := prog_6_method_11_code
def yX4_multiplyModulo : MethodName := ⟨RX4, "multiplyModulo", "(III)V"⟩
abbrev cX4_chooseDivisor : ByteArray := prog_6_method_12_code
def yX4_chooseDivisor : MethodName := ⟨RX4, "chooseDivisor", "(II)Z"⟩
abbrev cX4_reduce : ByteArray := prog_6_method_13_code
def yX4_reduce : MethodName := ⟨RX4, "reduce", "(III)V"⟩
abbrev cX4_guessDigit : ByteArray := prog_6_method_14_code
def yX4_guessDigit : MethodName := ⟨RX4, "guessDigit", "(I)J"⟩
abbrev cX4_subtractTimes : ByteArray := prog_6_method_15_code
def yX4_subtractTimes : MethodName := ⟨RX4, "subtractTimes", "(IJ)I"⟩
def RX5 : String := "LimbKernel"
def TX5 : u_T := fun k => match k with
  | 0 => ("LimbKernel", "memory", "LLimbKernel$Memory;", true)
  | 1 => ("LimbKernel", "reckoner", "LLimbKernel$Reckoner;", true)
  | 2 => ("LimbKernel", "numerals", "[LLimbKernel$Numeral;", true)
  | 3 => ("LimbKernel", "jobs", "[LLimbKernel$Job;", true)
  | 4 => ("LimbKernel", "queue", "LLimbKernel$Queue;", true)
  | 5 => ("LimbKernel", "quantum", "I", true)
  | 6 => ("LimbKernel", "handlesInUse", "I", false)
  | 7 => ("LimbKernel", "jobsInUse", "I", false)
  | _ => ("LimbKernel", "turns", "I", false)
def tyX5 : Nat → FieldType := fun k => match k with
  | 0 => .object "LimbKernel$Memory"
  | 1 => .object "LimbKernel$Reckoner"
  | 2 => .array (.object "LimbKernel$Numeral")
  | 3 => .array (.object "LimbKernel$Job")
  | 4 => .object "LimbKernel$Queue"
  | 5 => .int
  | 6 => .int
  | 7 => .int
  | _ => .int
theorem nmX5 : ∀ a, a < 9 → ∀ b, b < 9 → a ≠ b → (TX5 a).2.1 ≠ (TX5 b).2.1 := by decide +kernel
theorem tyX5_ok : ∀ k, k < 9 → parseFieldDescriptor (TX5 k).2.2.1 = some (tyX5 k) := by decide +kernel
abbrev cX5_init : ByteArray := prog_1_method_1_code
def yX5_init : MethodName := ⟨RX5, "<init>", "(IIII)V"⟩
abbrev cX5_init_ : ByteArray := prog_1_method_2_code
def yX5_init_ : MethodName := ⟨RX5, "init", "()I"⟩
abbrev cX5_newNumber : ByteArray := prog_1_method_3_code
def yX5_newNumber : MethodName := ⟨RX5, "newNumber", "(I)I"⟩
abbrev cX5_setLimb : ByteArray := prog_1_method_4_code
def yX5_setLimb : MethodName := ⟨RX5, "setLimb", "(III)Z"⟩
abbrev cX5_getLimb : ByteArray := prog_1_method_5_code
def yX5_getLimb : MethodName := ⟨RX5, "getLimb", "(II)I"⟩
abbrev cX5_sizeOf : ByteArray := prog_1_method_6_code
def yX5_sizeOf : MethodName := ⟨RX5, "sizeOf", "(I)I"⟩
abbrev cX5_release : ByteArray := prog_1_method_7_code
def yX5_release : MethodName := ⟨RX5, "release", "(I)Z"⟩
abbrev cX5_submit : ByteArray := prog_1_method_8_code
def yX5_submit : MethodName := ⟨RX5, "submit", "(IIII)I"⟩
abbrev cX5_tick : ByteArray := prog_1_method_9_code
def yX5_tick : MethodName := ⟨RX5, "tick", "()I"⟩
abbrev cX5_run : ByteArray := prog_1_method_10_code
def yX5_run : MethodName := ⟨RX5, "run", "(I)I"⟩
abbrev cX5_jobState : ByteArray := prog_1_method_11_code
def yX5_jobState : MethodName := ⟨RX5, "jobState", "(I)I"⟩
abbrev cX5_jobResult : ByteArray := prog_1_method_12_code
def yX5_jobResult : MethodName := ⟨RX5, "jobResult", "(I)I"⟩
abbrev cX5_workLeft : ByteArray := prog_1_method_13_code
def yX5_workLeft : MethodName := ⟨RX5, "workLeft", "(I)J"⟩
abbrev cX5_cancel : ByteArray := prog_1_method_14_code
def yX5_cancel : MethodName := ⟨RX5, "cancel", "(I)Z"⟩
abbrev cX5_forget : ByteArray := prog_1_method_15_code
def yX5_forget : MethodName := ⟨RX5, "forget", "(I)Z"⟩
abbrev cX5_freeCells : ByteArray := prog_1_method_16_code
def yX5_freeCells : MethodName := ⟨RX5, "freeCells", "()I"⟩
abbrev cX5_freeBlock : ByteArray := prog_1_method_17_code
def yX5_freeBlock : MethodName := ⟨RX5, "freeBlock", "(II)I"⟩
abbrev cX5_number : ByteArray := prog_1_method_18_code
def yX5_number : MethodName := ⟨RX5, "number", "(II)I"⟩
abbrev cX5_count : ByteArray := prog_1_method_19_code
def yX5_count : MethodName := ⟨RX5, "count", "(II)I"⟩
abbrev cX5_within : ByteArray := prog_1_method_20_code
def yX5_within : MethodName := ⟨RX5, "within", "(III)I"⟩
abbrev cX5_isNumber : ByteArray := prog_1_method_21_code
def yX5_isNumber : MethodName := ⟨RX5, "isNumber", "(I)Z"⟩
abbrev cX5_isFinished : ByteArray := prog_1_method_22_code
def yX5_isFinished : MethodName := ⟨RX5, "isFinished", "(I)Z"⟩
abbrev cX5_isZero : ByteArray := prog_1_method_23_code
def yX5_isZero : MethodName := ⟨RX5, "isZero", "(I)Z"⟩
abbrev cX5_isJob : ByteArray := prog_1_method_24_code
def yX5_isJob : MethodName := ⟨RX5, "isJob", "(I)Z"⟩
abbrev cX5_leastFreeHandle : ByteArray := prog_1_method_25_code
def yX5_leastFreeHandle : MethodName := ⟨RX5, "leastFreeHandle", "()I"⟩
abbrev cX5_leastFreeJob : ByteArray := prog_1_method_26_code
def yX5_leastFreeJob : MethodName := ⟨RX5, "leastFreeJob", "()I"⟩
abbrev cX5_occupy : ByteArray := prog_1_method_27_code
def yX5_occupy : MethodName := ⟨RX5, "occupy", "(IIII)V"⟩
abbrev cX5_vacate : ByteArray := prog_1_method_28_code
def yX5_vacate : MethodName := ⟨RX5, "vacate", "(I)V"⟩
abbrev cX5_changePins : ByteArray := prog_1_method_29_code
def yX5_changePins : MethodName := ⟨RX5, "changePins", "(LLimbKernel$Job;I)V"⟩
abbrev cX5_takeTurn : ByteArray := prog_1_method_30_code
def yX5_takeTurn : MethodName := ⟨RX5, "takeTurn", "()I"⟩
abbrev cX5_start : ByteArray := prog_1_method_31_code
def yX5_start : MethodName := ⟨RX5, "start", "(LLimbKernel$Job;)V"⟩
abbrev cX5_reckon : ByteArray := prog_1_method_32_code
def yX5_reckon : MethodName := ⟨RX5, "reckon", "(LLimbKernel$Job;)V"⟩
abbrev cX5_settle : ByteArray := prog_1_method_33_code
def yX5_settle : MethodName := ⟨RX5, "settle", "(LLimbKernel$Job;)V"⟩
abbrev cX5_giveUpRoom : ByteArray := prog_1_method_34_code
def yX5_giveUpRoom : MethodName := ⟨RX5, "giveUpRoom", "(LLimbKernel$Job;)V"⟩
def RX6 : String := "LimbKernelModel"
def TX6 : u_T := fun k => match k with
  | 0 => ("LimbKernelModel", "poolLog", "I", true)
  | 1 => ("LimbKernelModel", "mostJobs", "I", true)
  | 2 => ("LimbKernelModel", "mostHandles", "I", true)
  | 3 => ("LimbKernelModel", "quantum", "I", true)
  | 4 => ("LimbKernelModel", "limbs", "[I", true)
  | 5 => ("LimbKernelModel", "freeOrder", "[I", true)
  | 6 => ("LimbKernelModel", "isNumber", "[Z", true)
  | 7 => ("LimbKernelModel", "size", "[I", true)
  | 8 => ("LimbKernelModel", "address", "[I", true)
  | 9 => ("LimbKernelModel", "order", "[I", true)
  | 10 => ("LimbKernelModel", "pins", "[I", true)
  | 11 => ("LimbKernelModel", "isOpen", "[Z", true)
  | 12 => ("LimbKernelModel", "state", "[I", true)
  | 13 => ("LimbKernelModel", "op", "[I", true)
  | 14 => ("LimbKernelModel", "first", "[I", true)
  | 15 => ("LimbKernelModel", "second", "[I", true)
  | 16 => ("LimbKernelModel", "third", "[I", true)
  | 17 => ("LimbKernelModel", "work", "[J", true)
  | 18 => ("LimbKernelModel", "result", "[I", true)
  | 19 => ("LimbKernelModel", "roomAddress", "[I", true)
  | 20 => ("LimbKernelModel", "roomOrder", "[I", true)
  | 21 => ("LimbKernelModel", "queue", "[I", true)
  | 22 => ("LimbKernelModel", "queued", "I", false)
  | 23 => ("LimbKernelModel", "turns", "I", false)
  | 24 => ("LimbKernelModel", "u", "[I", true)
  | 25 => ("LimbKernelModel", "v", "[I", true)
  | 26 => ("LimbKernelModel", "q", "[I", true)
  | 27 => ("LimbKernelModel", "x", "[I", true)
  | 28 => ("LimbKernelModel", "\x72", "[I", true)
  | 29 => ("LimbKernelModel", "uSize", "I", false)
  | 30 => ("LimbKernelModel", "vSize", "I", false)
  | 31 => ("LimbKernelModel", "xSize", "I", false)
  | _ => ("LimbKernelModel", "rSize", "I", false)
def tyX6 : Nat → FieldType := fun k => match k with
  | 0 => .int
  | 1 => .int
  | 2 => .int
  | 3 => .int
  | 4 => .array .int
  | 5 => .array .int
  | 6 => .array .boolean
  | 7 => .array .int
  | 8 => .array .int
  | 9 => .array .int
  | 10 => .array .int
  | 11 => .array .boolean
  | 12 => .array .int
  | 13 => .array .int
  | 14 => .array .int
  | 15 => .array .int
  | 16 => .array .int
  | 17 => .array .long
  | 18 => .array .int
  | 19 => .array .int
  | 20 => .array .int
  | 21 => .array .int
  | 22 => .int
  | 23 => .int
  | 24 => .array .int
  | 25 => .array .int
  | 26 => .array .int
  | 27 => .array .int
  | 28 => .array .int
  | 29 => .int
  | 30 => .int
  | 31 => .int
  | _ => .int
theorem nmX6 : ∀ a, a < 33 → ∀ b, b < 33 → a ≠ b → (TX6 a).2.1 ≠ (TX6 b).2.1 := by decide +kernel
theorem tyX6_ok : ∀ k, k < 33 → parseFieldDescriptor (TX6 k).2.2.1 = some (tyX6 k) := by decide +kernel
abbrev cX6_init : ByteArray := prog_8_method_1_code
def yX6_init : MethodName := ⟨RX6, "<init>", "(IIII)V"⟩
abbrev cX6_within : ByteArray := prog_8_method_2_code
def yX6_within : MethodName := ⟨RX6, "within", "(III)I"⟩
abbrev cX6_begin : ByteArray := prog_8_method_3_code
def yX6_begin : MethodName := ⟨RX6, "begin", "()V"⟩
abbrev cX6_init_ : ByteArray := prog_8_method_4_code
def yX6_init_ : MethodName := ⟨RX6, "init", "()I"⟩
abbrev cX6_handlesInUse : ByteArray := prog_8_method_5_code
def yX6_handlesInUse : MethodName := ⟨RX6, "handlesInUse", "()I"⟩
abbrev cX6_jobsThere : ByteArray := prog_8_method_6_code
def yX6_jobsThere : MethodName := ⟨RX6, "jobsThere", "()I"⟩
abbrev cX6_pool : ByteArray := prog_8_method_7_code
def yX6_pool : MethodName := ⟨RX6, "pool", "()I"⟩
abbrev cX6_orderFor : ByteArray := prog_8_method_8_code
def yX6_orderFor : MethodName := ⟨RX6, "orderFor", "(I)I"⟩
abbrev cX6_give : ByteArray := prog_8_method_9_code
def yX6_give : MethodName := ⟨RX6, "give", "(I)I"⟩
abbrev cX6_free : ByteArray := prog_8_method_10_code
def yX6_free : MethodName := ⟨RX6, "free", "(II)V"⟩
abbrev cX6_freeHandle : ByteArray := prog_8_method_11_code
def yX6_freeHandle : MethodName := ⟨RX6, "freeHandle", "()I"⟩
abbrev cX6_make : ByteArray := prog_8_method_12_code
def yX6_make : MethodName := ⟨RX6, "make", "(III)V"⟩
abbrev cX6_newNumber : ByteArray := prog_8_method_13_code
def yX6_newNumber : MethodName := ⟨RX6, "newNumber", "(I)I"⟩
abbrev cX6_isThere : ByteArray := prog_8_method_14_code
def yX6_isThere : MethodName := ⟨RX6, "isThere", "(I)Z"⟩
abbrev cX6_setLimb : ByteArray := prog_8_method_15_code
def yX6_setLimb : MethodName := ⟨RX6, "setLimb", "(III)Z"⟩
abbrev cX6_getLimb : ByteArray := prog_8_method_16_code
def yX6_getLimb : MethodName := ⟨RX6, "getLimb", "(II)I"⟩
abbrev cX6_sizeOf : ByteArray := prog_8_method_17_code
def yX6_sizeOf : MethodName := ⟨RX6, "sizeOf", "(I)I"⟩
abbrev cX6_go : ByteArray := prog_8_method_18_code
def yX6_go : MethodName := ⟨RX6, "go", "(I)V"⟩
abbrev cX6_release : ByteArray := prog_8_method_19_code
def yX6_release : MethodName := ⟨RX6, "release", "(I)Z"⟩
abbrev cX6_isOperand : ByteArray := prog_8_method_20_code
def yX6_isOperand : MethodName := ⟨RX6, "isOperand", "(I)Z"⟩
abbrev cX6_length : ByteArray := prog_8_method_21_code
def yX6_length : MethodName := ⟨RX6, "length", "(I)I"⟩
abbrev cX6_submit : ByteArray := prog_8_method_22_code
def yX6_submit : MethodName := ⟨RX6, "submit", "(IIII)I"⟩
abbrev cX6_resultSize : ByteArray := prog_8_method_23_code
def yX6_resultSize : MethodName := ⟨RX6, "resultSize", "(I)I"⟩
abbrev cX6_roomSize : ByteArray := prog_8_method_24_code
def yX6_roomSize : MethodName := ⟨RX6, "roomSize", "(I)I"⟩
abbrev cX6_start : ByteArray := prog_8_method_25_code
def yX6_start : MethodName := ⟨RX6, "start", "(I)V"⟩
abbrev cX6_unpin : ByteArray := prog_8_method_26_code
def yX6_unpin : MethodName := ⟨RX6, "unpin", "(I)V"⟩
abbrev cX6_leave : ByteArray := prog_8_method_27_code
def yX6_leave : MethodName := ⟨RX6, "leave", "(I)V"⟩
abbrev cX6_tick : ByteArray := prog_8_method_28_code
def yX6_tick : MethodName := ⟨RX6, "tick", "()I"⟩
abbrev cX6_run : ByteArray := prog_8_method_29_code
def yX6_run : MethodName := ⟨RX6, "run", "(I)I"⟩
abbrev cX6_isJob : ByteArray := prog_8_method_30_code
def yX6_isJob : MethodName := ⟨RX6, "isJob", "(I)Z"⟩
abbrev cX6_jobState : ByteArray := prog_8_method_31_code
def yX6_jobState : MethodName := ⟨RX6, "jobState", "(I)I"⟩
abbrev cX6_jobResult : ByteArray := prog_8_method_32_code
def yX6_jobResult : MethodName := ⟨RX6, "jobResult", "(I)I"⟩
abbrev cX6_workLeft : ByteArray := prog_8_method_33_code
def yX6_workLeft : MethodName := ⟨RX6, "workLeft", "(I)J"⟩
abbrev cX6_cancel : ByteArray := prog_8_method_34_code
def yX6_cancel : MethodName := ⟨RX6, "cancel", "(I)Z"⟩
abbrev cX6_forget : ByteArray := prog_8_method_35_code
def yX6_forget : MethodName := ⟨RX6, "forget", "(I)Z"⟩
abbrev cX6_freeCells : ByteArray := prog_8_method_36_code
def yX6_freeCells : MethodName := ⟨RX6, "freeCells", "()I"⟩
abbrev cX6_freeBlock : ByteArray := prog_8_method_37_code
def yX6_freeBlock : MethodName := ⟨RX6, "freeBlock", "(II)I"⟩
abbrev cX6_number : ByteArray := prog_8_method_38_code
def yX6_number : MethodName := ⟨RX6, "number", "(II)I"⟩
abbrev cX6_count : ByteArray := prog_8_method_39_code
def yX6_count : MethodName := ⟨RX6, "count", "(II)I"⟩
abbrev cX6_loadU : ByteArray := prog_8_method_40_code
def yX6_loadU : MethodName := ⟨RX6, "loadU", "(I)V"⟩
abbrev cX6_loadV : ByteArray := prog_8_method_41_code
def yX6_loadV : MethodName := ⟨RX6, "loadV", "(I)V"⟩
abbrev cX6_shiftOfV : ByteArray := prog_8_method_42_code
def yX6_shiftOfV : MethodName := ⟨RX6, "shiftOfV", "()I"⟩
abbrev cX6_divide : ByteArray := prog_8_method_43_code
def yX6_divide : MethodName := ⟨RX6, "divide", "()V"⟩
abbrev cX6_digit : ByteArray := prog_8_method_44_code
def yX6_digit : MethodName := ⟨RX6, "digit", "(II)J"⟩
abbrev cX6_times : ByteArray := prog_8_method_45_code
def yX6_times : MethodName := ⟨RX6, "times", "(Z)V"⟩
abbrev cX6_putU : ByteArray := prog_8_method_46_code
def yX6_putU : MethodName := ⟨RX6, "putU", "(I)V"⟩
abbrev cX6_uToR : ByteArray := prog_8_method_47_code
def yX6_uToR : MethodName := ⟨RX6, "uToR", "()V"⟩
abbrev cX6_reckon : ByteArray := prog_8_method_48_code
def yX6_reckon : MethodName := ⟨RX6, "reckon", "(I)V"⟩
abbrev cX6_common : ByteArray := prog_8_method_49_code
def yX6_common : MethodName := ⟨RX6, "common", "(I)V"⟩
abbrev cX6_power : ByteArray := prog_8_method_50_code
def yX6_power : MethodName := ⟨RX6, "power", "(I)V"⟩
def RJ9 : String := "java/lang/Math"
def TJ9 : u_T := fun k => match k with
  | _ => ("", "", "", false)
def tyJ9 : Nat → FieldType := fun k => match k with
  | _ => .int
theorem nmJ9 : ∀ a, a < 0 → ∀ b, b < 0 → a ≠ b → (TJ9 a).2.1 ≠ (TJ9 b).2.1 := by decide +kernel
theorem tyJ9_ok : ∀ k, k < 0 → parseFieldDescriptor (TJ9 k).2.2.1 = some (tyJ9 k) := by decide +kernel
abbrev cJ9_max_7cf53 : ByteArray := prog_9_method_65_code
def yJ9_max_7cf53 : MethodName := ⟨RJ9, "max", "(II)I"⟩
abbrev cJ9_max_f86c9 : ByteArray := prog_9_method_66_code
def yJ9_max_f86c9 : MethodName := ⟨RJ9, "max", "(JJ)J"⟩
abbrev cJ9_min_7cf53 : ByteArray := prog_9_method_69_code
def yJ9_min_7cf53 : MethodName := ⟨RJ9, "min", "(II)I"⟩
def RJ10 : String := "java/lang/System"
def TJ10 : u_T := fun k => match k with
  | _ => ("", "", "", false)
def tyJ10 : Nat → FieldType := fun k => match k with
  | _ => .int
theorem nmJ10 : ∀ a, a < 0 → ∀ b, b < 0 → a ≠ b → (TJ10 a).2.1 ≠ (TJ10 b).2.1 := by decide +kernel
theorem tyJ10_ok : ∀ k, k < 0 → parseFieldDescriptor (TJ10 k).2.2.1 = some (tyJ10 k) := by decide +kernel
def RJ7 : String := "java/util/Arrays"
def TJ7 : u_T := fun k => match k with
  | _ => ("", "", "", false)
def tyJ7 : Nat → FieldType := fun k => match k with
  | _ => .int
theorem nmJ7 : ∀ a, a < 0 → ∀ b, b < 0 → a ≠ b → (TJ7 a).2.1 ≠ (TJ7 b).2.1 := by decide +kernel
theorem tyJ7_ok : ∀ k, k < 0 → parseFieldDescriptor (TJ7 k).2.2.1 = some (tyJ7 k) := by decide +kernel
abbrev cJ7_rangeCheck_23922 : ByteArray := prog_11_method_30_code
def yJ7_rangeCheck_23922 : MethodName := ⟨RJ7, "rangeCheck", "(III)V"⟩
abbrev cJ7_fill_53178 : ByteArray := prog_11_method_103_code
def yJ7_fill_53178 : MethodName := ⟨RJ7, "fill", "([II)V"⟩
abbrev cJ7_fill_fda19 : ByteArray := prog_11_method_104_code
def yJ7_fill_fda19 : MethodName := ⟨RJ7, "fill", "([IIII)V"⟩
def RL : String := "LimbKernelLaw"
abbrev cL_cell : ByteArray := method_2_code
def yL_cell : MethodName := ⟨RL, "cell", "([II)I"⟩
abbrev cL_law : ByteArray := code
def yL_law : MethodName := ⟨RL, "law", "([I)Z"⟩
abbrev vwCl : List vw_C := [(RX0, TX0, 11), (RX1, TX1, 4), (RX2, TX2, 6), (RX3, TX3, 3), (RX4, TX4, 6), (RX5, TX5, 9), (RX6, TX6, 33)]
end
section
theorem dX0_init_0 : decode cX0_init 0 = .ok (.aload_n 0, 1) := by decide +kernel
theorem dX0_init_1 : decode cX0_init 1 = .ok (.invokespecial 3, 3) := by decide +kernel
theorem dX0_init_4 : decode cX0_init 4 = .ok (.aload_n 0, 1) := by decide +kernel
theorem dX0_init_5 : decode cX0_init 5 = .ok (.iconst (-1), 1) := by decide +kernel
theorem dX0_init_6 : decode cX0_init 6 = .ok (.putfield 9, 3) := by decide +kernel
theorem dX0_init_9 : decode cX0_init 9 = .ok (.aload_n 0, 1) := by decide +kernel
theorem dX0_init_10 : decode cX0_init 10 = .ok (.iconst (-1), 1) := by decide +kernel
theorem dX0_init_11 : decode cX0_init 11 = .ok (.putfield 15, 3) := by decide +kernel
theorem dX0_init_14 : decode cX0_init 14 = .ok (.aload_n 0, 1) := by decide +kernel
theorem dX0_init_15 : decode cX0_init 15 = .ok (.iconst (-1), 1) := by decide +kernel
theorem dX0_init_16 : decode cX0_init 16 = .ok (.putfield 18, 3) := by decide +kernel
theorem dX0_init_19 : decode cX0_init 19 = .ok (.aload_n 0, 1) := by decide +kernel
theorem dX0_init_20 : decode cX0_init 20 = .ok (.iconst (-1), 1) := by decide +kernel
theorem dX0_init_21 : decode cX0_init 21 = .ok (.putfield 21, 3) := by decide +kernel
theorem dX0_init_24 : decode cX0_init 24 = .ok (.return_, 1) := by decide +kernel
theorem dX0_clear_0 : decode cX0_clear 0 = .ok (.aload_n 0, 1) := by decide +kernel
theorem dX0_clear_1 : decode cX0_clear 1 = .ok (.iconst (-1), 1) := by decide +kernel
theorem dX0_clear_2 : decode cX0_clear 2 = .ok (.putfield 9, 3) := by decide +kernel
theorem dX0_clear_5 : decode cX0_clear 5 = .ok (.aload_n 0, 1) := by decide +kernel
theorem dX0_clear_6 : decode cX0_clear 6 = .ok (.iconst (-1), 1) := by decide +kernel
theorem dX0_clear_7 : decode cX0_clear 7 = .ok (.putfield 15, 3) := by decide +kernel
theorem dX0_clear_10 : decode cX0_clear 10 = .ok (.aload_n 0, 1) := by decide +kernel
theorem dX0_clear_11 : decode cX0_clear 11 = .ok (.iconst (-1), 1) := by decide +kernel
theorem dX0_clear_12 : decode cX0_clear 12 = .ok (.putfield 18, 3) := by decide +kernel
theorem dX0_clear_15 : decode cX0_clear 15 = .ok (.return_, 1) := by decide +kernel
theorem dX0_isQueued_0 : decode cX0_isQueued 0 = .ok (.aload_n 0, 1) := by decide +kernel
theorem dX0_isQueued_1 : decode cX0_isQueued 1 = .ok (.getfield 9, 3) := by decide +kernel
theorem dX0_isQueued_4 : decode cX0_isQueued 4 = .ok (.ifCond .eq 11, 3) := by decide +kernel
theorem dX0_isQueued_7 : decode cX0_isQueued 7 = .ok (.aload_n 0, 1) := by decide +kernel
theorem dX0_isQueued_8 : decode cX0_isQueued 8 = .ok (.getfield 9, 3) := by decide +kernel
theorem dX0_isQueued_11 : decode cX0_isQueued 11 = .ok (.iconst 1, 1) := by decide +kernel
theorem dX0_isQueued_12 : decode cX0_isQueued 12 = .ok (.if_icmp .ne 7, 3) := by decide +kernel
theorem dX0_isQueued_15 : decode cX0_isQueued 15 = .ok (.iconst 1, 1) := by decide +kernel
theorem dX0_isQueued_16 : decode cX0_isQueued 16 = .ok (.goto 4, 3) := by decide +kernel
theorem dX0_isQueued_19 : decode cX0_isQueued 19 = .ok (.iconst 0, 1) := by decide +kernel
theorem dX0_isQueued_20 : decode cX0_isQueued 20 = .ok (.ireturn, 1) := by decide +kernel
theorem dX0_plan_0 : decode cX0_plan 0 = .ok (.aload_n 0, 1) := by decide +kernel
theorem dX0_plan_1 : decode cX0_plan 1 = .ok (.getfield 24, 3) := by decide +kernel
theorem dX0_plan_4 : decode cX0_plan 4 = .ok (.tableswitch 94 0 2 #[28, 42, 64], 28) := by decide +kernel
theorem dX0_plan_32 : decode cX0_plan 32 = .ok (.aload_n 0, 1) := by decide +kernel
theorem dX0_plan_33 : decode cX0_plan 33 = .ok (.lload_n 1, 1) := by decide +kernel
theorem dX0_plan_34 : decode cX0_plan 34 = .ok (.lload_n 3, 1) := by decide +kernel
theorem dX0_plan_35 : decode cX0_plan 35 = .ok (.ladd, 1) := by decide +kernel
theorem dX0_plan_36 : decode cX0_plan 36 = .ok (.lconst 0, 1) := by decide +kernel
theorem dX0_plan_37 : decode cX0_plan 37 = .ok (.lload_n 1, 1) := by decide +kernel
theorem dX0_plan_38 : decode cX0_plan 38 = .ok (.lload_n 3, 1) := by decide +kernel
theorem dX0_plan_39 : decode cX0_plan 39 = .ok (.lmul, 1) := by decide +kernel
theorem dX0_plan_40 : decode cX0_plan 40 = .ok (.invokevirtual 27, 3) := by decide +kernel
theorem dX0_plan_43 : decode cX0_plan 43 = .ok (.goto 89, 3) := by decide +kernel
theorem dX0_plan_46 : decode cX0_plan 46 = .ok (.aload_n 0, 1) := by decide +kernel
theorem dX0_plan_47 : decode cX0_plan 47 = .ok (.lload_n 1, 1) := by decide +kernel
theorem dX0_plan_48 : decode cX0_plan 48 = .ok (.lload_n 1, 1) := by decide +kernel
theorem dX0_plan_49 : decode cX0_plan 49 = .ok (.lload_n 3, 1) := by decide +kernel
theorem dX0_plan_50 : decode cX0_plan 50 = .ok (.ladd, 1) := by decide +kernel
theorem dX0_plan_51 : decode cX0_plan 51 = .ok (.lconst 1, 1) := by decide +kernel
theorem dX0_plan_52 : decode cX0_plan 52 = .ok (.ladd, 1) := by decide +kernel
theorem dX0_plan_53 : decode cX0_plan 53 = .ok (.ldc2_w 31, 3) := by decide +kernel
theorem dX0_plan_56 : decode cX0_plan 56 = .ok (.lload_n 1, 1) := by decide +kernel
theorem dX0_plan_57 : decode cX0_plan 57 = .ok (.lmul, 1) := by decide +kernel
theorem dX0_plan_58 : decode cX0_plan 58 = .ok (.lload_n 3, 1) := by decide +kernel
theorem dX0_plan_59 : decode cX0_plan 59 = .ok (.lconst 1, 1) := by decide +kernel
theorem dX0_plan_60 : decode cX0_plan 60 = .ok (.ladd, 1) := by decide +kernel
theorem dX0_plan_61 : decode cX0_plan 61 = .ok (.lmul, 1) := by decide +kernel
theorem dX0_plan_62 : decode cX0_plan 62 = .ok (.invokevirtual 27, 3) := by decide +kernel
theorem dX0_plan_65 : decode cX0_plan 65 = .ok (.goto 67, 3) := by decide +kernel
theorem dX0_plan_68 : decode cX0_plan 68 = .ok (.aload_n 0, 1) := by decide +kernel
theorem dX0_plan_69 : decode cX0_plan 69 = .ok (.lload_n 1, 1) := by decide +kernel
theorem dX0_plan_70 : decode cX0_plan 70 = .ok (.lload_n 3, 1) := by decide +kernel
theorem dX0_plan_71 : decode cX0_plan 71 = .ok (.invokestatic 33, 3) := by decide +kernel
theorem dX0_plan_74 : decode cX0_plan 74 = .ok (.ldc2_w 39, 3) := by decide +kernel
theorem dX0_plan_77 : decode cX0_plan 77 = .ok (.lload_n 1, 1) := by decide +kernel
theorem dX0_plan_78 : decode cX0_plan 78 = .ok (.lload_n 3, 1) := by decide +kernel
theorem dX0_plan_79 : decode cX0_plan 79 = .ok (.ladd, 1) := by decide +kernel
theorem dX0_plan_80 : decode cX0_plan 80 = .ok (.lmul, 1) := by decide +kernel
theorem dX0_plan_81 : decode cX0_plan 81 = .ok (.ldc2_w 31, 3) := by decide +kernel
theorem dX0_plan_84 : decode cX0_plan 84 = .ok (.lload_n 1, 1) := by decide +kernel
theorem dX0_plan_85 : decode cX0_plan 85 = .ok (.lload_n 3, 1) := by decide +kernel
theorem dX0_plan_86 : decode cX0_plan 86 = .ok (.ladd, 1) := by decide +kernel
theorem dX0_plan_87 : decode cX0_plan 87 = .ok (.lmul, 1) := by decide +kernel
theorem dX0_plan_88 : decode cX0_plan 88 = .ok (.lload_n 1, 1) := by decide +kernel
theorem dX0_plan_89 : decode cX0_plan 89 = .ok (.lload_n 3, 1) := by decide +kernel
theorem dX0_plan_90 : decode cX0_plan 90 = .ok (.ladd, 1) := by decide +kernel
theorem dX0_plan_91 : decode cX0_plan 91 = .ok (.lmul, 1) := by decide +kernel
theorem dX0_plan_92 : decode cX0_plan 92 = .ok (.invokevirtual 27, 3) := by decide +kernel
theorem dX0_plan_95 : decode cX0_plan 95 = .ok (.goto 37, 3) := by decide +kernel
theorem dX0_plan_98 : decode cX0_plan 98 = .ok (.aload_n 0, 1) := by decide +kernel
theorem dX0_plan_99 : decode cX0_plan 99 = .ok (.lload 5, 2) := by decide +kernel
theorem dX0_plan_101 : decode cX0_plan 101 = .ok (.ldc2_w 41, 3) := by decide +kernel
theorem dX0_plan_104 : decode cX0_plan 104 = .ok (.lload 5, 2) := by decide +kernel
theorem dX0_plan_106 : decode cX0_plan 106 = .ok (.lmul, 1) := by decide +kernel
theorem dX0_plan_107 : decode cX0_plan 107 = .ok (.lconst 1, 1) := by decide +kernel
theorem dX0_plan_108 : decode cX0_plan 108 = .ok (.ladd, 1) := by decide +kernel
theorem dX0_plan_109 : decode cX0_plan 109 = .ok (.ldc2_w 31, 3) := by decide +kernel
theorem dX0_plan_112 : decode cX0_plan 112 = .ok (.lload_n 1, 1) := by decide +kernel
theorem dX0_plan_113 : decode cX0_plan 113 = .ok (.lmul, 1) := by decide +kernel
theorem dX0_plan_114 : decode cX0_plan 114 = .ok (.lload 5, 2) := by decide +kernel
theorem dX0_plan_116 : decode cX0_plan 116 = .ok (.lmul, 1) := by decide +kernel
theorem dX0_plan_117 : decode cX0_plan 117 = .ok (.ldc2_w 43, 3) := by decide +kernel
theorem dX0_plan_120 : decode cX0_plan 120 = .ok (.lload_n 3, 1) := by decide +kernel
theorem dX0_plan_121 : decode cX0_plan 121 = .ok (.lmul, 1) := by decide +kernel
theorem dX0_plan_122 : decode cX0_plan 122 = .ok (.lload 5, 2) := by decide +kernel
theorem dX0_plan_124 : decode cX0_plan 124 = .ok (.lmul, 1) := by decide +kernel
theorem dX0_plan_125 : decode cX0_plan 125 = .ok (.lload 5, 2) := by decide +kernel
theorem dX0_plan_127 : decode cX0_plan 127 = .ok (.lmul, 1) := by decide +kernel
theorem dX0_plan_128 : decode cX0_plan 128 = .ok (.ladd, 1) := by decide +kernel
theorem dX0_plan_129 : decode cX0_plan 129 = .ok (.invokevirtual 27, 3) := by decide +kernel
theorem dX0_plan_132 : decode cX0_plan 132 = .ok (.return_, 1) := by decide +kernel
theorem dX0_need_0 : decode cX0_need 0 = .ok (.aload_n 0, 1) := by decide +kernel
theorem dX0_need_1 : decode cX0_need 1 = .ok (.lload_n 1, 1) := by decide +kernel
theorem dX0_need_2 : decode cX0_need 2 = .ok (.l2i, 1) := by decide +kernel
theorem dX0_need_3 : decode cX0_need 3 = .ok (.putfield 45, 3) := by decide +kernel
theorem dX0_need_6 : decode cX0_need 6 = .ok (.aload_n 0, 1) := by decide +kernel
theorem dX0_need_7 : decode cX0_need 7 = .ok (.lload_n 1, 1) := by decide +kernel
theorem dX0_need_8 : decode cX0_need 8 = .ok (.invokestatic 48, 3) := by decide +kernel
theorem dX0_need_11 : decode cX0_need 11 = .ok (.putfield 54, 3) := by decide +kernel
theorem dX0_need_14 : decode cX0_need 14 = .ok (.aload_n 0, 1) := by decide +kernel
theorem dX0_need_15 : decode cX0_need 15 = .ok (.lload_n 3, 1) := by decide +kernel
theorem dX0_need_16 : decode cX0_need 16 = .ok (.lconst 0, 1) := by decide +kernel
theorem dX0_need_17 : decode cX0_need 17 = .ok (.lcmp, 1) := by decide +kernel
theorem dX0_need_18 : decode cX0_need 18 = .ok (.ifCond .ne 7, 3) := by decide +kernel
theorem dX0_need_21 : decode cX0_need 21 = .ok (.iconst (-1), 1) := by decide +kernel
theorem dX0_need_22 : decode cX0_need 22 = .ok (.goto 7, 3) := by decide +kernel
theorem dX0_need_25 : decode cX0_need 25 = .ok (.lload_n 3, 1) := by decide +kernel
theorem dX0_need_26 : decode cX0_need 26 = .ok (.invokestatic 48, 3) := by decide +kernel
theorem dX0_need_29 : decode cX0_need 29 = .ok (.putfield 21, 3) := by decide +kernel
theorem dX0_need_32 : decode cX0_need 32 = .ok (.aload_n 0, 1) := by decide +kernel
theorem dX0_need_33 : decode cX0_need 33 = .ok (.lload 5, 2) := by decide +kernel
theorem dX0_need_35 : decode cX0_need 35 = .ok (.putfield 57, 3) := by decide +kernel
theorem dX0_need_38 : decode cX0_need 38 = .ok (.return_, 1) := by decide +kernel
theorem dX1_init_0 : decode cX1_init 0 = .ok (.aload_n 0, 1) := by decide +kernel
theorem dX1_init_1 : decode cX1_init 1 = .ok (.invokespecial 3, 3) := by decide +kernel
theorem dX1_init_4 : decode cX1_init 4 = .ok (.aload_n 0, 1) := by decide +kernel
theorem dX1_init_5 : decode cX1_init 5 = .ok (.iload_n 1, 1) := by decide +kernel
theorem dX1_init_6 : decode cX1_init 6 = .ok (.putfield 9, 3) := by decide +kernel
theorem dX1_init_9 : decode cX1_init 9 = .ok (.aload_n 0, 1) := by decide +kernel
theorem dX1_init_10 : decode cX1_init 10 = .ok (.iconst 1, 1) := by decide +kernel
theorem dX1_init_11 : decode cX1_init 11 = .ok (.iload_n 1, 1) := by decide +kernel
theorem dX1_init_12 : decode cX1_init 12 = .ok (.ishl, 1) := by decide +kernel
theorem dX1_init_13 : decode cX1_init 13 = .ok (.newarray .int, 2) := by decide +kernel
theorem dX1_init_15 : decode cX1_init 15 = .ok (.putfield 15, 3) := by decide +kernel
theorem dX1_init_18 : decode cX1_init 18 = .ok (.aload_n 0, 1) := by decide +kernel
theorem dX1_init_19 : decode cX1_init 19 = .ok (.iload_n 1, 1) := by decide +kernel
theorem dX1_init_20 : decode cX1_init 20 = .ok (.iconst 1, 1) := by decide +kernel
theorem dX1_init_21 : decode cX1_init 21 = .ok (.iadd, 1) := by decide +kernel
theorem dX1_init_22 : decode cX1_init 22 = .ok (.newarray .int, 2) := by decide +kernel
theorem dX1_init_24 : decode cX1_init 24 = .ok (.putfield 19, 3) := by decide +kernel
theorem dX1_init_27 : decode cX1_init 27 = .ok (.aload_n 0, 1) := by decide +kernel
theorem dX1_init_28 : decode cX1_init 28 = .ok (.iconst 1, 1) := by decide +kernel
theorem dX1_init_29 : decode cX1_init 29 = .ok (.iload_n 1, 1) := by decide +kernel
theorem dX1_init_30 : decode cX1_init 30 = .ok (.ishl, 1) := by decide +kernel
theorem dX1_init_31 : decode cX1_init 31 = .ok (.newarray .int, 2) := by decide +kernel
theorem dX1_init_33 : decode cX1_init 33 = .ok (.putfield 22, 3) := by decide +kernel
theorem dX1_init_36 : decode cX1_init 36 = .ok (.aload_n 0, 1) := by decide +kernel
theorem dX1_init_37 : decode cX1_init 37 = .ok (.invokevirtual 25, 3) := by decide +kernel
theorem dX1_init_40 : decode cX1_init 40 = .ok (.return_, 1) := by decide +kernel
theorem dX1_clear_0 : decode cX1_clear 0 = .ok (.aload_n 0, 1) := by decide +kernel
theorem dX1_clear_1 : decode cX1_clear 1 = .ok (.getfield 22, 3) := by decide +kernel
theorem dX1_clear_4 : decode cX1_clear 4 = .ok (.iconst (-1), 1) := by decide +kernel
theorem dX1_clear_5 : decode cX1_clear 5 = .ok (.invokestatic 28, 3) := by decide +kernel
theorem dX1_clear_8 : decode cX1_clear 8 = .ok (.aload_n 0, 1) := by decide +kernel
theorem dX1_clear_9 : decode cX1_clear 9 = .ok (.getfield 19, 3) := by decide +kernel
theorem dX1_clear_12 : decode cX1_clear 12 = .ok (.iconst 0, 1) := by decide +kernel
theorem dX1_clear_13 : decode cX1_clear 13 = .ok (.invokestatic 28, 3) := by decide +kernel
theorem dX1_clear_16 : decode cX1_clear 16 = .ok (.aload_n 0, 1) := by decide +kernel
theorem dX1_clear_17 : decode cX1_clear 17 = .ok (.iconst 0, 1) := by decide +kernel
theorem dX1_clear_18 : decode cX1_clear 18 = .ok (.aload_n 0, 1) := by decide +kernel
theorem dX1_clear_19 : decode cX1_clear 19 = .ok (.getfield 9, 3) := by decide +kernel
theorem dX1_clear_22 : decode cX1_clear 22 = .ok (.invokevirtual 34, 3) := by decide +kernel
theorem dX1_clear_25 : decode cX1_clear 25 = .ok (.return_, 1) := by decide +kernel
theorem dX1_orderFor_0 : decode cX1_orderFor 0 = .ok (.iconst 0, 1) := by decide +kernel
theorem dX1_orderFor_1 : decode cX1_orderFor 1 = .ok (.istore_n 2, 1) := by decide +kernel
theorem dX1_orderFor_2 : decode cX1_orderFor 2 = .ok (.iload_n 2, 1) := by decide +kernel
theorem dX1_orderFor_3 : decode cX1_orderFor 3 = .ok (.bipush 30, 2) := by decide +kernel
theorem dX1_orderFor_5 : decode cX1_orderFor 5 = .ok (.if_icmp .ge 17, 3) := by decide +kernel
theorem dX1_orderFor_8 : decode cX1_orderFor 8 = .ok (.lconst 1, 1) := by decide +kernel
theorem dX1_orderFor_9 : decode cX1_orderFor 9 = .ok (.iload_n 2, 1) := by decide +kernel
theorem dX1_orderFor_10 : decode cX1_orderFor 10 = .ok (.lshl, 1) := by decide +kernel
theorem dX1_orderFor_11 : decode cX1_orderFor 11 = .ok (.lload_n 0, 1) := by decide +kernel
theorem dX1_orderFor_12 : decode cX1_orderFor 12 = .ok (.lcmp, 1) := by decide +kernel
theorem dX1_orderFor_13 : decode cX1_orderFor 13 = .ok (.ifCond .ge 9, 3) := by decide +kernel
theorem dX1_orderFor_16 : decode cX1_orderFor 16 = .ok (.iinc 2 1, 3) := by decide +kernel
theorem dX1_orderFor_19 : decode cX1_orderFor 19 = .ok (.goto (-17), 3) := by decide +kernel
theorem dX1_orderFor_22 : decode cX1_orderFor 22 = .ok (.iload_n 2, 1) := by decide +kernel
theorem dX1_orderFor_23 : decode cX1_orderFor 23 = .ok (.ireturn, 1) := by decide +kernel
theorem dX1_canGive_0 : decode cX1_canGive 0 = .ok (.aload_n 0, 1) := by decide +kernel
theorem dX1_canGive_1 : decode cX1_canGive 1 = .ok (.iload_n 1, 1) := by decide +kernel
theorem dX1_canGive_2 : decode cX1_canGive 2 = .ok (.invokevirtual 38, 3) := by decide +kernel
theorem dX1_canGive_5 : decode cX1_canGive 5 = .ok (.istore_n 3, 1) := by decide +kernel
theorem dX1_canGive_6 : decode cX1_canGive 6 = .ok (.iload_n 3, 1) := by decide +kernel
theorem dX1_canGive_7 : decode cX1_canGive 7 = .ok (.iconst (-1), 1) := by decide +kernel
theorem dX1_canGive_8 : decode cX1_canGive 8 = .ok (.if_icmp .eq 8, 3) := by decide +kernel
theorem dX1_canGive_11 : decode cX1_canGive 11 = .ok (.iload_n 2, 1) := by decide +kernel
theorem dX1_canGive_12 : decode cX1_canGive 12 = .ok (.iconst (-1), 1) := by decide +kernel
theorem dX1_canGive_13 : decode cX1_canGive 13 = .ok (.if_icmp .ne 14, 3) := by decide +kernel
theorem dX1_canGive_16 : decode cX1_canGive 16 = .ok (.iload_n 3, 1) := by decide +kernel
theorem dX1_canGive_17 : decode cX1_canGive 17 = .ok (.iconst (-1), 1) := by decide +kernel
theorem dX1_canGive_18 : decode cX1_canGive 18 = .ok (.if_icmp .eq 7, 3) := by decide +kernel
theorem dX1_canGive_21 : decode cX1_canGive 21 = .ok (.iconst 1, 1) := by decide +kernel
theorem dX1_canGive_22 : decode cX1_canGive 22 = .ok (.goto 4, 3) := by decide +kernel
theorem dX1_canGive_25 : decode cX1_canGive 25 = .ok (.iconst 0, 1) := by decide +kernel
theorem dX1_canGive_26 : decode cX1_canGive 26 = .ok (.ireturn, 1) := by decide +kernel
theorem dX1_canGive_27 : decode cX1_canGive 27 = .ok (.iload_n 2, 1) := by decide +kernel
theorem dX1_canGive_28 : decode cX1_canGive 28 = .ok (.istore 4, 2) := by decide +kernel
theorem dX1_canGive_30 : decode cX1_canGive 30 = .ok (.iload 4, 2) := by decide +kernel
theorem dX1_canGive_32 : decode cX1_canGive 32 = .ok (.aload_n 0, 1) := by decide +kernel
theorem dX1_canGive_33 : decode cX1_canGive 33 = .ok (.getfield 9, 3) := by decide +kernel
theorem dX1_canGive_36 : decode cX1_canGive 36 = .ok (.if_icmp .gt 52, 3) := by decide +kernel
theorem dX1_canGive_39 : decode cX1_canGive 39 = .ok (.aload_n 0, 1) := by decide +kernel
theorem dX1_canGive_40 : decode cX1_canGive 40 = .ok (.getfield 19, 3) := by decide +kernel
theorem dX1_canGive_43 : decode cX1_canGive 43 = .ok (.iload 4, 2) := by decide +kernel
theorem dX1_canGive_45 : decode cX1_canGive 45 = .ok (.iaload, 1) := by decide +kernel
theorem dX1_canGive_46 : decode cX1_canGive 46 = .ok (.istore 5, 2) := by decide +kernel
theorem dX1_canGive_48 : decode cX1_canGive 48 = .ok (.iload 4, 2) := by decide +kernel
theorem dX1_canGive_50 : decode cX1_canGive 50 = .ok (.iload_n 3, 1) := by decide +kernel
theorem dX1_canGive_51 : decode cX1_canGive 51 = .ok (.if_icmp .ne 9, 3) := by decide +kernel
theorem dX1_canGive_54 : decode cX1_canGive 54 = .ok (.iinc 5 (-1), 3) := by decide +kernel
theorem dX1_canGive_57 : decode cX1_canGive 57 = .ok (.goto 18, 3) := by decide +kernel
theorem dX1_canGive_60 : decode cX1_canGive 60 = .ok (.iload 4, 2) := by decide +kernel
theorem dX1_canGive_62 : decode cX1_canGive 62 = .ok (.iload_n 1, 1) := by decide +kernel
theorem dX1_canGive_63 : decode cX1_canGive 63 = .ok (.if_icmp .lt 12, 3) := by decide +kernel
theorem dX1_canGive_66 : decode cX1_canGive 66 = .ok (.iload 4, 2) := by decide +kernel
theorem dX1_canGive_68 : decode cX1_canGive 68 = .ok (.iload_n 3, 1) := by decide +kernel
theorem dX1_canGive_69 : decode cX1_canGive 69 = .ok (.if_icmp .ge 6, 3) := by decide +kernel
theorem dX1_canGive_72 : decode cX1_canGive 72 = .ok (.iinc 5 1, 3) := by decide +kernel
theorem dX1_canGive_75 : decode cX1_canGive 75 = .ok (.iload 5, 2) := by decide +kernel
theorem dX1_canGive_77 : decode cX1_canGive 77 = .ok (.ifCond .le 5, 3) := by decide +kernel
theorem dX1_canGive_80 : decode cX1_canGive 80 = .ok (.iconst 1, 1) := by decide +kernel
theorem dX1_canGive_81 : decode cX1_canGive 81 = .ok (.ireturn, 1) := by decide +kernel
theorem dX1_canGive_82 : decode cX1_canGive 82 = .ok (.iinc 4 1, 3) := by decide +kernel
theorem dX1_canGive_85 : decode cX1_canGive 85 = .ok (.goto (-55), 3) := by decide +kernel
theorem dX1_canGive_88 : decode cX1_canGive 88 = .ok (.iconst 0, 1) := by decide +kernel
theorem dX1_canGive_89 : decode cX1_canGive 89 = .ok (.ireturn, 1) := by decide +kernel
theorem dX1_give_0 : decode cX1_give 0 = .ok (.aload_n 0, 1) := by decide +kernel
theorem dX1_give_1 : decode cX1_give 1 = .ok (.iload_n 1, 1) := by decide +kernel
theorem dX1_give_2 : decode cX1_give 2 = .ok (.invokevirtual 38, 3) := by decide +kernel
theorem dX1_give_5 : decode cX1_give 5 = .ok (.istore_n 2, 1) := by decide +kernel
theorem dX1_give_6 : decode cX1_give 6 = .ok (.iload_n 2, 1) := by decide +kernel
theorem dX1_give_7 : decode cX1_give 7 = .ok (.iconst (-1), 1) := by decide +kernel
theorem dX1_give_8 : decode cX1_give 8 = .ok (.if_icmp .ne 7, 3) := by decide +kernel
theorem dX1_give_11 : decode cX1_give 11 = .ok (.iconst (-1), 1) := by decide +kernel
theorem dX1_give_12 : decode cX1_give 12 = .ok (.goto 9, 3) := by decide +kernel
theorem dX1_give_15 : decode cX1_give 15 = .ok (.aload_n 0, 1) := by decide +kernel
theorem dX1_give_16 : decode cX1_give 16 = .ok (.iload_n 2, 1) := by decide +kernel
theorem dX1_give_17 : decode cX1_give 17 = .ok (.iconst 0, 1) := by decide +kernel
theorem dX1_give_18 : decode cX1_give 18 = .ok (.invokevirtual 42, 3) := by decide +kernel
theorem dX1_give_21 : decode cX1_give 21 = .ok (.istore_n 3, 1) := by decide +kernel
theorem dX1_give_22 : decode cX1_give 22 = .ok (.iload_n 3, 1) := by decide +kernel
theorem dX1_give_23 : decode cX1_give 23 = .ok (.iconst (-1), 1) := by decide +kernel
theorem dX1_give_24 : decode cX1_give 24 = .ok (.if_icmp .ne 5, 3) := by decide +kernel
theorem dX1_give_27 : decode cX1_give 27 = .ok (.iconst (-1), 1) := by decide +kernel
theorem dX1_give_28 : decode cX1_give 28 = .ok (.ireturn, 1) := by decide +kernel
theorem dX1_give_29 : decode cX1_give 29 = .ok (.aload_n 0, 1) := by decide +kernel
theorem dX1_give_30 : decode cX1_give 30 = .ok (.iload_n 3, 1) := by decide +kernel
theorem dX1_give_31 : decode cX1_give 31 = .ok (.iload_n 2, 1) := by decide +kernel
theorem dX1_give_32 : decode cX1_give 32 = .ok (.invokevirtual 46, 3) := by decide +kernel
theorem dX1_give_35 : decode cX1_give 35 = .ok (.iload_n 2, 1) := by decide +kernel
theorem dX1_give_36 : decode cX1_give 36 = .ok (.iconst 1, 1) := by decide +kernel
theorem dX1_give_37 : decode cX1_give 37 = .ok (.isub, 1) := by decide +kernel
theorem dX1_give_38 : decode cX1_give 38 = .ok (.istore 4, 2) := by decide +kernel
theorem dX1_give_40 : decode cX1_give 40 = .ok (.iload 4, 2) := by decide +kernel
theorem dX1_give_42 : decode cX1_give 42 = .ok (.iload_n 1, 1) := by decide +kernel
theorem dX1_give_43 : decode cX1_give 43 = .ok (.if_icmp .lt 21, 3) := by decide +kernel
theorem dX1_give_46 : decode cX1_give 46 = .ok (.aload_n 0, 1) := by decide +kernel
theorem dX1_give_47 : decode cX1_give 47 = .ok (.iload_n 3, 1) := by decide +kernel
theorem dX1_give_48 : decode cX1_give 48 = .ok (.iconst 1, 1) := by decide +kernel
theorem dX1_give_49 : decode cX1_give 49 = .ok (.iload 4, 2) := by decide +kernel
theorem dX1_give_51 : decode cX1_give 51 = .ok (.ishl, 1) := by decide +kernel
theorem dX1_give_52 : decode cX1_give 52 = .ok (.iadd, 1) := by decide +kernel
theorem dX1_give_53 : decode cX1_give 53 = .ok (.iload 4, 2) := by decide +kernel
theorem dX1_give_55 : decode cX1_give 55 = .ok (.invokevirtual 34, 3) := by decide +kernel
theorem dX1_give_58 : decode cX1_give 58 = .ok (.iinc 4 (-1), 3) := by decide +kernel
theorem dX1_give_61 : decode cX1_give 61 = .ok (.goto (-21), 3) := by decide +kernel
theorem dX1_give_64 : decode cX1_give 64 = .ok (.iload_n 3, 1) := by decide +kernel
theorem dX1_give_65 : decode cX1_give 65 = .ok (.ireturn, 1) := by decide +kernel
theorem dX1_takeBack_0 : decode cX1_takeBack 0 = .ok (.iload_n 1, 1) := by decide +kernel
theorem dX1_takeBack_1 : decode cX1_takeBack 1 = .ok (.istore_n 3, 1) := by decide +kernel
theorem dX1_takeBack_2 : decode cX1_takeBack 2 = .ok (.iload_n 2, 1) := by decide +kernel
theorem dX1_takeBack_3 : decode cX1_takeBack 3 = .ok (.istore 4, 2) := by decide +kernel
theorem dX1_takeBack_5 : decode cX1_takeBack 5 = .ok (.iload 4, 2) := by decide +kernel
theorem dX1_takeBack_7 : decode cX1_takeBack 7 = .ok (.aload_n 0, 1) := by decide +kernel
theorem dX1_takeBack_8 : decode cX1_takeBack 8 = .ok (.getfield 9, 3) := by decide +kernel
theorem dX1_takeBack_11 : decode cX1_takeBack 11 = .ok (.if_icmp .ge 46, 3) := by decide +kernel
theorem dX1_takeBack_14 : decode cX1_takeBack 14 = .ok (.aload_n 0, 1) := by decide +kernel
theorem dX1_takeBack_15 : decode cX1_takeBack 15 = .ok (.getfield 22, 3) := by decide +kernel
theorem dX1_takeBack_18 : decode cX1_takeBack 18 = .ok (.iload_n 3, 1) := by decide +kernel
theorem dX1_takeBack_19 : decode cX1_takeBack 19 = .ok (.iconst 1, 1) := by decide +kernel
theorem dX1_takeBack_20 : decode cX1_takeBack 20 = .ok (.iload 4, 2) := by decide +kernel
theorem dX1_takeBack_22 : decode cX1_takeBack 22 = .ok (.ishl, 1) := by decide +kernel
theorem dX1_takeBack_23 : decode cX1_takeBack 23 = .ok (.ixor, 1) := by decide +kernel
theorem dX1_takeBack_24 : decode cX1_takeBack 24 = .ok (.iaload, 1) := by decide +kernel
theorem dX1_takeBack_25 : decode cX1_takeBack 25 = .ok (.iload 4, 2) := by decide +kernel
theorem dX1_takeBack_27 : decode cX1_takeBack 27 = .ok (.if_icmp .ne 30, 3) := by decide +kernel
theorem dX1_takeBack_30 : decode cX1_takeBack 30 = .ok (.aload_n 0, 1) := by decide +kernel
theorem dX1_takeBack_31 : decode cX1_takeBack 31 = .ok (.iload_n 3, 1) := by decide +kernel
theorem dX1_takeBack_32 : decode cX1_takeBack 32 = .ok (.iconst 1, 1) := by decide +kernel
theorem dX1_takeBack_33 : decode cX1_takeBack 33 = .ok (.iload 4, 2) := by decide +kernel
theorem dX1_takeBack_35 : decode cX1_takeBack 35 = .ok (.ishl, 1) := by decide +kernel
theorem dX1_takeBack_36 : decode cX1_takeBack 36 = .ok (.ixor, 1) := by decide +kernel
theorem dX1_takeBack_37 : decode cX1_takeBack 37 = .ok (.iload 4, 2) := by decide +kernel
theorem dX1_takeBack_39 : decode cX1_takeBack 39 = .ok (.invokevirtual 46, 3) := by decide +kernel
theorem dX1_takeBack_42 : decode cX1_takeBack 42 = .ok (.iload_n 3, 1) := by decide +kernel
theorem dX1_takeBack_43 : decode cX1_takeBack 43 = .ok (.iconst 1, 1) := by decide +kernel
theorem dX1_takeBack_44 : decode cX1_takeBack 44 = .ok (.iload 4, 2) := by decide +kernel
theorem dX1_takeBack_46 : decode cX1_takeBack 46 = .ok (.ishl, 1) := by decide +kernel
theorem dX1_takeBack_47 : decode cX1_takeBack 47 = .ok (.iconst (-1), 1) := by decide +kernel
theorem dX1_takeBack_48 : decode cX1_takeBack 48 = .ok (.ixor, 1) := by decide +kernel
theorem dX1_takeBack_49 : decode cX1_takeBack 49 = .ok (.iand, 1) := by decide +kernel
theorem dX1_takeBack_50 : decode cX1_takeBack 50 = .ok (.istore_n 3, 1) := by decide +kernel
theorem dX1_takeBack_51 : decode cX1_takeBack 51 = .ok (.iinc 4 1, 3) := by decide +kernel
theorem dX1_takeBack_54 : decode cX1_takeBack 54 = .ok (.goto (-49), 3) := by decide +kernel
theorem dX1_takeBack_57 : decode cX1_takeBack 57 = .ok (.aload_n 0, 1) := by decide +kernel
theorem dX1_takeBack_58 : decode cX1_takeBack 58 = .ok (.iload_n 3, 1) := by decide +kernel
theorem dX1_takeBack_59 : decode cX1_takeBack 59 = .ok (.iload 4, 2) := by decide +kernel
theorem dX1_takeBack_61 : decode cX1_takeBack 61 = .ok (.invokevirtual 34, 3) := by decide +kernel
theorem dX1_takeBack_64 : decode cX1_takeBack 64 = .ok (.return_, 1) := by decide +kernel
theorem dX1_freeLimbs_0 : decode cX1_freeLimbs 0 = .ok (.iconst 0, 1) := by decide +kernel
theorem dX1_freeLimbs_1 : decode cX1_freeLimbs 1 = .ok (.istore_n 1, 1) := by decide +kernel
theorem dX1_freeLimbs_2 : decode cX1_freeLimbs 2 = .ok (.iconst 0, 1) := by decide +kernel
theorem dX1_freeLimbs_3 : decode cX1_freeLimbs 3 = .ok (.istore_n 2, 1) := by decide +kernel
theorem dX1_freeLimbs_4 : decode cX1_freeLimbs 4 = .ok (.iload_n 2, 1) := by decide +kernel
theorem dX1_freeLimbs_5 : decode cX1_freeLimbs 5 = .ok (.aload_n 0, 1) := by decide +kernel
theorem dX1_freeLimbs_6 : decode cX1_freeLimbs 6 = .ok (.getfield 9, 3) := by decide +kernel
theorem dX1_freeLimbs_9 : decode cX1_freeLimbs 9 = .ok (.if_icmp .gt 20, 3) := by decide +kernel
theorem dX1_freeLimbs_12 : decode cX1_freeLimbs 12 = .ok (.iload_n 1, 1) := by decide +kernel
theorem dX1_freeLimbs_13 : decode cX1_freeLimbs 13 = .ok (.aload_n 0, 1) := by decide +kernel
theorem dX1_freeLimbs_14 : decode cX1_freeLimbs 14 = .ok (.getfield 19, 3) := by decide +kernel
theorem dX1_freeLimbs_17 : decode cX1_freeLimbs 17 = .ok (.iload_n 2, 1) := by decide +kernel
theorem dX1_freeLimbs_18 : decode cX1_freeLimbs 18 = .ok (.iaload, 1) := by decide +kernel
theorem dX1_freeLimbs_19 : decode cX1_freeLimbs 19 = .ok (.iload_n 2, 1) := by decide +kernel
theorem dX1_freeLimbs_20 : decode cX1_freeLimbs 20 = .ok (.ishl, 1) := by decide +kernel
theorem dX1_freeLimbs_21 : decode cX1_freeLimbs 21 = .ok (.iadd, 1) := by decide +kernel
theorem dX1_freeLimbs_22 : decode cX1_freeLimbs 22 = .ok (.istore_n 1, 1) := by decide +kernel
theorem dX1_freeLimbs_23 : decode cX1_freeLimbs 23 = .ok (.iinc 2 1, 3) := by decide +kernel
theorem dX1_freeLimbs_26 : decode cX1_freeLimbs 26 = .ok (.goto (-22), 3) := by decide +kernel
theorem dX1_freeLimbs_29 : decode cX1_freeLimbs 29 = .ok (.iload_n 1, 1) := by decide +kernel
theorem dX1_freeLimbs_30 : decode cX1_freeLimbs 30 = .ok (.ireturn, 1) := by decide +kernel
theorem dX1_addressOfFree_0 : decode cX1_addressOfFree 0 = .ok (.iload_n 2, 1) := by decide +kernel
theorem dX1_addressOfFree_1 : decode cX1_addressOfFree 1 = .ok (.ifCond .lt 13, 3) := by decide +kernel
theorem dX1_addressOfFree_4 : decode cX1_addressOfFree 4 = .ok (.iload_n 2, 1) := by decide +kernel
theorem dX1_addressOfFree_5 : decode cX1_addressOfFree 5 = .ok (.aload_n 0, 1) := by decide +kernel
theorem dX1_addressOfFree_6 : decode cX1_addressOfFree 6 = .ok (.getfield 19, 3) := by decide +kernel
theorem dX1_addressOfFree_9 : decode cX1_addressOfFree 9 = .ok (.iload_n 1, 1) := by decide +kernel
theorem dX1_addressOfFree_10 : decode cX1_addressOfFree 10 = .ok (.iaload, 1) := by decide +kernel
theorem dX1_addressOfFree_11 : decode cX1_addressOfFree 11 = .ok (.if_icmp .lt 5, 3) := by decide +kernel
theorem dX1_addressOfFree_14 : decode cX1_addressOfFree 14 = .ok (.iconst (-1), 1) := by decide +kernel
theorem dX1_addressOfFree_15 : decode cX1_addressOfFree 15 = .ok (.ireturn, 1) := by decide +kernel
theorem dX1_addressOfFree_16 : decode cX1_addressOfFree 16 = .ok (.iconst 0, 1) := by decide +kernel
theorem dX1_addressOfFree_17 : decode cX1_addressOfFree 17 = .ok (.istore_n 3, 1) := by decide +kernel
theorem dX1_addressOfFree_18 : decode cX1_addressOfFree 18 = .ok (.iconst 0, 1) := by decide +kernel
theorem dX1_addressOfFree_19 : decode cX1_addressOfFree 19 = .ok (.istore 4, 2) := by decide +kernel
theorem dX1_addressOfFree_21 : decode cX1_addressOfFree 21 = .ok (.iload 4, 2) := by decide +kernel
theorem dX1_addressOfFree_23 : decode cX1_addressOfFree 23 = .ok (.aload_n 0, 1) := by decide +kernel
theorem dX1_addressOfFree_24 : decode cX1_addressOfFree 24 = .ok (.getfield 22, 3) := by decide +kernel
theorem dX1_addressOfFree_27 : decode cX1_addressOfFree 27 = .ok (.arraylength, 1) := by decide +kernel
theorem dX1_addressOfFree_28 : decode cX1_addressOfFree 28 = .ok (.if_icmp .ge 36, 3) := by decide +kernel
theorem dX1_addressOfFree_31 : decode cX1_addressOfFree 31 = .ok (.aload_n 0, 1) := by decide +kernel
theorem dX1_addressOfFree_32 : decode cX1_addressOfFree 32 = .ok (.getfield 22, 3) := by decide +kernel
theorem dX1_addressOfFree_35 : decode cX1_addressOfFree 35 = .ok (.iload 4, 2) := by decide +kernel
theorem dX1_addressOfFree_37 : decode cX1_addressOfFree 37 = .ok (.iaload, 1) := by decide +kernel
theorem dX1_addressOfFree_38 : decode cX1_addressOfFree 38 = .ok (.iload_n 1, 1) := by decide +kernel
theorem dX1_addressOfFree_39 : decode cX1_addressOfFree 39 = .ok (.if_icmp .ne 14, 3) := by decide +kernel
theorem dX1_addressOfFree_42 : decode cX1_addressOfFree 42 = .ok (.iload_n 3, 1) := by decide +kernel
theorem dX1_addressOfFree_43 : decode cX1_addressOfFree 43 = .ok (.iload_n 2, 1) := by decide +kernel
theorem dX1_addressOfFree_44 : decode cX1_addressOfFree 44 = .ok (.if_icmp .ne 6, 3) := by decide +kernel
theorem dX1_addressOfFree_47 : decode cX1_addressOfFree 47 = .ok (.iload 4, 2) := by decide +kernel
theorem dX1_addressOfFree_49 : decode cX1_addressOfFree 49 = .ok (.ireturn, 1) := by decide +kernel
theorem dX1_addressOfFree_50 : decode cX1_addressOfFree 50 = .ok (.iinc 3 1, 3) := by decide +kernel
theorem dX1_addressOfFree_53 : decode cX1_addressOfFree 53 = .ok (.iload 4, 2) := by decide +kernel
theorem dX1_addressOfFree_55 : decode cX1_addressOfFree 55 = .ok (.iconst 1, 1) := by decide +kernel
theorem dX1_addressOfFree_56 : decode cX1_addressOfFree 56 = .ok (.iload_n 1, 1) := by decide +kernel
theorem dX1_addressOfFree_57 : decode cX1_addressOfFree 57 = .ok (.ishl, 1) := by decide +kernel
theorem dX1_addressOfFree_58 : decode cX1_addressOfFree 58 = .ok (.iadd, 1) := by decide +kernel
theorem dX1_addressOfFree_59 : decode cX1_addressOfFree 59 = .ok (.istore 4, 2) := by decide +kernel
theorem dX1_addressOfFree_61 : decode cX1_addressOfFree 61 = .ok (.goto (-40), 3) := by decide +kernel
theorem dX1_addressOfFree_64 : decode cX1_addressOfFree 64 = .ok (.iconst (-1), 1) := by decide +kernel
theorem dX1_addressOfFree_65 : decode cX1_addressOfFree 65 = .ok (.ireturn, 1) := by decide +kernel
theorem dX1_leastFreeOrder_0 : decode cX1_leastFreeOrder 0 = .ok (.iload_n 1, 1) := by decide +kernel
theorem dX1_leastFreeOrder_1 : decode cX1_leastFreeOrder 1 = .ok (.istore_n 2, 1) := by decide +kernel
theorem dX1_leastFreeOrder_2 : decode cX1_leastFreeOrder 2 = .ok (.iload_n 2, 1) := by decide +kernel
theorem dX1_leastFreeOrder_3 : decode cX1_leastFreeOrder 3 = .ok (.aload_n 0, 1) := by decide +kernel
theorem dX1_leastFreeOrder_4 : decode cX1_leastFreeOrder 4 = .ok (.getfield 9, 3) := by decide +kernel
theorem dX1_leastFreeOrder_7 : decode cX1_leastFreeOrder 7 = .ok (.if_icmp .gt 20, 3) := by decide +kernel
theorem dX1_leastFreeOrder_10 : decode cX1_leastFreeOrder 10 = .ok (.aload_n 0, 1) := by decide +kernel
theorem dX1_leastFreeOrder_11 : decode cX1_leastFreeOrder 11 = .ok (.getfield 19, 3) := by decide +kernel
theorem dX1_leastFreeOrder_14 : decode cX1_leastFreeOrder 14 = .ok (.iload_n 2, 1) := by decide +kernel
theorem dX1_leastFreeOrder_15 : decode cX1_leastFreeOrder 15 = .ok (.iaload, 1) := by decide +kernel
theorem dX1_leastFreeOrder_16 : decode cX1_leastFreeOrder 16 = .ok (.ifCond .le 5, 3) := by decide +kernel
theorem dX1_leastFreeOrder_19 : decode cX1_leastFreeOrder 19 = .ok (.iload_n 2, 1) := by decide +kernel
theorem dX1_leastFreeOrder_20 : decode cX1_leastFreeOrder 20 = .ok (.ireturn, 1) := by decide +kernel
theorem dX1_leastFreeOrder_21 : decode cX1_leastFreeOrder 21 = .ok (.iinc 2 1, 3) := by decide +kernel
theorem dX1_leastFreeOrder_24 : decode cX1_leastFreeOrder 24 = .ok (.goto (-22), 3) := by decide +kernel
theorem dX1_leastFreeOrder_27 : decode cX1_leastFreeOrder 27 = .ok (.iconst (-1), 1) := by decide +kernel
theorem dX1_leastFreeOrder_28 : decode cX1_leastFreeOrder 28 = .ok (.ireturn, 1) := by decide +kernel
theorem dX1_addFree_0 : decode cX1_addFree 0 = .ok (.aload_n 0, 1) := by decide +kernel
theorem dX1_addFree_1 : decode cX1_addFree 1 = .ok (.getfield 22, 3) := by decide +kernel
theorem dX1_addFree_4 : decode cX1_addFree 4 = .ok (.iload_n 1, 1) := by decide +kernel
theorem dX1_addFree_5 : decode cX1_addFree 5 = .ok (.iload_n 2, 1) := by decide +kernel
theorem dX1_addFree_6 : decode cX1_addFree 6 = .ok (.iastore, 1) := by decide +kernel
theorem dX1_addFree_7 : decode cX1_addFree 7 = .ok (.aload_n 0, 1) := by decide +kernel
theorem dX1_addFree_8 : decode cX1_addFree 8 = .ok (.getfield 19, 3) := by decide +kernel
theorem dX1_addFree_11 : decode cX1_addFree 11 = .ok (.iload_n 2, 1) := by decide +kernel
theorem dX1_addFree_12 : decode cX1_addFree 12 = .ok (.dup2, 1) := by decide +kernel
theorem dX1_addFree_13 : decode cX1_addFree 13 = .ok (.iaload, 1) := by decide +kernel
theorem dX1_addFree_14 : decode cX1_addFree 14 = .ok (.iconst 1, 1) := by decide +kernel
theorem dX1_addFree_15 : decode cX1_addFree 15 = .ok (.iadd, 1) := by decide +kernel
theorem dX1_addFree_16 : decode cX1_addFree 16 = .ok (.iastore, 1) := by decide +kernel
theorem dX1_addFree_17 : decode cX1_addFree 17 = .ok (.return_, 1) := by decide +kernel
theorem dX1_removeFree_0 : decode cX1_removeFree 0 = .ok (.aload_n 0, 1) := by decide +kernel
theorem dX1_removeFree_1 : decode cX1_removeFree 1 = .ok (.getfield 22, 3) := by decide +kernel
theorem dX1_removeFree_4 : decode cX1_removeFree 4 = .ok (.iload_n 1, 1) := by decide +kernel
theorem dX1_removeFree_5 : decode cX1_removeFree 5 = .ok (.iconst (-1), 1) := by decide +kernel
theorem dX1_removeFree_6 : decode cX1_removeFree 6 = .ok (.iastore, 1) := by decide +kernel
theorem dX1_removeFree_7 : decode cX1_removeFree 7 = .ok (.aload_n 0, 1) := by decide +kernel
theorem dX1_removeFree_8 : decode cX1_removeFree 8 = .ok (.getfield 19, 3) := by decide +kernel
theorem dX1_removeFree_11 : decode cX1_removeFree 11 = .ok (.iload_n 2, 1) := by decide +kernel
theorem dX1_removeFree_12 : decode cX1_removeFree 12 = .ok (.dup2, 1) := by decide +kernel
theorem dX1_removeFree_13 : decode cX1_removeFree 13 = .ok (.iaload, 1) := by decide +kernel
theorem dX1_removeFree_14 : decode cX1_removeFree 14 = .ok (.iconst 1, 1) := by decide +kernel
theorem dX1_removeFree_15 : decode cX1_removeFree 15 = .ok (.isub, 1) := by decide +kernel
theorem dX1_removeFree_16 : decode cX1_removeFree 16 = .ok (.iastore, 1) := by decide +kernel
theorem dX1_removeFree_17 : decode cX1_removeFree 17 = .ok (.return_, 1) := by decide +kernel
theorem dX2_init_0 : decode cX2_init 0 = .ok (.aload_n 0, 1) := by decide +kernel
theorem dX2_init_1 : decode cX2_init 1 = .ok (.invokespecial 1, 3) := by decide +kernel
theorem dX2_init_4 : decode cX2_init 4 = .ok (.return_, 1) := by decide +kernel
theorem dX2_hasLimb_0 : decode cX2_hasLimb 0 = .ok (.iload_n 1, 1) := by decide +kernel
theorem dX2_hasLimb_1 : decode cX2_hasLimb 1 = .ok (.ifCond .lt 15, 3) := by decide +kernel
theorem dX2_hasLimb_4 : decode cX2_hasLimb 4 = .ok (.iload_n 1, 1) := by decide +kernel
theorem dX2_hasLimb_5 : decode cX2_hasLimb 5 = .ok (.aload_n 0, 1) := by decide +kernel
theorem dX2_hasLimb_6 : decode cX2_hasLimb 6 = .ok (.getfield 7, 3) := by decide +kernel
theorem dX2_hasLimb_9 : decode cX2_hasLimb 9 = .ok (.if_icmp .ge 7, 3) := by decide +kernel
theorem dX2_hasLimb_12 : decode cX2_hasLimb 12 = .ok (.iconst 1, 1) := by decide +kernel
theorem dX2_hasLimb_13 : decode cX2_hasLimb 13 = .ok (.goto 4, 3) := by decide +kernel
theorem dX2_hasLimb_16 : decode cX2_hasLimb 16 = .ok (.iconst 0, 1) := by decide +kernel
theorem dX2_hasLimb_17 : decode cX2_hasLimb 17 = .ok (.ireturn, 1) := by decide +kernel
theorem dX3_init_0 : decode cX3_init 0 = .ok (.aload_n 0, 1) := by decide +kernel
theorem dX3_init_1 : decode cX3_init 1 = .ok (.invokespecial 3, 3) := by decide +kernel
theorem dX3_init_4 : decode cX3_init 4 = .ok (.aload_n 0, 1) := by decide +kernel
theorem dX3_init_5 : decode cX3_init 5 = .ok (.iload_n 1, 1) := by decide +kernel
theorem dX3_init_6 : decode cX3_init 6 = .ok (.newarray .int, 2) := by decide +kernel
theorem dX3_init_8 : decode cX3_init 8 = .ok (.putfield 9, 3) := by decide +kernel
theorem dX3_init_11 : decode cX3_init 11 = .ok (.return_, 1) := by decide +kernel
theorem dX3_clear_0 : decode cX3_clear 0 = .ok (.aload_n 0, 1) := by decide +kernel
theorem dX3_clear_1 : decode cX3_clear 1 = .ok (.iconst 0, 1) := by decide +kernel
theorem dX3_clear_2 : decode cX3_clear 2 = .ok (.putfield 15, 3) := by decide +kernel
theorem dX3_clear_5 : decode cX3_clear 5 = .ok (.return_, 1) := by decide +kernel
theorem dX3_at_0 : decode cX3_at 0 = .ok (.iload_n 1, 1) := by decide +kernel
theorem dX3_at_1 : decode cX3_at 1 = .ok (.ifCond .lt 24, 3) := by decide +kernel
theorem dX3_at_4 : decode cX3_at 4 = .ok (.iload_n 1, 1) := by decide +kernel
theorem dX3_at_5 : decode cX3_at 5 = .ok (.aload_n 0, 1) := by decide +kernel
theorem dX3_at_6 : decode cX3_at 6 = .ok (.getfield 15, 3) := by decide +kernel
theorem dX3_at_9 : decode cX3_at 9 = .ok (.if_icmp .ge 16, 3) := by decide +kernel
theorem dX3_at_12 : decode cX3_at 12 = .ok (.aload_n 0, 1) := by decide +kernel
theorem dX3_at_13 : decode cX3_at 13 = .ok (.getfield 9, 3) := by decide +kernel
theorem dX3_at_16 : decode cX3_at 16 = .ok (.aload_n 0, 1) := by decide +kernel
theorem dX3_at_17 : decode cX3_at 17 = .ok (.iload_n 1, 1) := by decide +kernel
theorem dX3_at_18 : decode cX3_at 18 = .ok (.invokevirtual 19, 3) := by decide +kernel
theorem dX3_at_21 : decode cX3_at 21 = .ok (.iaload, 1) := by decide +kernel
theorem dX3_at_22 : decode cX3_at 22 = .ok (.goto 4, 3) := by decide +kernel
theorem dX3_at_25 : decode cX3_at 25 = .ok (.iconst (-1), 1) := by decide +kernel
theorem dX3_at_26 : decode cX3_at 26 = .ok (.ireturn, 1) := by decide +kernel
theorem dX3_append_0 : decode cX3_append 0 = .ok (.aload_n 0, 1) := by decide +kernel
theorem dX3_append_1 : decode cX3_append 1 = .ok (.getfield 15, 3) := by decide +kernel
theorem dX3_append_4 : decode cX3_append 4 = .ok (.aload_n 0, 1) := by decide +kernel
theorem dX3_append_5 : decode cX3_append 5 = .ok (.getfield 9, 3) := by decide +kernel
theorem dX3_append_8 : decode cX3_append 8 = .ok (.arraylength, 1) := by decide +kernel
theorem dX3_append_9 : decode cX3_append 9 = .ok (.if_icmp .ge 27, 3) := by decide +kernel
theorem dX3_append_12 : decode cX3_append 12 = .ok (.aload_n 0, 1) := by decide +kernel
theorem dX3_append_13 : decode cX3_append 13 = .ok (.getfield 9, 3) := by decide +kernel
theorem dX3_append_16 : decode cX3_append 16 = .ok (.aload_n 0, 1) := by decide +kernel
theorem dX3_append_17 : decode cX3_append 17 = .ok (.aload_n 0, 1) := by decide +kernel
theorem dX3_append_18 : decode cX3_append 18 = .ok (.getfield 15, 3) := by decide +kernel
theorem dX3_append_21 : decode cX3_append 21 = .ok (.invokevirtual 19, 3) := by decide +kernel
theorem dX3_append_24 : decode cX3_append 24 = .ok (.iload_n 1, 1) := by decide +kernel
theorem dX3_append_25 : decode cX3_append 25 = .ok (.iastore, 1) := by decide +kernel
theorem dX3_append_26 : decode cX3_append 26 = .ok (.aload_n 0, 1) := by decide +kernel
theorem dX3_append_27 : decode cX3_append 27 = .ok (.dup, 1) := by decide +kernel
theorem dX3_append_28 : decode cX3_append 28 = .ok (.getfield 15, 3) := by decide +kernel
theorem dX3_append_31 : decode cX3_append 31 = .ok (.iconst 1, 1) := by decide +kernel
theorem dX3_append_32 : decode cX3_append 32 = .ok (.iadd, 1) := by decide +kernel
theorem dX3_append_33 : decode cX3_append 33 = .ok (.putfield 15, 3) := by decide +kernel
theorem dX3_append_36 : decode cX3_append 36 = .ok (.return_, 1) := by decide +kernel
theorem dX3_takeFirst_0 : decode cX3_takeFirst 0 = .ok (.aload_n 0, 1) := by decide +kernel
theorem dX3_takeFirst_1 : decode cX3_takeFirst 1 = .ok (.getfield 15, 3) := by decide +kernel
theorem dX3_takeFirst_4 : decode cX3_takeFirst 4 = .ok (.ifCond .ne 5, 3) := by decide +kernel
theorem dX3_takeFirst_7 : decode cX3_takeFirst 7 = .ok (.iconst (-1), 1) := by decide +kernel
theorem dX3_takeFirst_8 : decode cX3_takeFirst 8 = .ok (.ireturn, 1) := by decide +kernel
theorem dX3_takeFirst_9 : decode cX3_takeFirst 9 = .ok (.aload_n 0, 1) := by decide +kernel
theorem dX3_takeFirst_10 : decode cX3_takeFirst 10 = .ok (.getfield 9, 3) := by decide +kernel
theorem dX3_takeFirst_13 : decode cX3_takeFirst 13 = .ok (.aload_n 0, 1) := by decide +kernel
theorem dX3_takeFirst_14 : decode cX3_takeFirst 14 = .ok (.getfield 23, 3) := by decide +kernel
theorem dX3_takeFirst_17 : decode cX3_takeFirst 17 = .ok (.iaload, 1) := by decide +kernel
theorem dX3_takeFirst_18 : decode cX3_takeFirst 18 = .ok (.istore_n 1, 1) := by decide +kernel
theorem dX3_takeFirst_19 : decode cX3_takeFirst 19 = .ok (.aload_n 0, 1) := by decide +kernel
theorem dX3_takeFirst_20 : decode cX3_takeFirst 20 = .ok (.aload_n 0, 1) := by decide +kernel
theorem dX3_takeFirst_21 : decode cX3_takeFirst 21 = .ok (.iconst 1, 1) := by decide +kernel
theorem dX3_takeFirst_22 : decode cX3_takeFirst 22 = .ok (.invokevirtual 19, 3) := by decide +kernel
theorem dX3_takeFirst_25 : decode cX3_takeFirst 25 = .ok (.putfield 23, 3) := by decide +kernel
theorem dX3_takeFirst_28 : decode cX3_takeFirst 28 = .ok (.aload_n 0, 1) := by decide +kernel
theorem dX3_takeFirst_29 : decode cX3_takeFirst 29 = .ok (.dup, 1) := by decide +kernel
theorem dX3_takeFirst_30 : decode cX3_takeFirst 30 = .ok (.getfield 15, 3) := by decide +kernel
theorem dX3_takeFirst_33 : decode cX3_takeFirst 33 = .ok (.iconst 1, 1) := by decide +kernel
theorem dX3_takeFirst_34 : decode cX3_takeFirst 34 = .ok (.isub, 1) := by decide +kernel
theorem dX3_takeFirst_35 : decode cX3_takeFirst 35 = .ok (.putfield 15, 3) := by decide +kernel
theorem dX3_takeFirst_38 : decode cX3_takeFirst 38 = .ok (.iload_n 1, 1) := by decide +kernel
theorem dX3_takeFirst_39 : decode cX3_takeFirst 39 = .ok (.ireturn, 1) := by decide +kernel
theorem dX3_drop_0 : decode cX3_drop 0 = .ok (.aload_n 0, 1) := by decide +kernel
theorem dX3_drop_1 : decode cX3_drop 1 = .ok (.getfield 15, 3) := by decide +kernel
theorem dX3_drop_4 : decode cX3_drop 4 = .ok (.istore_n 2, 1) := by decide +kernel
theorem dX3_drop_5 : decode cX3_drop 5 = .ok (.iconst 0, 1) := by decide +kernel
theorem dX3_drop_6 : decode cX3_drop 6 = .ok (.istore_n 3, 1) := by decide +kernel
theorem dX3_drop_7 : decode cX3_drop 7 = .ok (.iload_n 3, 1) := by decide +kernel
theorem dX3_drop_8 : decode cX3_drop 8 = .ok (.iload_n 2, 1) := by decide +kernel
theorem dX3_drop_9 : decode cX3_drop 9 = .ok (.if_icmp .ge 27, 3) := by decide +kernel
theorem dX3_drop_12 : decode cX3_drop 12 = .ok (.aload_n 0, 1) := by decide +kernel
theorem dX3_drop_13 : decode cX3_drop 13 = .ok (.invokevirtual 26, 3) := by decide +kernel
theorem dX3_drop_16 : decode cX3_drop 16 = .ok (.istore 4, 2) := by decide +kernel
theorem dX3_drop_18 : decode cX3_drop 18 = .ok (.iload 4, 2) := by decide +kernel
theorem dX3_drop_20 : decode cX3_drop 20 = .ok (.iload_n 1, 1) := by decide +kernel
theorem dX3_drop_21 : decode cX3_drop 21 = .ok (.if_icmp .eq 9, 3) := by decide +kernel
theorem dX3_drop_24 : decode cX3_drop 24 = .ok (.aload_n 0, 1) := by decide +kernel
theorem dX3_drop_25 : decode cX3_drop 25 = .ok (.iload 4, 2) := by decide +kernel
theorem dX3_drop_27 : decode cX3_drop 27 = .ok (.invokevirtual 30, 3) := by decide +kernel
theorem dX3_drop_30 : decode cX3_drop 30 = .ok (.iinc 3 1, 3) := by decide +kernel
theorem dX3_drop_33 : decode cX3_drop 33 = .ok (.goto (-26), 3) := by decide +kernel
theorem dX3_drop_36 : decode cX3_drop 36 = .ok (.return_, 1) := by decide +kernel
theorem dX3_slot_0 : decode cX3_slot 0 = .ok (.aload_n 0, 1) := by decide +kernel
theorem dX3_slot_1 : decode cX3_slot 1 = .ok (.getfield 23, 3) := by decide +kernel
theorem dX3_slot_4 : decode cX3_slot 4 = .ok (.iload_n 1, 1) := by decide +kernel
theorem dX3_slot_5 : decode cX3_slot 5 = .ok (.iadd, 1) := by decide +kernel
theorem dX3_slot_6 : decode cX3_slot 6 = .ok (.istore_n 2, 1) := by decide +kernel
theorem dX3_slot_7 : decode cX3_slot 7 = .ok (.iload_n 2, 1) := by decide +kernel
theorem dX3_slot_8 : decode cX3_slot 8 = .ok (.aload_n 0, 1) := by decide +kernel
theorem dX3_slot_9 : decode cX3_slot 9 = .ok (.getfield 9, 3) := by decide +kernel
theorem dX3_slot_12 : decode cX3_slot 12 = .ok (.arraylength, 1) := by decide +kernel
theorem dX3_slot_13 : decode cX3_slot 13 = .ok (.if_icmp .ge 7, 3) := by decide +kernel
theorem dX3_slot_16 : decode cX3_slot 16 = .ok (.iload_n 2, 1) := by decide +kernel
theorem dX3_slot_17 : decode cX3_slot 17 = .ok (.goto 10, 3) := by decide +kernel
theorem dX3_slot_20 : decode cX3_slot 20 = .ok (.iload_n 2, 1) := by decide +kernel
theorem dX3_slot_21 : decode cX3_slot 21 = .ok (.aload_n 0, 1) := by decide +kernel
theorem dX3_slot_22 : decode cX3_slot 22 = .ok (.getfield 9, 3) := by decide +kernel
theorem dX3_slot_25 : decode cX3_slot 25 = .ok (.arraylength, 1) := by decide +kernel
theorem dX3_slot_26 : decode cX3_slot 26 = .ok (.isub, 1) := by decide +kernel
theorem dX3_slot_27 : decode cX3_slot 27 = .ok (.ireturn, 1) := by decide +kernel
theorem dX4_init_0 : decode cX4_init 0 = .ok (.aload_n 0, 1) := by decide +kernel
theorem dX4_init_1 : decode cX4_init 1 = .ok (.invokespecial 3, 3) := by decide +kernel
theorem dX4_init_4 : decode cX4_init 4 = .ok (.aload_n 0, 1) := by decide +kernel
theorem dX4_init_5 : decode cX4_init 5 = .ok (.aload_n 1, 1) := by decide +kernel
theorem dX4_init_6 : decode cX4_init 6 = .ok (.putfield 9, 3) := by decide +kernel
theorem dX4_init_9 : decode cX4_init 9 = .ok (.return_, 1) := by decide +kernel
theorem dX4_significant_0 : decode cX4_significant 0 = .ok (.iload_n 2, 1) := by decide +kernel
theorem dX4_significant_1 : decode cX4_significant 1 = .ok (.istore_n 3, 1) := by decide +kernel
theorem dX4_significant_2 : decode cX4_significant 2 = .ok (.iload_n 3, 1) := by decide +kernel
theorem dX4_significant_3 : decode cX4_significant 3 = .ok (.ifCond .le 24, 3) := by decide +kernel
theorem dX4_significant_6 : decode cX4_significant 6 = .ok (.aload_n 0, 1) := by decide +kernel
theorem dX4_significant_7 : decode cX4_significant 7 = .ok (.getfield 9, 3) := by decide +kernel
theorem dX4_significant_10 : decode cX4_significant 10 = .ok (.iload_n 1, 1) := by decide +kernel
theorem dX4_significant_11 : decode cX4_significant 11 = .ok (.iload_n 3, 1) := by decide +kernel
theorem dX4_significant_12 : decode cX4_significant 12 = .ok (.iadd, 1) := by decide +kernel
theorem dX4_significant_13 : decode cX4_significant 13 = .ok (.iconst 1, 1) := by decide +kernel
theorem dX4_significant_14 : decode cX4_significant 14 = .ok (.isub, 1) := by decide +kernel
theorem dX4_significant_15 : decode cX4_significant 15 = .ok (.iaload, 1) := by decide +kernel
theorem dX4_significant_16 : decode cX4_significant 16 = .ok (.ifCond .eq 5, 3) := by decide +kernel
theorem dX4_significant_19 : decode cX4_significant 19 = .ok (.iload_n 3, 1) := by decide +kernel
theorem dX4_significant_20 : decode cX4_significant 20 = .ok (.ireturn, 1) := by decide +kernel
theorem dX4_significant_21 : decode cX4_significant 21 = .ok (.iinc 3 (-1), 3) := by decide +kernel
theorem dX4_significant_24 : decode cX4_significant 24 = .ok (.goto (-22), 3) := by decide +kernel
theorem dX4_significant_27 : decode cX4_significant 27 = .ok (.iconst 0, 1) := by decide +kernel
theorem dX4_significant_28 : decode cX4_significant 28 = .ok (.ireturn, 1) := by decide +kernel
theorem dX4_addProduct_0 : decode cX4_addProduct 0 = .ok (.iconst 0, 1) := by decide +kernel
theorem dX4_addProduct_1 : decode cX4_addProduct 1 = .ok (.istore 6, 2) := by decide +kernel
theorem dX4_addProduct_3 : decode cX4_addProduct 3 = .ok (.iload 6, 2) := by decide +kernel
theorem dX4_addProduct_5 : decode cX4_addProduct 5 = .ok (.iload_n 3, 1) := by decide +kernel
theorem dX4_addProduct_6 : decode cX4_addProduct 6 = .ok (.if_icmp .ge 114, 3) := by decide +kernel
theorem dX4_addProduct_9 : decode cX4_addProduct 9 = .ok (.aload_n 0, 1) := by decide +kernel
theorem dX4_addProduct_10 : decode cX4_addProduct 10 = .ok (.getfield 9, 3) := by decide +kernel
theorem dX4_addProduct_13 : decode cX4_addProduct 13 = .ok (.iload_n 2, 1) := by decide +kernel
theorem dX4_addProduct_14 : decode cX4_addProduct 14 = .ok (.iload 6, 2) := by decide +kernel
theorem dX4_addProduct_16 : decode cX4_addProduct 16 = .ok (.iadd, 1) := by decide +kernel
theorem dX4_addProduct_17 : decode cX4_addProduct 17 = .ok (.iaload, 1) := by decide +kernel
theorem dX4_addProduct_18 : decode cX4_addProduct 18 = .ok (.i2l, 1) := by decide +kernel
theorem dX4_addProduct_19 : decode cX4_addProduct 19 = .ok (.lstore 7, 2) := by decide +kernel
theorem dX4_addProduct_21 : decode cX4_addProduct 21 = .ok (.iload_n 1, 1) := by decide +kernel
theorem dX4_addProduct_22 : decode cX4_addProduct 22 = .ok (.iload 6, 2) := by decide +kernel
theorem dX4_addProduct_24 : decode cX4_addProduct 24 = .ok (.iadd, 1) := by decide +kernel
theorem dX4_addProduct_25 : decode cX4_addProduct 25 = .ok (.istore 9, 2) := by decide +kernel
theorem dX4_addProduct_27 : decode cX4_addProduct 27 = .ok (.lconst 0, 1) := by decide +kernel
theorem dX4_addProduct_28 : decode cX4_addProduct 28 = .ok (.lstore 10, 2) := by decide +kernel
theorem dX4_addProduct_30 : decode cX4_addProduct 30 = .ok (.iconst 0, 1) := by decide +kernel
theorem dX4_addProduct_31 : decode cX4_addProduct 31 = .ok (.istore 12, 2) := by decide +kernel
theorem dX4_addProduct_33 : decode cX4_addProduct 33 = .ok (.iload 12, 2) := by decide +kernel
theorem dX4_addProduct_35 : decode cX4_addProduct 35 = .ok (.iload 5, 2) := by decide +kernel
theorem dX4_addProduct_37 : decode cX4_addProduct 37 = .ok (.if_icmp .ge 64, 3) := by decide +kernel
theorem dX4_addProduct_40 : decode cX4_addProduct 40 = .ok (.aload_n 0, 1) := by decide +kernel
theorem dX4_addProduct_41 : decode cX4_addProduct 41 = .ok (.getfield 9, 3) := by decide +kernel
theorem dX4_addProduct_44 : decode cX4_addProduct 44 = .ok (.iload 9, 2) := by decide +kernel
theorem dX4_addProduct_46 : decode cX4_addProduct 46 = .ok (.iload 12, 2) := by decide +kernel
theorem dX4_addProduct_48 : decode cX4_addProduct 48 = .ok (.iadd, 1) := by decide +kernel
theorem dX4_addProduct_49 : decode cX4_addProduct 49 = .ok (.iaload, 1) := by decide +kernel
theorem dX4_addProduct_50 : decode cX4_addProduct 50 = .ok (.i2l, 1) := by decide +kernel
theorem dX4_addProduct_51 : decode cX4_addProduct 51 = .ok (.lload 7, 2) := by decide +kernel
theorem dX4_addProduct_53 : decode cX4_addProduct 53 = .ok (.aload_n 0, 1) := by decide +kernel
theorem dX4_addProduct_54 : decode cX4_addProduct 54 = .ok (.getfield 9, 3) := by decide +kernel
theorem dX4_addProduct_57 : decode cX4_addProduct 57 = .ok (.iload 4, 2) := by decide +kernel
theorem dX4_addProduct_59 : decode cX4_addProduct 59 = .ok (.iload 12, 2) := by decide +kernel
theorem dX4_addProduct_61 : decode cX4_addProduct 61 = .ok (.iadd, 1) := by decide +kernel
theorem dX4_addProduct_62 : decode cX4_addProduct 62 = .ok (.iaload, 1) := by decide +kernel
theorem dX4_addProduct_63 : decode cX4_addProduct 63 = .ok (.i2l, 1) := by decide +kernel
theorem dX4_addProduct_64 : decode cX4_addProduct 64 = .ok (.lmul, 1) := by decide +kernel
theorem dX4_addProduct_65 : decode cX4_addProduct 65 = .ok (.ladd, 1) := by decide +kernel
theorem dX4_addProduct_66 : decode cX4_addProduct 66 = .ok (.lload 10, 2) := by decide +kernel
theorem dX4_addProduct_68 : decode cX4_addProduct 68 = .ok (.ladd, 1) := by decide +kernel
theorem dX4_addProduct_69 : decode cX4_addProduct 69 = .ok (.lstore 13, 2) := by decide +kernel
theorem dX4_addProduct_71 : decode cX4_addProduct 71 = .ok (.aload_n 0, 1) := by decide +kernel
theorem dX4_addProduct_72 : decode cX4_addProduct 72 = .ok (.getfield 9, 3) := by decide +kernel
theorem dX4_addProduct_75 : decode cX4_addProduct 75 = .ok (.iload 9, 2) := by decide +kernel
theorem dX4_addProduct_77 : decode cX4_addProduct 77 = .ok (.iload 12, 2) := by decide +kernel
theorem dX4_addProduct_79 : decode cX4_addProduct 79 = .ok (.iadd, 1) := by decide +kernel
theorem dX4_addProduct_80 : decode cX4_addProduct 80 = .ok (.lload 13, 2) := by decide +kernel
theorem dX4_addProduct_82 : decode cX4_addProduct 82 = .ok (.ldc2_w 15, 3) := by decide +kernel
theorem dX4_addProduct_85 : decode cX4_addProduct 85 = .ok (.land, 1) := by decide +kernel
theorem dX4_addProduct_86 : decode cX4_addProduct 86 = .ok (.l2i, 1) := by decide +kernel
theorem dX4_addProduct_87 : decode cX4_addProduct 87 = .ok (.iastore, 1) := by decide +kernel
theorem dX4_addProduct_88 : decode cX4_addProduct 88 = .ok (.lload 13, 2) := by decide +kernel
theorem dX4_addProduct_90 : decode cX4_addProduct 90 = .ok (.bipush 31, 2) := by decide +kernel
theorem dX4_addProduct_92 : decode cX4_addProduct 92 = .ok (.lshr, 1) := by decide +kernel
theorem dX4_addProduct_93 : decode cX4_addProduct 93 = .ok (.lstore 10, 2) := by decide +kernel
theorem dX4_addProduct_95 : decode cX4_addProduct 95 = .ok (.iinc 12 1, 3) := by decide +kernel
theorem dX4_addProduct_98 : decode cX4_addProduct 98 = .ok (.goto (-65), 3) := by decide +kernel
theorem dX4_addProduct_101 : decode cX4_addProduct 101 = .ok (.aload_n 0, 1) := by decide +kernel
theorem dX4_addProduct_102 : decode cX4_addProduct 102 = .ok (.getfield 9, 3) := by decide +kernel
theorem dX4_addProduct_105 : decode cX4_addProduct 105 = .ok (.iload 9, 2) := by decide +kernel
theorem dX4_addProduct_107 : decode cX4_addProduct 107 = .ok (.iload 5, 2) := by decide +kernel
theorem dX4_addProduct_109 : decode cX4_addProduct 109 = .ok (.iadd, 1) := by decide +kernel
theorem dX4_addProduct_110 : decode cX4_addProduct 110 = .ok (.lload 10, 2) := by decide +kernel
theorem dX4_addProduct_112 : decode cX4_addProduct 112 = .ok (.l2i, 1) := by decide +kernel
theorem dX4_addProduct_113 : decode cX4_addProduct 113 = .ok (.iastore, 1) := by decide +kernel
theorem dX4_addProduct_114 : decode cX4_addProduct 114 = .ok (.iinc 6 1, 3) := by decide +kernel
theorem dX4_addProduct_117 : decode cX4_addProduct 117 = .ok (.goto (-114), 3) := by decide +kernel
theorem dX4_addProduct_120 : decode cX4_addProduct 120 = .ok (.return_, 1) := by decide +kernel
theorem dX4_quotient_0 : decode cX4_quotient 0 = .ok (.aload_n 0, 1) := by decide +kernel
theorem dX4_quotient_1 : decode cX4_quotient 1 = .ok (.aload_n 2, 1) := by decide +kernel
theorem dX4_quotient_2 : decode cX4_quotient 2 = .ok (.getfield 17, 3) := by decide +kernel
theorem dX4_quotient_5 : decode cX4_quotient 5 = .ok (.aload_n 2, 1) := by decide +kernel
theorem dX4_quotient_6 : decode cX4_quotient 6 = .ok (.getfield 23, 3) := by decide +kernel
theorem dX4_quotient_9 : decode cX4_quotient 9 = .ok (.invokevirtual 26, 3) := by decide +kernel
theorem dX4_quotient_12 : decode cX4_quotient 12 = .ok (.ifCond .eq 24, 3) := by decide +kernel
theorem dX4_quotient_15 : decode cX4_quotient 15 = .ok (.aload_n 0, 1) := by decide +kernel
theorem dX4_quotient_16 : decode cX4_quotient 16 = .ok (.aload_n 1, 1) := by decide +kernel
theorem dX4_quotient_17 : decode cX4_quotient 17 = .ok (.iload 4, 2) := by decide +kernel
theorem dX4_quotient_19 : decode cX4_quotient 19 = .ok (.invokevirtual 30, 3) := by decide +kernel
theorem dX4_quotient_22 : decode cX4_quotient 22 = .ok (.aload_n 0, 1) := by decide +kernel
theorem dX4_quotient_23 : decode cX4_quotient 23 = .ok (.iload 4, 2) := by decide +kernel
theorem dX4_quotient_25 : decode cX4_quotient 25 = .ok (.aload_n 1, 1) := by decide +kernel
theorem dX4_quotient_26 : decode cX4_quotient 26 = .ok (.getfield 23, 3) := by decide +kernel
theorem dX4_quotient_29 : decode cX4_quotient 29 = .ok (.aload_n 3, 1) := by decide +kernel
theorem dX4_quotient_30 : decode cX4_quotient 30 = .ok (.getfield 17, 3) := by decide +kernel
theorem dX4_quotient_33 : decode cX4_quotient 33 = .ok (.invokevirtual 34, 3) := by decide +kernel
theorem dX4_quotient_36 : decode cX4_quotient 36 = .ok (.return_, 1) := by decide +kernel
theorem dX4_greatestDivisor_0 : decode cX4_greatestDivisor 0 = .ok (.iload 4, 2) := by decide +kernel
theorem dX4_greatestDivisor_2 : decode cX4_greatestDivisor 2 = .ok (.istore 5, 2) := by decide +kernel
theorem dX4_greatestDivisor_4 : decode cX4_greatestDivisor 4 = .ok (.aload_n 1, 1) := by decide +kernel
theorem dX4_greatestDivisor_5 : decode cX4_greatestDivisor 5 = .ok (.getfield 23, 3) := by decide +kernel
theorem dX4_greatestDivisor_8 : decode cX4_greatestDivisor 8 = .ok (.istore 6, 2) := by decide +kernel
theorem dX4_greatestDivisor_10 : decode cX4_greatestDivisor 10 = .ok (.iload 4, 2) := by decide +kernel
theorem dX4_greatestDivisor_12 : decode cX4_greatestDivisor 12 = .ok (.aload_n 1, 1) := by decide +kernel
theorem dX4_greatestDivisor_13 : decode cX4_greatestDivisor 13 = .ok (.getfield 23, 3) := by decide +kernel
theorem dX4_greatestDivisor_16 : decode cX4_greatestDivisor 16 = .ok (.iadd, 1) := by decide +kernel
theorem dX4_greatestDivisor_17 : decode cX4_greatestDivisor 17 = .ok (.iconst 1, 1) := by decide +kernel
theorem dX4_greatestDivisor_18 : decode cX4_greatestDivisor 18 = .ok (.iadd, 1) := by decide +kernel
theorem dX4_greatestDivisor_19 : decode cX4_greatestDivisor 19 = .ok (.istore 7, 2) := by decide +kernel
theorem dX4_greatestDivisor_21 : decode cX4_greatestDivisor 21 = .ok (.aload_n 2, 1) := by decide +kernel
theorem dX4_greatestDivisor_22 : decode cX4_greatestDivisor 22 = .ok (.getfield 23, 3) := by decide +kernel
theorem dX4_greatestDivisor_25 : decode cX4_greatestDivisor 25 = .ok (.istore 8, 2) := by decide +kernel
theorem dX4_greatestDivisor_27 : decode cX4_greatestDivisor 27 = .ok (.aload_n 0, 1) := by decide +kernel
theorem dX4_greatestDivisor_28 : decode cX4_greatestDivisor 28 = .ok (.aload_n 1, 1) := by decide +kernel
theorem dX4_greatestDivisor_29 : decode cX4_greatestDivisor 29 = .ok (.iload 5, 2) := by decide +kernel
theorem dX4_greatestDivisor_31 : decode cX4_greatestDivisor 31 = .ok (.invokevirtual 30, 3) := by decide +kernel
theorem dX4_greatestDivisor_34 : decode cX4_greatestDivisor 34 = .ok (.aload_n 0, 1) := by decide +kernel
theorem dX4_greatestDivisor_35 : decode cX4_greatestDivisor 35 = .ok (.aload_n 2, 1) := by decide +kernel
theorem dX4_greatestDivisor_36 : decode cX4_greatestDivisor 36 = .ok (.iload 7, 2) := by decide +kernel
theorem dX4_greatestDivisor_38 : decode cX4_greatestDivisor 38 = .ok (.invokevirtual 30, 3) := by decide +kernel
theorem dX4_greatestDivisor_41 : decode cX4_greatestDivisor 41 = .ok (.bipush 62, 2) := by decide +kernel
theorem dX4_greatestDivisor_43 : decode cX4_greatestDivisor 43 = .ok (.aload_n 1, 1) := by decide +kernel
theorem dX4_greatestDivisor_44 : decode cX4_greatestDivisor 44 = .ok (.getfield 23, 3) := by decide +kernel
theorem dX4_greatestDivisor_47 : decode cX4_greatestDivisor 47 = .ok (.aload_n 2, 1) := by decide +kernel
theorem dX4_greatestDivisor_48 : decode cX4_greatestDivisor 48 = .ok (.getfield 23, 3) := by decide +kernel
theorem dX4_greatestDivisor_51 : decode cX4_greatestDivisor 51 = .ok (.iadd, 1) := by decide +kernel
theorem dX4_greatestDivisor_52 : decode cX4_greatestDivisor 52 = .ok (.imul, 1) := by decide +kernel
theorem dX4_greatestDivisor_53 : decode cX4_greatestDivisor 53 = .ok (.iconst 2, 1) := by decide +kernel
theorem dX4_greatestDivisor_54 : decode cX4_greatestDivisor 54 = .ok (.iadd, 1) := by decide +kernel
theorem dX4_greatestDivisor_55 : decode cX4_greatestDivisor 55 = .ok (.istore 9, 2) := by decide +kernel
theorem dX4_greatestDivisor_57 : decode cX4_greatestDivisor 57 = .ok (.iconst 0, 1) := by decide +kernel
theorem dX4_greatestDivisor_58 : decode cX4_greatestDivisor 58 = .ok (.istore 10, 2) := by decide +kernel
theorem dX4_greatestDivisor_60 : decode cX4_greatestDivisor 60 = .ok (.iload 10, 2) := by decide +kernel
theorem dX4_greatestDivisor_62 : decode cX4_greatestDivisor 62 = .ok (.iload 9, 2) := by decide +kernel
theorem dX4_greatestDivisor_64 : decode cX4_greatestDivisor 64 = .ok (.if_icmp .ge 62, 3) := by decide +kernel
theorem dX4_greatestDivisor_67 : decode cX4_greatestDivisor 67 = .ok (.aload_n 0, 1) := by decide +kernel
theorem dX4_greatestDivisor_68 : decode cX4_greatestDivisor 68 = .ok (.iload 7, 2) := by decide +kernel
theorem dX4_greatestDivisor_70 : decode cX4_greatestDivisor 70 = .ok (.iload 8, 2) := by decide +kernel
theorem dX4_greatestDivisor_72 : decode cX4_greatestDivisor 72 = .ok (.invokevirtual 26, 3) := by decide +kernel
theorem dX4_greatestDivisor_75 : decode cX4_greatestDivisor 75 = .ok (.ifCond .eq 51, 3) := by decide +kernel
theorem dX4_greatestDivisor_78 : decode cX4_greatestDivisor 78 = .ok (.aload_n 0, 1) := by decide +kernel
theorem dX4_greatestDivisor_79 : decode cX4_greatestDivisor 79 = .ok (.iload 5, 2) := by decide +kernel
theorem dX4_greatestDivisor_81 : decode cX4_greatestDivisor 81 = .ok (.iload 6, 2) := by decide +kernel
theorem dX4_greatestDivisor_83 : decode cX4_greatestDivisor 83 = .ok (.iconst (-1), 1) := by decide +kernel
theorem dX4_greatestDivisor_84 : decode cX4_greatestDivisor 84 = .ok (.invokevirtual 34, 3) := by decide +kernel
theorem dX4_greatestDivisor_87 : decode cX4_greatestDivisor 87 = .ok (.iload 5, 2) := by decide +kernel
theorem dX4_greatestDivisor_89 : decode cX4_greatestDivisor 89 = .ok (.istore 11, 2) := by decide +kernel
theorem dX4_greatestDivisor_91 : decode cX4_greatestDivisor 91 = .ok (.iload 6, 2) := by decide +kernel
theorem dX4_greatestDivisor_93 : decode cX4_greatestDivisor 93 = .ok (.aload_n 0, 1) := by decide +kernel
theorem dX4_greatestDivisor_94 : decode cX4_greatestDivisor 94 = .ok (.getfield 38, 3) := by decide +kernel
theorem dX4_greatestDivisor_97 : decode cX4_greatestDivisor 97 = .ok (.invokestatic 41, 3) := by decide +kernel
theorem dX4_greatestDivisor_100 : decode cX4_greatestDivisor 100 = .ok (.istore 12, 2) := by decide +kernel
theorem dX4_greatestDivisor_102 : decode cX4_greatestDivisor 102 = .ok (.iload 7, 2) := by decide +kernel
theorem dX4_greatestDivisor_104 : decode cX4_greatestDivisor 104 = .ok (.istore 5, 2) := by decide +kernel
theorem dX4_greatestDivisor_106 : decode cX4_greatestDivisor 106 = .ok (.aload_n 0, 1) := by decide +kernel
theorem dX4_greatestDivisor_107 : decode cX4_greatestDivisor 107 = .ok (.getfield 38, 3) := by decide +kernel
theorem dX4_greatestDivisor_110 : decode cX4_greatestDivisor 110 = .ok (.istore 6, 2) := by decide +kernel
theorem dX4_greatestDivisor_112 : decode cX4_greatestDivisor 112 = .ok (.iload 11, 2) := by decide +kernel
theorem dX4_greatestDivisor_114 : decode cX4_greatestDivisor 114 = .ok (.istore 7, 2) := by decide +kernel
theorem dX4_greatestDivisor_116 : decode cX4_greatestDivisor 116 = .ok (.iload 12, 2) := by decide +kernel
theorem dX4_greatestDivisor_118 : decode cX4_greatestDivisor 118 = .ok (.istore 8, 2) := by decide +kernel
theorem dX4_greatestDivisor_120 : decode cX4_greatestDivisor 120 = .ok (.iinc 10 1, 3) := by decide +kernel
theorem dX4_greatestDivisor_123 : decode cX4_greatestDivisor 123 = .ok (.goto (-63), 3) := by decide +kernel
theorem dX4_greatestDivisor_126 : decode cX4_greatestDivisor 126 = .ok (.aload_n 0, 1) := by decide +kernel
theorem dX4_greatestDivisor_127 : decode cX4_greatestDivisor 127 = .ok (.getfield 9, 3) := by decide +kernel
theorem dX4_greatestDivisor_130 : decode cX4_greatestDivisor 130 = .ok (.iload 5, 2) := by decide +kernel
theorem dX4_greatestDivisor_132 : decode cX4_greatestDivisor 132 = .ok (.aload_n 0, 1) := by decide +kernel
theorem dX4_greatestDivisor_133 : decode cX4_greatestDivisor 133 = .ok (.getfield 9, 3) := by decide +kernel
theorem dX4_greatestDivisor_136 : decode cX4_greatestDivisor 136 = .ok (.aload_n 3, 1) := by decide +kernel
theorem dX4_greatestDivisor_137 : decode cX4_greatestDivisor 137 = .ok (.getfield 17, 3) := by decide +kernel
theorem dX4_greatestDivisor_140 : decode cX4_greatestDivisor 140 = .ok (.iload 6, 2) := by decide +kernel
theorem dX4_greatestDivisor_142 : decode cX4_greatestDivisor 142 = .ok (.invokestatic 47, 3) := by decide +kernel
theorem dX4_greatestDivisor_145 : decode cX4_greatestDivisor 145 = .ok (.return_, 1) := by decide +kernel
theorem dX4_powerModulo_0 : decode cX4_powerModulo 0 = .ok (.aload_n 0, 1) := by decide +kernel
theorem dX4_powerModulo_1 : decode cX4_powerModulo 1 = .ok (.aload_n 3, 1) := by decide +kernel
theorem dX4_powerModulo_2 : decode cX4_powerModulo 2 = .ok (.getfield 17, 3) := by decide +kernel
theorem dX4_powerModulo_5 : decode cX4_powerModulo 5 = .ok (.aload_n 3, 1) := by decide +kernel
theorem dX4_powerModulo_6 : decode cX4_powerModulo 6 = .ok (.getfield 23, 3) := by decide +kernel
theorem dX4_powerModulo_9 : decode cX4_powerModulo 9 = .ok (.invokevirtual 26, 3) := by decide +kernel
theorem dX4_powerModulo_12 : decode cX4_powerModulo 12 = .ok (.ifCond .eq 18, 3) := by decide +kernel
theorem dX4_powerModulo_15 : decode cX4_powerModulo 15 = .ok (.aload_n 0, 1) := by decide +kernel
theorem dX4_powerModulo_16 : decode cX4_powerModulo 16 = .ok (.aload_n 0, 1) := by decide +kernel
theorem dX4_powerModulo_17 : decode cX4_powerModulo 17 = .ok (.getfield 53, 3) := by decide +kernel
theorem dX4_powerModulo_20 : decode cX4_powerModulo 20 = .ok (.aload_n 0, 1) := by decide +kernel
theorem dX4_powerModulo_21 : decode cX4_powerModulo 21 = .ok (.getfield 38, 3) := by decide +kernel
theorem dX4_powerModulo_24 : decode cX4_powerModulo 24 = .ok (.invokevirtual 56, 3) := by decide +kernel
theorem dX4_powerModulo_27 : decode cX4_powerModulo 27 = .ok (.ifCond .eq 4, 3) := by decide +kernel
theorem dX4_powerModulo_30 : decode cX4_powerModulo 30 = .ok (.return_, 1) := by decide +kernel
theorem dX4_powerModulo_31 : decode cX4_powerModulo 31 = .ok (.iload 5, 2) := by decide +kernel
theorem dX4_powerModulo_33 : decode cX4_powerModulo 33 = .ok (.istore 6, 2) := by decide +kernel
theorem dX4_powerModulo_35 : decode cX4_powerModulo 35 = .ok (.iload 5, 2) := by decide +kernel
theorem dX4_powerModulo_37 : decode cX4_powerModulo 37 = .ok (.aload_n 0, 1) := by decide +kernel
theorem dX4_powerModulo_38 : decode cX4_powerModulo 38 = .ok (.getfield 38, 3) := by decide +kernel
theorem dX4_powerModulo_41 : decode cX4_powerModulo 41 = .ok (.iadd, 1) := by decide +kernel
theorem dX4_powerModulo_42 : decode cX4_powerModulo 42 = .ok (.istore 7, 2) := by decide +kernel
theorem dX4_powerModulo_44 : decode cX4_powerModulo 44 = .ok (.aload_n 0, 1) := by decide +kernel
theorem dX4_powerModulo_45 : decode cX4_powerModulo 45 = .ok (.aload_n 1, 1) := by decide +kernel
theorem dX4_powerModulo_46 : decode cX4_powerModulo 46 = .ok (.iload 6, 2) := by decide +kernel
theorem dX4_powerModulo_48 : decode cX4_powerModulo 48 = .ok (.iload 7, 2) := by decide +kernel
theorem dX4_powerModulo_50 : decode cX4_powerModulo 50 = .ok (.invokevirtual 59, 3) := by decide +kernel
theorem dX4_powerModulo_53 : decode cX4_powerModulo 53 = .ok (.aload 4, 2) := by decide +kernel
theorem dX4_powerModulo_55 : decode cX4_powerModulo 55 = .ok (.getfield 17, 3) := by decide +kernel
theorem dX4_powerModulo_58 : decode cX4_powerModulo 58 = .ok (.istore 8, 2) := by decide +kernel
theorem dX4_powerModulo_60 : decode cX4_powerModulo 60 = .ok (.aload_n 0, 1) := by decide +kernel
theorem dX4_powerModulo_61 : decode cX4_powerModulo 61 = .ok (.getfield 9, 3) := by decide +kernel
theorem dX4_powerModulo_64 : decode cX4_powerModulo 64 = .ok (.iload 8, 2) := by decide +kernel
theorem dX4_powerModulo_66 : decode cX4_powerModulo 66 = .ok (.iconst 1, 1) := by decide +kernel
theorem dX4_powerModulo_67 : decode cX4_powerModulo 67 = .ok (.iastore, 1) := by decide +kernel
theorem dX4_powerModulo_68 : decode cX4_powerModulo 68 = .ok (.iconst 0, 1) := by decide +kernel
theorem dX4_powerModulo_69 : decode cX4_powerModulo 69 = .ok (.istore 9, 2) := by decide +kernel
theorem dX4_powerModulo_71 : decode cX4_powerModulo 71 = .ok (.bipush 31, 2) := by decide +kernel
theorem dX4_powerModulo_73 : decode cX4_powerModulo 73 = .ok (.aload_n 2, 1) := by decide +kernel
theorem dX4_powerModulo_74 : decode cX4_powerModulo 74 = .ok (.getfield 23, 3) := by decide +kernel
theorem dX4_powerModulo_77 : decode cX4_powerModulo 77 = .ok (.imul, 1) := by decide +kernel
theorem dX4_powerModulo_78 : decode cX4_powerModulo 78 = .ok (.iconst 1, 1) := by decide +kernel
theorem dX4_powerModulo_79 : decode cX4_powerModulo 79 = .ok (.isub, 1) := by decide +kernel
theorem dX4_powerModulo_80 : decode cX4_powerModulo 80 = .ok (.istore 10, 2) := by decide +kernel
theorem dX4_powerModulo_82 : decode cX4_powerModulo 82 = .ok (.iload 10, 2) := by decide +kernel
theorem dX4_powerModulo_84 : decode cX4_powerModulo 84 = .ok (.ifCond .lt 50, 3) := by decide +kernel
theorem dX4_powerModulo_87 : decode cX4_powerModulo 87 = .ok (.iload 9, 2) := by decide +kernel
theorem dX4_powerModulo_89 : decode cX4_powerModulo 89 = .ok (.ifCond .eq 13, 3) := by decide +kernel
theorem dX4_powerModulo_92 : decode cX4_powerModulo 92 = .ok (.aload_n 0, 1) := by decide +kernel
theorem dX4_powerModulo_93 : decode cX4_powerModulo 93 = .ok (.iload 8, 2) := by decide +kernel
theorem dX4_powerModulo_95 : decode cX4_powerModulo 95 = .ok (.iload 8, 2) := by decide +kernel
theorem dX4_powerModulo_97 : decode cX4_powerModulo 97 = .ok (.iload 7, 2) := by decide +kernel
theorem dX4_powerModulo_99 : decode cX4_powerModulo 99 = .ok (.invokevirtual 63, 3) := by decide +kernel
theorem dX4_powerModulo_102 : decode cX4_powerModulo 102 = .ok (.aload_n 0, 1) := by decide +kernel
theorem dX4_powerModulo_103 : decode cX4_powerModulo 103 = .ok (.aload_n 2, 1) := by decide +kernel
theorem dX4_powerModulo_104 : decode cX4_powerModulo 104 = .ok (.getfield 17, 3) := by decide +kernel
theorem dX4_powerModulo_107 : decode cX4_powerModulo 107 = .ok (.iload 10, 2) := by decide +kernel
theorem dX4_powerModulo_109 : decode cX4_powerModulo 109 = .ok (.invokevirtual 66, 3) := by decide +kernel
theorem dX4_powerModulo_112 : decode cX4_powerModulo 112 = .ok (.ifCond .eq 16, 3) := by decide +kernel
theorem dX4_powerModulo_115 : decode cX4_powerModulo 115 = .ok (.aload_n 0, 1) := by decide +kernel
theorem dX4_powerModulo_116 : decode cX4_powerModulo 116 = .ok (.iload 8, 2) := by decide +kernel
theorem dX4_powerModulo_118 : decode cX4_powerModulo 118 = .ok (.iload 6, 2) := by decide +kernel
theorem dX4_powerModulo_120 : decode cX4_powerModulo 120 = .ok (.iload 7, 2) := by decide +kernel
theorem dX4_powerModulo_122 : decode cX4_powerModulo 122 = .ok (.invokevirtual 63, 3) := by decide +kernel
theorem dX4_powerModulo_125 : decode cX4_powerModulo 125 = .ok (.iconst 1, 1) := by decide +kernel
theorem dX4_powerModulo_126 : decode cX4_powerModulo 126 = .ok (.istore 9, 2) := by decide +kernel
theorem dX4_powerModulo_128 : decode cX4_powerModulo 128 = .ok (.iinc 10 (-1), 3) := by decide +kernel
theorem dX4_powerModulo_131 : decode cX4_powerModulo 131 = .ok (.goto (-49), 3) := by decide +kernel
theorem dX4_powerModulo_134 : decode cX4_powerModulo 134 = .ok (.return_, 1) := by decide +kernel
theorem dX4_isOne_0 : decode cX4_isOne 0 = .ok (.iload_n 2, 1) := by decide +kernel
theorem dX4_isOne_1 : decode cX4_isOne 1 = .ok (.iconst 1, 1) := by decide +kernel
theorem dX4_isOne_2 : decode cX4_isOne 2 = .ok (.if_icmp .ne 17, 3) := by decide +kernel
theorem dX4_isOne_5 : decode cX4_isOne 5 = .ok (.aload_n 0, 1) := by decide +kernel
theorem dX4_isOne_6 : decode cX4_isOne 6 = .ok (.getfield 9, 3) := by decide +kernel
theorem dX4_isOne_9 : decode cX4_isOne 9 = .ok (.iload_n 1, 1) := by decide +kernel
theorem dX4_isOne_10 : decode cX4_isOne 10 = .ok (.iaload, 1) := by decide +kernel
theorem dX4_isOne_11 : decode cX4_isOne 11 = .ok (.iconst 1, 1) := by decide +kernel
theorem dX4_isOne_12 : decode cX4_isOne 12 = .ok (.if_icmp .ne 7, 3) := by decide +kernel
theorem dX4_isOne_15 : decode cX4_isOne 15 = .ok (.iconst 1, 1) := by decide +kernel
theorem dX4_isOne_16 : decode cX4_isOne 16 = .ok (.goto 4, 3) := by decide +kernel
theorem dX4_isOne_19 : decode cX4_isOne 19 = .ok (.iconst 0, 1) := by decide +kernel
theorem dX4_isOne_20 : decode cX4_isOne 20 = .ok (.ireturn, 1) := by decide +kernel
theorem dX4_hasBit_0 : decode cX4_hasBit 0 = .ok (.aload_n 0, 1) := by decide +kernel
theorem dX4_hasBit_1 : decode cX4_hasBit 1 = .ok (.getfield 9, 3) := by decide +kernel
theorem dX4_hasBit_4 : decode cX4_hasBit 4 = .ok (.iload_n 1, 1) := by decide +kernel
theorem dX4_hasBit_5 : decode cX4_hasBit 5 = .ok (.iload_n 2, 1) := by decide +kernel
theorem dX4_hasBit_6 : decode cX4_hasBit 6 = .ok (.bipush 31, 2) := by decide +kernel
theorem dX4_hasBit_8 : decode cX4_hasBit 8 = .ok (.idiv, 1) := by decide +kernel
theorem dX4_hasBit_9 : decode cX4_hasBit 9 = .ok (.iadd, 1) := by decide +kernel
theorem dX4_hasBit_10 : decode cX4_hasBit 10 = .ok (.iaload, 1) := by decide +kernel
theorem dX4_hasBit_11 : decode cX4_hasBit 11 = .ok (.iload_n 2, 1) := by decide +kernel
theorem dX4_hasBit_12 : decode cX4_hasBit 12 = .ok (.bipush 31, 2) := by decide +kernel
theorem dX4_hasBit_14 : decode cX4_hasBit 14 = .ok (.irem, 1) := by decide +kernel
theorem dX4_hasBit_15 : decode cX4_hasBit 15 = .ok (.ishr, 1) := by decide +kernel
theorem dX4_hasBit_16 : decode cX4_hasBit 16 = .ok (.iconst 1, 1) := by decide +kernel
theorem dX4_hasBit_17 : decode cX4_hasBit 17 = .ok (.iand, 1) := by decide +kernel
theorem dX4_hasBit_18 : decode cX4_hasBit 18 = .ok (.ifCond .eq 7, 3) := by decide +kernel
theorem dX4_hasBit_21 : decode cX4_hasBit 21 = .ok (.iconst 1, 1) := by decide +kernel
theorem dX4_hasBit_22 : decode cX4_hasBit 22 = .ok (.goto 4, 3) := by decide +kernel
theorem dX4_hasBit_25 : decode cX4_hasBit 25 = .ok (.iconst 0, 1) := by decide +kernel
theorem dX4_hasBit_26 : decode cX4_hasBit 26 = .ok (.ireturn, 1) := by decide +kernel
theorem dX4_load_0 : decode cX4_load 0 = .ok (.aload_n 0, 1) := by decide +kernel
theorem dX4_load_1 : decode cX4_load 1 = .ok (.getfield 9, 3) := by decide +kernel
theorem dX4_load_4 : decode cX4_load 4 = .ok (.aload_n 1, 1) := by decide +kernel
theorem dX4_load_5 : decode cX4_load 5 = .ok (.getfield 17, 3) := by decide +kernel
theorem dX4_load_8 : decode cX4_load 8 = .ok (.aload_n 0, 1) := by decide +kernel
theorem dX4_load_9 : decode cX4_load 9 = .ok (.getfield 9, 3) := by decide +kernel
theorem dX4_load_12 : decode cX4_load 12 = .ok (.iload_n 2, 1) := by decide +kernel
theorem dX4_load_13 : decode cX4_load 13 = .ok (.aload_n 1, 1) := by decide +kernel
theorem dX4_load_14 : decode cX4_load 14 = .ok (.getfield 23, 3) := by decide +kernel
theorem dX4_load_17 : decode cX4_load 17 = .ok (.invokestatic 47, 3) := by decide +kernel
theorem dX4_load_20 : decode cX4_load 20 = .ok (.aload_n 0, 1) := by decide +kernel
theorem dX4_load_21 : decode cX4_load 21 = .ok (.getfield 9, 3) := by decide +kernel
theorem dX4_load_24 : decode cX4_load 24 = .ok (.iload_n 2, 1) := by decide +kernel
theorem dX4_load_25 : decode cX4_load 25 = .ok (.aload_n 1, 1) := by decide +kernel
theorem dX4_load_26 : decode cX4_load 26 = .ok (.getfield 23, 3) := by decide +kernel
theorem dX4_load_29 : decode cX4_load 29 = .ok (.iadd, 1) := by decide +kernel
theorem dX4_load_30 : decode cX4_load 30 = .ok (.iconst 0, 1) := by decide +kernel
theorem dX4_load_31 : decode cX4_load 31 = .ok (.iastore, 1) := by decide +kernel
theorem dX4_load_32 : decode cX4_load 32 = .ok (.return_, 1) := by decide +kernel
theorem dX4_reduceToBase_0 : decode cX4_reduceToBase 0 = .ok (.aload_n 0, 1) := by decide +kernel
theorem dX4_reduceToBase_1 : decode cX4_reduceToBase 1 = .ok (.getfield 9, 3) := by decide +kernel
theorem dX4_reduceToBase_4 : decode cX4_reduceToBase 4 = .ok (.iload_n 3, 1) := by decide +kernel
theorem dX4_reduceToBase_5 : decode cX4_reduceToBase 5 = .ok (.iload_n 3, 1) := by decide +kernel
theorem dX4_reduceToBase_6 : decode cX4_reduceToBase 6 = .ok (.aload_n 0, 1) := by decide +kernel
theorem dX4_reduceToBase_7 : decode cX4_reduceToBase 7 = .ok (.getfield 38, 3) := by decide +kernel
theorem dX4_reduceToBase_10 : decode cX4_reduceToBase 10 = .ok (.iadd, 1) := by decide +kernel
theorem dX4_reduceToBase_11 : decode cX4_reduceToBase 11 = .ok (.iconst 1, 1) := by decide +kernel
theorem dX4_reduceToBase_12 : decode cX4_reduceToBase 12 = .ok (.iadd, 1) := by decide +kernel
theorem dX4_reduceToBase_13 : decode cX4_reduceToBase 13 = .ok (.iconst 0, 1) := by decide +kernel
theorem dX4_reduceToBase_14 : decode cX4_reduceToBase 14 = .ok (.invokestatic 69, 3) := by decide +kernel
theorem dX4_reduceToBase_17 : decode cX4_reduceToBase 17 = .ok (.aload_n 1, 1) := by decide +kernel
theorem dX4_reduceToBase_18 : decode cX4_reduceToBase 18 = .ok (.getfield 23, 3) := by decide +kernel
theorem dX4_reduceToBase_21 : decode cX4_reduceToBase 21 = .ok (.iconst 1, 1) := by decide +kernel
theorem dX4_reduceToBase_22 : decode cX4_reduceToBase 22 = .ok (.isub, 1) := by decide +kernel
theorem dX4_reduceToBase_23 : decode cX4_reduceToBase 23 = .ok (.istore 4, 2) := by decide +kernel
theorem dX4_reduceToBase_25 : decode cX4_reduceToBase 25 = .ok (.iload 4, 2) := by decide +kernel
theorem dX4_reduceToBase_27 : decode cX4_reduceToBase 27 = .ok (.ifCond .lt 57, 3) := by decide +kernel
theorem dX4_reduceToBase_30 : decode cX4_reduceToBase 30 = .ok (.aload_n 0, 1) := by decide +kernel
theorem dX4_reduceToBase_31 : decode cX4_reduceToBase 31 = .ok (.getfield 9, 3) := by decide +kernel
theorem dX4_reduceToBase_34 : decode cX4_reduceToBase 34 = .ok (.iload_n 3, 1) := by decide +kernel
theorem dX4_reduceToBase_35 : decode cX4_reduceToBase 35 = .ok (.aload_n 0, 1) := by decide +kernel
theorem dX4_reduceToBase_36 : decode cX4_reduceToBase 36 = .ok (.getfield 9, 3) := by decide +kernel
theorem dX4_reduceToBase_39 : decode cX4_reduceToBase 39 = .ok (.iload_n 3, 1) := by decide +kernel
theorem dX4_reduceToBase_40 : decode cX4_reduceToBase 40 = .ok (.iconst 1, 1) := by decide +kernel
theorem dX4_reduceToBase_41 : decode cX4_reduceToBase 41 = .ok (.iadd, 1) := by decide +kernel
theorem dX4_reduceToBase_42 : decode cX4_reduceToBase 42 = .ok (.aload_n 0, 1) := by decide +kernel
theorem dX4_reduceToBase_43 : decode cX4_reduceToBase 43 = .ok (.getfield 38, 3) := by decide +kernel
theorem dX4_reduceToBase_46 : decode cX4_reduceToBase 46 = .ok (.invokestatic 47, 3) := by decide +kernel
theorem dX4_reduceToBase_49 : decode cX4_reduceToBase 49 = .ok (.aload_n 0, 1) := by decide +kernel
theorem dX4_reduceToBase_50 : decode cX4_reduceToBase 50 = .ok (.getfield 9, 3) := by decide +kernel
theorem dX4_reduceToBase_53 : decode cX4_reduceToBase 53 = .ok (.iload_n 3, 1) := by decide +kernel
theorem dX4_reduceToBase_54 : decode cX4_reduceToBase 54 = .ok (.aload_n 0, 1) := by decide +kernel
theorem dX4_reduceToBase_55 : decode cX4_reduceToBase 55 = .ok (.getfield 9, 3) := by decide +kernel
theorem dX4_reduceToBase_58 : decode cX4_reduceToBase 58 = .ok (.aload_n 1, 1) := by decide +kernel
theorem dX4_reduceToBase_59 : decode cX4_reduceToBase 59 = .ok (.getfield 17, 3) := by decide +kernel
theorem dX4_reduceToBase_62 : decode cX4_reduceToBase 62 = .ok (.iload 4, 2) := by decide +kernel
theorem dX4_reduceToBase_64 : decode cX4_reduceToBase 64 = .ok (.iadd, 1) := by decide +kernel
theorem dX4_reduceToBase_65 : decode cX4_reduceToBase 65 = .ok (.iaload, 1) := by decide +kernel
theorem dX4_reduceToBase_66 : decode cX4_reduceToBase 66 = .ok (.iastore, 1) := by decide +kernel
theorem dX4_reduceToBase_67 : decode cX4_reduceToBase 67 = .ok (.aload_n 0, 1) := by decide +kernel
theorem dX4_reduceToBase_68 : decode cX4_reduceToBase 68 = .ok (.iload_n 3, 1) := by decide +kernel
theorem dX4_reduceToBase_69 : decode cX4_reduceToBase 69 = .ok (.aload_n 0, 1) := by decide +kernel
theorem dX4_reduceToBase_70 : decode cX4_reduceToBase 70 = .ok (.iload_n 3, 1) := by decide +kernel
theorem dX4_reduceToBase_71 : decode cX4_reduceToBase 71 = .ok (.invokevirtual 75, 3) := by decide +kernel
theorem dX4_reduceToBase_74 : decode cX4_reduceToBase 74 = .ok (.invokevirtual 79, 3) := by decide +kernel
theorem dX4_reduceToBase_77 : decode cX4_reduceToBase 77 = .ok (.pop, 1) := by decide +kernel
theorem dX4_reduceToBase_78 : decode cX4_reduceToBase 78 = .ok (.iinc 4 (-1), 3) := by decide +kernel
theorem dX4_reduceToBase_81 : decode cX4_reduceToBase 81 = .ok (.goto (-56), 3) := by decide +kernel
theorem dX4_reduceToBase_84 : decode cX4_reduceToBase 84 = .ok (.aload_n 0, 1) := by decide +kernel
theorem dX4_reduceToBase_85 : decode cX4_reduceToBase 85 = .ok (.getfield 9, 3) := by decide +kernel
theorem dX4_reduceToBase_88 : decode cX4_reduceToBase 88 = .ok (.iload_n 3, 1) := by decide +kernel
theorem dX4_reduceToBase_89 : decode cX4_reduceToBase 89 = .ok (.aload_n 0, 1) := by decide +kernel
theorem dX4_reduceToBase_90 : decode cX4_reduceToBase 90 = .ok (.getfield 9, 3) := by decide +kernel
theorem dX4_reduceToBase_93 : decode cX4_reduceToBase 93 = .ok (.iload_n 2, 1) := by decide +kernel
theorem dX4_reduceToBase_94 : decode cX4_reduceToBase 94 = .ok (.aload_n 0, 1) := by decide +kernel
theorem dX4_reduceToBase_95 : decode cX4_reduceToBase 95 = .ok (.getfield 38, 3) := by decide +kernel
theorem dX4_reduceToBase_98 : decode cX4_reduceToBase 98 = .ok (.invokestatic 47, 3) := by decide +kernel
theorem dX4_reduceToBase_101 : decode cX4_reduceToBase 101 = .ok (.return_, 1) := by decide +kernel
theorem dX4_multiplyModulo_0 : decode cX4_multiplyModulo 0 = .ok (.aload_n 0, 1) := by decide +kernel
theorem dX4_multiplyModulo_1 : decode cX4_multiplyModulo 1 = .ok (.getfield 38, 3) := by decide +kernel
theorem dX4_multiplyModulo_4 : decode cX4_multiplyModulo 4 = .ok (.istore 4, 2) := by decide +kernel
theorem dX4_multiplyModulo_6 : decode cX4_multiplyModulo 6 = .ok (.aload_n 0, 1) := by decide +kernel
theorem dX4_multiplyModulo_7 : decode cX4_multiplyModulo 7 = .ok (.getfield 9, 3) := by decide +kernel
theorem dX4_multiplyModulo_10 : decode cX4_multiplyModulo 10 = .ok (.iload_n 3, 1) := by decide +kernel
theorem dX4_multiplyModulo_11 : decode cX4_multiplyModulo 11 = .ok (.iload_n 3, 1) := by decide +kernel
theorem dX4_multiplyModulo_12 : decode cX4_multiplyModulo 12 = .ok (.iconst 2, 1) := by decide +kernel
theorem dX4_multiplyModulo_13 : decode cX4_multiplyModulo 13 = .ok (.iload 4, 2) := by decide +kernel
theorem dX4_multiplyModulo_15 : decode cX4_multiplyModulo 15 = .ok (.imul, 1) := by decide +kernel
theorem dX4_multiplyModulo_16 : decode cX4_multiplyModulo 16 = .ok (.iadd, 1) := by decide +kernel
theorem dX4_multiplyModulo_17 : decode cX4_multiplyModulo 17 = .ok (.iconst 1, 1) := by decide +kernel
theorem dX4_multiplyModulo_18 : decode cX4_multiplyModulo 18 = .ok (.iadd, 1) := by decide +kernel
theorem dX4_multiplyModulo_19 : decode cX4_multiplyModulo 19 = .ok (.iconst 0, 1) := by decide +kernel
theorem dX4_multiplyModulo_20 : decode cX4_multiplyModulo 20 = .ok (.invokestatic 69, 3) := by decide +kernel
theorem dX4_multiplyModulo_23 : decode cX4_multiplyModulo 23 = .ok (.aload_n 0, 1) := by decide +kernel
theorem dX4_multiplyModulo_24 : decode cX4_multiplyModulo 24 = .ok (.iload_n 3, 1) := by decide +kernel
theorem dX4_multiplyModulo_25 : decode cX4_multiplyModulo 25 = .ok (.iload_n 1, 1) := by decide +kernel
theorem dX4_multiplyModulo_26 : decode cX4_multiplyModulo 26 = .ok (.iload 4, 2) := by decide +kernel
theorem dX4_multiplyModulo_28 : decode cX4_multiplyModulo 28 = .ok (.iload_n 2, 1) := by decide +kernel
theorem dX4_multiplyModulo_29 : decode cX4_multiplyModulo 29 = .ok (.iload 4, 2) := by decide +kernel
theorem dX4_multiplyModulo_31 : decode cX4_multiplyModulo 31 = .ok (.invokevirtual 83, 3) := by decide +kernel
theorem dX4_multiplyModulo_34 : decode cX4_multiplyModulo 34 = .ok (.aload_n 0, 1) := by decide +kernel
theorem dX4_multiplyModulo_35 : decode cX4_multiplyModulo 35 = .ok (.iload_n 3, 1) := by decide +kernel
theorem dX4_multiplyModulo_36 : decode cX4_multiplyModulo 36 = .ok (.iconst 2, 1) := by decide +kernel
theorem dX4_multiplyModulo_37 : decode cX4_multiplyModulo 37 = .ok (.iload 4, 2) := by decide +kernel
theorem dX4_multiplyModulo_39 : decode cX4_multiplyModulo 39 = .ok (.imul, 1) := by decide +kernel
theorem dX4_multiplyModulo_40 : decode cX4_multiplyModulo 40 = .ok (.iconst (-1), 1) := by decide +kernel
theorem dX4_multiplyModulo_41 : decode cX4_multiplyModulo 41 = .ok (.invokevirtual 34, 3) := by decide +kernel
theorem dX4_multiplyModulo_44 : decode cX4_multiplyModulo 44 = .ok (.aload_n 0, 1) := by decide +kernel
theorem dX4_multiplyModulo_45 : decode cX4_multiplyModulo 45 = .ok (.getfield 9, 3) := by decide +kernel
theorem dX4_multiplyModulo_48 : decode cX4_multiplyModulo 48 = .ok (.iload_n 3, 1) := by decide +kernel
theorem dX4_multiplyModulo_49 : decode cX4_multiplyModulo 49 = .ok (.aload_n 0, 1) := by decide +kernel
theorem dX4_multiplyModulo_50 : decode cX4_multiplyModulo 50 = .ok (.getfield 9, 3) := by decide +kernel
theorem dX4_multiplyModulo_53 : decode cX4_multiplyModulo 53 = .ok (.iload_n 1, 1) := by decide +kernel
theorem dX4_multiplyModulo_54 : decode cX4_multiplyModulo 54 = .ok (.iload 4, 2) := by decide +kernel
theorem dX4_multiplyModulo_56 : decode cX4_multiplyModulo 56 = .ok (.invokestatic 47, 3) := by decide +kernel
theorem dX4_multiplyModulo_59 : decode cX4_multiplyModulo 59 = .ok (.return_, 1) := by decide +kernel
theorem dX4_chooseDivisor_0 : decode cX4_chooseDivisor 0 = .ok (.aload_n 0, 1) := by decide +kernel
theorem dX4_chooseDivisor_1 : decode cX4_chooseDivisor 1 = .ok (.iload_n 1, 1) := by decide +kernel
theorem dX4_chooseDivisor_2 : decode cX4_chooseDivisor 2 = .ok (.putfield 53, 3) := by decide +kernel
theorem dX4_chooseDivisor_5 : decode cX4_chooseDivisor 5 = .ok (.aload_n 0, 1) := by decide +kernel
theorem dX4_chooseDivisor_6 : decode cX4_chooseDivisor 6 = .ok (.aload_n 0, 1) := by decide +kernel
theorem dX4_chooseDivisor_7 : decode cX4_chooseDivisor 7 = .ok (.iload_n 1, 1) := by decide +kernel
theorem dX4_chooseDivisor_8 : decode cX4_chooseDivisor 8 = .ok (.iload_n 2, 1) := by decide +kernel
theorem dX4_chooseDivisor_9 : decode cX4_chooseDivisor 9 = .ok (.invokevirtual 87, 3) := by decide +kernel
theorem dX4_chooseDivisor_12 : decode cX4_chooseDivisor 12 = .ok (.putfield 38, 3) := by decide +kernel
theorem dX4_chooseDivisor_15 : decode cX4_chooseDivisor 15 = .ok (.aload_n 0, 1) := by decide +kernel
theorem dX4_chooseDivisor_16 : decode cX4_chooseDivisor 16 = .ok (.getfield 38, 3) := by decide +kernel
theorem dX4_chooseDivisor_19 : decode cX4_chooseDivisor 19 = .ok (.ifCond .ne 5, 3) := by decide +kernel
theorem dX4_chooseDivisor_22 : decode cX4_chooseDivisor 22 = .ok (.iconst 0, 1) := by decide +kernel
theorem dX4_chooseDivisor_23 : decode cX4_chooseDivisor 23 = .ok (.ireturn, 1) := by decide +kernel
theorem dX4_chooseDivisor_24 : decode cX4_chooseDivisor 24 = .ok (.aload_n 0, 1) := by decide +kernel
theorem dX4_chooseDivisor_25 : decode cX4_chooseDivisor 25 = .ok (.getfield 9, 3) := by decide +kernel
theorem dX4_chooseDivisor_28 : decode cX4_chooseDivisor 28 = .ok (.iload_n 1, 1) := by decide +kernel
theorem dX4_chooseDivisor_29 : decode cX4_chooseDivisor 29 = .ok (.aload_n 0, 1) := by decide +kernel
theorem dX4_chooseDivisor_30 : decode cX4_chooseDivisor 30 = .ok (.getfield 38, 3) := by decide +kernel
theorem dX4_chooseDivisor_33 : decode cX4_chooseDivisor 33 = .ok (.iadd, 1) := by decide +kernel
theorem dX4_chooseDivisor_34 : decode cX4_chooseDivisor 34 = .ok (.iconst 1, 1) := by decide +kernel
theorem dX4_chooseDivisor_35 : decode cX4_chooseDivisor 35 = .ok (.isub, 1) := by decide +kernel
theorem dX4_chooseDivisor_36 : decode cX4_chooseDivisor 36 = .ok (.iaload, 1) := by decide +kernel
theorem dX4_chooseDivisor_37 : decode cX4_chooseDivisor 37 = .ok (.istore_n 3, 1) := by decide +kernel
theorem dX4_chooseDivisor_38 : decode cX4_chooseDivisor 38 = .ok (.aload_n 0, 1) := by decide +kernel
theorem dX4_chooseDivisor_39 : decode cX4_chooseDivisor 39 = .ok (.getfield 38, 3) := by decide +kernel
theorem dX4_chooseDivisor_42 : decode cX4_chooseDivisor 42 = .ok (.iconst 1, 1) := by decide +kernel
theorem dX4_chooseDivisor_43 : decode cX4_chooseDivisor 43 = .ok (.if_icmp .le 19, 3) := by decide +kernel
theorem dX4_chooseDivisor_46 : decode cX4_chooseDivisor 46 = .ok (.aload_n 0, 1) := by decide +kernel
theorem dX4_chooseDivisor_47 : decode cX4_chooseDivisor 47 = .ok (.getfield 9, 3) := by decide +kernel
theorem dX4_chooseDivisor_50 : decode cX4_chooseDivisor 50 = .ok (.iload_n 1, 1) := by decide +kernel
theorem dX4_chooseDivisor_51 : decode cX4_chooseDivisor 51 = .ok (.aload_n 0, 1) := by decide +kernel
theorem dX4_chooseDivisor_52 : decode cX4_chooseDivisor 52 = .ok (.getfield 38, 3) := by decide +kernel
theorem dX4_chooseDivisor_55 : decode cX4_chooseDivisor 55 = .ok (.iadd, 1) := by decide +kernel
theorem dX4_chooseDivisor_56 : decode cX4_chooseDivisor 56 = .ok (.iconst 2, 1) := by decide +kernel
theorem dX4_chooseDivisor_57 : decode cX4_chooseDivisor 57 = .ok (.isub, 1) := by decide +kernel
theorem dX4_chooseDivisor_58 : decode cX4_chooseDivisor 58 = .ok (.iaload, 1) := by decide +kernel
theorem dX4_chooseDivisor_59 : decode cX4_chooseDivisor 59 = .ok (.goto 4, 3) := by decide +kernel
theorem dX4_chooseDivisor_62 : decode cX4_chooseDivisor 62 = .ok (.iconst 0, 1) := by decide +kernel
theorem dX4_chooseDivisor_63 : decode cX4_chooseDivisor 63 = .ok (.istore 4, 2) := by decide +kernel
theorem dX4_chooseDivisor_65 : decode cX4_chooseDivisor 65 = .ok (.aload_n 0, 1) := by decide +kernel
theorem dX4_chooseDivisor_66 : decode cX4_chooseDivisor 66 = .ok (.getfield 38, 3) := by decide +kernel
theorem dX4_chooseDivisor_69 : decode cX4_chooseDivisor 69 = .ok (.iconst 2, 1) := by decide +kernel
theorem dX4_chooseDivisor_70 : decode cX4_chooseDivisor 70 = .ok (.if_icmp .le 19, 3) := by decide +kernel
theorem dX4_chooseDivisor_73 : decode cX4_chooseDivisor 73 = .ok (.aload_n 0, 1) := by decide +kernel
theorem dX4_chooseDivisor_74 : decode cX4_chooseDivisor 74 = .ok (.getfield 9, 3) := by decide +kernel
theorem dX4_chooseDivisor_77 : decode cX4_chooseDivisor 77 = .ok (.iload_n 1, 1) := by decide +kernel
theorem dX4_chooseDivisor_78 : decode cX4_chooseDivisor 78 = .ok (.aload_n 0, 1) := by decide +kernel
theorem dX4_chooseDivisor_79 : decode cX4_chooseDivisor 79 = .ok (.getfield 38, 3) := by decide +kernel
theorem dX4_chooseDivisor_82 : decode cX4_chooseDivisor 82 = .ok (.iadd, 1) := by decide +kernel
theorem dX4_chooseDivisor_83 : decode cX4_chooseDivisor 83 = .ok (.iconst 3, 1) := by decide +kernel
theorem dX4_chooseDivisor_84 : decode cX4_chooseDivisor 84 = .ok (.isub, 1) := by decide +kernel
theorem dX4_chooseDivisor_85 : decode cX4_chooseDivisor 85 = .ok (.iaload, 1) := by decide +kernel
theorem dX4_chooseDivisor_86 : decode cX4_chooseDivisor 86 = .ok (.goto 4, 3) := by decide +kernel
theorem dX4_chooseDivisor_89 : decode cX4_chooseDivisor 89 = .ok (.iconst 0, 1) := by decide +kernel
theorem dX4_chooseDivisor_90 : decode cX4_chooseDivisor 90 = .ok (.istore 5, 2) := by decide +kernel
theorem dX4_chooseDivisor_92 : decode cX4_chooseDivisor 92 = .ok (.aload_n 0, 1) := by decide +kernel
theorem dX4_chooseDivisor_93 : decode cX4_chooseDivisor 93 = .ok (.iconst 0, 1) := by decide +kernel
theorem dX4_chooseDivisor_94 : decode cX4_chooseDivisor 94 = .ok (.putfield 90, 3) := by decide +kernel
theorem dX4_chooseDivisor_97 : decode cX4_chooseDivisor 97 = .ok (.aload_n 0, 1) := by decide +kernel
theorem dX4_chooseDivisor_98 : decode cX4_chooseDivisor 98 = .ok (.getfield 90, 3) := by decide +kernel
theorem dX4_chooseDivisor_101 : decode cX4_chooseDivisor 101 = .ok (.bipush 30, 2) := by decide +kernel
theorem dX4_chooseDivisor_103 : decode cX4_chooseDivisor 103 = .ok (.if_icmp .ge 28, 3) := by decide +kernel
theorem dX4_chooseDivisor_106 : decode cX4_chooseDivisor 106 = .ok (.iload_n 3, 1) := by decide +kernel
theorem dX4_chooseDivisor_107 : decode cX4_chooseDivisor 107 = .ok (.bipush 30, 2) := by decide +kernel
theorem dX4_chooseDivisor_109 : decode cX4_chooseDivisor 109 = .ok (.aload_n 0, 1) := by decide +kernel
theorem dX4_chooseDivisor_110 : decode cX4_chooseDivisor 110 = .ok (.getfield 90, 3) := by decide +kernel
theorem dX4_chooseDivisor_113 : decode cX4_chooseDivisor 113 = .ok (.isub, 1) := by decide +kernel
theorem dX4_chooseDivisor_114 : decode cX4_chooseDivisor 114 = .ok (.ishr, 1) := by decide +kernel
theorem dX4_chooseDivisor_115 : decode cX4_chooseDivisor 115 = .ok (.ifCond .ne 16, 3) := by decide +kernel
theorem dX4_chooseDivisor_118 : decode cX4_chooseDivisor 118 = .ok (.aload_n 0, 1) := by decide +kernel
theorem dX4_chooseDivisor_119 : decode cX4_chooseDivisor 119 = .ok (.dup, 1) := by decide +kernel
theorem dX4_chooseDivisor_120 : decode cX4_chooseDivisor 120 = .ok (.getfield 90, 3) := by decide +kernel
theorem dX4_chooseDivisor_123 : decode cX4_chooseDivisor 123 = .ok (.iconst 1, 1) := by decide +kernel
theorem dX4_chooseDivisor_124 : decode cX4_chooseDivisor 124 = .ok (.iadd, 1) := by decide +kernel
theorem dX4_chooseDivisor_125 : decode cX4_chooseDivisor 125 = .ok (.putfield 90, 3) := by decide +kernel
theorem dX4_chooseDivisor_128 : decode cX4_chooseDivisor 128 = .ok (.goto (-31), 3) := by decide +kernel
theorem dX4_chooseDivisor_131 : decode cX4_chooseDivisor 131 = .ok (.iload_n 3, 1) := by decide +kernel
theorem dX4_chooseDivisor_132 : decode cX4_chooseDivisor 132 = .ok (.i2l, 1) := by decide +kernel
theorem dX4_chooseDivisor_133 : decode cX4_chooseDivisor 133 = .ok (.bipush 31, 2) := by decide +kernel
theorem dX4_chooseDivisor_135 : decode cX4_chooseDivisor 135 = .ok (.lshl, 1) := by decide +kernel
theorem dX4_chooseDivisor_136 : decode cX4_chooseDivisor 136 = .ok (.iload 4, 2) := by decide +kernel
theorem dX4_chooseDivisor_138 : decode cX4_chooseDivisor 138 = .ok (.i2l, 1) := by decide +kernel
theorem dX4_chooseDivisor_139 : decode cX4_chooseDivisor 139 = .ok (.lor, 1) := by decide +kernel
theorem dX4_chooseDivisor_140 : decode cX4_chooseDivisor 140 = .ok (.aload_n 0, 1) := by decide +kernel
theorem dX4_chooseDivisor_141 : decode cX4_chooseDivisor 141 = .ok (.getfield 90, 3) := by decide +kernel
theorem dX4_chooseDivisor_144 : decode cX4_chooseDivisor 144 = .ok (.lshl, 1) := by decide +kernel
theorem dX4_chooseDivisor_145 : decode cX4_chooseDivisor 145 = .ok (.iload 5, 2) := by decide +kernel
theorem dX4_chooseDivisor_147 : decode cX4_chooseDivisor 147 = .ok (.bipush 31, 2) := by decide +kernel
theorem dX4_chooseDivisor_149 : decode cX4_chooseDivisor 149 = .ok (.aload_n 0, 1) := by decide +kernel
theorem dX4_chooseDivisor_150 : decode cX4_chooseDivisor 150 = .ok (.getfield 90, 3) := by decide +kernel
theorem dX4_chooseDivisor_153 : decode cX4_chooseDivisor 153 = .ok (.isub, 1) := by decide +kernel
theorem dX4_chooseDivisor_154 : decode cX4_chooseDivisor 154 = .ok (.ishr, 1) := by decide +kernel
theorem dX4_chooseDivisor_155 : decode cX4_chooseDivisor 155 = .ok (.i2l, 1) := by decide +kernel
theorem dX4_chooseDivisor_156 : decode cX4_chooseDivisor 156 = .ok (.lor, 1) := by decide +kernel
theorem dX4_chooseDivisor_157 : decode cX4_chooseDivisor 157 = .ok (.lstore 6, 2) := by decide +kernel
theorem dX4_chooseDivisor_159 : decode cX4_chooseDivisor 159 = .ok (.aload_n 0, 1) := by decide +kernel
theorem dX4_chooseDivisor_160 : decode cX4_chooseDivisor 160 = .ok (.lload 6, 2) := by decide +kernel
theorem dX4_chooseDivisor_162 : decode cX4_chooseDivisor 162 = .ok (.bipush 31, 2) := by decide +kernel
theorem dX4_chooseDivisor_164 : decode cX4_chooseDivisor 164 = .ok (.lshr, 1) := by decide +kernel
theorem dX4_chooseDivisor_165 : decode cX4_chooseDivisor 165 = .ok (.putfield 93, 3) := by decide +kernel
theorem dX4_chooseDivisor_168 : decode cX4_chooseDivisor 168 = .ok (.aload_n 0, 1) := by decide +kernel
theorem dX4_chooseDivisor_169 : decode cX4_chooseDivisor 169 = .ok (.lload 6, 2) := by decide +kernel
theorem dX4_chooseDivisor_171 : decode cX4_chooseDivisor 171 = .ok (.ldc2_w 15, 3) := by decide +kernel
theorem dX4_chooseDivisor_174 : decode cX4_chooseDivisor 174 = .ok (.land, 1) := by decide +kernel
theorem dX4_chooseDivisor_175 : decode cX4_chooseDivisor 175 = .ok (.putfield 97, 3) := by decide +kernel
theorem dX4_chooseDivisor_178 : decode cX4_chooseDivisor 178 = .ok (.iconst 1, 1) := by decide +kernel
theorem dX4_chooseDivisor_179 : decode cX4_chooseDivisor 179 = .ok (.ireturn, 1) := by decide +kernel
theorem dX4_reduce_0 : decode cX4_reduce 0 = .ok (.iload_n 2, 1) := by decide +kernel
theorem dX4_reduce_1 : decode cX4_reduce 1 = .ok (.aload_n 0, 1) := by decide +kernel
theorem dX4_reduce_2 : decode cX4_reduce 2 = .ok (.getfield 38, 3) := by decide +kernel
theorem dX4_reduce_5 : decode cX4_reduce 5 = .ok (.isub, 1) := by decide +kernel
theorem dX4_reduce_6 : decode cX4_reduce 6 = .ok (.istore 4, 2) := by decide +kernel
theorem dX4_reduce_8 : decode cX4_reduce 8 = .ok (.iload 4, 2) := by decide +kernel
theorem dX4_reduce_10 : decode cX4_reduce 10 = .ok (.ifCond .lt 43, 3) := by decide +kernel
theorem dX4_reduce_13 : decode cX4_reduce 13 = .ok (.aload_n 0, 1) := by decide +kernel
theorem dX4_reduce_14 : decode cX4_reduce 14 = .ok (.iload_n 1, 1) := by decide +kernel
theorem dX4_reduce_15 : decode cX4_reduce 15 = .ok (.iload 4, 2) := by decide +kernel
theorem dX4_reduce_17 : decode cX4_reduce 17 = .ok (.iadd, 1) := by decide +kernel
theorem dX4_reduce_18 : decode cX4_reduce 18 = .ok (.aload_n 0, 1) := by decide +kernel
theorem dX4_reduce_19 : decode cX4_reduce 19 = .ok (.iload_n 1, 1) := by decide +kernel
theorem dX4_reduce_20 : decode cX4_reduce 20 = .ok (.iload 4, 2) := by decide +kernel
theorem dX4_reduce_22 : decode cX4_reduce 22 = .ok (.iadd, 1) := by decide +kernel
theorem dX4_reduce_23 : decode cX4_reduce 23 = .ok (.invokevirtual 75, 3) := by decide +kernel
theorem dX4_reduce_26 : decode cX4_reduce 26 = .ok (.invokevirtual 79, 3) := by decide +kernel
theorem dX4_reduce_29 : decode cX4_reduce 29 = .ok (.istore 5, 2) := by decide +kernel
theorem dX4_reduce_31 : decode cX4_reduce 31 = .ok (.iload_n 3, 1) := by decide +kernel
theorem dX4_reduce_32 : decode cX4_reduce 32 = .ok (.iconst (-1), 1) := by decide +kernel
theorem dX4_reduce_33 : decode cX4_reduce 33 = .ok (.if_icmp .eq 14, 3) := by decide +kernel
theorem dX4_reduce_36 : decode cX4_reduce 36 = .ok (.aload_n 0, 1) := by decide +kernel
theorem dX4_reduce_37 : decode cX4_reduce 37 = .ok (.getfield 9, 3) := by decide +kernel
theorem dX4_reduce_40 : decode cX4_reduce 40 = .ok (.iload_n 3, 1) := by decide +kernel
theorem dX4_reduce_41 : decode cX4_reduce 41 = .ok (.iload 4, 2) := by decide +kernel
theorem dX4_reduce_43 : decode cX4_reduce 43 = .ok (.iadd, 1) := by decide +kernel
theorem dX4_reduce_44 : decode cX4_reduce 44 = .ok (.iload 5, 2) := by decide +kernel
theorem dX4_reduce_46 : decode cX4_reduce 46 = .ok (.iastore, 1) := by decide +kernel
theorem dX4_reduce_47 : decode cX4_reduce 47 = .ok (.iinc 4 (-1), 3) := by decide +kernel
theorem dX4_reduce_50 : decode cX4_reduce 50 = .ok (.goto (-42), 3) := by decide +kernel
theorem dX4_reduce_53 : decode cX4_reduce 53 = .ok (.return_, 1) := by decide +kernel
theorem dX4_guessDigit_0 : decode cX4_guessDigit 0 = .ok (.aload_n 0, 1) := by decide +kernel
theorem dX4_guessDigit_1 : decode cX4_guessDigit 1 = .ok (.getfield 93, 3) := by decide +kernel
theorem dX4_guessDigit_4 : decode cX4_guessDigit 4 = .ok (.lconst 0, 1) := by decide +kernel
theorem dX4_guessDigit_5 : decode cX4_guessDigit 5 = .ok (.lcmp, 1) := by decide +kernel
theorem dX4_guessDigit_6 : decode cX4_guessDigit 6 = .ok (.ifCond .ne 5, 3) := by decide +kernel
theorem dX4_guessDigit_9 : decode cX4_guessDigit 9 = .ok (.lconst 0, 1) := by decide +kernel
theorem dX4_guessDigit_10 : decode cX4_guessDigit 10 = .ok (.lreturn, 1) := by decide +kernel
theorem dX4_guessDigit_11 : decode cX4_guessDigit 11 = .ok (.iload_n 1, 1) := by decide +kernel
theorem dX4_guessDigit_12 : decode cX4_guessDigit 12 = .ok (.aload_n 0, 1) := by decide +kernel
theorem dX4_guessDigit_13 : decode cX4_guessDigit 13 = .ok (.getfield 38, 3) := by decide +kernel
end
section
theorem dX4_guessDigit_16 : decode cX4_guessDigit 16 = .ok (.iadd, 1) := by decide +kernel
theorem dX4_guessDigit_17 : decode cX4_guessDigit 17 = .ok (.istore_n 2, 1) := by decide +kernel
theorem dX4_guessDigit_18 : decode cX4_guessDigit 18 = .ok (.aload_n 0, 1) := by decide +kernel
theorem dX4_guessDigit_19 : decode cX4_guessDigit 19 = .ok (.getfield 9, 3) := by decide +kernel
theorem dX4_guessDigit_22 : decode cX4_guessDigit 22 = .ok (.iload_n 2, 1) := by decide +kernel
theorem dX4_guessDigit_23 : decode cX4_guessDigit 23 = .ok (.iconst 1, 1) := by decide +kernel
theorem dX4_guessDigit_24 : decode cX4_guessDigit 24 = .ok (.isub, 1) := by decide +kernel
theorem dX4_guessDigit_25 : decode cX4_guessDigit 25 = .ok (.iaload, 1) := by decide +kernel
theorem dX4_guessDigit_26 : decode cX4_guessDigit 26 = .ok (.istore_n 3, 1) := by decide +kernel
theorem dX4_guessDigit_27 : decode cX4_guessDigit 27 = .ok (.aload_n 0, 1) := by decide +kernel
theorem dX4_guessDigit_28 : decode cX4_guessDigit 28 = .ok (.getfield 38, 3) := by decide +kernel
theorem dX4_guessDigit_31 : decode cX4_guessDigit 31 = .ok (.iconst 1, 1) := by decide +kernel
theorem dX4_guessDigit_32 : decode cX4_guessDigit 32 = .ok (.if_icmp .le 14, 3) := by decide +kernel
theorem dX4_guessDigit_35 : decode cX4_guessDigit 35 = .ok (.aload_n 0, 1) := by decide +kernel
theorem dX4_guessDigit_36 : decode cX4_guessDigit 36 = .ok (.getfield 9, 3) := by decide +kernel
theorem dX4_guessDigit_39 : decode cX4_guessDigit 39 = .ok (.iload_n 2, 1) := by decide +kernel
theorem dX4_guessDigit_40 : decode cX4_guessDigit 40 = .ok (.iconst 2, 1) := by decide +kernel
theorem dX4_guessDigit_41 : decode cX4_guessDigit 41 = .ok (.isub, 1) := by decide +kernel
theorem dX4_guessDigit_42 : decode cX4_guessDigit 42 = .ok (.iaload, 1) := by decide +kernel
theorem dX4_guessDigit_43 : decode cX4_guessDigit 43 = .ok (.goto 4, 3) := by decide +kernel
theorem dX4_guessDigit_46 : decode cX4_guessDigit 46 = .ok (.iconst 0, 1) := by decide +kernel
theorem dX4_guessDigit_47 : decode cX4_guessDigit 47 = .ok (.istore 4, 2) := by decide +kernel
theorem dX4_guessDigit_49 : decode cX4_guessDigit 49 = .ok (.aload_n 0, 1) := by decide +kernel
theorem dX4_guessDigit_50 : decode cX4_guessDigit 50 = .ok (.getfield 38, 3) := by decide +kernel
theorem dX4_guessDigit_53 : decode cX4_guessDigit 53 = .ok (.iconst 2, 1) := by decide +kernel
theorem dX4_guessDigit_54 : decode cX4_guessDigit 54 = .ok (.if_icmp .le 14, 3) := by decide +kernel
theorem dX4_guessDigit_57 : decode cX4_guessDigit 57 = .ok (.aload_n 0, 1) := by decide +kernel
theorem dX4_guessDigit_58 : decode cX4_guessDigit 58 = .ok (.getfield 9, 3) := by decide +kernel
theorem dX4_guessDigit_61 : decode cX4_guessDigit 61 = .ok (.iload_n 2, 1) := by decide +kernel
theorem dX4_guessDigit_62 : decode cX4_guessDigit 62 = .ok (.iconst 3, 1) := by decide +kernel
theorem dX4_guessDigit_63 : decode cX4_guessDigit 63 = .ok (.isub, 1) := by decide +kernel
theorem dX4_guessDigit_64 : decode cX4_guessDigit 64 = .ok (.iaload, 1) := by decide +kernel
theorem dX4_guessDigit_65 : decode cX4_guessDigit 65 = .ok (.goto 4, 3) := by decide +kernel
theorem dX4_guessDigit_68 : decode cX4_guessDigit 68 = .ok (.iconst 0, 1) := by decide +kernel
theorem dX4_guessDigit_69 : decode cX4_guessDigit 69 = .ok (.istore 5, 2) := by decide +kernel
theorem dX4_guessDigit_71 : decode cX4_guessDigit 71 = .ok (.aload_n 0, 1) := by decide +kernel
theorem dX4_guessDigit_72 : decode cX4_guessDigit 72 = .ok (.getfield 9, 3) := by decide +kernel
theorem dX4_guessDigit_75 : decode cX4_guessDigit 75 = .ok (.iload_n 2, 1) := by decide +kernel
theorem dX4_guessDigit_76 : decode cX4_guessDigit 76 = .ok (.iaload, 1) := by decide +kernel
theorem dX4_guessDigit_77 : decode cX4_guessDigit 77 = .ok (.i2l, 1) := by decide +kernel
theorem dX4_guessDigit_78 : decode cX4_guessDigit 78 = .ok (.bipush 31, 2) := by decide +kernel
theorem dX4_guessDigit_80 : decode cX4_guessDigit 80 = .ok (.lshl, 1) := by decide +kernel
theorem dX4_guessDigit_81 : decode cX4_guessDigit 81 = .ok (.iload_n 3, 1) := by decide +kernel
theorem dX4_guessDigit_82 : decode cX4_guessDigit 82 = .ok (.i2l, 1) := by decide +kernel
theorem dX4_guessDigit_83 : decode cX4_guessDigit 83 = .ok (.lor, 1) := by decide +kernel
theorem dX4_guessDigit_84 : decode cX4_guessDigit 84 = .ok (.aload_n 0, 1) := by decide +kernel
theorem dX4_guessDigit_85 : decode cX4_guessDigit 85 = .ok (.getfield 90, 3) := by decide +kernel
theorem dX4_guessDigit_88 : decode cX4_guessDigit 88 = .ok (.lshl, 1) := by decide +kernel
theorem dX4_guessDigit_89 : decode cX4_guessDigit 89 = .ok (.iload 4, 2) := by decide +kernel
theorem dX4_guessDigit_91 : decode cX4_guessDigit 91 = .ok (.bipush 31, 2) := by decide +kernel
theorem dX4_guessDigit_93 : decode cX4_guessDigit 93 = .ok (.aload_n 0, 1) := by decide +kernel
theorem dX4_guessDigit_94 : decode cX4_guessDigit 94 = .ok (.getfield 90, 3) := by decide +kernel
theorem dX4_guessDigit_97 : decode cX4_guessDigit 97 = .ok (.isub, 1) := by decide +kernel
theorem dX4_guessDigit_98 : decode cX4_guessDigit 98 = .ok (.ishr, 1) := by decide +kernel
theorem dX4_guessDigit_99 : decode cX4_guessDigit 99 = .ok (.i2l, 1) := by decide +kernel
theorem dX4_guessDigit_100 : decode cX4_guessDigit 100 = .ok (.lor, 1) := by decide +kernel
theorem dX4_guessDigit_101 : decode cX4_guessDigit 101 = .ok (.lstore 6, 2) := by decide +kernel
theorem dX4_guessDigit_103 : decode cX4_guessDigit 103 = .ok (.iload 4, 2) := by decide +kernel
theorem dX4_guessDigit_105 : decode cX4_guessDigit 105 = .ok (.i2l, 1) := by decide +kernel
theorem dX4_guessDigit_106 : decode cX4_guessDigit 106 = .ok (.aload_n 0, 1) := by decide +kernel
theorem dX4_guessDigit_107 : decode cX4_guessDigit 107 = .ok (.getfield 90, 3) := by decide +kernel
theorem dX4_guessDigit_110 : decode cX4_guessDigit 110 = .ok (.lshl, 1) := by decide +kernel
theorem dX4_guessDigit_111 : decode cX4_guessDigit 111 = .ok (.iload 5, 2) := by decide +kernel
theorem dX4_guessDigit_113 : decode cX4_guessDigit 113 = .ok (.bipush 31, 2) := by decide +kernel
theorem dX4_guessDigit_115 : decode cX4_guessDigit 115 = .ok (.aload_n 0, 1) := by decide +kernel
theorem dX4_guessDigit_116 : decode cX4_guessDigit 116 = .ok (.getfield 90, 3) := by decide +kernel
theorem dX4_guessDigit_119 : decode cX4_guessDigit 119 = .ok (.isub, 1) := by decide +kernel
theorem dX4_guessDigit_120 : decode cX4_guessDigit 120 = .ok (.ishr, 1) := by decide +kernel
theorem dX4_guessDigit_121 : decode cX4_guessDigit 121 = .ok (.i2l, 1) := by decide +kernel
theorem dX4_guessDigit_122 : decode cX4_guessDigit 122 = .ok (.lor, 1) := by decide +kernel
theorem dX4_guessDigit_123 : decode cX4_guessDigit 123 = .ok (.ldc2_w 15, 3) := by decide +kernel
theorem dX4_guessDigit_126 : decode cX4_guessDigit 126 = .ok (.land, 1) := by decide +kernel
theorem dX4_guessDigit_127 : decode cX4_guessDigit 127 = .ok (.lstore 8, 2) := by decide +kernel
theorem dX4_guessDigit_129 : decode cX4_guessDigit 129 = .ok (.lload 6, 2) := by decide +kernel
theorem dX4_guessDigit_131 : decode cX4_guessDigit 131 = .ok (.aload_n 0, 1) := by decide +kernel
theorem dX4_guessDigit_132 : decode cX4_guessDigit 132 = .ok (.getfield 93, 3) := by decide +kernel
theorem dX4_guessDigit_135 : decode cX4_guessDigit 135 = .ok (.ldiv, 1) := by decide +kernel
theorem dX4_guessDigit_136 : decode cX4_guessDigit 136 = .ok (.lstore 10, 2) := by decide +kernel
theorem dX4_guessDigit_138 : decode cX4_guessDigit 138 = .ok (.lload 6, 2) := by decide +kernel
theorem dX4_guessDigit_140 : decode cX4_guessDigit 140 = .ok (.lload 10, 2) := by decide +kernel
theorem dX4_guessDigit_142 : decode cX4_guessDigit 142 = .ok (.aload_n 0, 1) := by decide +kernel
theorem dX4_guessDigit_143 : decode cX4_guessDigit 143 = .ok (.getfield 93, 3) := by decide +kernel
theorem dX4_guessDigit_146 : decode cX4_guessDigit 146 = .ok (.lmul, 1) := by decide +kernel
theorem dX4_guessDigit_147 : decode cX4_guessDigit 147 = .ok (.lsub, 1) := by decide +kernel
theorem dX4_guessDigit_148 : decode cX4_guessDigit 148 = .ok (.lstore 12, 2) := by decide +kernel
theorem dX4_guessDigit_150 : decode cX4_guessDigit 150 = .ok (.lload 10, 2) := by decide +kernel
theorem dX4_guessDigit_152 : decode cX4_guessDigit 152 = .ok (.ldc2_w 15, 3) := by decide +kernel
theorem dX4_guessDigit_155 : decode cX4_guessDigit 155 = .ok (.lcmp, 1) := by decide +kernel
theorem dX4_guessDigit_156 : decode cX4_guessDigit 156 = .ok (.ifCond .gt 22, 3) := by decide +kernel
theorem dX4_guessDigit_159 : decode cX4_guessDigit 159 = .ok (.lload 10, 2) := by decide +kernel
theorem dX4_guessDigit_161 : decode cX4_guessDigit 161 = .ok (.aload_n 0, 1) := by decide +kernel
theorem dX4_guessDigit_162 : decode cX4_guessDigit 162 = .ok (.getfield 97, 3) := by decide +kernel
theorem dX4_guessDigit_165 : decode cX4_guessDigit 165 = .ok (.lmul, 1) := by decide +kernel
theorem dX4_guessDigit_166 : decode cX4_guessDigit 166 = .ok (.lload 12, 2) := by decide +kernel
theorem dX4_guessDigit_168 : decode cX4_guessDigit 168 = .ok (.bipush 31, 2) := by decide +kernel
theorem dX4_guessDigit_170 : decode cX4_guessDigit 170 = .ok (.lshl, 1) := by decide +kernel
theorem dX4_guessDigit_171 : decode cX4_guessDigit 171 = .ok (.lload 8, 2) := by decide +kernel
theorem dX4_guessDigit_173 : decode cX4_guessDigit 173 = .ok (.lor, 1) := by decide +kernel
theorem dX4_guessDigit_174 : decode cX4_guessDigit 174 = .ok (.lcmp, 1) := by decide +kernel
theorem dX4_guessDigit_175 : decode cX4_guessDigit 175 = .ok (.ifCond .le 10, 3) := by decide +kernel
theorem dX4_guessDigit_178 : decode cX4_guessDigit 178 = .ok (.lload 10, 2) := by decide +kernel
theorem dX4_guessDigit_180 : decode cX4_guessDigit 180 = .ok (.lconst 1, 1) := by decide +kernel
theorem dX4_guessDigit_181 : decode cX4_guessDigit 181 = .ok (.lsub, 1) := by decide +kernel
theorem dX4_guessDigit_182 : decode cX4_guessDigit 182 = .ok (.goto 5, 3) := by decide +kernel
theorem dX4_guessDigit_185 : decode cX4_guessDigit 185 = .ok (.lload 10, 2) := by decide +kernel
theorem dX4_guessDigit_187 : decode cX4_guessDigit 187 = .ok (.lreturn, 1) := by decide +kernel
theorem dX4_subtractTimes_0 : decode cX4_subtractTimes 0 = .ok (.lload_n 2, 1) := by decide +kernel
theorem dX4_subtractTimes_1 : decode cX4_subtractTimes 1 = .ok (.lconst 0, 1) := by decide +kernel
theorem dX4_subtractTimes_2 : decode cX4_subtractTimes 2 = .ok (.lcmp, 1) := by decide +kernel
theorem dX4_subtractTimes_3 : decode cX4_subtractTimes 3 = .ok (.ifCond .ne 5, 3) := by decide +kernel
theorem dX4_subtractTimes_6 : decode cX4_subtractTimes 6 = .ok (.iconst 0, 1) := by decide +kernel
theorem dX4_subtractTimes_7 : decode cX4_subtractTimes 7 = .ok (.ireturn, 1) := by decide +kernel
theorem dX4_subtractTimes_8 : decode cX4_subtractTimes 8 = .ok (.lconst 0, 1) := by decide +kernel
theorem dX4_subtractTimes_9 : decode cX4_subtractTimes 9 = .ok (.lstore 4, 2) := by decide +kernel
theorem dX4_subtractTimes_11 : decode cX4_subtractTimes 11 = .ok (.iconst 0, 1) := by decide +kernel
theorem dX4_subtractTimes_12 : decode cX4_subtractTimes 12 = .ok (.istore 6, 2) := by decide +kernel
theorem dX4_subtractTimes_14 : decode cX4_subtractTimes 14 = .ok (.iload 6, 2) := by decide +kernel
theorem dX4_subtractTimes_16 : decode cX4_subtractTimes 16 = .ok (.aload_n 0, 1) := by decide +kernel
theorem dX4_subtractTimes_17 : decode cX4_subtractTimes 17 = .ok (.getfield 38, 3) := by decide +kernel
theorem dX4_subtractTimes_20 : decode cX4_subtractTimes 20 = .ok (.if_icmp .ge 63, 3) := by decide +kernel
theorem dX4_subtractTimes_23 : decode cX4_subtractTimes 23 = .ok (.aload_n 0, 1) := by decide +kernel
theorem dX4_subtractTimes_24 : decode cX4_subtractTimes 24 = .ok (.getfield 9, 3) := by decide +kernel
theorem dX4_subtractTimes_27 : decode cX4_subtractTimes 27 = .ok (.iload_n 1, 1) := by decide +kernel
theorem dX4_subtractTimes_28 : decode cX4_subtractTimes 28 = .ok (.iload 6, 2) := by decide +kernel
theorem dX4_subtractTimes_30 : decode cX4_subtractTimes 30 = .ok (.iadd, 1) := by decide +kernel
theorem dX4_subtractTimes_31 : decode cX4_subtractTimes 31 = .ok (.iaload, 1) := by decide +kernel
theorem dX4_subtractTimes_32 : decode cX4_subtractTimes 32 = .ok (.i2l, 1) := by decide +kernel
theorem dX4_subtractTimes_33 : decode cX4_subtractTimes 33 = .ok (.lload 4, 2) := by decide +kernel
theorem dX4_subtractTimes_35 : decode cX4_subtractTimes 35 = .ok (.ladd, 1) := by decide +kernel
theorem dX4_subtractTimes_36 : decode cX4_subtractTimes 36 = .ok (.lload_n 2, 1) := by decide +kernel
theorem dX4_subtractTimes_37 : decode cX4_subtractTimes 37 = .ok (.aload_n 0, 1) := by decide +kernel
theorem dX4_subtractTimes_38 : decode cX4_subtractTimes 38 = .ok (.getfield 9, 3) := by decide +kernel
theorem dX4_subtractTimes_41 : decode cX4_subtractTimes 41 = .ok (.aload_n 0, 1) := by decide +kernel
theorem dX4_subtractTimes_42 : decode cX4_subtractTimes 42 = .ok (.getfield 53, 3) := by decide +kernel
theorem dX4_subtractTimes_45 : decode cX4_subtractTimes 45 = .ok (.iload 6, 2) := by decide +kernel
theorem dX4_subtractTimes_47 : decode cX4_subtractTimes 47 = .ok (.iadd, 1) := by decide +kernel
theorem dX4_subtractTimes_48 : decode cX4_subtractTimes 48 = .ok (.iaload, 1) := by decide +kernel
theorem dX4_subtractTimes_49 : decode cX4_subtractTimes 49 = .ok (.i2l, 1) := by decide +kernel
theorem dX4_subtractTimes_50 : decode cX4_subtractTimes 50 = .ok (.lmul, 1) := by decide +kernel
theorem dX4_subtractTimes_51 : decode cX4_subtractTimes 51 = .ok (.lsub, 1) := by decide +kernel
theorem dX4_subtractTimes_52 : decode cX4_subtractTimes 52 = .ok (.lstore 7, 2) := by decide +kernel
theorem dX4_subtractTimes_54 : decode cX4_subtractTimes 54 = .ok (.aload_n 0, 1) := by decide +kernel
theorem dX4_subtractTimes_55 : decode cX4_subtractTimes 55 = .ok (.getfield 9, 3) := by decide +kernel
theorem dX4_subtractTimes_58 : decode cX4_subtractTimes 58 = .ok (.iload_n 1, 1) := by decide +kernel
theorem dX4_subtractTimes_59 : decode cX4_subtractTimes 59 = .ok (.iload 6, 2) := by decide +kernel
theorem dX4_subtractTimes_61 : decode cX4_subtractTimes 61 = .ok (.iadd, 1) := by decide +kernel
theorem dX4_subtractTimes_62 : decode cX4_subtractTimes 62 = .ok (.lload 7, 2) := by decide +kernel
theorem dX4_subtractTimes_64 : decode cX4_subtractTimes 64 = .ok (.ldc2_w 15, 3) := by decide +kernel
theorem dX4_subtractTimes_67 : decode cX4_subtractTimes 67 = .ok (.land, 1) := by decide +kernel
theorem dX4_subtractTimes_68 : decode cX4_subtractTimes 68 = .ok (.l2i, 1) := by decide +kernel
theorem dX4_subtractTimes_69 : decode cX4_subtractTimes 69 = .ok (.iastore, 1) := by decide +kernel
theorem dX4_subtractTimes_70 : decode cX4_subtractTimes 70 = .ok (.lload 7, 2) := by decide +kernel
theorem dX4_subtractTimes_72 : decode cX4_subtractTimes 72 = .ok (.bipush 31, 2) := by decide +kernel
theorem dX4_subtractTimes_74 : decode cX4_subtractTimes 74 = .ok (.lshr, 1) := by decide +kernel
theorem dX4_subtractTimes_75 : decode cX4_subtractTimes 75 = .ok (.lstore 4, 2) := by decide +kernel
theorem dX4_subtractTimes_77 : decode cX4_subtractTimes 77 = .ok (.iinc 6 1, 3) := by decide +kernel
theorem dX4_subtractTimes_80 : decode cX4_subtractTimes 80 = .ok (.goto (-66), 3) := by decide +kernel
theorem dX4_subtractTimes_83 : decode cX4_subtractTimes 83 = .ok (.aload_n 0, 1) := by decide +kernel
theorem dX4_subtractTimes_84 : decode cX4_subtractTimes 84 = .ok (.getfield 9, 3) := by decide +kernel
theorem dX4_subtractTimes_87 : decode cX4_subtractTimes 87 = .ok (.iload_n 1, 1) := by decide +kernel
theorem dX4_subtractTimes_88 : decode cX4_subtractTimes 88 = .ok (.aload_n 0, 1) := by decide +kernel
theorem dX4_subtractTimes_89 : decode cX4_subtractTimes 89 = .ok (.getfield 38, 3) := by decide +kernel
theorem dX4_subtractTimes_92 : decode cX4_subtractTimes 92 = .ok (.iadd, 1) := by decide +kernel
theorem dX4_subtractTimes_93 : decode cX4_subtractTimes 93 = .ok (.iaload, 1) := by decide +kernel
theorem dX4_subtractTimes_94 : decode cX4_subtractTimes 94 = .ok (.i2l, 1) := by decide +kernel
theorem dX4_subtractTimes_95 : decode cX4_subtractTimes 95 = .ok (.lload 4, 2) := by decide +kernel
theorem dX4_subtractTimes_97 : decode cX4_subtractTimes 97 = .ok (.ladd, 1) := by decide +kernel
theorem dX4_subtractTimes_98 : decode cX4_subtractTimes 98 = .ok (.lstore 6, 2) := by decide +kernel
theorem dX4_subtractTimes_100 : decode cX4_subtractTimes 100 = .ok (.aload_n 0, 1) := by decide +kernel
theorem dX4_subtractTimes_101 : decode cX4_subtractTimes 101 = .ok (.getfield 9, 3) := by decide +kernel
theorem dX4_subtractTimes_104 : decode cX4_subtractTimes 104 = .ok (.iload_n 1, 1) := by decide +kernel
theorem dX4_subtractTimes_105 : decode cX4_subtractTimes 105 = .ok (.aload_n 0, 1) := by decide +kernel
theorem dX4_subtractTimes_106 : decode cX4_subtractTimes 106 = .ok (.getfield 38, 3) := by decide +kernel
theorem dX4_subtractTimes_109 : decode cX4_subtractTimes 109 = .ok (.iadd, 1) := by decide +kernel
theorem dX4_subtractTimes_110 : decode cX4_subtractTimes 110 = .ok (.iconst 0, 1) := by decide +kernel
theorem dX4_subtractTimes_111 : decode cX4_subtractTimes 111 = .ok (.iastore, 1) := by decide +kernel
theorem dX4_subtractTimes_112 : decode cX4_subtractTimes 112 = .ok (.lload 6, 2) := by decide +kernel
theorem dX4_subtractTimes_114 : decode cX4_subtractTimes 114 = .ok (.lconst 0, 1) := by decide +kernel
theorem dX4_subtractTimes_115 : decode cX4_subtractTimes 115 = .ok (.lcmp, 1) := by decide +kernel
theorem dX4_subtractTimes_116 : decode cX4_subtractTimes 116 = .ok (.ifCond .lt 6, 3) := by decide +kernel
theorem dX4_subtractTimes_119 : decode cX4_subtractTimes 119 = .ok (.lload_n 2, 1) := by decide +kernel
theorem dX4_subtractTimes_120 : decode cX4_subtractTimes 120 = .ok (.l2i, 1) := by decide +kernel
theorem dX4_subtractTimes_121 : decode cX4_subtractTimes 121 = .ok (.ireturn, 1) := by decide +kernel
theorem dX4_subtractTimes_122 : decode cX4_subtractTimes 122 = .ok (.lconst 0, 1) := by decide +kernel
theorem dX4_subtractTimes_123 : decode cX4_subtractTimes 123 = .ok (.lstore 4, 2) := by decide +kernel
theorem dX4_subtractTimes_125 : decode cX4_subtractTimes 125 = .ok (.iconst 0, 1) := by decide +kernel
theorem dX4_subtractTimes_126 : decode cX4_subtractTimes 126 = .ok (.istore 8, 2) := by decide +kernel
theorem dX4_subtractTimes_128 : decode cX4_subtractTimes 128 = .ok (.iload 8, 2) := by decide +kernel
theorem dX4_subtractTimes_130 : decode cX4_subtractTimes 130 = .ok (.aload_n 0, 1) := by decide +kernel
theorem dX4_subtractTimes_131 : decode cX4_subtractTimes 131 = .ok (.getfield 38, 3) := by decide +kernel
theorem dX4_subtractTimes_134 : decode cX4_subtractTimes 134 = .ok (.if_icmp .ge 61, 3) := by decide +kernel
theorem dX4_subtractTimes_137 : decode cX4_subtractTimes 137 = .ok (.aload_n 0, 1) := by decide +kernel
theorem dX4_subtractTimes_138 : decode cX4_subtractTimes 138 = .ok (.getfield 9, 3) := by decide +kernel
theorem dX4_subtractTimes_141 : decode cX4_subtractTimes 141 = .ok (.iload_n 1, 1) := by decide +kernel
theorem dX4_subtractTimes_142 : decode cX4_subtractTimes 142 = .ok (.iload 8, 2) := by decide +kernel
theorem dX4_subtractTimes_144 : decode cX4_subtractTimes 144 = .ok (.iadd, 1) := by decide +kernel
theorem dX4_subtractTimes_145 : decode cX4_subtractTimes 145 = .ok (.iaload, 1) := by decide +kernel
theorem dX4_subtractTimes_146 : decode cX4_subtractTimes 146 = .ok (.i2l, 1) := by decide +kernel
theorem dX4_subtractTimes_147 : decode cX4_subtractTimes 147 = .ok (.lload 4, 2) := by decide +kernel
theorem dX4_subtractTimes_149 : decode cX4_subtractTimes 149 = .ok (.ladd, 1) := by decide +kernel
theorem dX4_subtractTimes_150 : decode cX4_subtractTimes 150 = .ok (.aload_n 0, 1) := by decide +kernel
theorem dX4_subtractTimes_151 : decode cX4_subtractTimes 151 = .ok (.getfield 9, 3) := by decide +kernel
theorem dX4_subtractTimes_154 : decode cX4_subtractTimes 154 = .ok (.aload_n 0, 1) := by decide +kernel
theorem dX4_subtractTimes_155 : decode cX4_subtractTimes 155 = .ok (.getfield 53, 3) := by decide +kernel
theorem dX4_subtractTimes_158 : decode cX4_subtractTimes 158 = .ok (.iload 8, 2) := by decide +kernel
theorem dX4_subtractTimes_160 : decode cX4_subtractTimes 160 = .ok (.iadd, 1) := by decide +kernel
theorem dX4_subtractTimes_161 : decode cX4_subtractTimes 161 = .ok (.iaload, 1) := by decide +kernel
theorem dX4_subtractTimes_162 : decode cX4_subtractTimes 162 = .ok (.i2l, 1) := by decide +kernel
theorem dX4_subtractTimes_163 : decode cX4_subtractTimes 163 = .ok (.ladd, 1) := by decide +kernel
theorem dX4_subtractTimes_164 : decode cX4_subtractTimes 164 = .ok (.lstore 9, 2) := by decide +kernel
theorem dX4_subtractTimes_166 : decode cX4_subtractTimes 166 = .ok (.aload_n 0, 1) := by decide +kernel
theorem dX4_subtractTimes_167 : decode cX4_subtractTimes 167 = .ok (.getfield 9, 3) := by decide +kernel
theorem dX4_subtractTimes_170 : decode cX4_subtractTimes 170 = .ok (.iload_n 1, 1) := by decide +kernel
theorem dX4_subtractTimes_171 : decode cX4_subtractTimes 171 = .ok (.iload 8, 2) := by decide +kernel
theorem dX4_subtractTimes_173 : decode cX4_subtractTimes 173 = .ok (.iadd, 1) := by decide +kernel
theorem dX4_subtractTimes_174 : decode cX4_subtractTimes 174 = .ok (.lload 9, 2) := by decide +kernel
theorem dX4_subtractTimes_176 : decode cX4_subtractTimes 176 = .ok (.ldc2_w 15, 3) := by decide +kernel
theorem dX4_subtractTimes_179 : decode cX4_subtractTimes 179 = .ok (.land, 1) := by decide +kernel
theorem dX4_subtractTimes_180 : decode cX4_subtractTimes 180 = .ok (.l2i, 1) := by decide +kernel
theorem dX4_subtractTimes_181 : decode cX4_subtractTimes 181 = .ok (.iastore, 1) := by decide +kernel
theorem dX4_subtractTimes_182 : decode cX4_subtractTimes 182 = .ok (.lload 9, 2) := by decide +kernel
theorem dX4_subtractTimes_184 : decode cX4_subtractTimes 184 = .ok (.bipush 31, 2) := by decide +kernel
theorem dX4_subtractTimes_186 : decode cX4_subtractTimes 186 = .ok (.lshr, 1) := by decide +kernel
theorem dX4_subtractTimes_187 : decode cX4_subtractTimes 187 = .ok (.lstore 4, 2) := by decide +kernel
theorem dX4_subtractTimes_189 : decode cX4_subtractTimes 189 = .ok (.iinc 8 1, 3) := by decide +kernel
theorem dX4_subtractTimes_192 : decode cX4_subtractTimes 192 = .ok (.goto (-64), 3) := by decide +kernel
theorem dX4_subtractTimes_195 : decode cX4_subtractTimes 195 = .ok (.lload_n 2, 1) := by decide +kernel
theorem dX4_subtractTimes_196 : decode cX4_subtractTimes 196 = .ok (.lconst 1, 1) := by decide +kernel
theorem dX4_subtractTimes_197 : decode cX4_subtractTimes 197 = .ok (.lsub, 1) := by decide +kernel
theorem dX4_subtractTimes_198 : decode cX4_subtractTimes 198 = .ok (.l2i, 1) := by decide +kernel
theorem dX4_subtractTimes_199 : decode cX4_subtractTimes 199 = .ok (.ireturn, 1) := by decide +kernel
theorem dX5_init_0 : decode cX5_init 0 = .ok (.aload_n 0, 1) := by decide +kernel
theorem dX5_init_1 : decode cX5_init 1 = .ok (.invokespecial 1, 3) := by decide +kernel
theorem dX5_init_4 : decode cX5_init 4 = .ok (.aload_n 0, 1) := by decide +kernel
theorem dX5_init_5 : decode cX5_init 5 = .ok (.new 7, 3) := by decide +kernel
theorem dX5_init_8 : decode cX5_init 8 = .ok (.dup, 1) := by decide +kernel
theorem dX5_init_9 : decode cX5_init 9 = .ok (.iload_n 1, 1) := by decide +kernel
theorem dX5_init_10 : decode cX5_init 10 = .ok (.iconst 3, 1) := by decide +kernel
theorem dX5_init_11 : decode cX5_init 11 = .ok (.bipush 11, 2) := by decide +kernel
theorem dX5_init_13 : decode cX5_init 13 = .ok (.invokestatic 9, 3) := by decide +kernel
theorem dX5_init_16 : decode cX5_init 16 = .ok (.invokespecial 15, 3) := by decide +kernel
theorem dX5_init_19 : decode cX5_init 19 = .ok (.putfield 18, 3) := by decide +kernel
theorem dX5_init_22 : decode cX5_init 22 = .ok (.aload_n 0, 1) := by decide +kernel
theorem dX5_init_23 : decode cX5_init 23 = .ok (.new 22, 3) := by decide +kernel
theorem dX5_init_26 : decode cX5_init 26 = .ok (.dup, 1) := by decide +kernel
theorem dX5_init_27 : decode cX5_init 27 = .ok (.aload_n 0, 1) := by decide +kernel
theorem dX5_init_28 : decode cX5_init 28 = .ok (.getfield 18, 3) := by decide +kernel
theorem dX5_init_31 : decode cX5_init 31 = .ok (.getfield 24, 3) := by decide +kernel
theorem dX5_init_34 : decode cX5_init 34 = .ok (.invokespecial 28, 3) := by decide +kernel
theorem dX5_init_37 : decode cX5_init 37 = .ok (.putfield 31, 3) := by decide +kernel
theorem dX5_init_40 : decode cX5_init 40 = .ok (.aload_n 0, 1) := by decide +kernel
theorem dX5_init_41 : decode cX5_init 41 = .ok (.iload_n 2, 1) := by decide +kernel
theorem dX5_init_42 : decode cX5_init 42 = .ok (.iconst 1, 1) := by decide +kernel
theorem dX5_init_43 : decode cX5_init 43 = .ok (.bipush 12, 2) := by decide +kernel
theorem dX5_init_45 : decode cX5_init 45 = .ok (.invokestatic 9, 3) := by decide +kernel
theorem dX5_init_48 : decode cX5_init 48 = .ok (.anewarray 35, 3) := by decide +kernel
theorem dX5_init_51 : decode cX5_init 51 = .ok (.putfield 37, 3) := by decide +kernel
theorem dX5_init_54 : decode cX5_init 54 = .ok (.iconst 0, 1) := by decide +kernel
theorem dX5_init_55 : decode cX5_init 55 = .ok (.istore 5, 2) := by decide +kernel
theorem dX5_init_57 : decode cX5_init 57 = .ok (.iload 5, 2) := by decide +kernel
theorem dX5_init_59 : decode cX5_init 59 = .ok (.aload_n 0, 1) := by decide +kernel
theorem dX5_init_60 : decode cX5_init 60 = .ok (.getfield 37, 3) := by decide +kernel
theorem dX5_init_63 : decode cX5_init 63 = .ok (.arraylength, 1) := by decide +kernel
theorem dX5_init_64 : decode cX5_init 64 = .ok (.if_icmp .ge 23, 3) := by decide +kernel
theorem dX5_init_67 : decode cX5_init 67 = .ok (.aload_n 0, 1) := by decide +kernel
theorem dX5_init_68 : decode cX5_init 68 = .ok (.getfield 37, 3) := by decide +kernel
theorem dX5_init_71 : decode cX5_init 71 = .ok (.iload 5, 2) := by decide +kernel
theorem dX5_init_73 : decode cX5_init 73 = .ok (.new 35, 3) := by decide +kernel
theorem dX5_init_76 : decode cX5_init 76 = .ok (.dup, 1) := by decide +kernel
theorem dX5_init_77 : decode cX5_init 77 = .ok (.invokespecial 41, 3) := by decide +kernel
theorem dX5_init_80 : decode cX5_init 80 = .ok (.aastore, 1) := by decide +kernel
theorem dX5_init_81 : decode cX5_init 81 = .ok (.iinc 5 1, 3) := by decide +kernel
theorem dX5_init_84 : decode cX5_init 84 = .ok (.goto (-27), 3) := by decide +kernel
theorem dX5_init_87 : decode cX5_init 87 = .ok (.aload_n 0, 1) := by decide +kernel
theorem dX5_init_88 : decode cX5_init 88 = .ok (.iload_n 3, 1) := by decide +kernel
theorem dX5_init_89 : decode cX5_init 89 = .ok (.iconst 1, 1) := by decide +kernel
theorem dX5_init_90 : decode cX5_init 90 = .ok (.bipush 24, 2) := by decide +kernel
theorem dX5_init_92 : decode cX5_init 92 = .ok (.invokestatic 9, 3) := by decide +kernel
theorem dX5_init_95 : decode cX5_init 95 = .ok (.anewarray 42, 3) := by decide +kernel
theorem dX5_init_98 : decode cX5_init 98 = .ok (.putfield 44, 3) := by decide +kernel
theorem dX5_init_101 : decode cX5_init 101 = .ok (.iconst 0, 1) := by decide +kernel
theorem dX5_init_102 : decode cX5_init 102 = .ok (.istore 5, 2) := by decide +kernel
theorem dX5_init_104 : decode cX5_init 104 = .ok (.iload 5, 2) := by decide +kernel
theorem dX5_init_106 : decode cX5_init 106 = .ok (.aload_n 0, 1) := by decide +kernel
theorem dX5_init_107 : decode cX5_init 107 = .ok (.getfield 44, 3) := by decide +kernel
theorem dX5_init_110 : decode cX5_init 110 = .ok (.arraylength, 1) := by decide +kernel
theorem dX5_init_111 : decode cX5_init 111 = .ok (.if_icmp .ge 23, 3) := by decide +kernel
theorem dX5_init_114 : decode cX5_init 114 = .ok (.aload_n 0, 1) := by decide +kernel
theorem dX5_init_115 : decode cX5_init 115 = .ok (.getfield 44, 3) := by decide +kernel
theorem dX5_init_118 : decode cX5_init 118 = .ok (.iload 5, 2) := by decide +kernel
theorem dX5_init_120 : decode cX5_init 120 = .ok (.new 42, 3) := by decide +kernel
theorem dX5_init_123 : decode cX5_init 123 = .ok (.dup, 1) := by decide +kernel
theorem dX5_init_124 : decode cX5_init 124 = .ok (.invokespecial 48, 3) := by decide +kernel
theorem dX5_init_127 : decode cX5_init 127 = .ok (.aastore, 1) := by decide +kernel
theorem dX5_init_128 : decode cX5_init 128 = .ok (.iinc 5 1, 3) := by decide +kernel
theorem dX5_init_131 : decode cX5_init 131 = .ok (.goto (-27), 3) := by decide +kernel
theorem dX5_init_134 : decode cX5_init 134 = .ok (.aload_n 0, 1) := by decide +kernel
theorem dX5_init_135 : decode cX5_init 135 = .ok (.new 49, 3) := by decide +kernel
theorem dX5_init_138 : decode cX5_init 138 = .ok (.dup, 1) := by decide +kernel
theorem dX5_init_139 : decode cX5_init 139 = .ok (.aload_n 0, 1) := by decide +kernel
theorem dX5_init_140 : decode cX5_init 140 = .ok (.getfield 37, 3) := by decide +kernel
theorem dX5_init_143 : decode cX5_init 143 = .ok (.arraylength, 1) := by decide +kernel
theorem dX5_init_144 : decode cX5_init 144 = .ok (.invokespecial 51, 3) := by decide +kernel
theorem dX5_init_147 : decode cX5_init 147 = .ok (.putfield 52, 3) := by decide +kernel
theorem dX5_init_150 : decode cX5_init 150 = .ok (.aload_n 0, 1) := by decide +kernel
theorem dX5_init_151 : decode cX5_init 151 = .ok (.iload 4, 2) := by decide +kernel
theorem dX5_init_153 : decode cX5_init 153 = .ok (.iconst 1, 1) := by decide +kernel
theorem dX5_init_154 : decode cX5_init 154 = .ok (.sipush 2000, 3) := by decide +kernel
theorem dX5_init_157 : decode cX5_init 157 = .ok (.invokestatic 9, 3) := by decide +kernel
theorem dX5_init_160 : decode cX5_init 160 = .ok (.putfield 56, 3) := by decide +kernel
theorem dX5_init_163 : decode cX5_init 163 = .ok (.return_, 1) := by decide +kernel
theorem dX5_init__0 : decode cX5_init_ 0 = .ok (.aload_n 0, 1) := by decide +kernel
theorem dX5_init__1 : decode cX5_init_ 1 = .ok (.getfield 60, 3) := by decide +kernel
theorem dX5_init__4 : decode cX5_init_ 4 = .ok (.aload_n 0, 1) := by decide +kernel
theorem dX5_init__5 : decode cX5_init_ 5 = .ok (.getfield 63, 3) := by decide +kernel
theorem dX5_init__8 : decode cX5_init_ 8 = .ok (.iadd, 1) := by decide +kernel
theorem dX5_init__9 : decode cX5_init_ 9 = .ok (.istore_n 1, 1) := by decide +kernel
theorem dX5_init__10 : decode cX5_init_ 10 = .ok (.aload_n 0, 1) := by decide +kernel
theorem dX5_init__11 : decode cX5_init_ 11 = .ok (.getfield 18, 3) := by decide +kernel
theorem dX5_init__14 : decode cX5_init_ 14 = .ok (.invokevirtual 66, 3) := by decide +kernel
theorem dX5_init__17 : decode cX5_init_ 17 = .ok (.aload_n 0, 1) := by decide +kernel
theorem dX5_init__18 : decode cX5_init_ 18 = .ok (.getfield 52, 3) := by decide +kernel
theorem dX5_init__21 : decode cX5_init_ 21 = .ok (.invokevirtual 69, 3) := by decide +kernel
theorem dX5_init__24 : decode cX5_init_ 24 = .ok (.iconst 0, 1) := by decide +kernel
theorem dX5_init__25 : decode cX5_init_ 25 = .ok (.istore_n 2, 1) := by decide +kernel
theorem dX5_init__26 : decode cX5_init_ 26 = .ok (.iload_n 2, 1) := by decide +kernel
theorem dX5_init__27 : decode cX5_init_ 27 = .ok (.aload_n 0, 1) := by decide +kernel
theorem dX5_init__28 : decode cX5_init_ 28 = .ok (.getfield 44, 3) := by decide +kernel
theorem dX5_init__31 : decode cX5_init_ 31 = .ok (.arraylength, 1) := by decide +kernel
theorem dX5_init__32 : decode cX5_init_ 32 = .ok (.if_icmp .ge 19, 3) := by decide +kernel
theorem dX5_init__35 : decode cX5_init_ 35 = .ok (.aload_n 0, 1) := by decide +kernel
theorem dX5_init__36 : decode cX5_init_ 36 = .ok (.getfield 44, 3) := by decide +kernel
theorem dX5_init__39 : decode cX5_init_ 39 = .ok (.iload_n 2, 1) := by decide +kernel
theorem dX5_init__40 : decode cX5_init_ 40 = .ok (.aaload, 1) := by decide +kernel
theorem dX5_init__41 : decode cX5_init_ 41 = .ok (.iconst 0, 1) := by decide +kernel
theorem dX5_init__42 : decode cX5_init_ 42 = .ok (.putfield 70, 3) := by decide +kernel
theorem dX5_init__45 : decode cX5_init_ 45 = .ok (.iinc 2 1, 3) := by decide +kernel
theorem dX5_init__48 : decode cX5_init_ 48 = .ok (.goto (-22), 3) := by decide +kernel
theorem dX5_init__51 : decode cX5_init_ 51 = .ok (.iconst 0, 1) := by decide +kernel
theorem dX5_init__52 : decode cX5_init_ 52 = .ok (.istore_n 2, 1) := by decide +kernel
theorem dX5_init__53 : decode cX5_init_ 53 = .ok (.iload_n 2, 1) := by decide +kernel
theorem dX5_init__54 : decode cX5_init_ 54 = .ok (.aload_n 0, 1) := by decide +kernel
theorem dX5_init__55 : decode cX5_init_ 55 = .ok (.getfield 37, 3) := by decide +kernel
theorem dX5_init__58 : decode cX5_init_ 58 = .ok (.arraylength, 1) := by decide +kernel
theorem dX5_init__59 : decode cX5_init_ 59 = .ok (.if_icmp .ge 18, 3) := by decide +kernel
theorem dX5_init__62 : decode cX5_init_ 62 = .ok (.aload_n 0, 1) := by decide +kernel
theorem dX5_init__63 : decode cX5_init_ 63 = .ok (.getfield 37, 3) := by decide +kernel
theorem dX5_init__66 : decode cX5_init_ 66 = .ok (.iload_n 2, 1) := by decide +kernel
theorem dX5_init__67 : decode cX5_init_ 67 = .ok (.aaload, 1) := by decide +kernel
theorem dX5_init__68 : decode cX5_init_ 68 = .ok (.invokevirtual 74, 3) := by decide +kernel
theorem dX5_init__71 : decode cX5_init_ 71 = .ok (.iinc 2 1, 3) := by decide +kernel
theorem dX5_init__74 : decode cX5_init_ 74 = .ok (.goto (-21), 3) := by decide +kernel
theorem dX5_init__77 : decode cX5_init_ 77 = .ok (.aload_n 0, 1) := by decide +kernel
theorem dX5_init__78 : decode cX5_init_ 78 = .ok (.iconst 0, 1) := by decide +kernel
theorem dX5_init__79 : decode cX5_init_ 79 = .ok (.putfield 63, 3) := by decide +kernel
theorem dX5_init__82 : decode cX5_init_ 82 = .ok (.aload_n 0, 1) := by decide +kernel
theorem dX5_init__83 : decode cX5_init_ 83 = .ok (.iconst 0, 1) := by decide +kernel
theorem dX5_init__84 : decode cX5_init_ 84 = .ok (.putfield 60, 3) := by decide +kernel
theorem dX5_init__87 : decode cX5_init_ 87 = .ok (.aload_n 0, 1) := by decide +kernel
theorem dX5_init__88 : decode cX5_init_ 88 = .ok (.iconst 0, 1) := by decide +kernel
theorem dX5_init__89 : decode cX5_init_ 89 = .ok (.putfield 75, 3) := by decide +kernel
theorem dX5_init__92 : decode cX5_init_ 92 = .ok (.iload_n 1, 1) := by decide +kernel
theorem dX5_init__93 : decode cX5_init_ 93 = .ok (.ireturn, 1) := by decide +kernel
theorem dX5_newNumber_0 : decode cX5_newNumber 0 = .ok (.iload_n 1, 1) := by decide +kernel
theorem dX5_newNumber_1 : decode cX5_newNumber 1 = .ok (.iconst 1, 1) := by decide +kernel
theorem dX5_newNumber_2 : decode cX5_newNumber 2 = .ok (.if_icmp .lt 15, 3) := by decide +kernel
theorem dX5_newNumber_5 : decode cX5_newNumber 5 = .ok (.iload_n 1, 1) := by decide +kernel
theorem dX5_newNumber_6 : decode cX5_newNumber 6 = .ok (.aload_n 0, 1) := by decide +kernel
theorem dX5_newNumber_7 : decode cX5_newNumber 7 = .ok (.getfield 18, 3) := by decide +kernel
theorem dX5_newNumber_10 : decode cX5_newNumber 10 = .ok (.getfield 24, 3) := by decide +kernel
theorem dX5_newNumber_13 : decode cX5_newNumber 13 = .ok (.arraylength, 1) := by decide +kernel
theorem dX5_newNumber_14 : decode cX5_newNumber 14 = .ok (.if_icmp .le 6, 3) := by decide +kernel
theorem dX5_newNumber_17 : decode cX5_newNumber 17 = .ok (.bipush (-2), 2) := by decide +kernel
theorem dX5_newNumber_19 : decode cX5_newNumber 19 = .ok (.ireturn, 1) := by decide +kernel
theorem dX5_newNumber_20 : decode cX5_newNumber 20 = .ok (.aload_n 0, 1) := by decide +kernel
theorem dX5_newNumber_21 : decode cX5_newNumber 21 = .ok (.invokevirtual 78, 3) := by decide +kernel
theorem dX5_newNumber_24 : decode cX5_newNumber 24 = .ok (.istore_n 2, 1) := by decide +kernel
theorem dX5_newNumber_25 : decode cX5_newNumber 25 = .ok (.iload_n 2, 1) := by decide +kernel
theorem dX5_newNumber_26 : decode cX5_newNumber 26 = .ok (.iconst (-1), 1) := by decide +kernel
theorem dX5_newNumber_27 : decode cX5_newNumber 27 = .ok (.if_icmp .ne 6, 3) := by decide +kernel
theorem dX5_newNumber_30 : decode cX5_newNumber 30 = .ok (.bipush (-3), 2) := by decide +kernel
theorem dX5_newNumber_32 : decode cX5_newNumber 32 = .ok (.ireturn, 1) := by decide +kernel
theorem dX5_newNumber_33 : decode cX5_newNumber 33 = .ok (.iload_n 1, 1) := by decide +kernel
theorem dX5_newNumber_34 : decode cX5_newNumber 34 = .ok (.i2l, 1) := by decide +kernel
theorem dX5_newNumber_35 : decode cX5_newNumber 35 = .ok (.invokestatic 82, 3) := by decide +kernel
theorem dX5_newNumber_38 : decode cX5_newNumber 38 = .ok (.istore_n 3, 1) := by decide +kernel
theorem dX5_newNumber_39 : decode cX5_newNumber 39 = .ok (.aload_n 0, 1) := by decide +kernel
theorem dX5_newNumber_40 : decode cX5_newNumber 40 = .ok (.getfield 18, 3) := by decide +kernel
theorem dX5_newNumber_43 : decode cX5_newNumber 43 = .ok (.iload_n 3, 1) := by decide +kernel
theorem dX5_newNumber_44 : decode cX5_newNumber 44 = .ok (.invokevirtual 86, 3) := by decide +kernel
theorem dX5_newNumber_47 : decode cX5_newNumber 47 = .ok (.istore 4, 2) := by decide +kernel
theorem dX5_newNumber_49 : decode cX5_newNumber 49 = .ok (.iload 4, 2) := by decide +kernel
theorem dX5_newNumber_51 : decode cX5_newNumber 51 = .ok (.iconst (-1), 1) := by decide +kernel
theorem dX5_newNumber_52 : decode cX5_newNumber 52 = .ok (.if_icmp .ne 6, 3) := by decide +kernel
theorem dX5_newNumber_55 : decode cX5_newNumber 55 = .ok (.bipush (-4), 2) := by decide +kernel
theorem dX5_newNumber_57 : decode cX5_newNumber 57 = .ok (.ireturn, 1) := by decide +kernel
theorem dX5_newNumber_58 : decode cX5_newNumber 58 = .ok (.aload_n 0, 1) := by decide +kernel
theorem dX5_newNumber_59 : decode cX5_newNumber 59 = .ok (.iload_n 2, 1) := by decide +kernel
theorem dX5_newNumber_60 : decode cX5_newNumber 60 = .ok (.iload_n 1, 1) := by decide +kernel
theorem dX5_newNumber_61 : decode cX5_newNumber 61 = .ok (.iload_n 3, 1) := by decide +kernel
theorem dX5_newNumber_62 : decode cX5_newNumber 62 = .ok (.iload 4, 2) := by decide +kernel
theorem dX5_newNumber_64 : decode cX5_newNumber 64 = .ok (.invokevirtual 90, 3) := by decide +kernel
theorem dX5_newNumber_67 : decode cX5_newNumber 67 = .ok (.iload_n 2, 1) := by decide +kernel
theorem dX5_newNumber_68 : decode cX5_newNumber 68 = .ok (.ireturn, 1) := by decide +kernel
theorem dX5_setLimb_0 : decode cX5_setLimb 0 = .ok (.aload_n 0, 1) := by decide +kernel
theorem dX5_setLimb_1 : decode cX5_setLimb 1 = .ok (.iload_n 1, 1) := by decide +kernel
theorem dX5_setLimb_2 : decode cX5_setLimb 2 = .ok (.invokevirtual 94, 3) := by decide +kernel
theorem dX5_setLimb_5 : decode cX5_setLimb 5 = .ok (.ifCond .eq 32, 3) := by decide +kernel
theorem dX5_setLimb_8 : decode cX5_setLimb 8 = .ok (.aload_n 0, 1) := by decide +kernel
theorem dX5_setLimb_9 : decode cX5_setLimb 9 = .ok (.getfield 44, 3) := by decide +kernel
theorem dX5_setLimb_12 : decode cX5_setLimb 12 = .ok (.iload_n 1, 1) := by decide +kernel
theorem dX5_setLimb_13 : decode cX5_setLimb 13 = .ok (.aaload, 1) := by decide +kernel
theorem dX5_setLimb_14 : decode cX5_setLimb 14 = .ok (.getfield 98, 3) := by decide +kernel
theorem dX5_setLimb_17 : decode cX5_setLimb 17 = .ok (.ifCond .gt 20, 3) := by decide +kernel
theorem dX5_setLimb_20 : decode cX5_setLimb 20 = .ok (.aload_n 0, 1) := by decide +kernel
theorem dX5_setLimb_21 : decode cX5_setLimb 21 = .ok (.getfield 44, 3) := by decide +kernel
theorem dX5_setLimb_24 : decode cX5_setLimb 24 = .ok (.iload_n 1, 1) := by decide +kernel
theorem dX5_setLimb_25 : decode cX5_setLimb 25 = .ok (.aaload, 1) := by decide +kernel
theorem dX5_setLimb_26 : decode cX5_setLimb 26 = .ok (.iload_n 2, 1) := by decide +kernel
theorem dX5_setLimb_27 : decode cX5_setLimb 27 = .ok (.invokevirtual 101, 3) := by decide +kernel
theorem dX5_setLimb_30 : decode cX5_setLimb 30 = .ok (.ifCond .eq 7, 3) := by decide +kernel
theorem dX5_setLimb_33 : decode cX5_setLimb 33 = .ok (.iload_n 3, 1) := by decide +kernel
theorem dX5_setLimb_34 : decode cX5_setLimb 34 = .ok (.ifCond .ge 5, 3) := by decide +kernel
theorem dX5_setLimb_37 : decode cX5_setLimb 37 = .ok (.iconst 0, 1) := by decide +kernel
theorem dX5_setLimb_38 : decode cX5_setLimb 38 = .ok (.ireturn, 1) := by decide +kernel
theorem dX5_setLimb_39 : decode cX5_setLimb 39 = .ok (.aload_n 0, 1) := by decide +kernel
theorem dX5_setLimb_40 : decode cX5_setLimb 40 = .ok (.getfield 18, 3) := by decide +kernel
theorem dX5_setLimb_43 : decode cX5_setLimb 43 = .ok (.getfield 24, 3) := by decide +kernel
theorem dX5_setLimb_46 : decode cX5_setLimb 46 = .ok (.aload_n 0, 1) := by decide +kernel
theorem dX5_setLimb_47 : decode cX5_setLimb 47 = .ok (.getfield 44, 3) := by decide +kernel
theorem dX5_setLimb_50 : decode cX5_setLimb 50 = .ok (.iload_n 1, 1) := by decide +kernel
theorem dX5_setLimb_51 : decode cX5_setLimb 51 = .ok (.aaload, 1) := by decide +kernel
theorem dX5_setLimb_52 : decode cX5_setLimb 52 = .ok (.getfield 104, 3) := by decide +kernel
theorem dX5_setLimb_55 : decode cX5_setLimb 55 = .ok (.iload_n 2, 1) := by decide +kernel
theorem dX5_setLimb_56 : decode cX5_setLimb 56 = .ok (.iadd, 1) := by decide +kernel
theorem dX5_setLimb_57 : decode cX5_setLimb 57 = .ok (.iload_n 3, 1) := by decide +kernel
theorem dX5_setLimb_58 : decode cX5_setLimb 58 = .ok (.iastore, 1) := by decide +kernel
theorem dX5_setLimb_59 : decode cX5_setLimb 59 = .ok (.iconst 1, 1) := by decide +kernel
theorem dX5_setLimb_60 : decode cX5_setLimb 60 = .ok (.ireturn, 1) := by decide +kernel
theorem dX5_getLimb_0 : decode cX5_getLimb 0 = .ok (.aload_n 0, 1) := by decide +kernel
theorem dX5_getLimb_1 : decode cX5_getLimb 1 = .ok (.iload_n 1, 1) := by decide +kernel
theorem dX5_getLimb_2 : decode cX5_getLimb 2 = .ok (.invokevirtual 107, 3) := by decide +kernel
theorem dX5_getLimb_5 : decode cX5_getLimb 5 = .ok (.ifCond .eq 16, 3) := by decide +kernel
theorem dX5_getLimb_8 : decode cX5_getLimb 8 = .ok (.aload_n 0, 1) := by decide +kernel
theorem dX5_getLimb_9 : decode cX5_getLimb 9 = .ok (.getfield 44, 3) := by decide +kernel
theorem dX5_getLimb_12 : decode cX5_getLimb 12 = .ok (.iload_n 1, 1) := by decide +kernel
theorem dX5_getLimb_13 : decode cX5_getLimb 13 = .ok (.aaload, 1) := by decide +kernel
theorem dX5_getLimb_14 : decode cX5_getLimb 14 = .ok (.iload_n 2, 1) := by decide +kernel
theorem dX5_getLimb_15 : decode cX5_getLimb 15 = .ok (.invokevirtual 101, 3) := by decide +kernel
theorem dX5_getLimb_18 : decode cX5_getLimb 18 = .ok (.ifCond .ne 5, 3) := by decide +kernel
theorem dX5_getLimb_21 : decode cX5_getLimb 21 = .ok (.iconst (-1), 1) := by decide +kernel
theorem dX5_getLimb_22 : decode cX5_getLimb 22 = .ok (.ireturn, 1) := by decide +kernel
theorem dX5_getLimb_23 : decode cX5_getLimb 23 = .ok (.aload_n 0, 1) := by decide +kernel
theorem dX5_getLimb_24 : decode cX5_getLimb 24 = .ok (.getfield 18, 3) := by decide +kernel
theorem dX5_getLimb_27 : decode cX5_getLimb 27 = .ok (.getfield 24, 3) := by decide +kernel
theorem dX5_getLimb_30 : decode cX5_getLimb 30 = .ok (.aload_n 0, 1) := by decide +kernel
theorem dX5_getLimb_31 : decode cX5_getLimb 31 = .ok (.getfield 44, 3) := by decide +kernel
theorem dX5_getLimb_34 : decode cX5_getLimb 34 = .ok (.iload_n 1, 1) := by decide +kernel
theorem dX5_getLimb_35 : decode cX5_getLimb 35 = .ok (.aaload, 1) := by decide +kernel
theorem dX5_getLimb_36 : decode cX5_getLimb 36 = .ok (.getfield 104, 3) := by decide +kernel
theorem dX5_getLimb_39 : decode cX5_getLimb 39 = .ok (.iload_n 2, 1) := by decide +kernel
theorem dX5_getLimb_40 : decode cX5_getLimb 40 = .ok (.iadd, 1) := by decide +kernel
theorem dX5_getLimb_41 : decode cX5_getLimb 41 = .ok (.iaload, 1) := by decide +kernel
theorem dX5_getLimb_42 : decode cX5_getLimb 42 = .ok (.ireturn, 1) := by decide +kernel
theorem dX5_sizeOf_0 : decode cX5_sizeOf 0 = .ok (.aload_n 0, 1) := by decide +kernel
theorem dX5_sizeOf_1 : decode cX5_sizeOf 1 = .ok (.iload_n 1, 1) := by decide +kernel
theorem dX5_sizeOf_2 : decode cX5_sizeOf 2 = .ok (.invokevirtual 94, 3) := by decide +kernel
theorem dX5_sizeOf_5 : decode cX5_sizeOf 5 = .ok (.ifCond .eq 15, 3) := by decide +kernel
theorem dX5_sizeOf_8 : decode cX5_sizeOf 8 = .ok (.aload_n 0, 1) := by decide +kernel
theorem dX5_sizeOf_9 : decode cX5_sizeOf 9 = .ok (.getfield 44, 3) := by decide +kernel
theorem dX5_sizeOf_12 : decode cX5_sizeOf 12 = .ok (.iload_n 1, 1) := by decide +kernel
theorem dX5_sizeOf_13 : decode cX5_sizeOf 13 = .ok (.aaload, 1) := by decide +kernel
theorem dX5_sizeOf_14 : decode cX5_sizeOf 14 = .ok (.getfield 110, 3) := by decide +kernel
theorem dX5_sizeOf_17 : decode cX5_sizeOf 17 = .ok (.goto 4, 3) := by decide +kernel
theorem dX5_sizeOf_20 : decode cX5_sizeOf 20 = .ok (.iconst (-1), 1) := by decide +kernel
theorem dX5_sizeOf_21 : decode cX5_sizeOf 21 = .ok (.ireturn, 1) := by decide +kernel
theorem dX5_release_0 : decode cX5_release 0 = .ok (.aload_n 0, 1) := by decide +kernel
theorem dX5_release_1 : decode cX5_release 1 = .ok (.iload_n 1, 1) := by decide +kernel
theorem dX5_release_2 : decode cX5_release 2 = .ok (.invokevirtual 94, 3) := by decide +kernel
theorem dX5_release_5 : decode cX5_release 5 = .ok (.ifCond .eq 15, 3) := by decide +kernel
theorem dX5_release_8 : decode cX5_release 8 = .ok (.aload_n 0, 1) := by decide +kernel
theorem dX5_release_9 : decode cX5_release 9 = .ok (.getfield 44, 3) := by decide +kernel
theorem dX5_release_12 : decode cX5_release 12 = .ok (.iload_n 1, 1) := by decide +kernel
theorem dX5_release_13 : decode cX5_release 13 = .ok (.aaload, 1) := by decide +kernel
theorem dX5_release_14 : decode cX5_release 14 = .ok (.getfield 98, 3) := by decide +kernel
theorem dX5_release_17 : decode cX5_release 17 = .ok (.ifCond .le 5, 3) := by decide +kernel
theorem dX5_release_20 : decode cX5_release 20 = .ok (.iconst 0, 1) := by decide +kernel
theorem dX5_release_21 : decode cX5_release 21 = .ok (.ireturn, 1) := by decide +kernel
theorem dX5_release_22 : decode cX5_release 22 = .ok (.iconst 0, 1) := by decide +kernel
theorem dX5_release_23 : decode cX5_release 23 = .ok (.istore_n 2, 1) := by decide +kernel
theorem dX5_release_24 : decode cX5_release 24 = .ok (.iload_n 2, 1) := by decide +kernel
theorem dX5_release_25 : decode cX5_release 25 = .ok (.aload_n 0, 1) := by decide +kernel
theorem dX5_release_26 : decode cX5_release 26 = .ok (.getfield 37, 3) := by decide +kernel
theorem dX5_release_29 : decode cX5_release 29 = .ok (.arraylength, 1) := by decide +kernel
theorem dX5_release_30 : decode cX5_release 30 = .ok (.if_icmp .ge 32, 3) := by decide +kernel
theorem dX5_release_33 : decode cX5_release 33 = .ok (.aload_n 0, 1) := by decide +kernel
theorem dX5_release_34 : decode cX5_release 34 = .ok (.getfield 37, 3) := by decide +kernel
theorem dX5_release_37 : decode cX5_release 37 = .ok (.iload_n 2, 1) := by decide +kernel
theorem dX5_release_38 : decode cX5_release 38 = .ok (.aaload, 1) := by decide +kernel
theorem dX5_release_39 : decode cX5_release 39 = .ok (.getfield 113, 3) := by decide +kernel
theorem dX5_release_42 : decode cX5_release 42 = .ok (.iload_n 1, 1) := by decide +kernel
theorem dX5_release_43 : decode cX5_release 43 = .ok (.if_icmp .ne 13, 3) := by decide +kernel
theorem dX5_release_46 : decode cX5_release 46 = .ok (.aload_n 0, 1) := by decide +kernel
theorem dX5_release_47 : decode cX5_release 47 = .ok (.getfield 37, 3) := by decide +kernel
theorem dX5_release_50 : decode cX5_release 50 = .ok (.iload_n 2, 1) := by decide +kernel
theorem dX5_release_51 : decode cX5_release 51 = .ok (.aaload, 1) := by decide +kernel
theorem dX5_release_52 : decode cX5_release 52 = .ok (.iconst (-1), 1) := by decide +kernel
theorem dX5_release_53 : decode cX5_release 53 = .ok (.putfield 113, 3) := by decide +kernel
theorem dX5_release_56 : decode cX5_release 56 = .ok (.iinc 2 1, 3) := by decide +kernel
theorem dX5_release_59 : decode cX5_release 59 = .ok (.goto (-35), 3) := by decide +kernel
theorem dX5_release_62 : decode cX5_release 62 = .ok (.aload_n 0, 1) := by decide +kernel
theorem dX5_release_63 : decode cX5_release 63 = .ok (.iload_n 1, 1) := by decide +kernel
theorem dX5_release_64 : decode cX5_release 64 = .ok (.invokevirtual 116, 3) := by decide +kernel
theorem dX5_release_67 : decode cX5_release 67 = .ok (.iconst 1, 1) := by decide +kernel
theorem dX5_release_68 : decode cX5_release 68 = .ok (.ireturn, 1) := by decide +kernel
theorem dX5_submit_0 : decode cX5_submit 0 = .ok (.iload_n 1, 1) := by decide +kernel
theorem dX5_submit_1 : decode cX5_submit 1 = .ok (.ifCond .lt 8, 3) := by decide +kernel
theorem dX5_submit_4 : decode cX5_submit 4 = .ok (.iload_n 1, 1) := by decide +kernel
theorem dX5_submit_5 : decode cX5_submit 5 = .ok (.iconst 3, 1) := by decide +kernel
theorem dX5_submit_6 : decode cX5_submit 6 = .ok (.if_icmp .le 6, 3) := by decide +kernel
theorem dX5_submit_9 : decode cX5_submit 9 = .ok (.bipush (-5), 2) := by decide +kernel
theorem dX5_submit_11 : decode cX5_submit 11 = .ok (.ireturn, 1) := by decide +kernel
theorem dX5_submit_12 : decode cX5_submit 12 = .ok (.aload_n 0, 1) := by decide +kernel
theorem dX5_submit_13 : decode cX5_submit 13 = .ok (.iload_n 2, 1) := by decide +kernel
theorem dX5_submit_14 : decode cX5_submit 14 = .ok (.invokevirtual 107, 3) := by decide +kernel
theorem dX5_submit_17 : decode cX5_submit 17 = .ok (.ifCond .eq 25, 3) := by decide +kernel
theorem dX5_submit_20 : decode cX5_submit 20 = .ok (.aload_n 0, 1) := by decide +kernel
theorem dX5_submit_21 : decode cX5_submit 21 = .ok (.iload_n 3, 1) := by decide +kernel
theorem dX5_submit_22 : decode cX5_submit 22 = .ok (.invokevirtual 107, 3) := by decide +kernel
theorem dX5_submit_25 : decode cX5_submit 25 = .ok (.ifCond .eq 17, 3) := by decide +kernel
theorem dX5_submit_28 : decode cX5_submit 28 = .ok (.iload_n 1, 1) := by decide +kernel
theorem dX5_submit_29 : decode cX5_submit 29 = .ok (.iconst 3, 1) := by decide +kernel
theorem dX5_submit_30 : decode cX5_submit 30 = .ok (.if_icmp .ne 15, 3) := by decide +kernel
theorem dX5_submit_33 : decode cX5_submit 33 = .ok (.aload_n 0, 1) := by decide +kernel
theorem dX5_submit_34 : decode cX5_submit 34 = .ok (.iload 4, 2) := by decide +kernel
theorem dX5_submit_36 : decode cX5_submit 36 = .ok (.invokevirtual 107, 3) := by decide +kernel
theorem dX5_submit_39 : decode cX5_submit 39 = .ok (.ifCond .ne 6, 3) := by decide +kernel
theorem dX5_submit_42 : decode cX5_submit 42 = .ok (.bipush (-6), 2) := by decide +kernel
theorem dX5_submit_44 : decode cX5_submit 44 = .ok (.ireturn, 1) := by decide +kernel
theorem dX5_submit_45 : decode cX5_submit 45 = .ok (.iload_n 1, 1) := by decide +kernel
theorem dX5_submit_46 : decode cX5_submit 46 = .ok (.iconst 1, 1) := by decide +kernel
theorem dX5_submit_47 : decode cX5_submit 47 = .ok (.if_icmp .ne 11, 3) := by decide +kernel
theorem dX5_submit_50 : decode cX5_submit 50 = .ok (.aload_n 0, 1) := by decide +kernel
theorem dX5_submit_51 : decode cX5_submit 51 = .ok (.iload_n 3, 1) := by decide +kernel
theorem dX5_submit_52 : decode cX5_submit 52 = .ok (.invokevirtual 119, 3) := by decide +kernel
theorem dX5_submit_55 : decode cX5_submit 55 = .ok (.ifCond .ne 17, 3) := by decide +kernel
theorem dX5_submit_58 : decode cX5_submit 58 = .ok (.iload_n 1, 1) := by decide +kernel
theorem dX5_submit_59 : decode cX5_submit 59 = .ok (.iconst 3, 1) := by decide +kernel
theorem dX5_submit_60 : decode cX5_submit 60 = .ok (.if_icmp .ne 15, 3) := by decide +kernel
theorem dX5_submit_63 : decode cX5_submit 63 = .ok (.aload_n 0, 1) := by decide +kernel
theorem dX5_submit_64 : decode cX5_submit 64 = .ok (.iload 4, 2) := by decide +kernel
theorem dX5_submit_66 : decode cX5_submit 66 = .ok (.invokevirtual 119, 3) := by decide +kernel
theorem dX5_submit_69 : decode cX5_submit 69 = .ok (.ifCond .eq 6, 3) := by decide +kernel
theorem dX5_submit_72 : decode cX5_submit 72 = .ok (.bipush (-7), 2) := by decide +kernel
theorem dX5_submit_74 : decode cX5_submit 74 = .ok (.ireturn, 1) := by decide +kernel
theorem dX5_submit_75 : decode cX5_submit 75 = .ok (.aload_n 0, 1) := by decide +kernel
theorem dX5_submit_76 : decode cX5_submit 76 = .ok (.invokevirtual 122, 3) := by decide +kernel
theorem dX5_submit_79 : decode cX5_submit 79 = .ok (.istore 5, 2) := by decide +kernel
theorem dX5_submit_81 : decode cX5_submit 81 = .ok (.iload 5, 2) := by decide +kernel
theorem dX5_submit_83 : decode cX5_submit 83 = .ok (.iconst (-1), 1) := by decide +kernel
theorem dX5_submit_84 : decode cX5_submit 84 = .ok (.if_icmp .ne 6, 3) := by decide +kernel
theorem dX5_submit_87 : decode cX5_submit 87 = .ok (.bipush (-8), 2) := by decide +kernel
theorem dX5_submit_89 : decode cX5_submit 89 = .ok (.ireturn, 1) := by decide +kernel
theorem dX5_submit_90 : decode cX5_submit 90 = .ok (.aload_n 0, 1) := by decide +kernel
theorem dX5_submit_91 : decode cX5_submit 91 = .ok (.getfield 37, 3) := by decide +kernel
theorem dX5_submit_94 : decode cX5_submit 94 = .ok (.iload 5, 2) := by decide +kernel
theorem dX5_submit_96 : decode cX5_submit 96 = .ok (.aaload, 1) := by decide +kernel
theorem dX5_submit_97 : decode cX5_submit 97 = .ok (.astore 6, 2) := by decide +kernel
theorem dX5_submit_99 : decode cX5_submit 99 = .ok (.aload 6, 2) := by decide +kernel
theorem dX5_submit_101 : decode cX5_submit 101 = .ok (.iload_n 1, 1) := by decide +kernel
theorem dX5_submit_102 : decode cX5_submit 102 = .ok (.putfield 125, 3) := by decide +kernel
theorem dX5_submit_105 : decode cX5_submit 105 = .ok (.aload 6, 2) := by decide +kernel
theorem dX5_submit_107 : decode cX5_submit 107 = .ok (.iload_n 2, 1) := by decide +kernel
theorem dX5_submit_108 : decode cX5_submit 108 = .ok (.putfield 128, 3) := by decide +kernel
theorem dX5_submit_111 : decode cX5_submit 111 = .ok (.aload 6, 2) := by decide +kernel
theorem dX5_submit_113 : decode cX5_submit 113 = .ok (.iload_n 3, 1) := by decide +kernel
theorem dX5_submit_114 : decode cX5_submit 114 = .ok (.putfield 131, 3) := by decide +kernel
theorem dX5_submit_117 : decode cX5_submit 117 = .ok (.aload 6, 2) := by decide +kernel
theorem dX5_submit_119 : decode cX5_submit 119 = .ok (.iload_n 1, 1) := by decide +kernel
theorem dX5_submit_120 : decode cX5_submit 120 = .ok (.iconst 3, 1) := by decide +kernel
theorem dX5_submit_121 : decode cX5_submit 121 = .ok (.if_icmp .ne 8, 3) := by decide +kernel
theorem dX5_submit_124 : decode cX5_submit 124 = .ok (.iload 4, 2) := by decide +kernel
theorem dX5_submit_126 : decode cX5_submit 126 = .ok (.goto 4, 3) := by decide +kernel
theorem dX5_submit_129 : decode cX5_submit 129 = .ok (.iconst (-1), 1) := by decide +kernel
theorem dX5_submit_130 : decode cX5_submit 130 = .ok (.putfield 134, 3) := by decide +kernel
theorem dX5_submit_133 : decode cX5_submit 133 = .ok (.aload 6, 2) := by decide +kernel
theorem dX5_submit_135 : decode cX5_submit 135 = .ok (.aload_n 0, 1) := by decide +kernel
theorem dX5_submit_136 : decode cX5_submit 136 = .ok (.getfield 44, 3) := by decide +kernel
theorem dX5_submit_139 : decode cX5_submit 139 = .ok (.iload_n 2, 1) := by decide +kernel
theorem dX5_submit_140 : decode cX5_submit 140 = .ok (.aaload, 1) := by decide +kernel
theorem dX5_submit_141 : decode cX5_submit 141 = .ok (.getfield 110, 3) := by decide +kernel
theorem dX5_submit_144 : decode cX5_submit 144 = .ok (.i2l, 1) := by decide +kernel
theorem dX5_submit_145 : decode cX5_submit 145 = .ok (.aload_n 0, 1) := by decide +kernel
theorem dX5_submit_146 : decode cX5_submit 146 = .ok (.getfield 44, 3) := by decide +kernel
theorem dX5_submit_149 : decode cX5_submit 149 = .ok (.iload_n 3, 1) := by decide +kernel
theorem dX5_submit_150 : decode cX5_submit 150 = .ok (.aaload, 1) := by decide +kernel
theorem dX5_submit_151 : decode cX5_submit 151 = .ok (.getfield 110, 3) := by decide +kernel
theorem dX5_submit_154 : decode cX5_submit 154 = .ok (.i2l, 1) := by decide +kernel
theorem dX5_submit_155 : decode cX5_submit 155 = .ok (.iload_n 1, 1) := by decide +kernel
theorem dX5_submit_156 : decode cX5_submit 156 = .ok (.iconst 3, 1) := by decide +kernel
theorem dX5_submit_157 : decode cX5_submit 157 = .ok (.if_icmp .ne 17, 3) := by decide +kernel
theorem dX5_submit_160 : decode cX5_submit 160 = .ok (.aload_n 0, 1) := by decide +kernel
theorem dX5_submit_161 : decode cX5_submit 161 = .ok (.getfield 44, 3) := by decide +kernel
theorem dX5_submit_164 : decode cX5_submit 164 = .ok (.iload 4, 2) := by decide +kernel
theorem dX5_submit_166 : decode cX5_submit 166 = .ok (.aaload, 1) := by decide +kernel
theorem dX5_submit_167 : decode cX5_submit 167 = .ok (.getfield 110, 3) := by decide +kernel
theorem dX5_submit_170 : decode cX5_submit 170 = .ok (.i2l, 1) := by decide +kernel
theorem dX5_submit_171 : decode cX5_submit 171 = .ok (.goto 4, 3) := by decide +kernel
theorem dX5_submit_174 : decode cX5_submit 174 = .ok (.lconst 0, 1) := by decide +kernel
theorem dX5_submit_175 : decode cX5_submit 175 = .ok (.invokevirtual 137, 3) := by decide +kernel
theorem dX5_submit_178 : decode cX5_submit 178 = .ok (.aload 6, 2) := by decide +kernel
theorem dX5_submit_180 : decode cX5_submit 180 = .ok (.iconst 0, 1) := by decide +kernel
theorem dX5_submit_181 : decode cX5_submit 181 = .ok (.putfield 141, 3) := by decide +kernel
theorem dX5_submit_184 : decode cX5_submit 184 = .ok (.aload_n 0, 1) := by decide +kernel
theorem dX5_submit_185 : decode cX5_submit 185 = .ok (.aload 6, 2) := by decide +kernel
theorem dX5_submit_187 : decode cX5_submit 187 = .ok (.iconst 1, 1) := by decide +kernel
theorem dX5_submit_188 : decode cX5_submit 188 = .ok (.invokevirtual 144, 3) := by decide +kernel
theorem dX5_submit_191 : decode cX5_submit 191 = .ok (.aload_n 0, 1) := by decide +kernel
theorem dX5_submit_192 : decode cX5_submit 192 = .ok (.getfield 52, 3) := by decide +kernel
theorem dX5_submit_195 : decode cX5_submit 195 = .ok (.iload 5, 2) := by decide +kernel
theorem dX5_submit_197 : decode cX5_submit 197 = .ok (.invokevirtual 148, 3) := by decide +kernel
theorem dX5_submit_200 : decode cX5_submit 200 = .ok (.aload_n 0, 1) := by decide +kernel
theorem dX5_submit_201 : decode cX5_submit 201 = .ok (.dup, 1) := by decide +kernel
theorem dX5_submit_202 : decode cX5_submit 202 = .ok (.getfield 60, 3) := by decide +kernel
theorem dX5_submit_205 : decode cX5_submit 205 = .ok (.iconst 1, 1) := by decide +kernel
theorem dX5_submit_206 : decode cX5_submit 206 = .ok (.iadd, 1) := by decide +kernel
theorem dX5_submit_207 : decode cX5_submit 207 = .ok (.putfield 60, 3) := by decide +kernel
theorem dX5_submit_210 : decode cX5_submit 210 = .ok (.iload 5, 2) := by decide +kernel
theorem dX5_submit_212 : decode cX5_submit 212 = .ok (.ireturn, 1) := by decide +kernel
theorem dX5_tick_0 : decode cX5_tick 0 = .ok (.aload_n 0, 1) := by decide +kernel
theorem dX5_tick_1 : decode cX5_tick 1 = .ok (.invokevirtual 151, 3) := by decide +kernel
theorem dX5_tick_4 : decode cX5_tick 4 = .ok (.ireturn, 1) := by decide +kernel
theorem dX5_run_0 : decode cX5_run 0 = .ok (.iload_n 1, 1) := by decide +kernel
theorem dX5_run_1 : decode cX5_run 1 = .ok (.ifCond .lt 10, 3) := by decide +kernel
theorem dX5_run_4 : decode cX5_run 4 = .ok (.iload_n 1, 1) := by decide +kernel
theorem dX5_run_5 : decode cX5_run 5 = .ok (.sipush 5000, 3) := by decide +kernel
theorem dX5_run_8 : decode cX5_run 8 = .ok (.if_icmp .le 5, 3) := by decide +kernel
theorem dX5_run_11 : decode cX5_run 11 = .ok (.iconst (-1), 1) := by decide +kernel
theorem dX5_run_12 : decode cX5_run 12 = .ok (.ireturn, 1) := by decide +kernel
theorem dX5_run_13 : decode cX5_run 13 = .ok (.iconst 0, 1) := by decide +kernel
theorem dX5_run_14 : decode cX5_run 14 = .ok (.istore_n 2, 1) := by decide +kernel
theorem dX5_run_15 : decode cX5_run 15 = .ok (.iload_n 2, 1) := by decide +kernel
theorem dX5_run_16 : decode cX5_run 16 = .ok (.iload_n 1, 1) := by decide +kernel
theorem dX5_run_17 : decode cX5_run 17 = .ok (.if_icmp .ge 19, 3) := by decide +kernel
theorem dX5_run_20 : decode cX5_run 20 = .ok (.aload_n 0, 1) := by decide +kernel
theorem dX5_run_21 : decode cX5_run 21 = .ok (.invokevirtual 151, 3) := by decide +kernel
theorem dX5_run_24 : decode cX5_run 24 = .ok (.iconst (-1), 1) := by decide +kernel
theorem dX5_run_25 : decode cX5_run 25 = .ok (.if_icmp .ne 5, 3) := by decide +kernel
theorem dX5_run_28 : decode cX5_run 28 = .ok (.iload_n 2, 1) := by decide +kernel
theorem dX5_run_29 : decode cX5_run 29 = .ok (.ireturn, 1) := by decide +kernel
theorem dX5_run_30 : decode cX5_run 30 = .ok (.iinc 2 1, 3) := by decide +kernel
theorem dX5_run_33 : decode cX5_run 33 = .ok (.goto (-18), 3) := by decide +kernel
theorem dX5_run_36 : decode cX5_run 36 = .ok (.iload_n 1, 1) := by decide +kernel
theorem dX5_run_37 : decode cX5_run 37 = .ok (.ireturn, 1) := by decide +kernel
theorem dX5_jobState_0 : decode cX5_jobState 0 = .ok (.aload_n 0, 1) := by decide +kernel
theorem dX5_jobState_1 : decode cX5_jobState 1 = .ok (.iload_n 1, 1) := by decide +kernel
theorem dX5_jobState_2 : decode cX5_jobState 2 = .ok (.invokevirtual 154, 3) := by decide +kernel
theorem dX5_jobState_5 : decode cX5_jobState 5 = .ok (.ifCond .eq 15, 3) := by decide +kernel
theorem dX5_jobState_8 : decode cX5_jobState 8 = .ok (.aload_n 0, 1) := by decide +kernel
theorem dX5_jobState_9 : decode cX5_jobState 9 = .ok (.getfield 37, 3) := by decide +kernel
theorem dX5_jobState_12 : decode cX5_jobState 12 = .ok (.iload_n 1, 1) := by decide +kernel
theorem dX5_jobState_13 : decode cX5_jobState 13 = .ok (.aaload, 1) := by decide +kernel
theorem dX5_jobState_14 : decode cX5_jobState 14 = .ok (.getfield 141, 3) := by decide +kernel
theorem dX5_jobState_17 : decode cX5_jobState 17 = .ok (.goto 4, 3) := by decide +kernel
theorem dX5_jobState_20 : decode cX5_jobState 20 = .ok (.iconst (-1), 1) := by decide +kernel
theorem dX5_jobState_21 : decode cX5_jobState 21 = .ok (.ireturn, 1) := by decide +kernel
theorem dX5_jobResult_0 : decode cX5_jobResult 0 = .ok (.aload_n 0, 1) := by decide +kernel
theorem dX5_jobResult_1 : decode cX5_jobResult 1 = .ok (.iload_n 1, 1) := by decide +kernel
theorem dX5_jobResult_2 : decode cX5_jobResult 2 = .ok (.invokevirtual 154, 3) := by decide +kernel
theorem dX5_jobResult_5 : decode cX5_jobResult 5 = .ok (.ifCond .eq 15, 3) := by decide +kernel
theorem dX5_jobResult_8 : decode cX5_jobResult 8 = .ok (.aload_n 0, 1) := by decide +kernel
theorem dX5_jobResult_9 : decode cX5_jobResult 9 = .ok (.getfield 37, 3) := by decide +kernel
theorem dX5_jobResult_12 : decode cX5_jobResult 12 = .ok (.iload_n 1, 1) := by decide +kernel
theorem dX5_jobResult_13 : decode cX5_jobResult 13 = .ok (.aaload, 1) := by decide +kernel
theorem dX5_jobResult_14 : decode cX5_jobResult 14 = .ok (.getfield 113, 3) := by decide +kernel
theorem dX5_jobResult_17 : decode cX5_jobResult 17 = .ok (.goto 4, 3) := by decide +kernel
theorem dX5_jobResult_20 : decode cX5_jobResult 20 = .ok (.iconst (-1), 1) := by decide +kernel
theorem dX5_jobResult_21 : decode cX5_jobResult 21 = .ok (.ireturn, 1) := by decide +kernel
theorem dX5_workLeft_0 : decode cX5_workLeft 0 = .ok (.aload_n 0, 1) := by decide +kernel
theorem dX5_workLeft_1 : decode cX5_workLeft 1 = .ok (.iload_n 1, 1) := by decide +kernel
theorem dX5_workLeft_2 : decode cX5_workLeft 2 = .ok (.invokevirtual 154, 3) := by decide +kernel
theorem dX5_workLeft_5 : decode cX5_workLeft 5 = .ok (.ifCond .eq 15, 3) := by decide +kernel
theorem dX5_workLeft_8 : decode cX5_workLeft 8 = .ok (.aload_n 0, 1) := by decide +kernel
theorem dX5_workLeft_9 : decode cX5_workLeft 9 = .ok (.getfield 37, 3) := by decide +kernel
theorem dX5_workLeft_12 : decode cX5_workLeft 12 = .ok (.iload_n 1, 1) := by decide +kernel
theorem dX5_workLeft_13 : decode cX5_workLeft 13 = .ok (.aaload, 1) := by decide +kernel
theorem dX5_workLeft_14 : decode cX5_workLeft 14 = .ok (.getfield 157, 3) := by decide +kernel
theorem dX5_workLeft_17 : decode cX5_workLeft 17 = .ok (.goto 6, 3) := by decide +kernel
theorem dX5_workLeft_20 : decode cX5_workLeft 20 = .ok (.ldc2_w 161, 3) := by decide +kernel
theorem dX5_workLeft_23 : decode cX5_workLeft 23 = .ok (.lreturn, 1) := by decide +kernel
theorem dX5_cancel_0 : decode cX5_cancel 0 = .ok (.aload_n 0, 1) := by decide +kernel
theorem dX5_cancel_1 : decode cX5_cancel 1 = .ok (.iload_n 1, 1) := by decide +kernel
theorem dX5_cancel_2 : decode cX5_cancel 2 = .ok (.invokevirtual 154, 3) := by decide +kernel
theorem dX5_cancel_5 : decode cX5_cancel 5 = .ok (.ifCond .eq 15, 3) := by decide +kernel
theorem dX5_cancel_8 : decode cX5_cancel 8 = .ok (.aload_n 0, 1) := by decide +kernel
theorem dX5_cancel_9 : decode cX5_cancel 9 = .ok (.getfield 37, 3) := by decide +kernel
theorem dX5_cancel_12 : decode cX5_cancel 12 = .ok (.iload_n 1, 1) := by decide +kernel
theorem dX5_cancel_13 : decode cX5_cancel 13 = .ok (.aaload, 1) := by decide +kernel
theorem dX5_cancel_14 : decode cX5_cancel 14 = .ok (.invokevirtual 163, 3) := by decide +kernel
theorem dX5_cancel_17 : decode cX5_cancel 17 = .ok (.ifCond .ne 5, 3) := by decide +kernel
theorem dX5_cancel_20 : decode cX5_cancel 20 = .ok (.iconst 0, 1) := by decide +kernel
theorem dX5_cancel_21 : decode cX5_cancel 21 = .ok (.ireturn, 1) := by decide +kernel
theorem dX5_cancel_22 : decode cX5_cancel 22 = .ok (.aload_n 0, 1) := by decide +kernel
theorem dX5_cancel_23 : decode cX5_cancel 23 = .ok (.getfield 37, 3) := by decide +kernel
theorem dX5_cancel_26 : decode cX5_cancel 26 = .ok (.iload_n 1, 1) := by decide +kernel
theorem dX5_cancel_27 : decode cX5_cancel 27 = .ok (.aaload, 1) := by decide +kernel
theorem dX5_cancel_28 : decode cX5_cancel 28 = .ok (.astore_n 2, 1) := by decide +kernel
theorem dX5_cancel_29 : decode cX5_cancel 29 = .ok (.aload_n 0, 1) := by decide +kernel
theorem dX5_cancel_30 : decode cX5_cancel 30 = .ok (.getfield 52, 3) := by decide +kernel
theorem dX5_cancel_33 : decode cX5_cancel 33 = .ok (.iload_n 1, 1) := by decide +kernel
theorem dX5_cancel_34 : decode cX5_cancel 34 = .ok (.invokevirtual 167, 3) := by decide +kernel
theorem dX5_cancel_37 : decode cX5_cancel 37 = .ok (.aload_n 0, 1) := by decide +kernel
theorem dX5_cancel_38 : decode cX5_cancel 38 = .ok (.aload_n 2, 1) := by decide +kernel
theorem dX5_cancel_39 : decode cX5_cancel 39 = .ok (.iconst (-1), 1) := by decide +kernel
theorem dX5_cancel_40 : decode cX5_cancel 40 = .ok (.invokevirtual 144, 3) := by decide +kernel
theorem dX5_cancel_43 : decode cX5_cancel 43 = .ok (.aload_n 0, 1) := by decide +kernel
theorem dX5_cancel_44 : decode cX5_cancel 44 = .ok (.aload_n 2, 1) := by decide +kernel
theorem dX5_cancel_45 : decode cX5_cancel 45 = .ok (.invokevirtual 170, 3) := by decide +kernel
theorem dX5_cancel_48 : decode cX5_cancel 48 = .ok (.aload_n 0, 1) := by decide +kernel
theorem dX5_cancel_49 : decode cX5_cancel 49 = .ok (.aload_n 2, 1) := by decide +kernel
theorem dX5_cancel_50 : decode cX5_cancel 50 = .ok (.getfield 113, 3) := by decide +kernel
theorem dX5_cancel_53 : decode cX5_cancel 53 = .ok (.invokevirtual 94, 3) := by decide +kernel
theorem dX5_cancel_56 : decode cX5_cancel 56 = .ok (.ifCond .eq 11, 3) := by decide +kernel
theorem dX5_cancel_59 : decode cX5_cancel 59 = .ok (.aload_n 0, 1) := by decide +kernel
theorem dX5_cancel_60 : decode cX5_cancel 60 = .ok (.aload_n 2, 1) := by decide +kernel
theorem dX5_cancel_61 : decode cX5_cancel 61 = .ok (.getfield 113, 3) := by decide +kernel
theorem dX5_cancel_64 : decode cX5_cancel 64 = .ok (.invokevirtual 116, 3) := by decide +kernel
theorem dX5_cancel_67 : decode cX5_cancel 67 = .ok (.aload_n 2, 1) := by decide +kernel
theorem dX5_cancel_68 : decode cX5_cancel 68 = .ok (.iconst (-1), 1) := by decide +kernel
theorem dX5_cancel_69 : decode cX5_cancel 69 = .ok (.putfield 113, 3) := by decide +kernel
theorem dX5_cancel_72 : decode cX5_cancel 72 = .ok (.aload_n 2, 1) := by decide +kernel
theorem dX5_cancel_73 : decode cX5_cancel 73 = .ok (.lconst 0, 1) := by decide +kernel
theorem dX5_cancel_74 : decode cX5_cancel 74 = .ok (.putfield 157, 3) := by decide +kernel
theorem dX5_cancel_77 : decode cX5_cancel 77 = .ok (.aload_n 2, 1) := by decide +kernel
theorem dX5_cancel_78 : decode cX5_cancel 78 = .ok (.iconst 3, 1) := by decide +kernel
theorem dX5_cancel_79 : decode cX5_cancel 79 = .ok (.putfield 141, 3) := by decide +kernel
theorem dX5_cancel_82 : decode cX5_cancel 82 = .ok (.iconst 1, 1) := by decide +kernel
theorem dX5_cancel_83 : decode cX5_cancel 83 = .ok (.ireturn, 1) := by decide +kernel
theorem dX5_forget_0 : decode cX5_forget 0 = .ok (.aload_n 0, 1) := by decide +kernel
theorem dX5_forget_1 : decode cX5_forget 1 = .ok (.iload_n 1, 1) := by decide +kernel
theorem dX5_forget_2 : decode cX5_forget 2 = .ok (.invokevirtual 154, 3) := by decide +kernel
theorem dX5_forget_5 : decode cX5_forget 5 = .ok (.ifCond .eq 15, 3) := by decide +kernel
theorem dX5_forget_8 : decode cX5_forget 8 = .ok (.aload_n 0, 1) := by decide +kernel
theorem dX5_forget_9 : decode cX5_forget 9 = .ok (.getfield 37, 3) := by decide +kernel
theorem dX5_forget_12 : decode cX5_forget 12 = .ok (.iload_n 1, 1) := by decide +kernel
theorem dX5_forget_13 : decode cX5_forget 13 = .ok (.aaload, 1) := by decide +kernel
theorem dX5_forget_14 : decode cX5_forget 14 = .ok (.invokevirtual 163, 3) := by decide +kernel
theorem dX5_forget_17 : decode cX5_forget 17 = .ok (.ifCond .eq 5, 3) := by decide +kernel
theorem dX5_forget_20 : decode cX5_forget 20 = .ok (.iconst 0, 1) := by decide +kernel
theorem dX5_forget_21 : decode cX5_forget 21 = .ok (.ireturn, 1) := by decide +kernel
theorem dX5_forget_22 : decode cX5_forget 22 = .ok (.aload_n 0, 1) := by decide +kernel
theorem dX5_forget_23 : decode cX5_forget 23 = .ok (.getfield 37, 3) := by decide +kernel
theorem dX5_forget_26 : decode cX5_forget 26 = .ok (.iload_n 1, 1) := by decide +kernel
theorem dX5_forget_27 : decode cX5_forget 27 = .ok (.aaload, 1) := by decide +kernel
theorem dX5_forget_28 : decode cX5_forget 28 = .ok (.invokevirtual 74, 3) := by decide +kernel
theorem dX5_forget_31 : decode cX5_forget 31 = .ok (.aload_n 0, 1) := by decide +kernel
theorem dX5_forget_32 : decode cX5_forget 32 = .ok (.dup, 1) := by decide +kernel
theorem dX5_forget_33 : decode cX5_forget 33 = .ok (.getfield 60, 3) := by decide +kernel
theorem dX5_forget_36 : decode cX5_forget 36 = .ok (.iconst 1, 1) := by decide +kernel
theorem dX5_forget_37 : decode cX5_forget 37 = .ok (.isub, 1) := by decide +kernel
theorem dX5_forget_38 : decode cX5_forget 38 = .ok (.putfield 60, 3) := by decide +kernel
theorem dX5_forget_41 : decode cX5_forget 41 = .ok (.iconst 1, 1) := by decide +kernel
theorem dX5_forget_42 : decode cX5_forget 42 = .ok (.ireturn, 1) := by decide +kernel
theorem dX5_freeCells_0 : decode cX5_freeCells 0 = .ok (.aload_n 0, 1) := by decide +kernel
theorem dX5_freeCells_1 : decode cX5_freeCells 1 = .ok (.getfield 18, 3) := by decide +kernel
theorem dX5_freeCells_4 : decode cX5_freeCells 4 = .ok (.invokevirtual 174, 3) := by decide +kernel
theorem dX5_freeCells_7 : decode cX5_freeCells 7 = .ok (.ireturn, 1) := by decide +kernel
theorem dX5_freeBlock_0 : decode cX5_freeBlock 0 = .ok (.iload_n 1, 1) := by decide +kernel
theorem dX5_freeBlock_1 : decode cX5_freeBlock 1 = .ok (.ifCond .lt 14, 3) := by decide +kernel
theorem dX5_freeBlock_4 : decode cX5_freeBlock 4 = .ok (.iload_n 1, 1) := by decide +kernel
theorem dX5_freeBlock_5 : decode cX5_freeBlock 5 = .ok (.aload_n 0, 1) := by decide +kernel
theorem dX5_freeBlock_6 : decode cX5_freeBlock 6 = .ok (.getfield 18, 3) := by decide +kernel
theorem dX5_freeBlock_9 : decode cX5_freeBlock 9 = .ok (.getfield 177, 3) := by decide +kernel
theorem dX5_freeBlock_12 : decode cX5_freeBlock 12 = .ok (.if_icmp .le 5, 3) := by decide +kernel
theorem dX5_freeBlock_15 : decode cX5_freeBlock 15 = .ok (.iconst (-1), 1) := by decide +kernel
theorem dX5_freeBlock_16 : decode cX5_freeBlock 16 = .ok (.ireturn, 1) := by decide +kernel
theorem dX5_freeBlock_17 : decode cX5_freeBlock 17 = .ok (.iload_n 2, 1) := by decide +kernel
theorem dX5_freeBlock_18 : decode cX5_freeBlock 18 = .ok (.iconst (-1), 1) := by decide +kernel
theorem dX5_freeBlock_19 : decode cX5_freeBlock 19 = .ok (.if_icmp .ne 15, 3) := by decide +kernel
theorem dX5_freeBlock_22 : decode cX5_freeBlock 22 = .ok (.aload_n 0, 1) := by decide +kernel
theorem dX5_freeBlock_23 : decode cX5_freeBlock 23 = .ok (.getfield 18, 3) := by decide +kernel
theorem dX5_freeBlock_26 : decode cX5_freeBlock 26 = .ok (.getfield 180, 3) := by decide +kernel
theorem dX5_freeBlock_29 : decode cX5_freeBlock 29 = .ok (.iload_n 1, 1) := by decide +kernel
theorem dX5_freeBlock_30 : decode cX5_freeBlock 30 = .ok (.iaload, 1) := by decide +kernel
theorem dX5_freeBlock_31 : decode cX5_freeBlock 31 = .ok (.goto 12, 3) := by decide +kernel
theorem dX5_freeBlock_34 : decode cX5_freeBlock 34 = .ok (.aload_n 0, 1) := by decide +kernel
theorem dX5_freeBlock_35 : decode cX5_freeBlock 35 = .ok (.getfield 18, 3) := by decide +kernel
theorem dX5_freeBlock_38 : decode cX5_freeBlock 38 = .ok (.iload_n 1, 1) := by decide +kernel
theorem dX5_freeBlock_39 : decode cX5_freeBlock 39 = .ok (.iload_n 2, 1) := by decide +kernel
theorem dX5_freeBlock_40 : decode cX5_freeBlock 40 = .ok (.invokevirtual 183, 3) := by decide +kernel
theorem dX5_freeBlock_43 : decode cX5_freeBlock 43 = .ok (.ireturn, 1) := by decide +kernel
theorem dX5_number_0 : decode cX5_number 0 = .ok (.aload_n 0, 1) := by decide +kernel
theorem dX5_number_1 : decode cX5_number 1 = .ok (.iload_n 1, 1) := by decide +kernel
theorem dX5_number_2 : decode cX5_number 2 = .ok (.invokevirtual 94, 3) := by decide +kernel
theorem dX5_number_5 : decode cX5_number 5 = .ok (.ifCond .ne 5, 3) := by decide +kernel
theorem dX5_number_8 : decode cX5_number 8 = .ok (.iconst (-1), 1) := by decide +kernel
theorem dX5_number_9 : decode cX5_number 9 = .ok (.ireturn, 1) := by decide +kernel
theorem dX5_number_10 : decode cX5_number 10 = .ok (.iload_n 2, 1) := by decide +kernel
theorem dX5_number_11 : decode cX5_number 11 = .ok (.tableswitch 55 0 2 #[25, 35, 45], 25) := by decide +kernel
theorem dX5_number_36 : decode cX5_number 36 = .ok (.aload_n 0, 1) := by decide +kernel
theorem dX5_number_37 : decode cX5_number 37 = .ok (.getfield 44, 3) := by decide +kernel
theorem dX5_number_40 : decode cX5_number 40 = .ok (.iload_n 1, 1) := by decide +kernel
theorem dX5_number_41 : decode cX5_number 41 = .ok (.aaload, 1) := by decide +kernel
theorem dX5_number_42 : decode cX5_number 42 = .ok (.getfield 104, 3) := by decide +kernel
theorem dX5_number_45 : decode cX5_number 45 = .ok (.ireturn, 1) := by decide +kernel
theorem dX5_number_46 : decode cX5_number 46 = .ok (.aload_n 0, 1) := by decide +kernel
theorem dX5_number_47 : decode cX5_number 47 = .ok (.getfield 44, 3) := by decide +kernel
theorem dX5_number_50 : decode cX5_number 50 = .ok (.iload_n 1, 1) := by decide +kernel
theorem dX5_number_51 : decode cX5_number 51 = .ok (.aaload, 1) := by decide +kernel
theorem dX5_number_52 : decode cX5_number 52 = .ok (.getfield 187, 3) := by decide +kernel
theorem dX5_number_55 : decode cX5_number 55 = .ok (.ireturn, 1) := by decide +kernel
theorem dX5_number_56 : decode cX5_number 56 = .ok (.aload_n 0, 1) := by decide +kernel
theorem dX5_number_57 : decode cX5_number 57 = .ok (.getfield 44, 3) := by decide +kernel
theorem dX5_number_60 : decode cX5_number 60 = .ok (.iload_n 1, 1) := by decide +kernel
theorem dX5_number_61 : decode cX5_number 61 = .ok (.aaload, 1) := by decide +kernel
theorem dX5_number_62 : decode cX5_number 62 = .ok (.getfield 98, 3) := by decide +kernel
theorem dX5_number_65 : decode cX5_number 65 = .ok (.ireturn, 1) := by decide +kernel
theorem dX5_number_66 : decode cX5_number 66 = .ok (.iconst (-1), 1) := by decide +kernel
theorem dX5_number_67 : decode cX5_number 67 = .ok (.ireturn, 1) := by decide +kernel
theorem dX5_count_0 : decode cX5_count 0 = .ok (.iload_n 1, 1) := by decide +kernel
theorem dX5_count_1 : decode cX5_count 1 = .ok (.tableswitch 67 0 4 #[35, 40, 45, 53, 58], 35) := by decide +kernel
theorem dX5_count_36 : decode cX5_count 36 = .ok (.aload_n 0, 1) := by decide +kernel
theorem dX5_count_37 : decode cX5_count 37 = .ok (.getfield 63, 3) := by decide +kernel
theorem dX5_count_40 : decode cX5_count 40 = .ok (.ireturn, 1) := by decide +kernel
theorem dX5_count_41 : decode cX5_count 41 = .ok (.aload_n 0, 1) := by decide +kernel
theorem dX5_count_42 : decode cX5_count 42 = .ok (.getfield 60, 3) := by decide +kernel
theorem dX5_count_45 : decode cX5_count 45 = .ok (.ireturn, 1) := by decide +kernel
theorem dX5_count_46 : decode cX5_count 46 = .ok (.aload_n 0, 1) := by decide +kernel
theorem dX5_count_47 : decode cX5_count 47 = .ok (.getfield 52, 3) := by decide +kernel
theorem dX5_count_50 : decode cX5_count 50 = .ok (.getfield 190, 3) := by decide +kernel
theorem dX5_count_53 : decode cX5_count 53 = .ok (.ireturn, 1) := by decide +kernel
theorem dX5_count_54 : decode cX5_count 54 = .ok (.aload_n 0, 1) := by decide +kernel
theorem dX5_count_55 : decode cX5_count 55 = .ok (.getfield 75, 3) := by decide +kernel
theorem dX5_count_58 : decode cX5_count 58 = .ok (.ireturn, 1) := by decide +kernel
theorem dX5_count_59 : decode cX5_count 59 = .ok (.aload_n 0, 1) := by decide +kernel
theorem dX5_count_60 : decode cX5_count 60 = .ok (.getfield 52, 3) := by decide +kernel
theorem dX5_count_63 : decode cX5_count 63 = .ok (.iload_n 2, 1) := by decide +kernel
theorem dX5_count_64 : decode cX5_count 64 = .ok (.invokevirtual 193, 3) := by decide +kernel
theorem dX5_count_67 : decode cX5_count 67 = .ok (.ireturn, 1) := by decide +kernel
theorem dX5_count_68 : decode cX5_count 68 = .ok (.iconst (-1), 1) := by decide +kernel
theorem dX5_count_69 : decode cX5_count 69 = .ok (.ireturn, 1) := by decide +kernel
theorem dX5_within_0 : decode cX5_within 0 = .ok (.iload_n 1, 1) := by decide +kernel
theorem dX5_within_1 : decode cX5_within 1 = .ok (.iload_n 2, 1) := by decide +kernel
theorem dX5_within_2 : decode cX5_within 2 = .ok (.iload_n 0, 1) := by decide +kernel
theorem dX5_within_3 : decode cX5_within 3 = .ok (.invokestatic 196, 3) := by decide +kernel
theorem dX5_within_6 : decode cX5_within 6 = .ok (.invokestatic 201, 3) := by decide +kernel
theorem dX5_within_9 : decode cX5_within 9 = .ok (.ireturn, 1) := by decide +kernel
theorem dX5_isNumber_0 : decode cX5_isNumber 0 = .ok (.iload_n 1, 1) := by decide +kernel
theorem dX5_isNumber_1 : decode cX5_isNumber 1 = .ok (.ifCond .lt 28, 3) := by decide +kernel
theorem dX5_isNumber_4 : decode cX5_isNumber 4 = .ok (.iload_n 1, 1) := by decide +kernel
theorem dX5_isNumber_5 : decode cX5_isNumber 5 = .ok (.aload_n 0, 1) := by decide +kernel
theorem dX5_isNumber_6 : decode cX5_isNumber 6 = .ok (.getfield 44, 3) := by decide +kernel
theorem dX5_isNumber_9 : decode cX5_isNumber 9 = .ok (.arraylength, 1) := by decide +kernel
theorem dX5_isNumber_10 : decode cX5_isNumber 10 = .ok (.if_icmp .ge 19, 3) := by decide +kernel
theorem dX5_isNumber_13 : decode cX5_isNumber 13 = .ok (.aload_n 0, 1) := by decide +kernel
theorem dX5_isNumber_14 : decode cX5_isNumber 14 = .ok (.getfield 44, 3) := by decide +kernel
theorem dX5_isNumber_17 : decode cX5_isNumber 17 = .ok (.iload_n 1, 1) := by decide +kernel
theorem dX5_isNumber_18 : decode cX5_isNumber 18 = .ok (.aaload, 1) := by decide +kernel
theorem dX5_isNumber_19 : decode cX5_isNumber 19 = .ok (.getfield 70, 3) := by decide +kernel
theorem dX5_isNumber_22 : decode cX5_isNumber 22 = .ok (.ifCond .eq 7, 3) := by decide +kernel
theorem dX5_isNumber_25 : decode cX5_isNumber 25 = .ok (.iconst 1, 1) := by decide +kernel
theorem dX5_isNumber_26 : decode cX5_isNumber 26 = .ok (.goto 4, 3) := by decide +kernel
theorem dX5_isNumber_29 : decode cX5_isNumber 29 = .ok (.iconst 0, 1) := by decide +kernel
theorem dX5_isNumber_30 : decode cX5_isNumber 30 = .ok (.ireturn, 1) := by decide +kernel
theorem dX5_isFinished_0 : decode cX5_isFinished 0 = .ok (.aload_n 0, 1) := by decide +kernel
theorem dX5_isFinished_1 : decode cX5_isFinished 1 = .ok (.iload_n 1, 1) := by decide +kernel
theorem dX5_isFinished_2 : decode cX5_isFinished 2 = .ok (.invokevirtual 94, 3) := by decide +kernel
theorem dX5_isFinished_5 : decode cX5_isFinished 5 = .ok (.ifCond .eq 19, 3) := by decide +kernel
theorem dX5_isFinished_8 : decode cX5_isFinished 8 = .ok (.aload_n 0, 1) := by decide +kernel
theorem dX5_isFinished_9 : decode cX5_isFinished 9 = .ok (.getfield 44, 3) := by decide +kernel
theorem dX5_isFinished_12 : decode cX5_isFinished 12 = .ok (.iload_n 1, 1) := by decide +kernel
theorem dX5_isFinished_13 : decode cX5_isFinished 13 = .ok (.aaload, 1) := by decide +kernel
theorem dX5_isFinished_14 : decode cX5_isFinished 14 = .ok (.getfield 204, 3) := by decide +kernel
theorem dX5_isFinished_17 : decode cX5_isFinished 17 = .ok (.ifCond .ne 7, 3) := by decide +kernel
theorem dX5_isFinished_20 : decode cX5_isFinished 20 = .ok (.iconst 1, 1) := by decide +kernel
theorem dX5_isFinished_21 : decode cX5_isFinished 21 = .ok (.goto 4, 3) := by decide +kernel
theorem dX5_isFinished_24 : decode cX5_isFinished 24 = .ok (.iconst 0, 1) := by decide +kernel
theorem dX5_isFinished_25 : decode cX5_isFinished 25 = .ok (.ireturn, 1) := by decide +kernel
theorem dX5_isZero_0 : decode cX5_isZero 0 = .ok (.aload_n 0, 1) := by decide +kernel
theorem dX5_isZero_1 : decode cX5_isZero 1 = .ok (.getfield 31, 3) := by decide +kernel
theorem dX5_isZero_4 : decode cX5_isZero 4 = .ok (.aload_n 0, 1) := by decide +kernel
theorem dX5_isZero_5 : decode cX5_isZero 5 = .ok (.getfield 44, 3) := by decide +kernel
theorem dX5_isZero_8 : decode cX5_isZero 8 = .ok (.iload_n 1, 1) := by decide +kernel
theorem dX5_isZero_9 : decode cX5_isZero 9 = .ok (.aaload, 1) := by decide +kernel
theorem dX5_isZero_10 : decode cX5_isZero 10 = .ok (.getfield 104, 3) := by decide +kernel
theorem dX5_isZero_13 : decode cX5_isZero 13 = .ok (.aload_n 0, 1) := by decide +kernel
theorem dX5_isZero_14 : decode cX5_isZero 14 = .ok (.getfield 44, 3) := by decide +kernel
theorem dX5_isZero_17 : decode cX5_isZero 17 = .ok (.iload_n 1, 1) := by decide +kernel
theorem dX5_isZero_18 : decode cX5_isZero 18 = .ok (.aaload, 1) := by decide +kernel
theorem dX5_isZero_19 : decode cX5_isZero 19 = .ok (.getfield 110, 3) := by decide +kernel
theorem dX5_isZero_22 : decode cX5_isZero 22 = .ok (.invokevirtual 207, 3) := by decide +kernel
theorem dX5_isZero_25 : decode cX5_isZero 25 = .ok (.ifCond .ne 7, 3) := by decide +kernel
theorem dX5_isZero_28 : decode cX5_isZero 28 = .ok (.iconst 1, 1) := by decide +kernel
theorem dX5_isZero_29 : decode cX5_isZero 29 = .ok (.goto 4, 3) := by decide +kernel
theorem dX5_isZero_32 : decode cX5_isZero 32 = .ok (.iconst 0, 1) := by decide +kernel
theorem dX5_isZero_33 : decode cX5_isZero 33 = .ok (.ireturn, 1) := by decide +kernel
theorem dX5_isJob_0 : decode cX5_isJob 0 = .ok (.iload_n 1, 1) := by decide +kernel
theorem dX5_isJob_1 : decode cX5_isJob 1 = .ok (.ifCond .lt 29, 3) := by decide +kernel
theorem dX5_isJob_4 : decode cX5_isJob 4 = .ok (.iload_n 1, 1) := by decide +kernel
theorem dX5_isJob_5 : decode cX5_isJob 5 = .ok (.aload_n 0, 1) := by decide +kernel
theorem dX5_isJob_6 : decode cX5_isJob 6 = .ok (.getfield 37, 3) := by decide +kernel
theorem dX5_isJob_9 : decode cX5_isJob 9 = .ok (.arraylength, 1) := by decide +kernel
theorem dX5_isJob_10 : decode cX5_isJob 10 = .ok (.if_icmp .ge 20, 3) := by decide +kernel
theorem dX5_isJob_13 : decode cX5_isJob 13 = .ok (.aload_n 0, 1) := by decide +kernel
theorem dX5_isJob_14 : decode cX5_isJob 14 = .ok (.getfield 37, 3) := by decide +kernel
theorem dX5_isJob_17 : decode cX5_isJob 17 = .ok (.iload_n 1, 1) := by decide +kernel
theorem dX5_isJob_18 : decode cX5_isJob 18 = .ok (.aaload, 1) := by decide +kernel
theorem dX5_isJob_19 : decode cX5_isJob 19 = .ok (.getfield 141, 3) := by decide +kernel
theorem dX5_isJob_22 : decode cX5_isJob 22 = .ok (.iconst (-1), 1) := by decide +kernel
theorem dX5_isJob_23 : decode cX5_isJob 23 = .ok (.if_icmp .eq 7, 3) := by decide +kernel
theorem dX5_isJob_26 : decode cX5_isJob 26 = .ok (.iconst 1, 1) := by decide +kernel
theorem dX5_isJob_27 : decode cX5_isJob 27 = .ok (.goto 4, 3) := by decide +kernel
theorem dX5_isJob_30 : decode cX5_isJob 30 = .ok (.iconst 0, 1) := by decide +kernel
theorem dX5_isJob_31 : decode cX5_isJob 31 = .ok (.ireturn, 1) := by decide +kernel
theorem dX5_leastFreeHandle_0 : decode cX5_leastFreeHandle 0 = .ok (.aload_n 0, 1) := by decide +kernel
theorem dX5_leastFreeHandle_1 : decode cX5_leastFreeHandle 1 = .ok (.getfield 63, 3) := by decide +kernel
theorem dX5_leastFreeHandle_4 : decode cX5_leastFreeHandle 4 = .ok (.aload_n 0, 1) := by decide +kernel
theorem dX5_leastFreeHandle_5 : decode cX5_leastFreeHandle 5 = .ok (.getfield 44, 3) := by decide +kernel
theorem dX5_leastFreeHandle_8 : decode cX5_leastFreeHandle 8 = .ok (.arraylength, 1) := by decide +kernel
theorem dX5_leastFreeHandle_9 : decode cX5_leastFreeHandle 9 = .ok (.if_icmp .lt 5, 3) := by decide +kernel
theorem dX5_leastFreeHandle_12 : decode cX5_leastFreeHandle 12 = .ok (.iconst (-1), 1) := by decide +kernel
theorem dX5_leastFreeHandle_13 : decode cX5_leastFreeHandle 13 = .ok (.ireturn, 1) := by decide +kernel
theorem dX5_leastFreeHandle_14 : decode cX5_leastFreeHandle 14 = .ok (.iconst 0, 1) := by decide +kernel
theorem dX5_leastFreeHandle_15 : decode cX5_leastFreeHandle 15 = .ok (.istore_n 1, 1) := by decide +kernel
theorem dX5_leastFreeHandle_16 : decode cX5_leastFreeHandle 16 = .ok (.iload_n 1, 1) := by decide +kernel
theorem dX5_leastFreeHandle_17 : decode cX5_leastFreeHandle 17 = .ok (.aload_n 0, 1) := by decide +kernel
theorem dX5_leastFreeHandle_18 : decode cX5_leastFreeHandle 18 = .ok (.getfield 44, 3) := by decide +kernel
theorem dX5_leastFreeHandle_21 : decode cX5_leastFreeHandle 21 = .ok (.arraylength, 1) := by decide +kernel
theorem dX5_leastFreeHandle_22 : decode cX5_leastFreeHandle 22 = .ok (.if_icmp .ge 23, 3) := by decide +kernel
theorem dX5_leastFreeHandle_25 : decode cX5_leastFreeHandle 25 = .ok (.aload_n 0, 1) := by decide +kernel
theorem dX5_leastFreeHandle_26 : decode cX5_leastFreeHandle 26 = .ok (.getfield 44, 3) := by decide +kernel
theorem dX5_leastFreeHandle_29 : decode cX5_leastFreeHandle 29 = .ok (.iload_n 1, 1) := by decide +kernel
theorem dX5_leastFreeHandle_30 : decode cX5_leastFreeHandle 30 = .ok (.aaload, 1) := by decide +kernel
theorem dX5_leastFreeHandle_31 : decode cX5_leastFreeHandle 31 = .ok (.getfield 70, 3) := by decide +kernel
theorem dX5_leastFreeHandle_34 : decode cX5_leastFreeHandle 34 = .ok (.ifCond .ne 5, 3) := by decide +kernel
theorem dX5_leastFreeHandle_37 : decode cX5_leastFreeHandle 37 = .ok (.iload_n 1, 1) := by decide +kernel
theorem dX5_leastFreeHandle_38 : decode cX5_leastFreeHandle 38 = .ok (.ireturn, 1) := by decide +kernel
theorem dX5_leastFreeHandle_39 : decode cX5_leastFreeHandle 39 = .ok (.iinc 1 1, 3) := by decide +kernel
theorem dX5_leastFreeHandle_42 : decode cX5_leastFreeHandle 42 = .ok (.goto (-26), 3) := by decide +kernel
theorem dX5_leastFreeHandle_45 : decode cX5_leastFreeHandle 45 = .ok (.iconst (-1), 1) := by decide +kernel
theorem dX5_leastFreeHandle_46 : decode cX5_leastFreeHandle 46 = .ok (.ireturn, 1) := by decide +kernel
theorem dX5_leastFreeJob_0 : decode cX5_leastFreeJob 0 = .ok (.iconst 0, 1) := by decide +kernel
theorem dX5_leastFreeJob_1 : decode cX5_leastFreeJob 1 = .ok (.istore_n 1, 1) := by decide +kernel
theorem dX5_leastFreeJob_2 : decode cX5_leastFreeJob 2 = .ok (.iload_n 1, 1) := by decide +kernel
theorem dX5_leastFreeJob_3 : decode cX5_leastFreeJob 3 = .ok (.aload_n 0, 1) := by decide +kernel
theorem dX5_leastFreeJob_4 : decode cX5_leastFreeJob 4 = .ok (.getfield 37, 3) := by decide +kernel
theorem dX5_leastFreeJob_7 : decode cX5_leastFreeJob 7 = .ok (.arraylength, 1) := by decide +kernel
theorem dX5_leastFreeJob_8 : decode cX5_leastFreeJob 8 = .ok (.if_icmp .ge 24, 3) := by decide +kernel
theorem dX5_leastFreeJob_11 : decode cX5_leastFreeJob 11 = .ok (.aload_n 0, 1) := by decide +kernel
theorem dX5_leastFreeJob_12 : decode cX5_leastFreeJob 12 = .ok (.getfield 37, 3) := by decide +kernel
theorem dX5_leastFreeJob_15 : decode cX5_leastFreeJob 15 = .ok (.iload_n 1, 1) := by decide +kernel
theorem dX5_leastFreeJob_16 : decode cX5_leastFreeJob 16 = .ok (.aaload, 1) := by decide +kernel
theorem dX5_leastFreeJob_17 : decode cX5_leastFreeJob 17 = .ok (.getfield 141, 3) := by decide +kernel
theorem dX5_leastFreeJob_20 : decode cX5_leastFreeJob 20 = .ok (.iconst (-1), 1) := by decide +kernel
theorem dX5_leastFreeJob_21 : decode cX5_leastFreeJob 21 = .ok (.if_icmp .ne 5, 3) := by decide +kernel
theorem dX5_leastFreeJob_24 : decode cX5_leastFreeJob 24 = .ok (.iload_n 1, 1) := by decide +kernel
theorem dX5_leastFreeJob_25 : decode cX5_leastFreeJob 25 = .ok (.ireturn, 1) := by decide +kernel
theorem dX5_leastFreeJob_26 : decode cX5_leastFreeJob 26 = .ok (.iinc 1 1, 3) := by decide +kernel
theorem dX5_leastFreeJob_29 : decode cX5_leastFreeJob 29 = .ok (.goto (-27), 3) := by decide +kernel
theorem dX5_leastFreeJob_32 : decode cX5_leastFreeJob 32 = .ok (.iconst (-1), 1) := by decide +kernel
theorem dX5_leastFreeJob_33 : decode cX5_leastFreeJob 33 = .ok (.ireturn, 1) := by decide +kernel
theorem dX5_occupy_0 : decode cX5_occupy 0 = .ok (.aload_n 0, 1) := by decide +kernel
theorem dX5_occupy_1 : decode cX5_occupy 1 = .ok (.getfield 44, 3) := by decide +kernel
theorem dX5_occupy_4 : decode cX5_occupy 4 = .ok (.iload_n 1, 1) := by decide +kernel
theorem dX5_occupy_5 : decode cX5_occupy 5 = .ok (.aaload, 1) := by decide +kernel
theorem dX5_occupy_6 : decode cX5_occupy 6 = .ok (.astore 5, 2) := by decide +kernel
theorem dX5_occupy_8 : decode cX5_occupy 8 = .ok (.aload 5, 2) := by decide +kernel
theorem dX5_occupy_10 : decode cX5_occupy 10 = .ok (.iconst 1, 1) := by decide +kernel
theorem dX5_occupy_11 : decode cX5_occupy 11 = .ok (.putfield 70, 3) := by decide +kernel
theorem dX5_occupy_14 : decode cX5_occupy 14 = .ok (.aload 5, 2) := by decide +kernel
theorem dX5_occupy_16 : decode cX5_occupy 16 = .ok (.iconst 0, 1) := by decide +kernel
theorem dX5_occupy_17 : decode cX5_occupy 17 = .ok (.putfield 204, 3) := by decide +kernel
theorem dX5_occupy_20 : decode cX5_occupy 20 = .ok (.aload 5, 2) := by decide +kernel
theorem dX5_occupy_22 : decode cX5_occupy 22 = .ok (.iload_n 2, 1) := by decide +kernel
theorem dX5_occupy_23 : decode cX5_occupy 23 = .ok (.putfield 110, 3) := by decide +kernel
theorem dX5_occupy_26 : decode cX5_occupy 26 = .ok (.aload 5, 2) := by decide +kernel
theorem dX5_occupy_28 : decode cX5_occupy 28 = .ok (.iload_n 3, 1) := by decide +kernel
theorem dX5_occupy_29 : decode cX5_occupy 29 = .ok (.putfield 187, 3) := by decide +kernel
theorem dX5_occupy_32 : decode cX5_occupy 32 = .ok (.aload 5, 2) := by decide +kernel
theorem dX5_occupy_34 : decode cX5_occupy 34 = .ok (.iload 4, 2) := by decide +kernel
theorem dX5_occupy_36 : decode cX5_occupy 36 = .ok (.putfield 104, 3) := by decide +kernel
theorem dX5_occupy_39 : decode cX5_occupy 39 = .ok (.aload 5, 2) := by decide +kernel
theorem dX5_occupy_41 : decode cX5_occupy 41 = .ok (.iconst 0, 1) := by decide +kernel
theorem dX5_occupy_42 : decode cX5_occupy 42 = .ok (.putfield 98, 3) := by decide +kernel
theorem dX5_occupy_45 : decode cX5_occupy 45 = .ok (.aload_n 0, 1) := by decide +kernel
theorem dX5_occupy_46 : decode cX5_occupy 46 = .ok (.getfield 18, 3) := by decide +kernel
theorem dX5_occupy_49 : decode cX5_occupy 49 = .ok (.getfield 24, 3) := by decide +kernel
theorem dX5_occupy_52 : decode cX5_occupy 52 = .ok (.iload 4, 2) := by decide +kernel
theorem dX5_occupy_54 : decode cX5_occupy 54 = .ok (.iload 4, 2) := by decide +kernel
theorem dX5_occupy_56 : decode cX5_occupy 56 = .ok (.iload_n 2, 1) := by decide +kernel
theorem dX5_occupy_57 : decode cX5_occupy 57 = .ok (.iadd, 1) := by decide +kernel
theorem dX5_occupy_58 : decode cX5_occupy 58 = .ok (.iconst 0, 1) := by decide +kernel
theorem dX5_occupy_59 : decode cX5_occupy 59 = .ok (.invokestatic 210, 3) := by decide +kernel
theorem dX5_occupy_62 : decode cX5_occupy 62 = .ok (.aload_n 0, 1) := by decide +kernel
theorem dX5_occupy_63 : decode cX5_occupy 63 = .ok (.dup, 1) := by decide +kernel
theorem dX5_occupy_64 : decode cX5_occupy 64 = .ok (.getfield 63, 3) := by decide +kernel
theorem dX5_occupy_67 : decode cX5_occupy 67 = .ok (.iconst 1, 1) := by decide +kernel
theorem dX5_occupy_68 : decode cX5_occupy 68 = .ok (.iadd, 1) := by decide +kernel
theorem dX5_occupy_69 : decode cX5_occupy 69 = .ok (.putfield 63, 3) := by decide +kernel
theorem dX5_occupy_72 : decode cX5_occupy 72 = .ok (.return_, 1) := by decide +kernel
theorem dX5_vacate_0 : decode cX5_vacate 0 = .ok (.aload_n 0, 1) := by decide +kernel
theorem dX5_vacate_1 : decode cX5_vacate 1 = .ok (.getfield 18, 3) := by decide +kernel
theorem dX5_vacate_4 : decode cX5_vacate 4 = .ok (.aload_n 0, 1) := by decide +kernel
theorem dX5_vacate_5 : decode cX5_vacate 5 = .ok (.getfield 44, 3) := by decide +kernel
theorem dX5_vacate_8 : decode cX5_vacate 8 = .ok (.iload_n 1, 1) := by decide +kernel
theorem dX5_vacate_9 : decode cX5_vacate 9 = .ok (.aaload, 1) := by decide +kernel
theorem dX5_vacate_10 : decode cX5_vacate 10 = .ok (.getfield 104, 3) := by decide +kernel
theorem dX5_vacate_13 : decode cX5_vacate 13 = .ok (.aload_n 0, 1) := by decide +kernel
theorem dX5_vacate_14 : decode cX5_vacate 14 = .ok (.getfield 44, 3) := by decide +kernel
theorem dX5_vacate_17 : decode cX5_vacate 17 = .ok (.iload_n 1, 1) := by decide +kernel
theorem dX5_vacate_18 : decode cX5_vacate 18 = .ok (.aaload, 1) := by decide +kernel
theorem dX5_vacate_19 : decode cX5_vacate 19 = .ok (.getfield 187, 3) := by decide +kernel
theorem dX5_vacate_22 : decode cX5_vacate 22 = .ok (.invokevirtual 216, 3) := by decide +kernel
theorem dX5_vacate_25 : decode cX5_vacate 25 = .ok (.aload_n 0, 1) := by decide +kernel
theorem dX5_vacate_26 : decode cX5_vacate 26 = .ok (.getfield 44, 3) := by decide +kernel
theorem dX5_vacate_29 : decode cX5_vacate 29 = .ok (.iload_n 1, 1) := by decide +kernel
theorem dX5_vacate_30 : decode cX5_vacate 30 = .ok (.aaload, 1) := by decide +kernel
theorem dX5_vacate_31 : decode cX5_vacate 31 = .ok (.iconst 0, 1) := by decide +kernel
theorem dX5_vacate_32 : decode cX5_vacate 32 = .ok (.putfield 70, 3) := by decide +kernel
theorem dX5_vacate_35 : decode cX5_vacate 35 = .ok (.aload_n 0, 1) := by decide +kernel
theorem dX5_vacate_36 : decode cX5_vacate 36 = .ok (.dup, 1) := by decide +kernel
theorem dX5_vacate_37 : decode cX5_vacate 37 = .ok (.getfield 63, 3) := by decide +kernel
theorem dX5_vacate_40 : decode cX5_vacate 40 = .ok (.iconst 1, 1) := by decide +kernel
theorem dX5_vacate_41 : decode cX5_vacate 41 = .ok (.isub, 1) := by decide +kernel
theorem dX5_vacate_42 : decode cX5_vacate 42 = .ok (.putfield 63, 3) := by decide +kernel
theorem dX5_vacate_45 : decode cX5_vacate 45 = .ok (.return_, 1) := by decide +kernel
theorem dX5_changePins_0 : decode cX5_changePins 0 = .ok (.aload_n 0, 1) := by decide +kernel
theorem dX5_changePins_1 : decode cX5_changePins 1 = .ok (.getfield 44, 3) := by decide +kernel
theorem dX5_changePins_4 : decode cX5_changePins 4 = .ok (.aload_n 1, 1) := by decide +kernel
theorem dX5_changePins_5 : decode cX5_changePins 5 = .ok (.getfield 128, 3) := by decide +kernel
theorem dX5_changePins_8 : decode cX5_changePins 8 = .ok (.aaload, 1) := by decide +kernel
theorem dX5_changePins_9 : decode cX5_changePins 9 = .ok (.dup, 1) := by decide +kernel
theorem dX5_changePins_10 : decode cX5_changePins 10 = .ok (.getfield 98, 3) := by decide +kernel
theorem dX5_changePins_13 : decode cX5_changePins 13 = .ok (.iload_n 2, 1) := by decide +kernel
theorem dX5_changePins_14 : decode cX5_changePins 14 = .ok (.iadd, 1) := by decide +kernel
theorem dX5_changePins_15 : decode cX5_changePins 15 = .ok (.putfield 98, 3) := by decide +kernel
theorem dX5_changePins_18 : decode cX5_changePins 18 = .ok (.aload_n 0, 1) := by decide +kernel
theorem dX5_changePins_19 : decode cX5_changePins 19 = .ok (.getfield 44, 3) := by decide +kernel
theorem dX5_changePins_22 : decode cX5_changePins 22 = .ok (.aload_n 1, 1) := by decide +kernel
theorem dX5_changePins_23 : decode cX5_changePins 23 = .ok (.getfield 131, 3) := by decide +kernel
theorem dX5_changePins_26 : decode cX5_changePins 26 = .ok (.aaload, 1) := by decide +kernel
theorem dX5_changePins_27 : decode cX5_changePins 27 = .ok (.dup, 1) := by decide +kernel
theorem dX5_changePins_28 : decode cX5_changePins 28 = .ok (.getfield 98, 3) := by decide +kernel
theorem dX5_changePins_31 : decode cX5_changePins 31 = .ok (.iload_n 2, 1) := by decide +kernel
theorem dX5_changePins_32 : decode cX5_changePins 32 = .ok (.iadd, 1) := by decide +kernel
theorem dX5_changePins_33 : decode cX5_changePins 33 = .ok (.putfield 98, 3) := by decide +kernel
theorem dX5_changePins_36 : decode cX5_changePins 36 = .ok (.aload_n 1, 1) := by decide +kernel
theorem dX5_changePins_37 : decode cX5_changePins 37 = .ok (.getfield 125, 3) := by decide +kernel
theorem dX5_changePins_40 : decode cX5_changePins 40 = .ok (.iconst 3, 1) := by decide +kernel
theorem dX5_changePins_41 : decode cX5_changePins 41 = .ok (.if_icmp .ne 21, 3) := by decide +kernel
theorem dX5_changePins_44 : decode cX5_changePins 44 = .ok (.aload_n 0, 1) := by decide +kernel
theorem dX5_changePins_45 : decode cX5_changePins 45 = .ok (.getfield 44, 3) := by decide +kernel
theorem dX5_changePins_48 : decode cX5_changePins 48 = .ok (.aload_n 1, 1) := by decide +kernel
theorem dX5_changePins_49 : decode cX5_changePins 49 = .ok (.getfield 134, 3) := by decide +kernel
theorem dX5_changePins_52 : decode cX5_changePins 52 = .ok (.aaload, 1) := by decide +kernel
theorem dX5_changePins_53 : decode cX5_changePins 53 = .ok (.dup, 1) := by decide +kernel
theorem dX5_changePins_54 : decode cX5_changePins 54 = .ok (.getfield 98, 3) := by decide +kernel
theorem dX5_changePins_57 : decode cX5_changePins 57 = .ok (.iload_n 2, 1) := by decide +kernel
theorem dX5_changePins_58 : decode cX5_changePins 58 = .ok (.iadd, 1) := by decide +kernel
theorem dX5_changePins_59 : decode cX5_changePins 59 = .ok (.putfield 98, 3) := by decide +kernel
theorem dX5_changePins_62 : decode cX5_changePins 62 = .ok (.return_, 1) := by decide +kernel
theorem dX5_takeTurn_0 : decode cX5_takeTurn 0 = .ok (.aload_n 0, 1) := by decide +kernel
theorem dX5_takeTurn_1 : decode cX5_takeTurn 1 = .ok (.getfield 52, 3) := by decide +kernel
theorem dX5_takeTurn_4 : decode cX5_takeTurn 4 = .ok (.invokevirtual 220, 3) := by decide +kernel
theorem dX5_takeTurn_7 : decode cX5_takeTurn 7 = .ok (.istore_n 1, 1) := by decide +kernel
theorem dX5_takeTurn_8 : decode cX5_takeTurn 8 = .ok (.iload_n 1, 1) := by decide +kernel
theorem dX5_takeTurn_9 : decode cX5_takeTurn 9 = .ok (.iconst (-1), 1) := by decide +kernel
theorem dX5_takeTurn_10 : decode cX5_takeTurn 10 = .ok (.if_icmp .ne 5, 3) := by decide +kernel
theorem dX5_takeTurn_13 : decode cX5_takeTurn 13 = .ok (.iconst (-1), 1) := by decide +kernel
theorem dX5_takeTurn_14 : decode cX5_takeTurn 14 = .ok (.ireturn, 1) := by decide +kernel
theorem dX5_takeTurn_15 : decode cX5_takeTurn 15 = .ok (.aload_n 0, 1) := by decide +kernel
theorem dX5_takeTurn_16 : decode cX5_takeTurn 16 = .ok (.dup, 1) := by decide +kernel
theorem dX5_takeTurn_17 : decode cX5_takeTurn 17 = .ok (.getfield 75, 3) := by decide +kernel
theorem dX5_takeTurn_20 : decode cX5_takeTurn 20 = .ok (.iconst 1, 1) := by decide +kernel
theorem dX5_takeTurn_21 : decode cX5_takeTurn 21 = .ok (.iadd, 1) := by decide +kernel
theorem dX5_takeTurn_22 : decode cX5_takeTurn 22 = .ok (.putfield 75, 3) := by decide +kernel
theorem dX5_takeTurn_25 : decode cX5_takeTurn 25 = .ok (.aload_n 0, 1) := by decide +kernel
theorem dX5_takeTurn_26 : decode cX5_takeTurn 26 = .ok (.getfield 37, 3) := by decide +kernel
theorem dX5_takeTurn_29 : decode cX5_takeTurn 29 = .ok (.iload_n 1, 1) := by decide +kernel
theorem dX5_takeTurn_30 : decode cX5_takeTurn 30 = .ok (.aaload, 1) := by decide +kernel
theorem dX5_takeTurn_31 : decode cX5_takeTurn 31 = .ok (.astore_n 2, 1) := by decide +kernel
theorem dX5_takeTurn_32 : decode cX5_takeTurn 32 = .ok (.aload_n 2, 1) := by decide +kernel
theorem dX5_takeTurn_33 : decode cX5_takeTurn 33 = .ok (.getfield 141, 3) := by decide +kernel
theorem dX5_takeTurn_36 : decode cX5_takeTurn 36 = .ok (.ifCond .ne 11, 3) := by decide +kernel
theorem dX5_takeTurn_39 : decode cX5_takeTurn 39 = .ok (.aload_n 0, 1) := by decide +kernel
theorem dX5_takeTurn_40 : decode cX5_takeTurn 40 = .ok (.aload_n 2, 1) := by decide +kernel
theorem dX5_takeTurn_41 : decode cX5_takeTurn 41 = .ok (.invokevirtual 223, 3) := by decide +kernel
theorem dX5_takeTurn_44 : decode cX5_takeTurn 44 = .ok (.goto 36, 3) := by decide +kernel
theorem dX5_takeTurn_47 : decode cX5_takeTurn 47 = .ok (.aload_n 2, 1) := by decide +kernel
theorem dX5_takeTurn_48 : decode cX5_takeTurn 48 = .ok (.dup, 1) := by decide +kernel
theorem dX5_takeTurn_49 : decode cX5_takeTurn 49 = .ok (.getfield 157, 3) := by decide +kernel
theorem dX5_takeTurn_52 : decode cX5_takeTurn 52 = .ok (.aload_n 0, 1) := by decide +kernel
theorem dX5_takeTurn_53 : decode cX5_takeTurn 53 = .ok (.getfield 56, 3) := by decide +kernel
theorem dX5_takeTurn_56 : decode cX5_takeTurn 56 = .ok (.i2l, 1) := by decide +kernel
theorem dX5_takeTurn_57 : decode cX5_takeTurn 57 = .ok (.lsub, 1) := by decide +kernel
theorem dX5_takeTurn_58 : decode cX5_takeTurn 58 = .ok (.putfield 157, 3) := by decide +kernel
theorem dX5_takeTurn_61 : decode cX5_takeTurn 61 = .ok (.aload_n 2, 1) := by decide +kernel
theorem dX5_takeTurn_62 : decode cX5_takeTurn 62 = .ok (.getfield 157, 3) := by decide +kernel
theorem dX5_takeTurn_65 : decode cX5_takeTurn 65 = .ok (.lconst 0, 1) := by decide +kernel
theorem dX5_takeTurn_66 : decode cX5_takeTurn 66 = .ok (.lcmp, 1) := by decide +kernel
end
section
theorem dX5_takeTurn_67 : decode cX5_takeTurn 67 = .ok (.ifCond .gt 13, 3) := by decide +kernel
theorem dX5_takeTurn_70 : decode cX5_takeTurn 70 = .ok (.aload_n 0, 1) := by decide +kernel
theorem dX5_takeTurn_71 : decode cX5_takeTurn 71 = .ok (.aload_n 2, 1) := by decide +kernel
theorem dX5_takeTurn_72 : decode cX5_takeTurn 72 = .ok (.invokevirtual 226, 3) := by decide +kernel
theorem dX5_takeTurn_75 : decode cX5_takeTurn 75 = .ok (.aload_n 0, 1) := by decide +kernel
theorem dX5_takeTurn_76 : decode cX5_takeTurn 76 = .ok (.aload_n 2, 1) := by decide +kernel
theorem dX5_takeTurn_77 : decode cX5_takeTurn 77 = .ok (.invokevirtual 229, 3) := by decide +kernel
theorem dX5_takeTurn_80 : decode cX5_takeTurn 80 = .ok (.aload_n 2, 1) := by decide +kernel
theorem dX5_takeTurn_81 : decode cX5_takeTurn 81 = .ok (.invokevirtual 163, 3) := by decide +kernel
theorem dX5_takeTurn_84 : decode cX5_takeTurn 84 = .ok (.ifCond .eq 11, 3) := by decide +kernel
theorem dX5_takeTurn_87 : decode cX5_takeTurn 87 = .ok (.aload_n 0, 1) := by decide +kernel
theorem dX5_takeTurn_88 : decode cX5_takeTurn 88 = .ok (.getfield 52, 3) := by decide +kernel
theorem dX5_takeTurn_91 : decode cX5_takeTurn 91 = .ok (.iload_n 1, 1) := by decide +kernel
theorem dX5_takeTurn_92 : decode cX5_takeTurn 92 = .ok (.invokevirtual 148, 3) := by decide +kernel
theorem dX5_takeTurn_95 : decode cX5_takeTurn 95 = .ok (.iload_n 1, 1) := by decide +kernel
theorem dX5_takeTurn_96 : decode cX5_takeTurn 96 = .ok (.ireturn, 1) := by decide +kernel
theorem dX5_start_0 : decode cX5_start 0 = .ok (.aload_n 0, 1) := by decide +kernel
theorem dX5_start_1 : decode cX5_start 1 = .ok (.invokevirtual 78, 3) := by decide +kernel
theorem dX5_start_4 : decode cX5_start 4 = .ok (.istore_n 2, 1) := by decide +kernel
theorem dX5_start_5 : decode cX5_start 5 = .ok (.iload_n 2, 1) := by decide +kernel
theorem dX5_start_6 : decode cX5_start 6 = .ok (.iconst (-1), 1) := by decide +kernel
theorem dX5_start_7 : decode cX5_start 7 = .ok (.if_icmp .eq 21, 3) := by decide +kernel
theorem dX5_start_10 : decode cX5_start 10 = .ok (.aload_n 0, 1) := by decide +kernel
theorem dX5_start_11 : decode cX5_start 11 = .ok (.getfield 18, 3) := by decide +kernel
theorem dX5_start_14 : decode cX5_start 14 = .ok (.aload_n 1, 1) := by decide +kernel
theorem dX5_start_15 : decode cX5_start 15 = .ok (.getfield 232, 3) := by decide +kernel
theorem dX5_start_18 : decode cX5_start 18 = .ok (.aload_n 1, 1) := by decide +kernel
theorem dX5_start_19 : decode cX5_start 19 = .ok (.getfield 235, 3) := by decide +kernel
theorem dX5_start_22 : decode cX5_start 22 = .ok (.invokevirtual 238, 3) := by decide +kernel
theorem dX5_start_25 : decode cX5_start 25 = .ok (.ifCond .ne 4, 3) := by decide +kernel
theorem dX5_start_28 : decode cX5_start 28 = .ok (.return_, 1) := by decide +kernel
theorem dX5_start_29 : decode cX5_start 29 = .ok (.aload_n 0, 1) := by decide +kernel
theorem dX5_start_30 : decode cX5_start 30 = .ok (.iload_n 2, 1) := by decide +kernel
theorem dX5_start_31 : decode cX5_start 31 = .ok (.aload_n 1, 1) := by decide +kernel
theorem dX5_start_32 : decode cX5_start 32 = .ok (.getfield 242, 3) := by decide +kernel
theorem dX5_start_35 : decode cX5_start 35 = .ok (.aload_n 1, 1) := by decide +kernel
theorem dX5_start_36 : decode cX5_start 36 = .ok (.getfield 232, 3) := by decide +kernel
theorem dX5_start_39 : decode cX5_start 39 = .ok (.aload_n 0, 1) := by decide +kernel
theorem dX5_start_40 : decode cX5_start 40 = .ok (.getfield 18, 3) := by decide +kernel
theorem dX5_start_43 : decode cX5_start 43 = .ok (.aload_n 1, 1) := by decide +kernel
theorem dX5_start_44 : decode cX5_start 44 = .ok (.getfield 232, 3) := by decide +kernel
theorem dX5_start_47 : decode cX5_start 47 = .ok (.invokevirtual 86, 3) := by decide +kernel
theorem dX5_start_50 : decode cX5_start 50 = .ok (.invokevirtual 90, 3) := by decide +kernel
theorem dX5_start_53 : decode cX5_start 53 = .ok (.aload_n 0, 1) := by decide +kernel
theorem dX5_start_54 : decode cX5_start 54 = .ok (.getfield 44, 3) := by decide +kernel
theorem dX5_start_57 : decode cX5_start 57 = .ok (.iload_n 2, 1) := by decide +kernel
theorem dX5_start_58 : decode cX5_start 58 = .ok (.aaload, 1) := by decide +kernel
theorem dX5_start_59 : decode cX5_start 59 = .ok (.iconst 1, 1) := by decide +kernel
theorem dX5_start_60 : decode cX5_start 60 = .ok (.putfield 204, 3) := by decide +kernel
theorem dX5_start_63 : decode cX5_start 63 = .ok (.aload_n 0, 1) := by decide +kernel
theorem dX5_start_64 : decode cX5_start 64 = .ok (.getfield 44, 3) := by decide +kernel
theorem dX5_start_67 : decode cX5_start 67 = .ok (.iload_n 2, 1) := by decide +kernel
theorem dX5_start_68 : decode cX5_start 68 = .ok (.aaload, 1) := by decide +kernel
theorem dX5_start_69 : decode cX5_start 69 = .ok (.iconst 1, 1) := by decide +kernel
theorem dX5_start_70 : decode cX5_start 70 = .ok (.putfield 98, 3) := by decide +kernel
theorem dX5_start_73 : decode cX5_start 73 = .ok (.aload_n 1, 1) := by decide +kernel
theorem dX5_start_74 : decode cX5_start 74 = .ok (.iload_n 2, 1) := by decide +kernel
theorem dX5_start_75 : decode cX5_start 75 = .ok (.putfield 113, 3) := by decide +kernel
theorem dX5_start_78 : decode cX5_start 78 = .ok (.aload_n 1, 1) := by decide +kernel
theorem dX5_start_79 : decode cX5_start 79 = .ok (.getfield 235, 3) := by decide +kernel
theorem dX5_start_82 : decode cX5_start 82 = .ok (.iconst (-1), 1) := by decide +kernel
theorem dX5_start_83 : decode cX5_start 83 = .ok (.if_icmp .eq 18, 3) := by decide +kernel
theorem dX5_start_86 : decode cX5_start 86 = .ok (.aload_n 1, 1) := by decide +kernel
theorem dX5_start_87 : decode cX5_start 87 = .ok (.aload_n 0, 1) := by decide +kernel
theorem dX5_start_88 : decode cX5_start 88 = .ok (.getfield 18, 3) := by decide +kernel
theorem dX5_start_91 : decode cX5_start 91 = .ok (.aload_n 1, 1) := by decide +kernel
theorem dX5_start_92 : decode cX5_start 92 = .ok (.getfield 235, 3) := by decide +kernel
theorem dX5_start_95 : decode cX5_start 95 = .ok (.invokevirtual 86, 3) := by decide +kernel
theorem dX5_start_98 : decode cX5_start 98 = .ok (.putfield 245, 3) := by decide +kernel
theorem dX5_start_101 : decode cX5_start 101 = .ok (.aload_n 1, 1) := by decide +kernel
theorem dX5_start_102 : decode cX5_start 102 = .ok (.iconst 1, 1) := by decide +kernel
theorem dX5_start_103 : decode cX5_start 103 = .ok (.putfield 141, 3) := by decide +kernel
theorem dX5_start_106 : decode cX5_start 106 = .ok (.return_, 1) := by decide +kernel
theorem dX5_reckon_0 : decode cX5_reckon 0 = .ok (.aload_n 0, 1) := by decide +kernel
theorem dX5_reckon_1 : decode cX5_reckon 1 = .ok (.getfield 44, 3) := by decide +kernel
theorem dX5_reckon_4 : decode cX5_reckon 4 = .ok (.aload_n 1, 1) := by decide +kernel
theorem dX5_reckon_5 : decode cX5_reckon 5 = .ok (.getfield 128, 3) := by decide +kernel
theorem dX5_reckon_8 : decode cX5_reckon 8 = .ok (.aaload, 1) := by decide +kernel
theorem dX5_reckon_9 : decode cX5_reckon 9 = .ok (.astore_n 2, 1) := by decide +kernel
theorem dX5_reckon_10 : decode cX5_reckon 10 = .ok (.aload_n 0, 1) := by decide +kernel
theorem dX5_reckon_11 : decode cX5_reckon 11 = .ok (.getfield 44, 3) := by decide +kernel
theorem dX5_reckon_14 : decode cX5_reckon 14 = .ok (.aload_n 1, 1) := by decide +kernel
theorem dX5_reckon_15 : decode cX5_reckon 15 = .ok (.getfield 131, 3) := by decide +kernel
theorem dX5_reckon_18 : decode cX5_reckon 18 = .ok (.aaload, 1) := by decide +kernel
theorem dX5_reckon_19 : decode cX5_reckon 19 = .ok (.astore_n 3, 1) := by decide +kernel
theorem dX5_reckon_20 : decode cX5_reckon 20 = .ok (.aload_n 0, 1) := by decide +kernel
theorem dX5_reckon_21 : decode cX5_reckon 21 = .ok (.getfield 44, 3) := by decide +kernel
theorem dX5_reckon_24 : decode cX5_reckon 24 = .ok (.aload_n 1, 1) := by decide +kernel
theorem dX5_reckon_25 : decode cX5_reckon 25 = .ok (.getfield 113, 3) := by decide +kernel
theorem dX5_reckon_28 : decode cX5_reckon 28 = .ok (.aaload, 1) := by decide +kernel
theorem dX5_reckon_29 : decode cX5_reckon 29 = .ok (.astore 4, 2) := by decide +kernel
theorem dX5_reckon_31 : decode cX5_reckon 31 = .ok (.aload_n 1, 1) := by decide +kernel
theorem dX5_reckon_32 : decode cX5_reckon 32 = .ok (.getfield 125, 3) := by decide +kernel
theorem dX5_reckon_35 : decode cX5_reckon 35 = .ok (.tableswitch 92 0 2 #[25, 56, 74], 25) := by decide +kernel
theorem dX5_reckon_60 : decode cX5_reckon 60 = .ok (.aload_n 0, 1) := by decide +kernel
theorem dX5_reckon_61 : decode cX5_reckon 61 = .ok (.getfield 31, 3) := by decide +kernel
theorem dX5_reckon_64 : decode cX5_reckon 64 = .ok (.aload 4, 2) := by decide +kernel
theorem dX5_reckon_66 : decode cX5_reckon 66 = .ok (.getfield 104, 3) := by decide +kernel
theorem dX5_reckon_69 : decode cX5_reckon 69 = .ok (.aload_n 2, 1) := by decide +kernel
theorem dX5_reckon_70 : decode cX5_reckon 70 = .ok (.getfield 104, 3) := by decide +kernel
theorem dX5_reckon_73 : decode cX5_reckon 73 = .ok (.aload_n 2, 1) := by decide +kernel
theorem dX5_reckon_74 : decode cX5_reckon 74 = .ok (.getfield 110, 3) := by decide +kernel
theorem dX5_reckon_77 : decode cX5_reckon 77 = .ok (.aload_n 3, 1) := by decide +kernel
theorem dX5_reckon_78 : decode cX5_reckon 78 = .ok (.getfield 104, 3) := by decide +kernel
theorem dX5_reckon_81 : decode cX5_reckon 81 = .ok (.aload_n 3, 1) := by decide +kernel
theorem dX5_reckon_82 : decode cX5_reckon 82 = .ok (.getfield 110, 3) := by decide +kernel
theorem dX5_reckon_85 : decode cX5_reckon 85 = .ok (.invokevirtual 248, 3) := by decide +kernel
theorem dX5_reckon_88 : decode cX5_reckon 88 = .ok (.goto 63, 3) := by decide +kernel
theorem dX5_reckon_91 : decode cX5_reckon 91 = .ok (.aload_n 0, 1) := by decide +kernel
theorem dX5_reckon_92 : decode cX5_reckon 92 = .ok (.getfield 31, 3) := by decide +kernel
theorem dX5_reckon_95 : decode cX5_reckon 95 = .ok (.aload_n 2, 1) := by decide +kernel
theorem dX5_reckon_96 : decode cX5_reckon 96 = .ok (.aload_n 3, 1) := by decide +kernel
theorem dX5_reckon_97 : decode cX5_reckon 97 = .ok (.aload 4, 2) := by decide +kernel
theorem dX5_reckon_99 : decode cX5_reckon 99 = .ok (.aload_n 1, 1) := by decide +kernel
theorem dX5_reckon_100 : decode cX5_reckon 100 = .ok (.getfield 245, 3) := by decide +kernel
theorem dX5_reckon_103 : decode cX5_reckon 103 = .ok (.invokevirtual 252, 3) := by decide +kernel
theorem dX5_reckon_106 : decode cX5_reckon 106 = .ok (.goto 45, 3) := by decide +kernel
theorem dX5_reckon_109 : decode cX5_reckon 109 = .ok (.aload_n 0, 1) := by decide +kernel
theorem dX5_reckon_110 : decode cX5_reckon 110 = .ok (.getfield 31, 3) := by decide +kernel
theorem dX5_reckon_113 : decode cX5_reckon 113 = .ok (.aload_n 2, 1) := by decide +kernel
theorem dX5_reckon_114 : decode cX5_reckon 114 = .ok (.aload_n 3, 1) := by decide +kernel
theorem dX5_reckon_115 : decode cX5_reckon 115 = .ok (.aload 4, 2) := by decide +kernel
theorem dX5_reckon_117 : decode cX5_reckon 117 = .ok (.aload_n 1, 1) := by decide +kernel
theorem dX5_reckon_118 : decode cX5_reckon 118 = .ok (.getfield 245, 3) := by decide +kernel
theorem dX5_reckon_121 : decode cX5_reckon 121 = .ok (.invokevirtual 256, 3) := by decide +kernel
theorem dX5_reckon_124 : decode cX5_reckon 124 = .ok (.goto 27, 3) := by decide +kernel
theorem dX5_reckon_127 : decode cX5_reckon 127 = .ok (.aload_n 0, 1) := by decide +kernel
theorem dX5_reckon_128 : decode cX5_reckon 128 = .ok (.getfield 31, 3) := by decide +kernel
theorem dX5_reckon_131 : decode cX5_reckon 131 = .ok (.aload_n 2, 1) := by decide +kernel
theorem dX5_reckon_132 : decode cX5_reckon 132 = .ok (.aload_n 3, 1) := by decide +kernel
theorem dX5_reckon_133 : decode cX5_reckon 133 = .ok (.aload_n 0, 1) := by decide +kernel
theorem dX5_reckon_134 : decode cX5_reckon 134 = .ok (.getfield 44, 3) := by decide +kernel
theorem dX5_reckon_137 : decode cX5_reckon 137 = .ok (.aload_n 1, 1) := by decide +kernel
theorem dX5_reckon_138 : decode cX5_reckon 138 = .ok (.getfield 134, 3) := by decide +kernel
theorem dX5_reckon_141 : decode cX5_reckon 141 = .ok (.aaload, 1) := by decide +kernel
theorem dX5_reckon_142 : decode cX5_reckon 142 = .ok (.aload 4, 2) := by decide +kernel
theorem dX5_reckon_144 : decode cX5_reckon 144 = .ok (.aload_n 1, 1) := by decide +kernel
theorem dX5_reckon_145 : decode cX5_reckon 145 = .ok (.getfield 245, 3) := by decide +kernel
theorem dX5_reckon_148 : decode cX5_reckon 148 = .ok (.invokevirtual 259, 3) := by decide +kernel
theorem dX5_reckon_151 : decode cX5_reckon 151 = .ok (.return_, 1) := by decide +kernel
theorem dX5_settle_0 : decode cX5_settle 0 = .ok (.aload_n 0, 1) := by decide +kernel
theorem dX5_settle_1 : decode cX5_settle 1 = .ok (.aload_n 1, 1) := by decide +kernel
theorem dX5_settle_2 : decode cX5_settle 2 = .ok (.iconst (-1), 1) := by decide +kernel
theorem dX5_settle_3 : decode cX5_settle 3 = .ok (.invokevirtual 144, 3) := by decide +kernel
theorem dX5_settle_6 : decode cX5_settle 6 = .ok (.aload_n 0, 1) := by decide +kernel
theorem dX5_settle_7 : decode cX5_settle 7 = .ok (.aload_n 1, 1) := by decide +kernel
theorem dX5_settle_8 : decode cX5_settle 8 = .ok (.invokevirtual 170, 3) := by decide +kernel
theorem dX5_settle_11 : decode cX5_settle 11 = .ok (.aload_n 0, 1) := by decide +kernel
theorem dX5_settle_12 : decode cX5_settle 12 = .ok (.getfield 44, 3) := by decide +kernel
theorem dX5_settle_15 : decode cX5_settle 15 = .ok (.aload_n 1, 1) := by decide +kernel
theorem dX5_settle_16 : decode cX5_settle 16 = .ok (.getfield 113, 3) := by decide +kernel
theorem dX5_settle_19 : decode cX5_settle 19 = .ok (.aaload, 1) := by decide +kernel
theorem dX5_settle_20 : decode cX5_settle 20 = .ok (.dup, 1) := by decide +kernel
theorem dX5_settle_21 : decode cX5_settle 21 = .ok (.getfield 98, 3) := by decide +kernel
theorem dX5_settle_24 : decode cX5_settle 24 = .ok (.iconst 1, 1) := by decide +kernel
theorem dX5_settle_25 : decode cX5_settle 25 = .ok (.isub, 1) := by decide +kernel
theorem dX5_settle_26 : decode cX5_settle 26 = .ok (.putfield 98, 3) := by decide +kernel
theorem dX5_settle_29 : decode cX5_settle 29 = .ok (.aload_n 0, 1) := by decide +kernel
theorem dX5_settle_30 : decode cX5_settle 30 = .ok (.getfield 44, 3) := by decide +kernel
theorem dX5_settle_33 : decode cX5_settle 33 = .ok (.aload_n 1, 1) := by decide +kernel
theorem dX5_settle_34 : decode cX5_settle 34 = .ok (.getfield 113, 3) := by decide +kernel
theorem dX5_settle_37 : decode cX5_settle 37 = .ok (.aaload, 1) := by decide +kernel
theorem dX5_settle_38 : decode cX5_settle 38 = .ok (.iconst 0, 1) := by decide +kernel
theorem dX5_settle_39 : decode cX5_settle 39 = .ok (.putfield 204, 3) := by decide +kernel
theorem dX5_settle_42 : decode cX5_settle 42 = .ok (.aload_n 1, 1) := by decide +kernel
theorem dX5_settle_43 : decode cX5_settle 43 = .ok (.lconst 0, 1) := by decide +kernel
theorem dX5_settle_44 : decode cX5_settle 44 = .ok (.putfield 157, 3) := by decide +kernel
theorem dX5_settle_47 : decode cX5_settle 47 = .ok (.aload_n 1, 1) := by decide +kernel
theorem dX5_settle_48 : decode cX5_settle 48 = .ok (.iconst 2, 1) := by decide +kernel
theorem dX5_settle_49 : decode cX5_settle 49 = .ok (.putfield 141, 3) := by decide +kernel
theorem dX5_settle_52 : decode cX5_settle 52 = .ok (.return_, 1) := by decide +kernel
theorem dX5_giveUpRoom_0 : decode cX5_giveUpRoom 0 = .ok (.aload_n 1, 1) := by decide +kernel
theorem dX5_giveUpRoom_1 : decode cX5_giveUpRoom 1 = .ok (.getfield 245, 3) := by decide +kernel
theorem dX5_giveUpRoom_4 : decode cX5_giveUpRoom 4 = .ok (.iconst (-1), 1) := by decide +kernel
theorem dX5_giveUpRoom_5 : decode cX5_giveUpRoom 5 = .ok (.if_icmp .eq 23, 3) := by decide +kernel
theorem dX5_giveUpRoom_8 : decode cX5_giveUpRoom 8 = .ok (.aload_n 0, 1) := by decide +kernel
theorem dX5_giveUpRoom_9 : decode cX5_giveUpRoom 9 = .ok (.getfield 18, 3) := by decide +kernel
theorem dX5_giveUpRoom_12 : decode cX5_giveUpRoom 12 = .ok (.aload_n 1, 1) := by decide +kernel
theorem dX5_giveUpRoom_13 : decode cX5_giveUpRoom 13 = .ok (.getfield 245, 3) := by decide +kernel
theorem dX5_giveUpRoom_16 : decode cX5_giveUpRoom 16 = .ok (.aload_n 1, 1) := by decide +kernel
theorem dX5_giveUpRoom_17 : decode cX5_giveUpRoom 17 = .ok (.getfield 235, 3) := by decide +kernel
theorem dX5_giveUpRoom_20 : decode cX5_giveUpRoom 20 = .ok (.invokevirtual 216, 3) := by decide +kernel
theorem dX5_giveUpRoom_23 : decode cX5_giveUpRoom 23 = .ok (.aload_n 1, 1) := by decide +kernel
theorem dX5_giveUpRoom_24 : decode cX5_giveUpRoom 24 = .ok (.iconst (-1), 1) := by decide +kernel
theorem dX5_giveUpRoom_25 : decode cX5_giveUpRoom 25 = .ok (.putfield 245, 3) := by decide +kernel
theorem dX5_giveUpRoom_28 : decode cX5_giveUpRoom 28 = .ok (.return_, 1) := by decide +kernel
theorem dX6_init_0 : decode cX6_init 0 = .ok (.aload_n 0, 1) := by decide +kernel
theorem dX6_init_1 : decode cX6_init 1 = .ok (.invokespecial 1, 3) := by decide +kernel
theorem dX6_init_4 : decode cX6_init 4 = .ok (.aload_n 0, 1) := by decide +kernel
theorem dX6_init_5 : decode cX6_init 5 = .ok (.sipush 2048, 3) := by decide +kernel
theorem dX6_init_8 : decode cX6_init 8 = .ok (.newarray .int, 2) := by decide +kernel
theorem dX6_init_10 : decode cX6_init 10 = .ok (.putfield 7, 3) := by decide +kernel
theorem dX6_init_13 : decode cX6_init 13 = .ok (.aload_n 0, 1) := by decide +kernel
theorem dX6_init_14 : decode cX6_init 14 = .ok (.sipush 2048, 3) := by decide +kernel
theorem dX6_init_17 : decode cX6_init 17 = .ok (.newarray .int, 2) := by decide +kernel
theorem dX6_init_19 : decode cX6_init 19 = .ok (.putfield 13, 3) := by decide +kernel
theorem dX6_init_22 : decode cX6_init 22 = .ok (.aload_n 0, 1) := by decide +kernel
theorem dX6_init_23 : decode cX6_init 23 = .ok (.bipush 24, 2) := by decide +kernel
theorem dX6_init_25 : decode cX6_init 25 = .ok (.newarray .boolean, 2) := by decide +kernel
theorem dX6_init_27 : decode cX6_init 27 = .ok (.putfield 16, 3) := by decide +kernel
theorem dX6_init_30 : decode cX6_init 30 = .ok (.aload_n 0, 1) := by decide +kernel
theorem dX6_init_31 : decode cX6_init 31 = .ok (.bipush 24, 2) := by decide +kernel
theorem dX6_init_33 : decode cX6_init 33 = .ok (.newarray .int, 2) := by decide +kernel
theorem dX6_init_35 : decode cX6_init 35 = .ok (.putfield 20, 3) := by decide +kernel
theorem dX6_init_38 : decode cX6_init 38 = .ok (.aload_n 0, 1) := by decide +kernel
theorem dX6_init_39 : decode cX6_init 39 = .ok (.bipush 24, 2) := by decide +kernel
theorem dX6_init_41 : decode cX6_init 41 = .ok (.newarray .int, 2) := by decide +kernel
theorem dX6_init_43 : decode cX6_init 43 = .ok (.putfield 23, 3) := by decide +kernel
theorem dX6_init_46 : decode cX6_init 46 = .ok (.aload_n 0, 1) := by decide +kernel
theorem dX6_init_47 : decode cX6_init 47 = .ok (.bipush 24, 2) := by decide +kernel
theorem dX6_init_49 : decode cX6_init 49 = .ok (.newarray .int, 2) := by decide +kernel
theorem dX6_init_51 : decode cX6_init 51 = .ok (.putfield 26, 3) := by decide +kernel
theorem dX6_init_54 : decode cX6_init 54 = .ok (.aload_n 0, 1) := by decide +kernel
theorem dX6_init_55 : decode cX6_init 55 = .ok (.bipush 24, 2) := by decide +kernel
theorem dX6_init_57 : decode cX6_init 57 = .ok (.newarray .int, 2) := by decide +kernel
theorem dX6_init_59 : decode cX6_init 59 = .ok (.putfield 29, 3) := by decide +kernel
theorem dX6_init_62 : decode cX6_init 62 = .ok (.aload_n 0, 1) := by decide +kernel
theorem dX6_init_63 : decode cX6_init 63 = .ok (.bipush 24, 2) := by decide +kernel
theorem dX6_init_65 : decode cX6_init 65 = .ok (.newarray .boolean, 2) := by decide +kernel
theorem dX6_init_67 : decode cX6_init 67 = .ok (.putfield 32, 3) := by decide +kernel
theorem dX6_init_70 : decode cX6_init 70 = .ok (.aload_n 0, 1) := by decide +kernel
theorem dX6_init_71 : decode cX6_init 71 = .ok (.bipush 12, 2) := by decide +kernel
theorem dX6_init_73 : decode cX6_init 73 = .ok (.newarray .int, 2) := by decide +kernel
theorem dX6_init_75 : decode cX6_init 75 = .ok (.putfield 35, 3) := by decide +kernel
theorem dX6_init_78 : decode cX6_init 78 = .ok (.aload_n 0, 1) := by decide +kernel
theorem dX6_init_79 : decode cX6_init 79 = .ok (.bipush 12, 2) := by decide +kernel
theorem dX6_init_81 : decode cX6_init 81 = .ok (.newarray .int, 2) := by decide +kernel
theorem dX6_init_83 : decode cX6_init 83 = .ok (.putfield 38, 3) := by decide +kernel
theorem dX6_init_86 : decode cX6_init 86 = .ok (.aload_n 0, 1) := by decide +kernel
theorem dX6_init_87 : decode cX6_init 87 = .ok (.bipush 12, 2) := by decide +kernel
theorem dX6_init_89 : decode cX6_init 89 = .ok (.newarray .int, 2) := by decide +kernel
theorem dX6_init_91 : decode cX6_init 91 = .ok (.putfield 41, 3) := by decide +kernel
theorem dX6_init_94 : decode cX6_init 94 = .ok (.aload_n 0, 1) := by decide +kernel
theorem dX6_init_95 : decode cX6_init 95 = .ok (.bipush 12, 2) := by decide +kernel
theorem dX6_init_97 : decode cX6_init 97 = .ok (.newarray .int, 2) := by decide +kernel
theorem dX6_init_99 : decode cX6_init 99 = .ok (.putfield 44, 3) := by decide +kernel
theorem dX6_init_102 : decode cX6_init 102 = .ok (.aload_n 0, 1) := by decide +kernel
theorem dX6_init_103 : decode cX6_init 103 = .ok (.bipush 12, 2) := by decide +kernel
theorem dX6_init_105 : decode cX6_init 105 = .ok (.newarray .int, 2) := by decide +kernel
theorem dX6_init_107 : decode cX6_init 107 = .ok (.putfield 47, 3) := by decide +kernel
theorem dX6_init_110 : decode cX6_init 110 = .ok (.aload_n 0, 1) := by decide +kernel
theorem dX6_init_111 : decode cX6_init 111 = .ok (.bipush 12, 2) := by decide +kernel
theorem dX6_init_113 : decode cX6_init 113 = .ok (.newarray .long, 2) := by decide +kernel
theorem dX6_init_115 : decode cX6_init 115 = .ok (.putfield 50, 3) := by decide +kernel
theorem dX6_init_118 : decode cX6_init 118 = .ok (.aload_n 0, 1) := by decide +kernel
theorem dX6_init_119 : decode cX6_init 119 = .ok (.bipush 12, 2) := by decide +kernel
theorem dX6_init_121 : decode cX6_init 121 = .ok (.newarray .int, 2) := by decide +kernel
theorem dX6_init_123 : decode cX6_init 123 = .ok (.putfield 54, 3) := by decide +kernel
theorem dX6_init_126 : decode cX6_init 126 = .ok (.aload_n 0, 1) := by decide +kernel
theorem dX6_init_127 : decode cX6_init 127 = .ok (.bipush 12, 2) := by decide +kernel
theorem dX6_init_129 : decode cX6_init 129 = .ok (.newarray .int, 2) := by decide +kernel
theorem dX6_init_131 : decode cX6_init 131 = .ok (.putfield 57, 3) := by decide +kernel
theorem dX6_init_134 : decode cX6_init 134 = .ok (.aload_n 0, 1) := by decide +kernel
theorem dX6_init_135 : decode cX6_init 135 = .ok (.bipush 12, 2) := by decide +kernel
theorem dX6_init_137 : decode cX6_init 137 = .ok (.newarray .int, 2) := by decide +kernel
theorem dX6_init_139 : decode cX6_init 139 = .ok (.putfield 60, 3) := by decide +kernel
theorem dX6_init_142 : decode cX6_init 142 = .ok (.aload_n 0, 1) := by decide +kernel
theorem dX6_init_143 : decode cX6_init 143 = .ok (.bipush 13, 2) := by decide +kernel
theorem dX6_init_145 : decode cX6_init 145 = .ok (.newarray .int, 2) := by decide +kernel
theorem dX6_init_147 : decode cX6_init 147 = .ok (.putfield 63, 3) := by decide +kernel
theorem dX6_init_150 : decode cX6_init 150 = .ok (.aload_n 0, 1) := by decide +kernel
theorem dX6_init_151 : decode cX6_init 151 = .ok (.sipush 4200, 3) := by decide +kernel
theorem dX6_init_154 : decode cX6_init 154 = .ok (.newarray .int, 2) := by decide +kernel
theorem dX6_init_156 : decode cX6_init 156 = .ok (.putfield 66, 3) := by decide +kernel
theorem dX6_init_159 : decode cX6_init 159 = .ok (.aload_n 0, 1) := by decide +kernel
theorem dX6_init_160 : decode cX6_init 160 = .ok (.sipush 2100, 3) := by decide +kernel
theorem dX6_init_163 : decode cX6_init 163 = .ok (.newarray .int, 2) := by decide +kernel
theorem dX6_init_165 : decode cX6_init 165 = .ok (.putfield 69, 3) := by decide +kernel
theorem dX6_init_168 : decode cX6_init 168 = .ok (.aload_n 0, 1) := by decide +kernel
theorem dX6_init_169 : decode cX6_init 169 = .ok (.sipush 4200, 3) := by decide +kernel
theorem dX6_init_172 : decode cX6_init 172 = .ok (.newarray .int, 2) := by decide +kernel
theorem dX6_init_174 : decode cX6_init 174 = .ok (.putfield 72, 3) := by decide +kernel
theorem dX6_init_177 : decode cX6_init 177 = .ok (.aload_n 0, 1) := by decide +kernel
theorem dX6_init_178 : decode cX6_init 178 = .ok (.sipush 2100, 3) := by decide +kernel
theorem dX6_init_181 : decode cX6_init 181 = .ok (.newarray .int, 2) := by decide +kernel
theorem dX6_init_183 : decode cX6_init 183 = .ok (.putfield 75, 3) := by decide +kernel
theorem dX6_init_186 : decode cX6_init 186 = .ok (.aload_n 0, 1) := by decide +kernel
theorem dX6_init_187 : decode cX6_init 187 = .ok (.sipush 2100, 3) := by decide +kernel
theorem dX6_init_190 : decode cX6_init 190 = .ok (.newarray .int, 2) := by decide +kernel
theorem dX6_init_192 : decode cX6_init 192 = .ok (.putfield 78, 3) := by decide +kernel
theorem dX6_init_195 : decode cX6_init 195 = .ok (.aload_n 0, 1) := by decide +kernel
theorem dX6_init_196 : decode cX6_init 196 = .ok (.iload_n 1, 1) := by decide +kernel
theorem dX6_init_197 : decode cX6_init 197 = .ok (.iconst 3, 1) := by decide +kernel
theorem dX6_init_198 : decode cX6_init 198 = .ok (.bipush 11, 2) := by decide +kernel
theorem dX6_init_200 : decode cX6_init 200 = .ok (.invokestatic 81, 3) := by decide +kernel
theorem dX6_init_203 : decode cX6_init 203 = .ok (.putfield 85, 3) := by decide +kernel
theorem dX6_init_206 : decode cX6_init 206 = .ok (.aload_n 0, 1) := by decide +kernel
theorem dX6_init_207 : decode cX6_init 207 = .ok (.iload_n 2, 1) := by decide +kernel
theorem dX6_init_208 : decode cX6_init 208 = .ok (.iconst 1, 1) := by decide +kernel
theorem dX6_init_209 : decode cX6_init 209 = .ok (.bipush 12, 2) := by decide +kernel
theorem dX6_init_211 : decode cX6_init 211 = .ok (.invokestatic 81, 3) := by decide +kernel
theorem dX6_init_214 : decode cX6_init 214 = .ok (.putfield 89, 3) := by decide +kernel
theorem dX6_init_217 : decode cX6_init 217 = .ok (.aload_n 0, 1) := by decide +kernel
theorem dX6_init_218 : decode cX6_init 218 = .ok (.iload_n 3, 1) := by decide +kernel
theorem dX6_init_219 : decode cX6_init 219 = .ok (.iconst 1, 1) := by decide +kernel
theorem dX6_init_220 : decode cX6_init 220 = .ok (.bipush 24, 2) := by decide +kernel
theorem dX6_init_222 : decode cX6_init 222 = .ok (.invokestatic 81, 3) := by decide +kernel
theorem dX6_init_225 : decode cX6_init 225 = .ok (.putfield 92, 3) := by decide +kernel
theorem dX6_init_228 : decode cX6_init 228 = .ok (.aload_n 0, 1) := by decide +kernel
theorem dX6_init_229 : decode cX6_init 229 = .ok (.iload 4, 2) := by decide +kernel
theorem dX6_init_231 : decode cX6_init 231 = .ok (.iconst 1, 1) := by decide +kernel
theorem dX6_init_232 : decode cX6_init 232 = .ok (.sipush 2000, 3) := by decide +kernel
theorem dX6_init_235 : decode cX6_init 235 = .ok (.invokestatic 81, 3) := by decide +kernel
theorem dX6_init_238 : decode cX6_init 238 = .ok (.putfield 95, 3) := by decide +kernel
theorem dX6_init_241 : decode cX6_init 241 = .ok (.aload_n 0, 1) := by decide +kernel
theorem dX6_init_242 : decode cX6_init 242 = .ok (.invokevirtual 98, 3) := by decide +kernel
theorem dX6_init_245 : decode cX6_init 245 = .ok (.return_, 1) := by decide +kernel
theorem dX6_within_0 : decode cX6_within 0 = .ok (.iload_n 0, 1) := by decide +kernel
theorem dX6_within_1 : decode cX6_within 1 = .ok (.iload_n 1, 1) := by decide +kernel
theorem dX6_within_2 : decode cX6_within 2 = .ok (.if_icmp .ge 7, 3) := by decide +kernel
theorem dX6_within_5 : decode cX6_within 5 = .ok (.iload_n 1, 1) := by decide +kernel
theorem dX6_within_6 : decode cX6_within 6 = .ok (.goto 13, 3) := by decide +kernel
theorem dX6_within_9 : decode cX6_within 9 = .ok (.iload_n 0, 1) := by decide +kernel
theorem dX6_within_10 : decode cX6_within 10 = .ok (.iload_n 2, 1) := by decide +kernel
theorem dX6_within_11 : decode cX6_within 11 = .ok (.if_icmp .le 7, 3) := by decide +kernel
theorem dX6_within_14 : decode cX6_within 14 = .ok (.iload_n 2, 1) := by decide +kernel
theorem dX6_within_15 : decode cX6_within 15 = .ok (.goto 4, 3) := by decide +kernel
theorem dX6_within_18 : decode cX6_within 18 = .ok (.iload_n 0, 1) := by decide +kernel
theorem dX6_within_19 : decode cX6_within 19 = .ok (.ireturn, 1) := by decide +kernel
theorem dX6_begin_0 : decode cX6_begin 0 = .ok (.iconst 0, 1) := by decide +kernel
theorem dX6_begin_1 : decode cX6_begin 1 = .ok (.istore_n 1, 1) := by decide +kernel
theorem dX6_begin_2 : decode cX6_begin 2 = .ok (.iload_n 1, 1) := by decide +kernel
theorem dX6_begin_3 : decode cX6_begin 3 = .ok (.sipush 2048, 3) := by decide +kernel
theorem dX6_begin_6 : decode cX6_begin 6 = .ok (.if_icmp .ge 23, 3) := by decide +kernel
theorem dX6_begin_9 : decode cX6_begin 9 = .ok (.aload_n 0, 1) := by decide +kernel
theorem dX6_begin_10 : decode cX6_begin 10 = .ok (.getfield 13, 3) := by decide +kernel
theorem dX6_begin_13 : decode cX6_begin 13 = .ok (.iload_n 1, 1) := by decide +kernel
theorem dX6_begin_14 : decode cX6_begin 14 = .ok (.iconst (-1), 1) := by decide +kernel
theorem dX6_begin_15 : decode cX6_begin 15 = .ok (.iastore, 1) := by decide +kernel
theorem dX6_begin_16 : decode cX6_begin 16 = .ok (.aload_n 0, 1) := by decide +kernel
theorem dX6_begin_17 : decode cX6_begin 17 = .ok (.getfield 7, 3) := by decide +kernel
theorem dX6_begin_20 : decode cX6_begin 20 = .ok (.iload_n 1, 1) := by decide +kernel
theorem dX6_begin_21 : decode cX6_begin 21 = .ok (.iconst 0, 1) := by decide +kernel
theorem dX6_begin_22 : decode cX6_begin 22 = .ok (.iastore, 1) := by decide +kernel
theorem dX6_begin_23 : decode cX6_begin 23 = .ok (.iinc 1 1, 3) := by decide +kernel
theorem dX6_begin_26 : decode cX6_begin 26 = .ok (.goto (-24), 3) := by decide +kernel
theorem dX6_begin_29 : decode cX6_begin 29 = .ok (.aload_n 0, 1) := by decide +kernel
theorem dX6_begin_30 : decode cX6_begin 30 = .ok (.getfield 13, 3) := by decide +kernel
theorem dX6_begin_33 : decode cX6_begin 33 = .ok (.iconst 0, 1) := by decide +kernel
theorem dX6_begin_34 : decode cX6_begin 34 = .ok (.aload_n 0, 1) := by decide +kernel
theorem dX6_begin_35 : decode cX6_begin 35 = .ok (.getfield 85, 3) := by decide +kernel
theorem dX6_begin_38 : decode cX6_begin 38 = .ok (.iastore, 1) := by decide +kernel
theorem dX6_begin_39 : decode cX6_begin 39 = .ok (.iconst 0, 1) := by decide +kernel
theorem dX6_begin_40 : decode cX6_begin 40 = .ok (.istore_n 1, 1) := by decide +kernel
theorem dX6_begin_41 : decode cX6_begin 41 = .ok (.iload_n 1, 1) := by decide +kernel
theorem dX6_begin_42 : decode cX6_begin 42 = .ok (.bipush 24, 2) := by decide +kernel
theorem dX6_begin_44 : decode cX6_begin 44 = .ok (.if_icmp .ge 30, 3) := by decide +kernel
theorem dX6_begin_47 : decode cX6_begin 47 = .ok (.aload_n 0, 1) := by decide +kernel
theorem dX6_begin_48 : decode cX6_begin 48 = .ok (.getfield 16, 3) := by decide +kernel
theorem dX6_begin_51 : decode cX6_begin 51 = .ok (.iload_n 1, 1) := by decide +kernel
theorem dX6_begin_52 : decode cX6_begin 52 = .ok (.iconst 0, 1) := by decide +kernel
theorem dX6_begin_53 : decode cX6_begin 53 = .ok (.bastore, 1) := by decide +kernel
theorem dX6_begin_54 : decode cX6_begin 54 = .ok (.aload_n 0, 1) := by decide +kernel
theorem dX6_begin_55 : decode cX6_begin 55 = .ok (.getfield 32, 3) := by decide +kernel
theorem dX6_begin_58 : decode cX6_begin 58 = .ok (.iload_n 1, 1) := by decide +kernel
theorem dX6_begin_59 : decode cX6_begin 59 = .ok (.iconst 0, 1) := by decide +kernel
theorem dX6_begin_60 : decode cX6_begin 60 = .ok (.bastore, 1) := by decide +kernel
theorem dX6_begin_61 : decode cX6_begin 61 = .ok (.aload_n 0, 1) := by decide +kernel
theorem dX6_begin_62 : decode cX6_begin 62 = .ok (.getfield 29, 3) := by decide +kernel
theorem dX6_begin_65 : decode cX6_begin 65 = .ok (.iload_n 1, 1) := by decide +kernel
theorem dX6_begin_66 : decode cX6_begin 66 = .ok (.iconst 0, 1) := by decide +kernel
theorem dX6_begin_67 : decode cX6_begin 67 = .ok (.iastore, 1) := by decide +kernel
theorem dX6_begin_68 : decode cX6_begin 68 = .ok (.iinc 1 1, 3) := by decide +kernel
theorem dX6_begin_71 : decode cX6_begin 71 = .ok (.goto (-30), 3) := by decide +kernel
theorem dX6_begin_74 : decode cX6_begin 74 = .ok (.iconst 0, 1) := by decide +kernel
theorem dX6_begin_75 : decode cX6_begin 75 = .ok (.istore_n 1, 1) := by decide +kernel
theorem dX6_begin_76 : decode cX6_begin 76 = .ok (.iload_n 1, 1) := by decide +kernel
theorem dX6_begin_77 : decode cX6_begin 77 = .ok (.bipush 12, 2) := by decide +kernel
theorem dX6_begin_79 : decode cX6_begin 79 = .ok (.if_icmp .ge 16, 3) := by decide +kernel
theorem dX6_begin_82 : decode cX6_begin 82 = .ok (.aload_n 0, 1) := by decide +kernel
theorem dX6_begin_83 : decode cX6_begin 83 = .ok (.getfield 35, 3) := by decide +kernel
theorem dX6_begin_86 : decode cX6_begin 86 = .ok (.iload_n 1, 1) := by decide +kernel
theorem dX6_begin_87 : decode cX6_begin 87 = .ok (.iconst (-1), 1) := by decide +kernel
theorem dX6_begin_88 : decode cX6_begin 88 = .ok (.iastore, 1) := by decide +kernel
theorem dX6_begin_89 : decode cX6_begin 89 = .ok (.iinc 1 1, 3) := by decide +kernel
theorem dX6_begin_92 : decode cX6_begin 92 = .ok (.goto (-16), 3) := by decide +kernel
theorem dX6_begin_95 : decode cX6_begin 95 = .ok (.aload_n 0, 1) := by decide +kernel
theorem dX6_begin_96 : decode cX6_begin 96 = .ok (.iconst 0, 1) := by decide +kernel
theorem dX6_begin_97 : decode cX6_begin 97 = .ok (.putfield 101, 3) := by decide +kernel
theorem dX6_begin_100 : decode cX6_begin 100 = .ok (.aload_n 0, 1) := by decide +kernel
theorem dX6_begin_101 : decode cX6_begin 101 = .ok (.iconst 0, 1) := by decide +kernel
theorem dX6_begin_102 : decode cX6_begin 102 = .ok (.putfield 104, 3) := by decide +kernel
theorem dX6_begin_105 : decode cX6_begin 105 = .ok (.return_, 1) := by decide +kernel
theorem dX6_init__0 : decode cX6_init_ 0 = .ok (.aload_n 0, 1) := by decide +kernel
theorem dX6_init__1 : decode cX6_init_ 1 = .ok (.invokevirtual 107, 3) := by decide +kernel
theorem dX6_init__4 : decode cX6_init_ 4 = .ok (.aload_n 0, 1) := by decide +kernel
theorem dX6_init__5 : decode cX6_init_ 5 = .ok (.invokevirtual 111, 3) := by decide +kernel
theorem dX6_init__8 : decode cX6_init_ 8 = .ok (.iadd, 1) := by decide +kernel
theorem dX6_init__9 : decode cX6_init_ 9 = .ok (.istore_n 1, 1) := by decide +kernel
theorem dX6_init__10 : decode cX6_init_ 10 = .ok (.aload_n 0, 1) := by decide +kernel
theorem dX6_init__11 : decode cX6_init_ 11 = .ok (.invokevirtual 98, 3) := by decide +kernel
theorem dX6_init__14 : decode cX6_init_ 14 = .ok (.iload_n 1, 1) := by decide +kernel
theorem dX6_init__15 : decode cX6_init_ 15 = .ok (.ireturn, 1) := by decide +kernel
theorem dX6_handlesInUse_0 : decode cX6_handlesInUse 0 = .ok (.iconst 0, 1) := by decide +kernel
theorem dX6_handlesInUse_1 : decode cX6_handlesInUse 1 = .ok (.istore_n 1, 1) := by decide +kernel
theorem dX6_handlesInUse_2 : decode cX6_handlesInUse 2 = .ok (.iconst 0, 1) := by decide +kernel
theorem dX6_handlesInUse_3 : decode cX6_handlesInUse 3 = .ok (.istore_n 2, 1) := by decide +kernel
theorem dX6_handlesInUse_4 : decode cX6_handlesInUse 4 = .ok (.iload_n 2, 1) := by decide +kernel
theorem dX6_handlesInUse_5 : decode cX6_handlesInUse 5 = .ok (.bipush 24, 2) := by decide +kernel
theorem dX6_handlesInUse_7 : decode cX6_handlesInUse 7 = .ok (.if_icmp .ge 26, 3) := by decide +kernel
theorem dX6_handlesInUse_10 : decode cX6_handlesInUse 10 = .ok (.iload_n 1, 1) := by decide +kernel
theorem dX6_handlesInUse_11 : decode cX6_handlesInUse 11 = .ok (.aload_n 0, 1) := by decide +kernel
theorem dX6_handlesInUse_12 : decode cX6_handlesInUse 12 = .ok (.getfield 16, 3) := by decide +kernel
theorem dX6_handlesInUse_15 : decode cX6_handlesInUse 15 = .ok (.iload_n 2, 1) := by decide +kernel
theorem dX6_handlesInUse_16 : decode cX6_handlesInUse 16 = .ok (.baload, 1) := by decide +kernel
theorem dX6_handlesInUse_17 : decode cX6_handlesInUse 17 = .ok (.ifCond .eq 7, 3) := by decide +kernel
theorem dX6_handlesInUse_20 : decode cX6_handlesInUse 20 = .ok (.iconst 1, 1) := by decide +kernel
theorem dX6_handlesInUse_21 : decode cX6_handlesInUse 21 = .ok (.goto 4, 3) := by decide +kernel
theorem dX6_handlesInUse_24 : decode cX6_handlesInUse 24 = .ok (.iconst 0, 1) := by decide +kernel
theorem dX6_handlesInUse_25 : decode cX6_handlesInUse 25 = .ok (.iadd, 1) := by decide +kernel
theorem dX6_handlesInUse_26 : decode cX6_handlesInUse 26 = .ok (.istore_n 1, 1) := by decide +kernel
theorem dX6_handlesInUse_27 : decode cX6_handlesInUse 27 = .ok (.iinc 2 1, 3) := by decide +kernel
theorem dX6_handlesInUse_30 : decode cX6_handlesInUse 30 = .ok (.goto (-26), 3) := by decide +kernel
theorem dX6_handlesInUse_33 : decode cX6_handlesInUse 33 = .ok (.iload_n 1, 1) := by decide +kernel
theorem dX6_handlesInUse_34 : decode cX6_handlesInUse 34 = .ok (.ireturn, 1) := by decide +kernel
theorem dX6_jobsThere_0 : decode cX6_jobsThere 0 = .ok (.iconst 0, 1) := by decide +kernel
theorem dX6_jobsThere_1 : decode cX6_jobsThere 1 = .ok (.istore_n 1, 1) := by decide +kernel
theorem dX6_jobsThere_2 : decode cX6_jobsThere 2 = .ok (.iconst 0, 1) := by decide +kernel
theorem dX6_jobsThere_3 : decode cX6_jobsThere 3 = .ok (.istore_n 2, 1) := by decide +kernel
theorem dX6_jobsThere_4 : decode cX6_jobsThere 4 = .ok (.iload_n 2, 1) := by decide +kernel
theorem dX6_jobsThere_5 : decode cX6_jobsThere 5 = .ok (.bipush 12, 2) := by decide +kernel
theorem dX6_jobsThere_7 : decode cX6_jobsThere 7 = .ok (.if_icmp .ge 26, 3) := by decide +kernel
theorem dX6_jobsThere_10 : decode cX6_jobsThere 10 = .ok (.iload_n 1, 1) := by decide +kernel
theorem dX6_jobsThere_11 : decode cX6_jobsThere 11 = .ok (.aload_n 0, 1) := by decide +kernel
theorem dX6_jobsThere_12 : decode cX6_jobsThere 12 = .ok (.getfield 35, 3) := by decide +kernel
theorem dX6_jobsThere_15 : decode cX6_jobsThere 15 = .ok (.iload_n 2, 1) := by decide +kernel
theorem dX6_jobsThere_16 : decode cX6_jobsThere 16 = .ok (.iaload, 1) := by decide +kernel
theorem dX6_jobsThere_17 : decode cX6_jobsThere 17 = .ok (.ifCond .lt 7, 3) := by decide +kernel
theorem dX6_jobsThere_20 : decode cX6_jobsThere 20 = .ok (.iconst 1, 1) := by decide +kernel
theorem dX6_jobsThere_21 : decode cX6_jobsThere 21 = .ok (.goto 4, 3) := by decide +kernel
theorem dX6_jobsThere_24 : decode cX6_jobsThere 24 = .ok (.iconst 0, 1) := by decide +kernel
theorem dX6_jobsThere_25 : decode cX6_jobsThere 25 = .ok (.iadd, 1) := by decide +kernel
theorem dX6_jobsThere_26 : decode cX6_jobsThere 26 = .ok (.istore_n 1, 1) := by decide +kernel
theorem dX6_jobsThere_27 : decode cX6_jobsThere 27 = .ok (.iinc 2 1, 3) := by decide +kernel
theorem dX6_jobsThere_30 : decode cX6_jobsThere 30 = .ok (.goto (-26), 3) := by decide +kernel
theorem dX6_jobsThere_33 : decode cX6_jobsThere 33 = .ok (.iload_n 1, 1) := by decide +kernel
theorem dX6_jobsThere_34 : decode cX6_jobsThere 34 = .ok (.ireturn, 1) := by decide +kernel
theorem dX6_pool_0 : decode cX6_pool 0 = .ok (.iconst 1, 1) := by decide +kernel
theorem dX6_pool_1 : decode cX6_pool 1 = .ok (.aload_n 0, 1) := by decide +kernel
theorem dX6_pool_2 : decode cX6_pool 2 = .ok (.getfield 85, 3) := by decide +kernel
theorem dX6_pool_5 : decode cX6_pool 5 = .ok (.ishl, 1) := by decide +kernel
theorem dX6_pool_6 : decode cX6_pool 6 = .ok (.ireturn, 1) := by decide +kernel
theorem dX6_orderFor_0 : decode cX6_orderFor 0 = .ok (.iconst 0, 1) := by decide +kernel
theorem dX6_orderFor_1 : decode cX6_orderFor 1 = .ok (.istore_n 1, 1) := by decide +kernel
theorem dX6_orderFor_2 : decode cX6_orderFor 2 = .ok (.iconst 1, 1) := by decide +kernel
theorem dX6_orderFor_3 : decode cX6_orderFor 3 = .ok (.iload_n 1, 1) := by decide +kernel
theorem dX6_orderFor_4 : decode cX6_orderFor 4 = .ok (.ishl, 1) := by decide +kernel
theorem dX6_orderFor_5 : decode cX6_orderFor 5 = .ok (.iload_n 0, 1) := by decide +kernel
theorem dX6_orderFor_6 : decode cX6_orderFor 6 = .ok (.if_icmp .ge 9, 3) := by decide +kernel
theorem dX6_orderFor_9 : decode cX6_orderFor 9 = .ok (.iinc 1 1, 3) := by decide +kernel
theorem dX6_orderFor_12 : decode cX6_orderFor 12 = .ok (.goto (-10), 3) := by decide +kernel
theorem dX6_orderFor_15 : decode cX6_orderFor 15 = .ok (.iload_n 1, 1) := by decide +kernel
theorem dX6_orderFor_16 : decode cX6_orderFor 16 = .ok (.ireturn, 1) := by decide +kernel
theorem dX6_give_0 : decode cX6_give 0 = .ok (.iconst (-1), 1) := by decide +kernel
theorem dX6_give_1 : decode cX6_give 1 = .ok (.istore_n 2, 1) := by decide +kernel
theorem dX6_give_2 : decode cX6_give 2 = .ok (.iconst 0, 1) := by decide +kernel
theorem dX6_give_3 : decode cX6_give 3 = .ok (.istore_n 3, 1) := by decide +kernel
theorem dX6_give_4 : decode cX6_give 4 = .ok (.iload_n 3, 1) := by decide +kernel
theorem dX6_give_5 : decode cX6_give 5 = .ok (.aload_n 0, 1) := by decide +kernel
theorem dX6_give_6 : decode cX6_give 6 = .ok (.invokevirtual 114, 3) := by decide +kernel
theorem dX6_give_9 : decode cX6_give 9 = .ok (.if_icmp .ge 40, 3) := by decide +kernel
theorem dX6_give_12 : decode cX6_give 12 = .ok (.aload_n 0, 1) := by decide +kernel
theorem dX6_give_13 : decode cX6_give 13 = .ok (.getfield 13, 3) := by decide +kernel
theorem dX6_give_16 : decode cX6_give 16 = .ok (.iload_n 3, 1) := by decide +kernel
theorem dX6_give_17 : decode cX6_give 17 = .ok (.iaload, 1) := by decide +kernel
theorem dX6_give_18 : decode cX6_give 18 = .ok (.iload_n 1, 1) := by decide +kernel
theorem dX6_give_19 : decode cX6_give 19 = .ok (.if_icmp .lt 24, 3) := by decide +kernel
theorem dX6_give_22 : decode cX6_give 22 = .ok (.iload_n 2, 1) := by decide +kernel
theorem dX6_give_23 : decode cX6_give 23 = .ok (.ifCond .lt 18, 3) := by decide +kernel
theorem dX6_give_26 : decode cX6_give 26 = .ok (.aload_n 0, 1) := by decide +kernel
theorem dX6_give_27 : decode cX6_give 27 = .ok (.getfield 13, 3) := by decide +kernel
theorem dX6_give_30 : decode cX6_give 30 = .ok (.iload_n 3, 1) := by decide +kernel
theorem dX6_give_31 : decode cX6_give 31 = .ok (.iaload, 1) := by decide +kernel
theorem dX6_give_32 : decode cX6_give 32 = .ok (.aload_n 0, 1) := by decide +kernel
theorem dX6_give_33 : decode cX6_give 33 = .ok (.getfield 13, 3) := by decide +kernel
theorem dX6_give_36 : decode cX6_give 36 = .ok (.iload_n 2, 1) := by decide +kernel
theorem dX6_give_37 : decode cX6_give 37 = .ok (.iaload, 1) := by decide +kernel
theorem dX6_give_38 : decode cX6_give 38 = .ok (.if_icmp .ge 5, 3) := by decide +kernel
theorem dX6_give_41 : decode cX6_give 41 = .ok (.iload_n 3, 1) := by decide +kernel
theorem dX6_give_42 : decode cX6_give 42 = .ok (.istore_n 2, 1) := by decide +kernel
theorem dX6_give_43 : decode cX6_give 43 = .ok (.iinc 3 1, 3) := by decide +kernel
theorem dX6_give_46 : decode cX6_give 46 = .ok (.goto (-42), 3) := by decide +kernel
theorem dX6_give_49 : decode cX6_give 49 = .ok (.iload_n 2, 1) := by decide +kernel
theorem dX6_give_50 : decode cX6_give 50 = .ok (.ifCond .ge 5, 3) := by decide +kernel
theorem dX6_give_53 : decode cX6_give 53 = .ok (.iconst (-1), 1) := by decide +kernel
theorem dX6_give_54 : decode cX6_give 54 = .ok (.ireturn, 1) := by decide +kernel
theorem dX6_give_55 : decode cX6_give 55 = .ok (.aload_n 0, 1) := by decide +kernel
theorem dX6_give_56 : decode cX6_give 56 = .ok (.getfield 13, 3) := by decide +kernel
theorem dX6_give_59 : decode cX6_give 59 = .ok (.iload_n 2, 1) := by decide +kernel
theorem dX6_give_60 : decode cX6_give 60 = .ok (.iaload, 1) := by decide +kernel
theorem dX6_give_61 : decode cX6_give 61 = .ok (.istore_n 3, 1) := by decide +kernel
theorem dX6_give_62 : decode cX6_give 62 = .ok (.aload_n 0, 1) := by decide +kernel
theorem dX6_give_63 : decode cX6_give 63 = .ok (.getfield 13, 3) := by decide +kernel
theorem dX6_give_66 : decode cX6_give 66 = .ok (.iload_n 2, 1) := by decide +kernel
theorem dX6_give_67 : decode cX6_give 67 = .ok (.iconst (-1), 1) := by decide +kernel
theorem dX6_give_68 : decode cX6_give 68 = .ok (.iastore, 1) := by decide +kernel
theorem dX6_give_69 : decode cX6_give 69 = .ok (.iload_n 3, 1) := by decide +kernel
theorem dX6_give_70 : decode cX6_give 70 = .ok (.iload_n 1, 1) := by decide +kernel
theorem dX6_give_71 : decode cX6_give 71 = .ok (.if_icmp .le 20, 3) := by decide +kernel
theorem dX6_give_74 : decode cX6_give 74 = .ok (.iinc 3 (-1), 3) := by decide +kernel
theorem dX6_give_77 : decode cX6_give 77 = .ok (.aload_n 0, 1) := by decide +kernel
theorem dX6_give_78 : decode cX6_give 78 = .ok (.getfield 13, 3) := by decide +kernel
theorem dX6_give_81 : decode cX6_give 81 = .ok (.iload_n 2, 1) := by decide +kernel
theorem dX6_give_82 : decode cX6_give 82 = .ok (.iconst 1, 1) := by decide +kernel
theorem dX6_give_83 : decode cX6_give 83 = .ok (.iload_n 3, 1) := by decide +kernel
theorem dX6_give_84 : decode cX6_give 84 = .ok (.ishl, 1) := by decide +kernel
theorem dX6_give_85 : decode cX6_give 85 = .ok (.iadd, 1) := by decide +kernel
theorem dX6_give_86 : decode cX6_give 86 = .ok (.iload_n 3, 1) := by decide +kernel
theorem dX6_give_87 : decode cX6_give 87 = .ok (.iastore, 1) := by decide +kernel
theorem dX6_give_88 : decode cX6_give 88 = .ok (.goto (-19), 3) := by decide +kernel
theorem dX6_give_91 : decode cX6_give 91 = .ok (.iload_n 2, 1) := by decide +kernel
theorem dX6_give_92 : decode cX6_give 92 = .ok (.ireturn, 1) := by decide +kernel
theorem dX6_free_0 : decode cX6_free 0 = .ok (.iload_n 1, 1) := by decide +kernel
theorem dX6_free_1 : decode cX6_free 1 = .ok (.istore_n 3, 1) := by decide +kernel
theorem dX6_free_2 : decode cX6_free 2 = .ok (.iload_n 2, 1) := by decide +kernel
theorem dX6_free_3 : decode cX6_free 3 = .ok (.istore 4, 2) := by decide +kernel
theorem dX6_free_5 : decode cX6_free 5 = .ok (.iconst 1, 1) := by decide +kernel
theorem dX6_free_6 : decode cX6_free 6 = .ok (.istore 5, 2) := by decide +kernel
theorem dX6_free_8 : decode cX6_free 8 = .ok (.iload 5, 2) := by decide +kernel
theorem dX6_free_10 : decode cX6_free 10 = .ok (.ifCond .eq 71, 3) := by decide +kernel
theorem dX6_free_13 : decode cX6_free 13 = .ok (.iload 4, 2) := by decide +kernel
theorem dX6_free_15 : decode cX6_free 15 = .ok (.aload_n 0, 1) := by decide +kernel
theorem dX6_free_16 : decode cX6_free 16 = .ok (.getfield 85, 3) := by decide +kernel
theorem dX6_free_19 : decode cX6_free 19 = .ok (.if_icmp .ge 62, 3) := by decide +kernel
theorem dX6_free_22 : decode cX6_free 22 = .ok (.iload_n 3, 1) := by decide +kernel
theorem dX6_free_23 : decode cX6_free 23 = .ok (.iconst 1, 1) := by decide +kernel
theorem dX6_free_24 : decode cX6_free 24 = .ok (.iload 4, 2) := by decide +kernel
theorem dX6_free_26 : decode cX6_free 26 = .ok (.ishl, 1) := by decide +kernel
theorem dX6_free_27 : decode cX6_free 27 = .ok (.ixor, 1) := by decide +kernel
theorem dX6_free_28 : decode cX6_free 28 = .ok (.istore 6, 2) := by decide +kernel
theorem dX6_free_30 : decode cX6_free 30 = .ok (.aload_n 0, 1) := by decide +kernel
theorem dX6_free_31 : decode cX6_free 31 = .ok (.getfield 13, 3) := by decide +kernel
theorem dX6_free_34 : decode cX6_free 34 = .ok (.iload 6, 2) := by decide +kernel
theorem dX6_free_36 : decode cX6_free 36 = .ok (.iaload, 1) := by decide +kernel
theorem dX6_free_37 : decode cX6_free 37 = .ok (.iload 4, 2) := by decide +kernel
theorem dX6_free_39 : decode cX6_free 39 = .ok (.if_icmp .ne 7, 3) := by decide +kernel
theorem dX6_free_42 : decode cX6_free 42 = .ok (.iconst 1, 1) := by decide +kernel
theorem dX6_free_43 : decode cX6_free 43 = .ok (.goto 4, 3) := by decide +kernel
theorem dX6_free_46 : decode cX6_free 46 = .ok (.iconst 0, 1) := by decide +kernel
theorem dX6_free_47 : decode cX6_free 47 = .ok (.istore 5, 2) := by decide +kernel
theorem dX6_free_49 : decode cX6_free 49 = .ok (.iload 5, 2) := by decide +kernel
theorem dX6_free_51 : decode cX6_free 51 = .ok (.ifCond .eq 27, 3) := by decide +kernel
theorem dX6_free_54 : decode cX6_free 54 = .ok (.aload_n 0, 1) := by decide +kernel
theorem dX6_free_55 : decode cX6_free 55 = .ok (.getfield 13, 3) := by decide +kernel
theorem dX6_free_58 : decode cX6_free 58 = .ok (.iload 6, 2) := by decide +kernel
theorem dX6_free_60 : decode cX6_free 60 = .ok (.iconst (-1), 1) := by decide +kernel
theorem dX6_free_61 : decode cX6_free 61 = .ok (.iastore, 1) := by decide +kernel
theorem dX6_free_62 : decode cX6_free 62 = .ok (.iload_n 3, 1) := by decide +kernel
theorem dX6_free_63 : decode cX6_free 63 = .ok (.iload 6, 2) := by decide +kernel
theorem dX6_free_65 : decode cX6_free 65 = .ok (.if_icmp .ge 7, 3) := by decide +kernel
theorem dX6_free_68 : decode cX6_free 68 = .ok (.iload_n 3, 1) := by decide +kernel
theorem dX6_free_69 : decode cX6_free 69 = .ok (.goto 5, 3) := by decide +kernel
theorem dX6_free_72 : decode cX6_free 72 = .ok (.iload 6, 2) := by decide +kernel
theorem dX6_free_74 : decode cX6_free 74 = .ok (.istore_n 3, 1) := by decide +kernel
theorem dX6_free_75 : decode cX6_free 75 = .ok (.iinc 4 1, 3) := by decide +kernel
theorem dX6_free_78 : decode cX6_free 78 = .ok (.goto (-70), 3) := by decide +kernel
theorem dX6_free_81 : decode cX6_free 81 = .ok (.aload_n 0, 1) := by decide +kernel
theorem dX6_free_82 : decode cX6_free 82 = .ok (.getfield 13, 3) := by decide +kernel
theorem dX6_free_85 : decode cX6_free 85 = .ok (.iload_n 3, 1) := by decide +kernel
theorem dX6_free_86 : decode cX6_free 86 = .ok (.iload 4, 2) := by decide +kernel
theorem dX6_free_88 : decode cX6_free 88 = .ok (.iastore, 1) := by decide +kernel
theorem dX6_free_89 : decode cX6_free 89 = .ok (.return_, 1) := by decide +kernel
theorem dX6_freeHandle_0 : decode cX6_freeHandle 0 = .ok (.iconst 0, 1) := by decide +kernel
theorem dX6_freeHandle_1 : decode cX6_freeHandle 1 = .ok (.istore_n 1, 1) := by decide +kernel
theorem dX6_freeHandle_2 : decode cX6_freeHandle 2 = .ok (.iload_n 1, 1) := by decide +kernel
theorem dX6_freeHandle_3 : decode cX6_freeHandle 3 = .ok (.aload_n 0, 1) := by decide +kernel
theorem dX6_freeHandle_4 : decode cX6_freeHandle 4 = .ok (.getfield 92, 3) := by decide +kernel
theorem dX6_freeHandle_7 : decode cX6_freeHandle 7 = .ok (.if_icmp .ge 20, 3) := by decide +kernel
theorem dX6_freeHandle_10 : decode cX6_freeHandle 10 = .ok (.aload_n 0, 1) := by decide +kernel
theorem dX6_freeHandle_11 : decode cX6_freeHandle 11 = .ok (.getfield 16, 3) := by decide +kernel
theorem dX6_freeHandle_14 : decode cX6_freeHandle 14 = .ok (.iload_n 1, 1) := by decide +kernel
theorem dX6_freeHandle_15 : decode cX6_freeHandle 15 = .ok (.baload, 1) := by decide +kernel
theorem dX6_freeHandle_16 : decode cX6_freeHandle 16 = .ok (.ifCond .ne 5, 3) := by decide +kernel
theorem dX6_freeHandle_19 : decode cX6_freeHandle 19 = .ok (.iload_n 1, 1) := by decide +kernel
theorem dX6_freeHandle_20 : decode cX6_freeHandle 20 = .ok (.ireturn, 1) := by decide +kernel
theorem dX6_freeHandle_21 : decode cX6_freeHandle 21 = .ok (.iinc 1 1, 3) := by decide +kernel
theorem dX6_freeHandle_24 : decode cX6_freeHandle 24 = .ok (.goto (-22), 3) := by decide +kernel
theorem dX6_freeHandle_27 : decode cX6_freeHandle 27 = .ok (.iconst (-1), 1) := by decide +kernel
theorem dX6_freeHandle_28 : decode cX6_freeHandle 28 = .ok (.ireturn, 1) := by decide +kernel
theorem dX6_make_0 : decode cX6_make 0 = .ok (.aload_n 0, 1) := by decide +kernel
theorem dX6_make_1 : decode cX6_make 1 = .ok (.getfield 16, 3) := by decide +kernel
theorem dX6_make_4 : decode cX6_make 4 = .ok (.iload_n 1, 1) := by decide +kernel
theorem dX6_make_5 : decode cX6_make 5 = .ok (.iconst 1, 1) := by decide +kernel
theorem dX6_make_6 : decode cX6_make 6 = .ok (.bastore, 1) := by decide +kernel
theorem dX6_make_7 : decode cX6_make 7 = .ok (.aload_n 0, 1) := by decide +kernel
theorem dX6_make_8 : decode cX6_make 8 = .ok (.getfield 32, 3) := by decide +kernel
theorem dX6_make_11 : decode cX6_make 11 = .ok (.iload_n 1, 1) := by decide +kernel
theorem dX6_make_12 : decode cX6_make 12 = .ok (.iconst 0, 1) := by decide +kernel
theorem dX6_make_13 : decode cX6_make 13 = .ok (.bastore, 1) := by decide +kernel
theorem dX6_make_14 : decode cX6_make 14 = .ok (.aload_n 0, 1) := by decide +kernel
theorem dX6_make_15 : decode cX6_make 15 = .ok (.getfield 20, 3) := by decide +kernel
theorem dX6_make_18 : decode cX6_make 18 = .ok (.iload_n 1, 1) := by decide +kernel
theorem dX6_make_19 : decode cX6_make 19 = .ok (.iload_n 2, 1) := by decide +kernel
theorem dX6_make_20 : decode cX6_make 20 = .ok (.iastore, 1) := by decide +kernel
theorem dX6_make_21 : decode cX6_make 21 = .ok (.aload_n 0, 1) := by decide +kernel
theorem dX6_make_22 : decode cX6_make 22 = .ok (.getfield 23, 3) := by decide +kernel
theorem dX6_make_25 : decode cX6_make 25 = .ok (.iload_n 1, 1) := by decide +kernel
theorem dX6_make_26 : decode cX6_make 26 = .ok (.iload_n 3, 1) := by decide +kernel
theorem dX6_make_27 : decode cX6_make 27 = .ok (.iastore, 1) := by decide +kernel
theorem dX6_make_28 : decode cX6_make 28 = .ok (.aload_n 0, 1) := by decide +kernel
theorem dX6_make_29 : decode cX6_make 29 = .ok (.getfield 26, 3) := by decide +kernel
theorem dX6_make_32 : decode cX6_make 32 = .ok (.iload_n 1, 1) := by decide +kernel
theorem dX6_make_33 : decode cX6_make 33 = .ok (.iload_n 2, 1) := by decide +kernel
theorem dX6_make_34 : decode cX6_make 34 = .ok (.invokestatic 117, 3) := by decide +kernel
theorem dX6_make_37 : decode cX6_make 37 = .ok (.iastore, 1) := by decide +kernel
theorem dX6_make_38 : decode cX6_make 38 = .ok (.aload_n 0, 1) := by decide +kernel
theorem dX6_make_39 : decode cX6_make 39 = .ok (.getfield 29, 3) := by decide +kernel
theorem dX6_make_42 : decode cX6_make 42 = .ok (.iload_n 1, 1) := by decide +kernel
theorem dX6_make_43 : decode cX6_make 43 = .ok (.iconst 0, 1) := by decide +kernel
theorem dX6_make_44 : decode cX6_make 44 = .ok (.iastore, 1) := by decide +kernel
theorem dX6_make_45 : decode cX6_make 45 = .ok (.iconst 0, 1) := by decide +kernel
theorem dX6_make_46 : decode cX6_make 46 = .ok (.istore 4, 2) := by decide +kernel
theorem dX6_make_48 : decode cX6_make 48 = .ok (.iload 4, 2) := by decide +kernel
theorem dX6_make_50 : decode cX6_make 50 = .ok (.iload_n 2, 1) := by decide +kernel
theorem dX6_make_51 : decode cX6_make 51 = .ok (.if_icmp .ge 19, 3) := by decide +kernel
theorem dX6_make_54 : decode cX6_make 54 = .ok (.aload_n 0, 1) := by decide +kernel
theorem dX6_make_55 : decode cX6_make 55 = .ok (.getfield 7, 3) := by decide +kernel
theorem dX6_make_58 : decode cX6_make 58 = .ok (.iload_n 3, 1) := by decide +kernel
theorem dX6_make_59 : decode cX6_make 59 = .ok (.iload 4, 2) := by decide +kernel
theorem dX6_make_61 : decode cX6_make 61 = .ok (.iadd, 1) := by decide +kernel
theorem dX6_make_62 : decode cX6_make 62 = .ok (.iconst 0, 1) := by decide +kernel
theorem dX6_make_63 : decode cX6_make 63 = .ok (.iastore, 1) := by decide +kernel
theorem dX6_make_64 : decode cX6_make 64 = .ok (.iinc 4 1, 3) := by decide +kernel
theorem dX6_make_67 : decode cX6_make 67 = .ok (.goto (-19), 3) := by decide +kernel
theorem dX6_make_70 : decode cX6_make 70 = .ok (.return_, 1) := by decide +kernel
theorem dX6_newNumber_0 : decode cX6_newNumber 0 = .ok (.iload_n 1, 1) := by decide +kernel
theorem dX6_newNumber_1 : decode cX6_newNumber 1 = .ok (.iconst 1, 1) := by decide +kernel
theorem dX6_newNumber_2 : decode cX6_newNumber 2 = .ok (.if_icmp .lt 11, 3) := by decide +kernel
theorem dX6_newNumber_5 : decode cX6_newNumber 5 = .ok (.iload_n 1, 1) := by decide +kernel
theorem dX6_newNumber_6 : decode cX6_newNumber 6 = .ok (.aload_n 0, 1) := by decide +kernel
theorem dX6_newNumber_7 : decode cX6_newNumber 7 = .ok (.invokevirtual 114, 3) := by decide +kernel
theorem dX6_newNumber_10 : decode cX6_newNumber 10 = .ok (.if_icmp .le 6, 3) := by decide +kernel
theorem dX6_newNumber_13 : decode cX6_newNumber 13 = .ok (.bipush (-2), 2) := by decide +kernel
theorem dX6_newNumber_15 : decode cX6_newNumber 15 = .ok (.ireturn, 1) := by decide +kernel
theorem dX6_newNumber_16 : decode cX6_newNumber 16 = .ok (.aload_n 0, 1) := by decide +kernel
theorem dX6_newNumber_17 : decode cX6_newNumber 17 = .ok (.invokevirtual 121, 3) := by decide +kernel
theorem dX6_newNumber_20 : decode cX6_newNumber 20 = .ok (.istore_n 2, 1) := by decide +kernel
theorem dX6_newNumber_21 : decode cX6_newNumber 21 = .ok (.iload_n 2, 1) := by decide +kernel
theorem dX6_newNumber_22 : decode cX6_newNumber 22 = .ok (.ifCond .ge 6, 3) := by decide +kernel
theorem dX6_newNumber_25 : decode cX6_newNumber 25 = .ok (.bipush (-3), 2) := by decide +kernel
theorem dX6_newNumber_27 : decode cX6_newNumber 27 = .ok (.ireturn, 1) := by decide +kernel
theorem dX6_newNumber_28 : decode cX6_newNumber 28 = .ok (.aload_n 0, 1) := by decide +kernel
theorem dX6_newNumber_29 : decode cX6_newNumber 29 = .ok (.iload_n 1, 1) := by decide +kernel
theorem dX6_newNumber_30 : decode cX6_newNumber 30 = .ok (.invokestatic 117, 3) := by decide +kernel
theorem dX6_newNumber_33 : decode cX6_newNumber 33 = .ok (.invokevirtual 124, 3) := by decide +kernel
theorem dX6_newNumber_36 : decode cX6_newNumber 36 = .ok (.istore_n 3, 1) := by decide +kernel
theorem dX6_newNumber_37 : decode cX6_newNumber 37 = .ok (.iload_n 3, 1) := by decide +kernel
theorem dX6_newNumber_38 : decode cX6_newNumber 38 = .ok (.ifCond .ge 6, 3) := by decide +kernel
theorem dX6_newNumber_41 : decode cX6_newNumber 41 = .ok (.bipush (-4), 2) := by decide +kernel
theorem dX6_newNumber_43 : decode cX6_newNumber 43 = .ok (.ireturn, 1) := by decide +kernel
theorem dX6_newNumber_44 : decode cX6_newNumber 44 = .ok (.aload_n 0, 1) := by decide +kernel
theorem dX6_newNumber_45 : decode cX6_newNumber 45 = .ok (.iload_n 2, 1) := by decide +kernel
theorem dX6_newNumber_46 : decode cX6_newNumber 46 = .ok (.iload_n 1, 1) := by decide +kernel
theorem dX6_newNumber_47 : decode cX6_newNumber 47 = .ok (.iload_n 3, 1) := by decide +kernel
theorem dX6_newNumber_48 : decode cX6_newNumber 48 = .ok (.invokevirtual 127, 3) := by decide +kernel
theorem dX6_newNumber_51 : decode cX6_newNumber 51 = .ok (.iload_n 2, 1) := by decide +kernel
theorem dX6_newNumber_52 : decode cX6_newNumber 52 = .ok (.ireturn, 1) := by decide +kernel
theorem dX6_isThere_0 : decode cX6_isThere 0 = .ok (.iload_n 1, 1) := by decide +kernel
theorem dX6_isThere_1 : decode cX6_isThere 1 = .ok (.ifCond .lt 24, 3) := by decide +kernel
theorem dX6_isThere_4 : decode cX6_isThere 4 = .ok (.iload_n 1, 1) := by decide +kernel
theorem dX6_isThere_5 : decode cX6_isThere 5 = .ok (.aload_n 0, 1) := by decide +kernel
theorem dX6_isThere_6 : decode cX6_isThere 6 = .ok (.getfield 92, 3) := by decide +kernel
theorem dX6_isThere_9 : decode cX6_isThere 9 = .ok (.if_icmp .ge 16, 3) := by decide +kernel
theorem dX6_isThere_12 : decode cX6_isThere 12 = .ok (.aload_n 0, 1) := by decide +kernel
theorem dX6_isThere_13 : decode cX6_isThere 13 = .ok (.getfield 16, 3) := by decide +kernel
theorem dX6_isThere_16 : decode cX6_isThere 16 = .ok (.iload_n 1, 1) := by decide +kernel
theorem dX6_isThere_17 : decode cX6_isThere 17 = .ok (.baload, 1) := by decide +kernel
theorem dX6_isThere_18 : decode cX6_isThere 18 = .ok (.ifCond .eq 7, 3) := by decide +kernel
theorem dX6_isThere_21 : decode cX6_isThere 21 = .ok (.iconst 1, 1) := by decide +kernel
theorem dX6_isThere_22 : decode cX6_isThere 22 = .ok (.goto 4, 3) := by decide +kernel
theorem dX6_isThere_25 : decode cX6_isThere 25 = .ok (.iconst 0, 1) := by decide +kernel
theorem dX6_isThere_26 : decode cX6_isThere 26 = .ok (.ireturn, 1) := by decide +kernel
theorem dX6_setLimb_0 : decode cX6_setLimb 0 = .ok (.aload_n 0, 1) := by decide +kernel
theorem dX6_setLimb_1 : decode cX6_setLimb 1 = .ok (.iload_n 1, 1) := by decide +kernel
theorem dX6_setLimb_2 : decode cX6_setLimb 2 = .ok (.invokevirtual 131, 3) := by decide +kernel
theorem dX6_setLimb_5 : decode cX6_setLimb 5 = .ok (.ifCond .eq 11, 3) := by decide +kernel
theorem dX6_setLimb_8 : decode cX6_setLimb 8 = .ok (.iload_n 3, 1) := by decide +kernel
theorem dX6_setLimb_9 : decode cX6_setLimb 9 = .ok (.ifCond .lt 7, 3) := by decide +kernel
theorem dX6_setLimb_12 : decode cX6_setLimb 12 = .ok (.iconst 1, 1) := by decide +kernel
theorem dX6_setLimb_13 : decode cX6_setLimb 13 = .ok (.goto 4, 3) := by decide +kernel
theorem dX6_setLimb_16 : decode cX6_setLimb 16 = .ok (.iconst 0, 1) := by decide +kernel
theorem dX6_setLimb_17 : decode cX6_setLimb 17 = .ok (.istore 4, 2) := by decide +kernel
theorem dX6_setLimb_19 : decode cX6_setLimb 19 = .ok (.iload 4, 2) := by decide +kernel
theorem dX6_setLimb_21 : decode cX6_setLimb 21 = .ok (.ifCond .eq 30, 3) := by decide +kernel
theorem dX6_setLimb_24 : decode cX6_setLimb 24 = .ok (.aload_n 0, 1) := by decide +kernel
theorem dX6_setLimb_25 : decode cX6_setLimb 25 = .ok (.getfield 29, 3) := by decide +kernel
theorem dX6_setLimb_28 : decode cX6_setLimb 28 = .ok (.iload_n 1, 1) := by decide +kernel
theorem dX6_setLimb_29 : decode cX6_setLimb 29 = .ok (.iaload, 1) := by decide +kernel
theorem dX6_setLimb_30 : decode cX6_setLimb 30 = .ok (.ifCond .ne 21, 3) := by decide +kernel
theorem dX6_setLimb_33 : decode cX6_setLimb 33 = .ok (.iload_n 2, 1) := by decide +kernel
theorem dX6_setLimb_34 : decode cX6_setLimb 34 = .ok (.ifCond .lt 17, 3) := by decide +kernel
theorem dX6_setLimb_37 : decode cX6_setLimb 37 = .ok (.iload_n 2, 1) := by decide +kernel
theorem dX6_setLimb_38 : decode cX6_setLimb 38 = .ok (.aload_n 0, 1) := by decide +kernel
theorem dX6_setLimb_39 : decode cX6_setLimb 39 = .ok (.getfield 20, 3) := by decide +kernel
theorem dX6_setLimb_42 : decode cX6_setLimb 42 = .ok (.iload_n 1, 1) := by decide +kernel
theorem dX6_setLimb_43 : decode cX6_setLimb 43 = .ok (.iaload, 1) := by decide +kernel
theorem dX6_setLimb_44 : decode cX6_setLimb 44 = .ok (.if_icmp .ge 7, 3) := by decide +kernel
theorem dX6_setLimb_47 : decode cX6_setLimb 47 = .ok (.iconst 1, 1) := by decide +kernel
theorem dX6_setLimb_48 : decode cX6_setLimb 48 = .ok (.goto 4, 3) := by decide +kernel
theorem dX6_setLimb_51 : decode cX6_setLimb 51 = .ok (.iconst 0, 1) := by decide +kernel
theorem dX6_setLimb_52 : decode cX6_setLimb 52 = .ok (.istore 4, 2) := by decide +kernel
theorem dX6_setLimb_54 : decode cX6_setLimb 54 = .ok (.iload 4, 2) := by decide +kernel
theorem dX6_setLimb_56 : decode cX6_setLimb 56 = .ok (.ifCond .eq 17, 3) := by decide +kernel
theorem dX6_setLimb_59 : decode cX6_setLimb 59 = .ok (.aload_n 0, 1) := by decide +kernel
theorem dX6_setLimb_60 : decode cX6_setLimb 60 = .ok (.getfield 7, 3) := by decide +kernel
theorem dX6_setLimb_63 : decode cX6_setLimb 63 = .ok (.aload_n 0, 1) := by decide +kernel
theorem dX6_setLimb_64 : decode cX6_setLimb 64 = .ok (.getfield 23, 3) := by decide +kernel
theorem dX6_setLimb_67 : decode cX6_setLimb 67 = .ok (.iload_n 1, 1) := by decide +kernel
theorem dX6_setLimb_68 : decode cX6_setLimb 68 = .ok (.iaload, 1) := by decide +kernel
theorem dX6_setLimb_69 : decode cX6_setLimb 69 = .ok (.iload_n 2, 1) := by decide +kernel
theorem dX6_setLimb_70 : decode cX6_setLimb 70 = .ok (.iadd, 1) := by decide +kernel
theorem dX6_setLimb_71 : decode cX6_setLimb 71 = .ok (.iload_n 3, 1) := by decide +kernel
theorem dX6_setLimb_72 : decode cX6_setLimb 72 = .ok (.iastore, 1) := by decide +kernel
theorem dX6_setLimb_73 : decode cX6_setLimb 73 = .ok (.iload 4, 2) := by decide +kernel
theorem dX6_setLimb_75 : decode cX6_setLimb 75 = .ok (.ireturn, 1) := by decide +kernel
theorem dX6_getLimb_0 : decode cX6_getLimb 0 = .ok (.aload_n 0, 1) := by decide +kernel
theorem dX6_getLimb_1 : decode cX6_getLimb 1 = .ok (.iload_n 1, 1) := by decide +kernel
theorem dX6_getLimb_2 : decode cX6_getLimb 2 = .ok (.invokevirtual 131, 3) := by decide +kernel
theorem dX6_getLimb_5 : decode cX6_getLimb 5 = .ok (.ifCond .eq 26, 3) := by decide +kernel
theorem dX6_getLimb_8 : decode cX6_getLimb 8 = .ok (.aload_n 0, 1) := by decide +kernel
theorem dX6_getLimb_9 : decode cX6_getLimb 9 = .ok (.getfield 32, 3) := by decide +kernel
theorem dX6_getLimb_12 : decode cX6_getLimb 12 = .ok (.iload_n 1, 1) := by decide +kernel
theorem dX6_getLimb_13 : decode cX6_getLimb 13 = .ok (.baload, 1) := by decide +kernel
theorem dX6_getLimb_14 : decode cX6_getLimb 14 = .ok (.ifCond .ne 17, 3) := by decide +kernel
theorem dX6_getLimb_17 : decode cX6_getLimb 17 = .ok (.iload_n 2, 1) := by decide +kernel
theorem dX6_getLimb_18 : decode cX6_getLimb 18 = .ok (.ifCond .lt 13, 3) := by decide +kernel
theorem dX6_getLimb_21 : decode cX6_getLimb 21 = .ok (.iload_n 2, 1) := by decide +kernel
theorem dX6_getLimb_22 : decode cX6_getLimb 22 = .ok (.aload_n 0, 1) := by decide +kernel
theorem dX6_getLimb_23 : decode cX6_getLimb 23 = .ok (.getfield 20, 3) := by decide +kernel
theorem dX6_getLimb_26 : decode cX6_getLimb 26 = .ok (.iload_n 1, 1) := by decide +kernel
theorem dX6_getLimb_27 : decode cX6_getLimb 27 = .ok (.iaload, 1) := by decide +kernel
theorem dX6_getLimb_28 : decode cX6_getLimb 28 = .ok (.if_icmp .lt 5, 3) := by decide +kernel
theorem dX6_getLimb_31 : decode cX6_getLimb 31 = .ok (.iconst (-1), 1) := by decide +kernel
theorem dX6_getLimb_32 : decode cX6_getLimb 32 = .ok (.ireturn, 1) := by decide +kernel
theorem dX6_getLimb_33 : decode cX6_getLimb 33 = .ok (.aload_n 0, 1) := by decide +kernel
theorem dX6_getLimb_34 : decode cX6_getLimb 34 = .ok (.getfield 7, 3) := by decide +kernel
theorem dX6_getLimb_37 : decode cX6_getLimb 37 = .ok (.aload_n 0, 1) := by decide +kernel
theorem dX6_getLimb_38 : decode cX6_getLimb 38 = .ok (.getfield 23, 3) := by decide +kernel
theorem dX6_getLimb_41 : decode cX6_getLimb 41 = .ok (.iload_n 1, 1) := by decide +kernel
theorem dX6_getLimb_42 : decode cX6_getLimb 42 = .ok (.iaload, 1) := by decide +kernel
theorem dX6_getLimb_43 : decode cX6_getLimb 43 = .ok (.iload_n 2, 1) := by decide +kernel
theorem dX6_getLimb_44 : decode cX6_getLimb 44 = .ok (.iadd, 1) := by decide +kernel
theorem dX6_getLimb_45 : decode cX6_getLimb 45 = .ok (.iaload, 1) := by decide +kernel
theorem dX6_getLimb_46 : decode cX6_getLimb 46 = .ok (.ireturn, 1) := by decide +kernel
theorem dX6_sizeOf_0 : decode cX6_sizeOf 0 = .ok (.aload_n 0, 1) := by decide +kernel
theorem dX6_sizeOf_1 : decode cX6_sizeOf 1 = .ok (.iload_n 1, 1) := by decide +kernel
theorem dX6_sizeOf_2 : decode cX6_sizeOf 2 = .ok (.invokevirtual 131, 3) := by decide +kernel
theorem dX6_sizeOf_5 : decode cX6_sizeOf 5 = .ok (.ifCond .eq 12, 3) := by decide +kernel
theorem dX6_sizeOf_8 : decode cX6_sizeOf 8 = .ok (.aload_n 0, 1) := by decide +kernel
theorem dX6_sizeOf_9 : decode cX6_sizeOf 9 = .ok (.getfield 20, 3) := by decide +kernel
theorem dX6_sizeOf_12 : decode cX6_sizeOf 12 = .ok (.iload_n 1, 1) := by decide +kernel
theorem dX6_sizeOf_13 : decode cX6_sizeOf 13 = .ok (.iaload, 1) := by decide +kernel
theorem dX6_sizeOf_14 : decode cX6_sizeOf 14 = .ok (.goto 4, 3) := by decide +kernel
theorem dX6_sizeOf_17 : decode cX6_sizeOf 17 = .ok (.iconst (-1), 1) := by decide +kernel
theorem dX6_sizeOf_18 : decode cX6_sizeOf 18 = .ok (.ireturn, 1) := by decide +kernel
theorem dX6_go_0 : decode cX6_go 0 = .ok (.aload_n 0, 1) := by decide +kernel
theorem dX6_go_1 : decode cX6_go 1 = .ok (.getfield 16, 3) := by decide +kernel
theorem dX6_go_4 : decode cX6_go 4 = .ok (.iload_n 1, 1) := by decide +kernel
theorem dX6_go_5 : decode cX6_go 5 = .ok (.iconst 0, 1) := by decide +kernel
theorem dX6_go_6 : decode cX6_go 6 = .ok (.bastore, 1) := by decide +kernel
theorem dX6_go_7 : decode cX6_go 7 = .ok (.aload_n 0, 1) := by decide +kernel
theorem dX6_go_8 : decode cX6_go 8 = .ok (.getfield 32, 3) := by decide +kernel
theorem dX6_go_11 : decode cX6_go 11 = .ok (.iload_n 1, 1) := by decide +kernel
theorem dX6_go_12 : decode cX6_go 12 = .ok (.iconst 0, 1) := by decide +kernel
theorem dX6_go_13 : decode cX6_go 13 = .ok (.bastore, 1) := by decide +kernel
theorem dX6_go_14 : decode cX6_go 14 = .ok (.aload_n 0, 1) := by decide +kernel
theorem dX6_go_15 : decode cX6_go 15 = .ok (.aload_n 0, 1) := by decide +kernel
theorem dX6_go_16 : decode cX6_go 16 = .ok (.getfield 23, 3) := by decide +kernel
theorem dX6_go_19 : decode cX6_go 19 = .ok (.iload_n 1, 1) := by decide +kernel
theorem dX6_go_20 : decode cX6_go 20 = .ok (.iaload, 1) := by decide +kernel
theorem dX6_go_21 : decode cX6_go 21 = .ok (.aload_n 0, 1) := by decide +kernel
theorem dX6_go_22 : decode cX6_go 22 = .ok (.getfield 26, 3) := by decide +kernel
theorem dX6_go_25 : decode cX6_go 25 = .ok (.iload_n 1, 1) := by decide +kernel
theorem dX6_go_26 : decode cX6_go 26 = .ok (.iaload, 1) := by decide +kernel
theorem dX6_go_27 : decode cX6_go 27 = .ok (.invokevirtual 135, 3) := by decide +kernel
theorem dX6_go_30 : decode cX6_go 30 = .ok (.iconst 0, 1) := by decide +kernel
theorem dX6_go_31 : decode cX6_go 31 = .ok (.istore_n 2, 1) := by decide +kernel
theorem dX6_go_32 : decode cX6_go 32 = .ok (.iload_n 2, 1) := by decide +kernel
theorem dX6_go_33 : decode cX6_go 33 = .ok (.bipush 12, 2) := by decide +kernel
theorem dX6_go_35 : decode cX6_go 35 = .ok (.if_icmp .ge 35, 3) := by decide +kernel
theorem dX6_go_38 : decode cX6_go 38 = .ok (.aload_n 0, 1) := by decide +kernel
theorem dX6_go_39 : decode cX6_go 39 = .ok (.getfield 35, 3) := by decide +kernel
theorem dX6_go_42 : decode cX6_go 42 = .ok (.iload_n 2, 1) := by decide +kernel
theorem dX6_go_43 : decode cX6_go 43 = .ok (.iaload, 1) := by decide +kernel
theorem dX6_go_44 : decode cX6_go 44 = .ok (.ifCond .lt 20, 3) := by decide +kernel
theorem dX6_go_47 : decode cX6_go 47 = .ok (.aload_n 0, 1) := by decide +kernel
theorem dX6_go_48 : decode cX6_go 48 = .ok (.getfield 54, 3) := by decide +kernel
theorem dX6_go_51 : decode cX6_go 51 = .ok (.iload_n 2, 1) := by decide +kernel
theorem dX6_go_52 : decode cX6_go 52 = .ok (.iaload, 1) := by decide +kernel
theorem dX6_go_53 : decode cX6_go 53 = .ok (.iload_n 1, 1) := by decide +kernel
theorem dX6_go_54 : decode cX6_go 54 = .ok (.if_icmp .ne 10, 3) := by decide +kernel
theorem dX6_go_57 : decode cX6_go 57 = .ok (.aload_n 0, 1) := by decide +kernel
theorem dX6_go_58 : decode cX6_go 58 = .ok (.getfield 54, 3) := by decide +kernel
theorem dX6_go_61 : decode cX6_go 61 = .ok (.iload_n 2, 1) := by decide +kernel
theorem dX6_go_62 : decode cX6_go 62 = .ok (.iconst (-1), 1) := by decide +kernel
theorem dX6_go_63 : decode cX6_go 63 = .ok (.iastore, 1) := by decide +kernel
theorem dX6_go_64 : decode cX6_go 64 = .ok (.iinc 2 1, 3) := by decide +kernel
theorem dX6_go_67 : decode cX6_go 67 = .ok (.goto (-35), 3) := by decide +kernel
theorem dX6_go_70 : decode cX6_go 70 = .ok (.return_, 1) := by decide +kernel
theorem dX6_release_0 : decode cX6_release 0 = .ok (.aload_n 0, 1) := by decide +kernel
theorem dX6_release_1 : decode cX6_release 1 = .ok (.iload_n 1, 1) := by decide +kernel
theorem dX6_release_2 : decode cX6_release 2 = .ok (.invokevirtual 131, 3) := by decide +kernel
theorem dX6_release_5 : decode cX6_release 5 = .ok (.ifCond .eq 12, 3) := by decide +kernel
theorem dX6_release_8 : decode cX6_release 8 = .ok (.aload_n 0, 1) := by decide +kernel
theorem dX6_release_9 : decode cX6_release 9 = .ok (.getfield 29, 3) := by decide +kernel
theorem dX6_release_12 : decode cX6_release 12 = .ok (.iload_n 1, 1) := by decide +kernel
theorem dX6_release_13 : decode cX6_release 13 = .ok (.iaload, 1) := by decide +kernel
theorem dX6_release_14 : decode cX6_release 14 = .ok (.ifCond .le 5, 3) := by decide +kernel
theorem dX6_release_17 : decode cX6_release 17 = .ok (.iconst 0, 1) := by decide +kernel
theorem dX6_release_18 : decode cX6_release 18 = .ok (.ireturn, 1) := by decide +kernel
theorem dX6_release_19 : decode cX6_release 19 = .ok (.aload_n 0, 1) := by decide +kernel
theorem dX6_release_20 : decode cX6_release 20 = .ok (.iload_n 1, 1) := by decide +kernel
theorem dX6_release_21 : decode cX6_release 21 = .ok (.invokevirtual 139, 3) := by decide +kernel
theorem dX6_release_24 : decode cX6_release 24 = .ok (.iconst 1, 1) := by decide +kernel
theorem dX6_release_25 : decode cX6_release 25 = .ok (.ireturn, 1) := by decide +kernel
theorem dX6_isOperand_0 : decode cX6_isOperand 0 = .ok (.aload_n 0, 1) := by decide +kernel
theorem dX6_isOperand_1 : decode cX6_isOperand 1 = .ok (.iload_n 1, 1) := by decide +kernel
theorem dX6_isOperand_2 : decode cX6_isOperand 2 = .ok (.invokevirtual 131, 3) := by decide +kernel
theorem dX6_isOperand_5 : decode cX6_isOperand 5 = .ok (.ifCond .eq 16, 3) := by decide +kernel
theorem dX6_isOperand_8 : decode cX6_isOperand 8 = .ok (.aload_n 0, 1) := by decide +kernel
theorem dX6_isOperand_9 : decode cX6_isOperand 9 = .ok (.getfield 32, 3) := by decide +kernel
theorem dX6_isOperand_12 : decode cX6_isOperand 12 = .ok (.iload_n 1, 1) := by decide +kernel
theorem dX6_isOperand_13 : decode cX6_isOperand 13 = .ok (.baload, 1) := by decide +kernel
theorem dX6_isOperand_14 : decode cX6_isOperand 14 = .ok (.ifCond .ne 7, 3) := by decide +kernel
theorem dX6_isOperand_17 : decode cX6_isOperand 17 = .ok (.iconst 1, 1) := by decide +kernel
theorem dX6_isOperand_18 : decode cX6_isOperand 18 = .ok (.goto 4, 3) := by decide +kernel
theorem dX6_isOperand_21 : decode cX6_isOperand 21 = .ok (.iconst 0, 1) := by decide +kernel
theorem dX6_isOperand_22 : decode cX6_isOperand 22 = .ok (.ireturn, 1) := by decide +kernel
theorem dX6_length_0 : decode cX6_length 0 = .ok (.aload_n 0, 1) := by decide +kernel
theorem dX6_length_1 : decode cX6_length 1 = .ok (.getfield 20, 3) := by decide +kernel
theorem dX6_length_4 : decode cX6_length 4 = .ok (.iload_n 1, 1) := by decide +kernel
theorem dX6_length_5 : decode cX6_length 5 = .ok (.iaload, 1) := by decide +kernel
theorem dX6_length_6 : decode cX6_length 6 = .ok (.istore_n 2, 1) := by decide +kernel
theorem dX6_length_7 : decode cX6_length 7 = .ok (.iload_n 2, 1) := by decide +kernel
theorem dX6_length_8 : decode cX6_length 8 = .ok (.ifCond .le 27, 3) := by decide +kernel
theorem dX6_length_11 : decode cX6_length 11 = .ok (.aload_n 0, 1) := by decide +kernel
theorem dX6_length_12 : decode cX6_length 12 = .ok (.getfield 7, 3) := by decide +kernel
theorem dX6_length_15 : decode cX6_length 15 = .ok (.aload_n 0, 1) := by decide +kernel
theorem dX6_length_16 : decode cX6_length 16 = .ok (.getfield 23, 3) := by decide +kernel
theorem dX6_length_19 : decode cX6_length 19 = .ok (.iload_n 1, 1) := by decide +kernel
theorem dX6_length_20 : decode cX6_length 20 = .ok (.iaload, 1) := by decide +kernel
theorem dX6_length_21 : decode cX6_length 21 = .ok (.iload_n 2, 1) := by decide +kernel
theorem dX6_length_22 : decode cX6_length 22 = .ok (.iadd, 1) := by decide +kernel
theorem dX6_length_23 : decode cX6_length 23 = .ok (.iconst 1, 1) := by decide +kernel
theorem dX6_length_24 : decode cX6_length 24 = .ok (.isub, 1) := by decide +kernel
theorem dX6_length_25 : decode cX6_length 25 = .ok (.iaload, 1) := by decide +kernel
theorem dX6_length_26 : decode cX6_length 26 = .ok (.ifCond .ne 9, 3) := by decide +kernel
theorem dX6_length_29 : decode cX6_length 29 = .ok (.iinc 2 (-1), 3) := by decide +kernel
theorem dX6_length_32 : decode cX6_length 32 = .ok (.goto (-25), 3) := by decide +kernel
theorem dX6_length_35 : decode cX6_length 35 = .ok (.iload_n 2, 1) := by decide +kernel
theorem dX6_length_36 : decode cX6_length 36 = .ok (.ireturn, 1) := by decide +kernel
theorem dX6_submit_0 : decode cX6_submit 0 = .ok (.iload_n 1, 1) := by decide +kernel
theorem dX6_submit_1 : decode cX6_submit 1 = .ok (.ifCond .lt 8, 3) := by decide +kernel
theorem dX6_submit_4 : decode cX6_submit 4 = .ok (.iload_n 1, 1) := by decide +kernel
theorem dX6_submit_5 : decode cX6_submit 5 = .ok (.iconst 3, 1) := by decide +kernel
theorem dX6_submit_6 : decode cX6_submit 6 = .ok (.if_icmp .le 6, 3) := by decide +kernel
theorem dX6_submit_9 : decode cX6_submit 9 = .ok (.bipush (-5), 2) := by decide +kernel
theorem dX6_submit_11 : decode cX6_submit 11 = .ok (.ireturn, 1) := by decide +kernel
theorem dX6_submit_12 : decode cX6_submit 12 = .ok (.iload_n 1, 1) := by decide +kernel
theorem dX6_submit_13 : decode cX6_submit 13 = .ok (.iconst 3, 1) := by decide +kernel
theorem dX6_submit_14 : decode cX6_submit 14 = .ok (.if_icmp .ne 7, 3) := by decide +kernel
theorem dX6_submit_17 : decode cX6_submit 17 = .ok (.iconst 1, 1) := by decide +kernel
theorem dX6_submit_18 : decode cX6_submit 18 = .ok (.goto 4, 3) := by decide +kernel
theorem dX6_submit_21 : decode cX6_submit 21 = .ok (.iconst 0, 1) := by decide +kernel
theorem dX6_submit_22 : decode cX6_submit 22 = .ok (.istore 5, 2) := by decide +kernel
theorem dX6_submit_24 : decode cX6_submit 24 = .ok (.aload_n 0, 1) := by decide +kernel
theorem dX6_submit_25 : decode cX6_submit 25 = .ok (.iload_n 2, 1) := by decide +kernel
theorem dX6_submit_26 : decode cX6_submit 26 = .ok (.invokevirtual 143, 3) := by decide +kernel
theorem dX6_submit_29 : decode cX6_submit 29 = .ok (.ifCond .eq 25, 3) := by decide +kernel
theorem dX6_submit_32 : decode cX6_submit 32 = .ok (.aload_n 0, 1) := by decide +kernel
theorem dX6_submit_33 : decode cX6_submit 33 = .ok (.iload_n 3, 1) := by decide +kernel
theorem dX6_submit_34 : decode cX6_submit 34 = .ok (.invokevirtual 143, 3) := by decide +kernel
theorem dX6_submit_37 : decode cX6_submit 37 = .ok (.ifCond .eq 17, 3) := by decide +kernel
theorem dX6_submit_40 : decode cX6_submit 40 = .ok (.iload 5, 2) := by decide +kernel
theorem dX6_submit_42 : decode cX6_submit 42 = .ok (.ifCond .eq 15, 3) := by decide +kernel
theorem dX6_submit_45 : decode cX6_submit 45 = .ok (.aload_n 0, 1) := by decide +kernel
theorem dX6_submit_46 : decode cX6_submit 46 = .ok (.iload 4, 2) := by decide +kernel
theorem dX6_submit_48 : decode cX6_submit 48 = .ok (.invokevirtual 143, 3) := by decide +kernel
theorem dX6_submit_51 : decode cX6_submit 51 = .ok (.ifCond .ne 6, 3) := by decide +kernel
theorem dX6_submit_54 : decode cX6_submit 54 = .ok (.bipush (-6), 2) := by decide +kernel
theorem dX6_submit_56 : decode cX6_submit 56 = .ok (.ireturn, 1) := by decide +kernel
theorem dX6_submit_57 : decode cX6_submit 57 = .ok (.iload_n 1, 1) := by decide +kernel
theorem dX6_submit_58 : decode cX6_submit 58 = .ok (.iconst 1, 1) := by decide +kernel
theorem dX6_submit_59 : decode cX6_submit 59 = .ok (.if_icmp .ne 11, 3) := by decide +kernel
theorem dX6_submit_62 : decode cX6_submit 62 = .ok (.aload_n 0, 1) := by decide +kernel
theorem dX6_submit_63 : decode cX6_submit 63 = .ok (.iload_n 3, 1) := by decide +kernel
theorem dX6_submit_64 : decode cX6_submit 64 = .ok (.invokevirtual 146, 3) := by decide +kernel
theorem dX6_submit_67 : decode cX6_submit 67 = .ok (.ifCond .eq 17, 3) := by decide +kernel
theorem dX6_submit_70 : decode cX6_submit 70 = .ok (.iload 5, 2) := by decide +kernel
theorem dX6_submit_72 : decode cX6_submit 72 = .ok (.ifCond .eq 15, 3) := by decide +kernel
theorem dX6_submit_75 : decode cX6_submit 75 = .ok (.aload_n 0, 1) := by decide +kernel
theorem dX6_submit_76 : decode cX6_submit 76 = .ok (.iload 4, 2) := by decide +kernel
theorem dX6_submit_78 : decode cX6_submit 78 = .ok (.invokevirtual 146, 3) := by decide +kernel
theorem dX6_submit_81 : decode cX6_submit 81 = .ok (.ifCond .ne 6, 3) := by decide +kernel
theorem dX6_submit_84 : decode cX6_submit 84 = .ok (.bipush (-7), 2) := by decide +kernel
theorem dX6_submit_86 : decode cX6_submit 86 = .ok (.ireturn, 1) := by decide +kernel
theorem dX6_submit_87 : decode cX6_submit 87 = .ok (.iconst 0, 1) := by decide +kernel
theorem dX6_submit_88 : decode cX6_submit 88 = .ok (.istore 6, 2) := by decide +kernel
theorem dX6_submit_90 : decode cX6_submit 90 = .ok (.iload 6, 2) := by decide +kernel
theorem dX6_submit_92 : decode cX6_submit 92 = .ok (.aload_n 0, 1) := by decide +kernel
theorem dX6_submit_93 : decode cX6_submit 93 = .ok (.getfield 89, 3) := by decide +kernel
theorem dX6_submit_96 : decode cX6_submit 96 = .ok (.if_icmp .ge 19, 3) := by decide +kernel
theorem dX6_submit_99 : decode cX6_submit 99 = .ok (.aload_n 0, 1) := by decide +kernel
theorem dX6_submit_100 : decode cX6_submit 100 = .ok (.getfield 35, 3) := by decide +kernel
theorem dX6_submit_103 : decode cX6_submit 103 = .ok (.iload 6, 2) := by decide +kernel
theorem dX6_submit_105 : decode cX6_submit 105 = .ok (.iaload, 1) := by decide +kernel
theorem dX6_submit_106 : decode cX6_submit 106 = .ok (.ifCond .lt 9, 3) := by decide +kernel
theorem dX6_submit_109 : decode cX6_submit 109 = .ok (.iinc 6 1, 3) := by decide +kernel
theorem dX6_submit_112 : decode cX6_submit 112 = .ok (.goto (-22), 3) := by decide +kernel
theorem dX6_submit_115 : decode cX6_submit 115 = .ok (.iload 6, 2) := by decide +kernel
theorem dX6_submit_117 : decode cX6_submit 117 = .ok (.aload_n 0, 1) := by decide +kernel
theorem dX6_submit_118 : decode cX6_submit 118 = .ok (.getfield 89, 3) := by decide +kernel
theorem dX6_submit_121 : decode cX6_submit 121 = .ok (.if_icmp .ne 6, 3) := by decide +kernel
theorem dX6_submit_124 : decode cX6_submit 124 = .ok (.bipush (-8), 2) := by decide +kernel
theorem dX6_submit_126 : decode cX6_submit 126 = .ok (.ireturn, 1) := by decide +kernel
theorem dX6_submit_127 : decode cX6_submit 127 = .ok (.aload_n 0, 1) := by decide +kernel
theorem dX6_submit_128 : decode cX6_submit 128 = .ok (.getfield 35, 3) := by decide +kernel
theorem dX6_submit_131 : decode cX6_submit 131 = .ok (.iload 6, 2) := by decide +kernel
theorem dX6_submit_133 : decode cX6_submit 133 = .ok (.iconst 0, 1) := by decide +kernel
theorem dX6_submit_134 : decode cX6_submit 134 = .ok (.iastore, 1) := by decide +kernel
theorem dX6_submit_135 : decode cX6_submit 135 = .ok (.aload_n 0, 1) := by decide +kernel
theorem dX6_submit_136 : decode cX6_submit 136 = .ok (.getfield 38, 3) := by decide +kernel
theorem dX6_submit_139 : decode cX6_submit 139 = .ok (.iload 6, 2) := by decide +kernel
theorem dX6_submit_141 : decode cX6_submit 141 = .ok (.iload_n 1, 1) := by decide +kernel
theorem dX6_submit_142 : decode cX6_submit 142 = .ok (.iastore, 1) := by decide +kernel
theorem dX6_submit_143 : decode cX6_submit 143 = .ok (.aload_n 0, 1) := by decide +kernel
theorem dX6_submit_144 : decode cX6_submit 144 = .ok (.getfield 41, 3) := by decide +kernel
theorem dX6_submit_147 : decode cX6_submit 147 = .ok (.iload 6, 2) := by decide +kernel
theorem dX6_submit_149 : decode cX6_submit 149 = .ok (.iload_n 2, 1) := by decide +kernel
theorem dX6_submit_150 : decode cX6_submit 150 = .ok (.iastore, 1) := by decide +kernel
theorem dX6_submit_151 : decode cX6_submit 151 = .ok (.aload_n 0, 1) := by decide +kernel
theorem dX6_submit_152 : decode cX6_submit 152 = .ok (.getfield 44, 3) := by decide +kernel
theorem dX6_submit_155 : decode cX6_submit 155 = .ok (.iload 6, 2) := by decide +kernel
theorem dX6_submit_157 : decode cX6_submit 157 = .ok (.iload_n 3, 1) := by decide +kernel
theorem dX6_submit_158 : decode cX6_submit 158 = .ok (.iastore, 1) := by decide +kernel
theorem dX6_submit_159 : decode cX6_submit 159 = .ok (.aload_n 0, 1) := by decide +kernel
theorem dX6_submit_160 : decode cX6_submit 160 = .ok (.getfield 47, 3) := by decide +kernel
theorem dX6_submit_163 : decode cX6_submit 163 = .ok (.iload 6, 2) := by decide +kernel
theorem dX6_submit_165 : decode cX6_submit 165 = .ok (.iload 5, 2) := by decide +kernel
theorem dX6_submit_167 : decode cX6_submit 167 = .ok (.ifCond .eq 8, 3) := by decide +kernel
theorem dX6_submit_170 : decode cX6_submit 170 = .ok (.iload 4, 2) := by decide +kernel
theorem dX6_submit_172 : decode cX6_submit 172 = .ok (.goto 4, 3) := by decide +kernel
theorem dX6_submit_175 : decode cX6_submit 175 = .ok (.iconst (-1), 1) := by decide +kernel
theorem dX6_submit_176 : decode cX6_submit 176 = .ok (.iastore, 1) := by decide +kernel
theorem dX6_submit_177 : decode cX6_submit 177 = .ok (.aload_n 0, 1) := by decide +kernel
theorem dX6_submit_178 : decode cX6_submit 178 = .ok (.getfield 54, 3) := by decide +kernel
theorem dX6_submit_181 : decode cX6_submit 181 = .ok (.iload 6, 2) := by decide +kernel
theorem dX6_submit_183 : decode cX6_submit 183 = .ok (.iconst (-1), 1) := by decide +kernel
theorem dX6_submit_184 : decode cX6_submit 184 = .ok (.iastore, 1) := by decide +kernel
theorem dX6_submit_185 : decode cX6_submit 185 = .ok (.aload_n 0, 1) := by decide +kernel
theorem dX6_submit_186 : decode cX6_submit 186 = .ok (.getfield 60, 3) := by decide +kernel
theorem dX6_submit_189 : decode cX6_submit 189 = .ok (.iload 6, 2) := by decide +kernel
theorem dX6_submit_191 : decode cX6_submit 191 = .ok (.iconst (-1), 1) := by decide +kernel
theorem dX6_submit_192 : decode cX6_submit 192 = .ok (.iastore, 1) := by decide +kernel
theorem dX6_submit_193 : decode cX6_submit 193 = .ok (.aload_n 0, 1) := by decide +kernel
theorem dX6_submit_194 : decode cX6_submit 194 = .ok (.getfield 20, 3) := by decide +kernel
theorem dX6_submit_197 : decode cX6_submit 197 = .ok (.iload_n 2, 1) := by decide +kernel
theorem dX6_submit_198 : decode cX6_submit 198 = .ok (.iaload, 1) := by decide +kernel
theorem dX6_submit_199 : decode cX6_submit 199 = .ok (.i2l, 1) := by decide +kernel
theorem dX6_submit_200 : decode cX6_submit 200 = .ok (.lstore 7, 2) := by decide +kernel
theorem dX6_submit_202 : decode cX6_submit 202 = .ok (.aload_n 0, 1) := by decide +kernel
theorem dX6_submit_203 : decode cX6_submit 203 = .ok (.getfield 20, 3) := by decide +kernel
theorem dX6_submit_206 : decode cX6_submit 206 = .ok (.iload_n 3, 1) := by decide +kernel
theorem dX6_submit_207 : decode cX6_submit 207 = .ok (.iaload, 1) := by decide +kernel
theorem dX6_submit_208 : decode cX6_submit 208 = .ok (.i2l, 1) := by decide +kernel
theorem dX6_submit_209 : decode cX6_submit 209 = .ok (.lstore 9, 2) := by decide +kernel
theorem dX6_submit_211 : decode cX6_submit 211 = .ok (.iload 5, 2) := by decide +kernel
theorem dX6_submit_213 : decode cX6_submit 213 = .ok (.ifCond .eq 14, 3) := by decide +kernel
theorem dX6_submit_216 : decode cX6_submit 216 = .ok (.aload_n 0, 1) := by decide +kernel
theorem dX6_submit_217 : decode cX6_submit 217 = .ok (.getfield 20, 3) := by decide +kernel
theorem dX6_submit_220 : decode cX6_submit 220 = .ok (.iload 4, 2) := by decide +kernel
theorem dX6_submit_222 : decode cX6_submit 222 = .ok (.iaload, 1) := by decide +kernel
theorem dX6_submit_223 : decode cX6_submit 223 = .ok (.i2l, 1) := by decide +kernel
theorem dX6_submit_224 : decode cX6_submit 224 = .ok (.goto 4, 3) := by decide +kernel
theorem dX6_submit_227 : decode cX6_submit 227 = .ok (.lconst 0, 1) := by decide +kernel
theorem dX6_submit_228 : decode cX6_submit 228 = .ok (.lstore 11, 2) := by decide +kernel
theorem dX6_submit_230 : decode cX6_submit 230 = .ok (.aload_n 0, 1) := by decide +kernel
theorem dX6_submit_231 : decode cX6_submit 231 = .ok (.getfield 50, 3) := by decide +kernel
theorem dX6_submit_234 : decode cX6_submit 234 = .ok (.iload 6, 2) := by decide +kernel
theorem dX6_submit_236 : decode cX6_submit 236 = .ok (.iload_n 1, 1) := by decide +kernel
theorem dX6_submit_237 : decode cX6_submit 237 = .ok (.ifCond .ne 11, 3) := by decide +kernel
theorem dX6_submit_240 : decode cX6_submit 240 = .ok (.lload 7, 2) := by decide +kernel
theorem dX6_submit_242 : decode cX6_submit 242 = .ok (.lload 9, 2) := by decide +kernel
theorem dX6_submit_244 : decode cX6_submit 244 = .ok (.lmul, 1) := by decide +kernel
theorem dX6_submit_245 : decode cX6_submit 245 = .ok (.goto 67, 3) := by decide +kernel
theorem dX6_submit_248 : decode cX6_submit 248 = .ok (.iload_n 1, 1) := by decide +kernel
theorem dX6_submit_249 : decode cX6_submit 249 = .ok (.iconst 1, 1) := by decide +kernel
theorem dX6_submit_250 : decode cX6_submit 250 = .ok (.if_icmp .ne 17, 3) := by decide +kernel
theorem dX6_submit_253 : decode cX6_submit 253 = .ok (.ldc2_w 149, 3) := by decide +kernel
theorem dX6_submit_256 : decode cX6_submit 256 = .ok (.lload 7, 2) := by decide +kernel
theorem dX6_submit_258 : decode cX6_submit 258 = .ok (.lmul, 1) := by decide +kernel
theorem dX6_submit_259 : decode cX6_submit 259 = .ok (.lload 9, 2) := by decide +kernel
theorem dX6_submit_261 : decode cX6_submit 261 = .ok (.lconst 1, 1) := by decide +kernel
theorem dX6_submit_262 : decode cX6_submit 262 = .ok (.ladd, 1) := by decide +kernel
theorem dX6_submit_263 : decode cX6_submit 263 = .ok (.lmul, 1) := by decide +kernel
theorem dX6_submit_264 : decode cX6_submit 264 = .ok (.goto 48, 3) := by decide +kernel
theorem dX6_submit_267 : decode cX6_submit 267 = .ok (.iload_n 1, 1) := by decide +kernel
theorem dX6_submit_268 : decode cX6_submit 268 = .ok (.iconst 2, 1) := by decide +kernel
theorem dX6_submit_269 : decode cX6_submit 269 = .ok (.if_icmp .ne 21, 3) := by decide +kernel
theorem dX6_submit_272 : decode cX6_submit 272 = .ok (.ldc2_w 149, 3) := by decide +kernel
theorem dX6_submit_275 : decode cX6_submit 275 = .ok (.lload 7, 2) := by decide +kernel
theorem dX6_submit_277 : decode cX6_submit 277 = .ok (.lload 9, 2) := by decide +kernel
theorem dX6_submit_279 : decode cX6_submit 279 = .ok (.ladd, 1) := by decide +kernel
theorem dX6_submit_280 : decode cX6_submit 280 = .ok (.lmul, 1) := by decide +kernel
theorem dX6_submit_281 : decode cX6_submit 281 = .ok (.lload 7, 2) := by decide +kernel
theorem dX6_submit_283 : decode cX6_submit 283 = .ok (.lload 9, 2) := by decide +kernel
theorem dX6_submit_285 : decode cX6_submit 285 = .ok (.ladd, 1) := by decide +kernel
theorem dX6_submit_286 : decode cX6_submit 286 = .ok (.lmul, 1) := by decide +kernel
theorem dX6_submit_287 : decode cX6_submit 287 = .ok (.goto 25, 3) := by decide +kernel
theorem dX6_submit_290 : decode cX6_submit 290 = .ok (.ldc2_w 149, 3) := by decide +kernel
theorem dX6_submit_293 : decode cX6_submit 293 = .ok (.lload 7, 2) := by decide +kernel
theorem dX6_submit_295 : decode cX6_submit 295 = .ok (.lmul, 1) := by decide +kernel
theorem dX6_submit_296 : decode cX6_submit 296 = .ok (.lload 11, 2) := by decide +kernel
theorem dX6_submit_298 : decode cX6_submit 298 = .ok (.lmul, 1) := by decide +kernel
theorem dX6_submit_299 : decode cX6_submit 299 = .ok (.ldc2_w 151, 3) := by decide +kernel
theorem dX6_submit_302 : decode cX6_submit 302 = .ok (.lload 9, 2) := by decide +kernel
theorem dX6_submit_304 : decode cX6_submit 304 = .ok (.lmul, 1) := by decide +kernel
theorem dX6_submit_305 : decode cX6_submit 305 = .ok (.lload 11, 2) := by decide +kernel
theorem dX6_submit_307 : decode cX6_submit 307 = .ok (.lmul, 1) := by decide +kernel
theorem dX6_submit_308 : decode cX6_submit 308 = .ok (.lload 11, 2) := by decide +kernel
theorem dX6_submit_310 : decode cX6_submit 310 = .ok (.lmul, 1) := by decide +kernel
theorem dX6_submit_311 : decode cX6_submit 311 = .ok (.ladd, 1) := by decide +kernel
theorem dX6_submit_312 : decode cX6_submit 312 = .ok (.lastore, 1) := by decide +kernel
theorem dX6_submit_313 : decode cX6_submit 313 = .ok (.aload_n 0, 1) := by decide +kernel
theorem dX6_submit_314 : decode cX6_submit 314 = .ok (.getfield 29, 3) := by decide +kernel
theorem dX6_submit_317 : decode cX6_submit 317 = .ok (.iload_n 2, 1) := by decide +kernel
theorem dX6_submit_318 : decode cX6_submit 318 = .ok (.dup2, 1) := by decide +kernel
theorem dX6_submit_319 : decode cX6_submit 319 = .ok (.iaload, 1) := by decide +kernel
theorem dX6_submit_320 : decode cX6_submit 320 = .ok (.iconst 1, 1) := by decide +kernel
theorem dX6_submit_321 : decode cX6_submit 321 = .ok (.iadd, 1) := by decide +kernel
theorem dX6_submit_322 : decode cX6_submit 322 = .ok (.iastore, 1) := by decide +kernel
theorem dX6_submit_323 : decode cX6_submit 323 = .ok (.aload_n 0, 1) := by decide +kernel
theorem dX6_submit_324 : decode cX6_submit 324 = .ok (.getfield 29, 3) := by decide +kernel
theorem dX6_submit_327 : decode cX6_submit 327 = .ok (.iload_n 3, 1) := by decide +kernel
theorem dX6_submit_328 : decode cX6_submit 328 = .ok (.dup2, 1) := by decide +kernel
theorem dX6_submit_329 : decode cX6_submit 329 = .ok (.iaload, 1) := by decide +kernel
theorem dX6_submit_330 : decode cX6_submit 330 = .ok (.iconst 1, 1) := by decide +kernel
theorem dX6_submit_331 : decode cX6_submit 331 = .ok (.iadd, 1) := by decide +kernel
theorem dX6_submit_332 : decode cX6_submit 332 = .ok (.iastore, 1) := by decide +kernel
theorem dX6_submit_333 : decode cX6_submit 333 = .ok (.iload 5, 2) := by decide +kernel
theorem dX6_submit_335 : decode cX6_submit 335 = .ok (.ifCond .eq 14, 3) := by decide +kernel
theorem dX6_submit_338 : decode cX6_submit 338 = .ok (.aload_n 0, 1) := by decide +kernel
theorem dX6_submit_339 : decode cX6_submit 339 = .ok (.getfield 29, 3) := by decide +kernel
theorem dX6_submit_342 : decode cX6_submit 342 = .ok (.iload 4, 2) := by decide +kernel
theorem dX6_submit_344 : decode cX6_submit 344 = .ok (.dup2, 1) := by decide +kernel
theorem dX6_submit_345 : decode cX6_submit 345 = .ok (.iaload, 1) := by decide +kernel
theorem dX6_submit_346 : decode cX6_submit 346 = .ok (.iconst 1, 1) := by decide +kernel
theorem dX6_submit_347 : decode cX6_submit 347 = .ok (.iadd, 1) := by decide +kernel
theorem dX6_submit_348 : decode cX6_submit 348 = .ok (.iastore, 1) := by decide +kernel
theorem dX6_submit_349 : decode cX6_submit 349 = .ok (.aload_n 0, 1) := by decide +kernel
theorem dX6_submit_350 : decode cX6_submit 350 = .ok (.getfield 63, 3) := by decide +kernel
theorem dX6_submit_353 : decode cX6_submit 353 = .ok (.aload_n 0, 1) := by decide +kernel
theorem dX6_submit_354 : decode cX6_submit 354 = .ok (.getfield 101, 3) := by decide +kernel
theorem dX6_submit_357 : decode cX6_submit 357 = .ok (.iload 6, 2) := by decide +kernel
theorem dX6_submit_359 : decode cX6_submit 359 = .ok (.iastore, 1) := by decide +kernel
theorem dX6_submit_360 : decode cX6_submit 360 = .ok (.aload_n 0, 1) := by decide +kernel
theorem dX6_submit_361 : decode cX6_submit 361 = .ok (.dup, 1) := by decide +kernel
theorem dX6_submit_362 : decode cX6_submit 362 = .ok (.getfield 101, 3) := by decide +kernel
theorem dX6_submit_365 : decode cX6_submit 365 = .ok (.iconst 1, 1) := by decide +kernel
theorem dX6_submit_366 : decode cX6_submit 366 = .ok (.iadd, 1) := by decide +kernel
theorem dX6_submit_367 : decode cX6_submit 367 = .ok (.putfield 101, 3) := by decide +kernel
theorem dX6_submit_370 : decode cX6_submit 370 = .ok (.iload 6, 2) := by decide +kernel
theorem dX6_submit_372 : decode cX6_submit 372 = .ok (.ireturn, 1) := by decide +kernel
theorem dX6_resultSize_0 : decode cX6_resultSize 0 = .ok (.aload_n 0, 1) := by decide +kernel
theorem dX6_resultSize_1 : decode cX6_resultSize 1 = .ok (.getfield 20, 3) := by decide +kernel
theorem dX6_resultSize_4 : decode cX6_resultSize 4 = .ok (.aload_n 0, 1) := by decide +kernel
theorem dX6_resultSize_5 : decode cX6_resultSize 5 = .ok (.getfield 41, 3) := by decide +kernel
theorem dX6_resultSize_8 : decode cX6_resultSize 8 = .ok (.iload_n 1, 1) := by decide +kernel
theorem dX6_resultSize_9 : decode cX6_resultSize 9 = .ok (.iaload, 1) := by decide +kernel
theorem dX6_resultSize_10 : decode cX6_resultSize 10 = .ok (.iaload, 1) := by decide +kernel
theorem dX6_resultSize_11 : decode cX6_resultSize 11 = .ok (.istore_n 2, 1) := by decide +kernel
theorem dX6_resultSize_12 : decode cX6_resultSize 12 = .ok (.aload_n 0, 1) := by decide +kernel
theorem dX6_resultSize_13 : decode cX6_resultSize 13 = .ok (.getfield 20, 3) := by decide +kernel
theorem dX6_resultSize_16 : decode cX6_resultSize 16 = .ok (.aload_n 0, 1) := by decide +kernel
theorem dX6_resultSize_17 : decode cX6_resultSize 17 = .ok (.getfield 44, 3) := by decide +kernel
theorem dX6_resultSize_20 : decode cX6_resultSize 20 = .ok (.iload_n 1, 1) := by decide +kernel
theorem dX6_resultSize_21 : decode cX6_resultSize 21 = .ok (.iaload, 1) := by decide +kernel
theorem dX6_resultSize_22 : decode cX6_resultSize 22 = .ok (.iaload, 1) := by decide +kernel
theorem dX6_resultSize_23 : decode cX6_resultSize 23 = .ok (.istore_n 3, 1) := by decide +kernel
theorem dX6_resultSize_24 : decode cX6_resultSize 24 = .ok (.aload_n 0, 1) := by decide +kernel
theorem dX6_resultSize_25 : decode cX6_resultSize 25 = .ok (.getfield 38, 3) := by decide +kernel
theorem dX6_resultSize_28 : decode cX6_resultSize 28 = .ok (.iload_n 1, 1) := by decide +kernel
theorem dX6_resultSize_29 : decode cX6_resultSize 29 = .ok (.iaload, 1) := by decide +kernel
theorem dX6_resultSize_30 : decode cX6_resultSize 30 = .ok (.ifCond .ne 9, 3) := by decide +kernel
theorem dX6_resultSize_33 : decode cX6_resultSize 33 = .ok (.iload_n 2, 1) := by decide +kernel
theorem dX6_resultSize_34 : decode cX6_resultSize 34 = .ok (.iload_n 3, 1) := by decide +kernel
theorem dX6_resultSize_35 : decode cX6_resultSize 35 = .ok (.iadd, 1) := by decide +kernel
theorem dX6_resultSize_36 : decode cX6_resultSize 36 = .ok (.goto 51, 3) := by decide +kernel
theorem dX6_resultSize_39 : decode cX6_resultSize 39 = .ok (.aload_n 0, 1) := by decide +kernel
theorem dX6_resultSize_40 : decode cX6_resultSize 40 = .ok (.getfield 38, 3) := by decide +kernel
theorem dX6_resultSize_43 : decode cX6_resultSize 43 = .ok (.iload_n 1, 1) := by decide +kernel
theorem dX6_resultSize_44 : decode cX6_resultSize 44 = .ok (.iaload, 1) := by decide +kernel
theorem dX6_resultSize_45 : decode cX6_resultSize 45 = .ok (.iconst 1, 1) := by decide +kernel
theorem dX6_resultSize_46 : decode cX6_resultSize 46 = .ok (.if_icmp .ne 7, 3) := by decide +kernel
theorem dX6_resultSize_49 : decode cX6_resultSize 49 = .ok (.iload_n 2, 1) := by decide +kernel
theorem dX6_resultSize_50 : decode cX6_resultSize 50 = .ok (.goto 37, 3) := by decide +kernel
theorem dX6_resultSize_53 : decode cX6_resultSize 53 = .ok (.aload_n 0, 1) := by decide +kernel
theorem dX6_resultSize_54 : decode cX6_resultSize 54 = .ok (.getfield 38, 3) := by decide +kernel
theorem dX6_resultSize_57 : decode cX6_resultSize 57 = .ok (.iload_n 1, 1) := by decide +kernel
theorem dX6_resultSize_58 : decode cX6_resultSize 58 = .ok (.iaload, 1) := by decide +kernel
end
section
theorem dX6_resultSize_59 : decode cX6_resultSize 59 = .ok (.iconst 2, 1) := by decide +kernel
theorem dX6_resultSize_60 : decode cX6_resultSize 60 = .ok (.if_icmp .ne 16, 3) := by decide +kernel
theorem dX6_resultSize_63 : decode cX6_resultSize 63 = .ok (.iload_n 2, 1) := by decide +kernel
theorem dX6_resultSize_64 : decode cX6_resultSize 64 = .ok (.iload_n 3, 1) := by decide +kernel
theorem dX6_resultSize_65 : decode cX6_resultSize 65 = .ok (.if_icmp .le 7, 3) := by decide +kernel
theorem dX6_resultSize_68 : decode cX6_resultSize 68 = .ok (.iload_n 2, 1) := by decide +kernel
theorem dX6_resultSize_69 : decode cX6_resultSize 69 = .ok (.goto 18, 3) := by decide +kernel
theorem dX6_resultSize_72 : decode cX6_resultSize 72 = .ok (.iload_n 3, 1) := by decide +kernel
theorem dX6_resultSize_73 : decode cX6_resultSize 73 = .ok (.goto 14, 3) := by decide +kernel
theorem dX6_resultSize_76 : decode cX6_resultSize 76 = .ok (.aload_n 0, 1) := by decide +kernel
theorem dX6_resultSize_77 : decode cX6_resultSize 77 = .ok (.getfield 20, 3) := by decide +kernel
theorem dX6_resultSize_80 : decode cX6_resultSize 80 = .ok (.aload_n 0, 1) := by decide +kernel
theorem dX6_resultSize_81 : decode cX6_resultSize 81 = .ok (.getfield 47, 3) := by decide +kernel
theorem dX6_resultSize_84 : decode cX6_resultSize 84 = .ok (.iload_n 1, 1) := by decide +kernel
theorem dX6_resultSize_85 : decode cX6_resultSize 85 = .ok (.iaload, 1) := by decide +kernel
theorem dX6_resultSize_86 : decode cX6_resultSize 86 = .ok (.iaload, 1) := by decide +kernel
theorem dX6_resultSize_87 : decode cX6_resultSize 87 = .ok (.ireturn, 1) := by decide +kernel
theorem dX6_roomSize_0 : decode cX6_roomSize 0 = .ok (.aload_n 0, 1) := by decide +kernel
theorem dX6_roomSize_1 : decode cX6_roomSize 1 = .ok (.getfield 20, 3) := by decide +kernel
theorem dX6_roomSize_4 : decode cX6_roomSize 4 = .ok (.aload_n 0, 1) := by decide +kernel
theorem dX6_roomSize_5 : decode cX6_roomSize 5 = .ok (.getfield 41, 3) := by decide +kernel
theorem dX6_roomSize_8 : decode cX6_roomSize 8 = .ok (.iload_n 1, 1) := by decide +kernel
theorem dX6_roomSize_9 : decode cX6_roomSize 9 = .ok (.iaload, 1) := by decide +kernel
theorem dX6_roomSize_10 : decode cX6_roomSize 10 = .ok (.iaload, 1) := by decide +kernel
theorem dX6_roomSize_11 : decode cX6_roomSize 11 = .ok (.istore_n 2, 1) := by decide +kernel
theorem dX6_roomSize_12 : decode cX6_roomSize 12 = .ok (.aload_n 0, 1) := by decide +kernel
theorem dX6_roomSize_13 : decode cX6_roomSize 13 = .ok (.getfield 20, 3) := by decide +kernel
theorem dX6_roomSize_16 : decode cX6_roomSize 16 = .ok (.aload_n 0, 1) := by decide +kernel
theorem dX6_roomSize_17 : decode cX6_roomSize 17 = .ok (.getfield 44, 3) := by decide +kernel
theorem dX6_roomSize_20 : decode cX6_roomSize 20 = .ok (.iload_n 1, 1) := by decide +kernel
theorem dX6_roomSize_21 : decode cX6_roomSize 21 = .ok (.iaload, 1) := by decide +kernel
theorem dX6_roomSize_22 : decode cX6_roomSize 22 = .ok (.iaload, 1) := by decide +kernel
theorem dX6_roomSize_23 : decode cX6_roomSize 23 = .ok (.istore_n 3, 1) := by decide +kernel
theorem dX6_roomSize_24 : decode cX6_roomSize 24 = .ok (.aload_n 0, 1) := by decide +kernel
theorem dX6_roomSize_25 : decode cX6_roomSize 25 = .ok (.getfield 38, 3) := by decide +kernel
theorem dX6_roomSize_28 : decode cX6_roomSize 28 = .ok (.iload_n 1, 1) := by decide +kernel
theorem dX6_roomSize_29 : decode cX6_roomSize 29 = .ok (.iaload, 1) := by decide +kernel
theorem dX6_roomSize_30 : decode cX6_roomSize 30 = .ok (.ifCond .ne 7, 3) := by decide +kernel
theorem dX6_roomSize_33 : decode cX6_roomSize 33 = .ok (.iconst 0, 1) := by decide +kernel
theorem dX6_roomSize_34 : decode cX6_roomSize 34 = .ok (.goto 54, 3) := by decide +kernel
theorem dX6_roomSize_37 : decode cX6_roomSize 37 = .ok (.aload_n 0, 1) := by decide +kernel
theorem dX6_roomSize_38 : decode cX6_roomSize 38 = .ok (.getfield 38, 3) := by decide +kernel
theorem dX6_roomSize_41 : decode cX6_roomSize 41 = .ok (.iload_n 1, 1) := by decide +kernel
theorem dX6_roomSize_42 : decode cX6_roomSize 42 = .ok (.iaload, 1) := by decide +kernel
theorem dX6_roomSize_43 : decode cX6_roomSize 43 = .ok (.iconst 1, 1) := by decide +kernel
theorem dX6_roomSize_44 : decode cX6_roomSize 44 = .ok (.if_icmp .ne 11, 3) := by decide +kernel
theorem dX6_roomSize_47 : decode cX6_roomSize 47 = .ok (.iload_n 2, 1) := by decide +kernel
theorem dX6_roomSize_48 : decode cX6_roomSize 48 = .ok (.iload_n 3, 1) := by decide +kernel
theorem dX6_roomSize_49 : decode cX6_roomSize 49 = .ok (.iadd, 1) := by decide +kernel
theorem dX6_roomSize_50 : decode cX6_roomSize 50 = .ok (.iconst 1, 1) := by decide +kernel
theorem dX6_roomSize_51 : decode cX6_roomSize 51 = .ok (.iadd, 1) := by decide +kernel
theorem dX6_roomSize_52 : decode cX6_roomSize 52 = .ok (.goto 36, 3) := by decide +kernel
theorem dX6_roomSize_55 : decode cX6_roomSize 55 = .ok (.aload_n 0, 1) := by decide +kernel
theorem dX6_roomSize_56 : decode cX6_roomSize 56 = .ok (.getfield 38, 3) := by decide +kernel
theorem dX6_roomSize_59 : decode cX6_roomSize 59 = .ok (.iload_n 1, 1) := by decide +kernel
theorem dX6_roomSize_60 : decode cX6_roomSize 60 = .ok (.iaload, 1) := by decide +kernel
theorem dX6_roomSize_61 : decode cX6_roomSize 61 = .ok (.iconst 2, 1) := by decide +kernel
theorem dX6_roomSize_62 : decode cX6_roomSize 62 = .ok (.if_icmp .ne 11, 3) := by decide +kernel
theorem dX6_roomSize_65 : decode cX6_roomSize 65 = .ok (.iconst 2, 1) := by decide +kernel
theorem dX6_roomSize_66 : decode cX6_roomSize 66 = .ok (.iload_n 2, 1) := by decide +kernel
theorem dX6_roomSize_67 : decode cX6_roomSize 67 = .ok (.iload_n 3, 1) := by decide +kernel
theorem dX6_roomSize_68 : decode cX6_roomSize 68 = .ok (.iadd, 1) := by decide +kernel
theorem dX6_roomSize_69 : decode cX6_roomSize 69 = .ok (.imul, 1) := by decide +kernel
theorem dX6_roomSize_70 : decode cX6_roomSize 70 = .ok (.goto 18, 3) := by decide +kernel
theorem dX6_roomSize_73 : decode cX6_roomSize 73 = .ok (.iconst 3, 1) := by decide +kernel
theorem dX6_roomSize_74 : decode cX6_roomSize 74 = .ok (.aload_n 0, 1) := by decide +kernel
theorem dX6_roomSize_75 : decode cX6_roomSize 75 = .ok (.getfield 20, 3) := by decide +kernel
theorem dX6_roomSize_78 : decode cX6_roomSize 78 = .ok (.aload_n 0, 1) := by decide +kernel
theorem dX6_roomSize_79 : decode cX6_roomSize 79 = .ok (.getfield 47, 3) := by decide +kernel
theorem dX6_roomSize_82 : decode cX6_roomSize 82 = .ok (.iload_n 1, 1) := by decide +kernel
theorem dX6_roomSize_83 : decode cX6_roomSize 83 = .ok (.iaload, 1) := by decide +kernel
theorem dX6_roomSize_84 : decode cX6_roomSize 84 = .ok (.iaload, 1) := by decide +kernel
theorem dX6_roomSize_85 : decode cX6_roomSize 85 = .ok (.imul, 1) := by decide +kernel
theorem dX6_roomSize_86 : decode cX6_roomSize 86 = .ok (.iconst 1, 1) := by decide +kernel
theorem dX6_roomSize_87 : decode cX6_roomSize 87 = .ok (.iadd, 1) := by decide +kernel
theorem dX6_roomSize_88 : decode cX6_roomSize 88 = .ok (.ireturn, 1) := by decide +kernel
theorem dX6_start_0 : decode cX6_start 0 = .ok (.aload_n 0, 1) := by decide +kernel
theorem dX6_start_1 : decode cX6_start 1 = .ok (.iload_n 1, 1) := by decide +kernel
theorem dX6_start_2 : decode cX6_start 2 = .ok (.invokevirtual 153, 3) := by decide +kernel
theorem dX6_start_5 : decode cX6_start 5 = .ok (.istore_n 2, 1) := by decide +kernel
theorem dX6_start_6 : decode cX6_start 6 = .ok (.aload_n 0, 1) := by decide +kernel
theorem dX6_start_7 : decode cX6_start 7 = .ok (.iload_n 1, 1) := by decide +kernel
theorem dX6_start_8 : decode cX6_start 8 = .ok (.invokevirtual 156, 3) := by decide +kernel
theorem dX6_start_11 : decode cX6_start 11 = .ok (.istore_n 3, 1) := by decide +kernel
theorem dX6_start_12 : decode cX6_start 12 = .ok (.aload_n 0, 1) := by decide +kernel
theorem dX6_start_13 : decode cX6_start 13 = .ok (.invokevirtual 121, 3) := by decide +kernel
theorem dX6_start_16 : decode cX6_start 16 = .ok (.istore 4, 2) := by decide +kernel
theorem dX6_start_18 : decode cX6_start 18 = .ok (.iload 4, 2) := by decide +kernel
theorem dX6_start_20 : decode cX6_start 20 = .ok (.ifCond .ge 4, 3) := by decide +kernel
theorem dX6_start_23 : decode cX6_start 23 = .ok (.return_, 1) := by decide +kernel
theorem dX6_start_24 : decode cX6_start 24 = .ok (.iload_n 2, 1) := by decide +kernel
theorem dX6_start_25 : decode cX6_start 25 = .ok (.invokestatic 117, 3) := by decide +kernel
theorem dX6_start_28 : decode cX6_start 28 = .ok (.aload_n 0, 1) := by decide +kernel
theorem dX6_start_29 : decode cX6_start 29 = .ok (.getfield 85, 3) := by decide +kernel
theorem dX6_start_32 : decode cX6_start 32 = .ok (.if_icmp .le 7, 3) := by decide +kernel
theorem dX6_start_35 : decode cX6_start 35 = .ok (.iconst (-1), 1) := by decide +kernel
theorem dX6_start_36 : decode cX6_start 36 = .ok (.goto 11, 3) := by decide +kernel
theorem dX6_start_39 : decode cX6_start 39 = .ok (.aload_n 0, 1) := by decide +kernel
theorem dX6_start_40 : decode cX6_start 40 = .ok (.iload_n 2, 1) := by decide +kernel
theorem dX6_start_41 : decode cX6_start 41 = .ok (.invokestatic 117, 3) := by decide +kernel
theorem dX6_start_44 : decode cX6_start 44 = .ok (.invokevirtual 124, 3) := by decide +kernel
theorem dX6_start_47 : decode cX6_start 47 = .ok (.istore 5, 2) := by decide +kernel
theorem dX6_start_49 : decode cX6_start 49 = .ok (.iload 5, 2) := by decide +kernel
theorem dX6_start_51 : decode cX6_start 51 = .ok (.ifCond .ge 4, 3) := by decide +kernel
theorem dX6_start_54 : decode cX6_start 54 = .ok (.return_, 1) := by decide +kernel
theorem dX6_start_55 : decode cX6_start 55 = .ok (.iload_n 3, 1) := by decide +kernel
theorem dX6_start_56 : decode cX6_start 56 = .ok (.ifCond .le 62, 3) := by decide +kernel
theorem dX6_start_59 : decode cX6_start 59 = .ok (.iload_n 3, 1) := by decide +kernel
theorem dX6_start_60 : decode cX6_start 60 = .ok (.invokestatic 117, 3) := by decide +kernel
theorem dX6_start_63 : decode cX6_start 63 = .ok (.aload_n 0, 1) := by decide +kernel
theorem dX6_start_64 : decode cX6_start 64 = .ok (.getfield 85, 3) := by decide +kernel
theorem dX6_start_67 : decode cX6_start 67 = .ok (.if_icmp .le 7, 3) := by decide +kernel
theorem dX6_start_70 : decode cX6_start 70 = .ok (.iconst (-1), 1) := by decide +kernel
theorem dX6_start_71 : decode cX6_start 71 = .ok (.goto 11, 3) := by decide +kernel
theorem dX6_start_74 : decode cX6_start 74 = .ok (.aload_n 0, 1) := by decide +kernel
theorem dX6_start_75 : decode cX6_start 75 = .ok (.iload_n 3, 1) := by decide +kernel
theorem dX6_start_76 : decode cX6_start 76 = .ok (.invokestatic 117, 3) := by decide +kernel
theorem dX6_start_79 : decode cX6_start 79 = .ok (.invokevirtual 124, 3) := by decide +kernel
theorem dX6_start_82 : decode cX6_start 82 = .ok (.istore 6, 2) := by decide +kernel
theorem dX6_start_84 : decode cX6_start 84 = .ok (.iload 6, 2) := by decide +kernel
theorem dX6_start_86 : decode cX6_start 86 = .ok (.ifCond .ge 14, 3) := by decide +kernel
theorem dX6_start_89 : decode cX6_start 89 = .ok (.aload_n 0, 1) := by decide +kernel
theorem dX6_start_90 : decode cX6_start 90 = .ok (.iload 5, 2) := by decide +kernel
theorem dX6_start_92 : decode cX6_start 92 = .ok (.iload_n 2, 1) := by decide +kernel
theorem dX6_start_93 : decode cX6_start 93 = .ok (.invokestatic 117, 3) := by decide +kernel
theorem dX6_start_96 : decode cX6_start 96 = .ok (.invokevirtual 135, 3) := by decide +kernel
theorem dX6_start_99 : decode cX6_start 99 = .ok (.return_, 1) := by decide +kernel
theorem dX6_start_100 : decode cX6_start 100 = .ok (.aload_n 0, 1) := by decide +kernel
theorem dX6_start_101 : decode cX6_start 101 = .ok (.getfield 57, 3) := by decide +kernel
theorem dX6_start_104 : decode cX6_start 104 = .ok (.iload_n 1, 1) := by decide +kernel
theorem dX6_start_105 : decode cX6_start 105 = .ok (.iload 6, 2) := by decide +kernel
theorem dX6_start_107 : decode cX6_start 107 = .ok (.iastore, 1) := by decide +kernel
theorem dX6_start_108 : decode cX6_start 108 = .ok (.aload_n 0, 1) := by decide +kernel
theorem dX6_start_109 : decode cX6_start 109 = .ok (.getfield 60, 3) := by decide +kernel
theorem dX6_start_112 : decode cX6_start 112 = .ok (.iload_n 1, 1) := by decide +kernel
theorem dX6_start_113 : decode cX6_start 113 = .ok (.iload_n 3, 1) := by decide +kernel
theorem dX6_start_114 : decode cX6_start 114 = .ok (.invokestatic 117, 3) := by decide +kernel
theorem dX6_start_117 : decode cX6_start 117 = .ok (.iastore, 1) := by decide +kernel
theorem dX6_start_118 : decode cX6_start 118 = .ok (.aload_n 0, 1) := by decide +kernel
theorem dX6_start_119 : decode cX6_start 119 = .ok (.iload 4, 2) := by decide +kernel
theorem dX6_start_121 : decode cX6_start 121 = .ok (.iload_n 2, 1) := by decide +kernel
theorem dX6_start_122 : decode cX6_start 122 = .ok (.iload 5, 2) := by decide +kernel
theorem dX6_start_124 : decode cX6_start 124 = .ok (.invokevirtual 127, 3) := by decide +kernel
theorem dX6_start_127 : decode cX6_start 127 = .ok (.aload_n 0, 1) := by decide +kernel
theorem dX6_start_128 : decode cX6_start 128 = .ok (.getfield 32, 3) := by decide +kernel
theorem dX6_start_131 : decode cX6_start 131 = .ok (.iload 4, 2) := by decide +kernel
theorem dX6_start_133 : decode cX6_start 133 = .ok (.iconst 1, 1) := by decide +kernel
theorem dX6_start_134 : decode cX6_start 134 = .ok (.bastore, 1) := by decide +kernel
theorem dX6_start_135 : decode cX6_start 135 = .ok (.aload_n 0, 1) := by decide +kernel
theorem dX6_start_136 : decode cX6_start 136 = .ok (.getfield 29, 3) := by decide +kernel
theorem dX6_start_139 : decode cX6_start 139 = .ok (.iload 4, 2) := by decide +kernel
theorem dX6_start_141 : decode cX6_start 141 = .ok (.iconst 1, 1) := by decide +kernel
theorem dX6_start_142 : decode cX6_start 142 = .ok (.iastore, 1) := by decide +kernel
theorem dX6_start_143 : decode cX6_start 143 = .ok (.aload_n 0, 1) := by decide +kernel
theorem dX6_start_144 : decode cX6_start 144 = .ok (.getfield 54, 3) := by decide +kernel
theorem dX6_start_147 : decode cX6_start 147 = .ok (.iload_n 1, 1) := by decide +kernel
theorem dX6_start_148 : decode cX6_start 148 = .ok (.iload 4, 2) := by decide +kernel
theorem dX6_start_150 : decode cX6_start 150 = .ok (.iastore, 1) := by decide +kernel
theorem dX6_start_151 : decode cX6_start 151 = .ok (.aload_n 0, 1) := by decide +kernel
theorem dX6_start_152 : decode cX6_start 152 = .ok (.getfield 35, 3) := by decide +kernel
theorem dX6_start_155 : decode cX6_start 155 = .ok (.iload_n 1, 1) := by decide +kernel
theorem dX6_start_156 : decode cX6_start 156 = .ok (.iconst 1, 1) := by decide +kernel
theorem dX6_start_157 : decode cX6_start 157 = .ok (.iastore, 1) := by decide +kernel
theorem dX6_start_158 : decode cX6_start 158 = .ok (.return_, 1) := by decide +kernel
theorem dX6_unpin_0 : decode cX6_unpin 0 = .ok (.aload_n 0, 1) := by decide +kernel
theorem dX6_unpin_1 : decode cX6_unpin 1 = .ok (.getfield 29, 3) := by decide +kernel
theorem dX6_unpin_4 : decode cX6_unpin 4 = .ok (.aload_n 0, 1) := by decide +kernel
theorem dX6_unpin_5 : decode cX6_unpin 5 = .ok (.getfield 41, 3) := by decide +kernel
theorem dX6_unpin_8 : decode cX6_unpin 8 = .ok (.iload_n 1, 1) := by decide +kernel
theorem dX6_unpin_9 : decode cX6_unpin 9 = .ok (.iaload, 1) := by decide +kernel
theorem dX6_unpin_10 : decode cX6_unpin 10 = .ok (.dup2, 1) := by decide +kernel
theorem dX6_unpin_11 : decode cX6_unpin 11 = .ok (.iaload, 1) := by decide +kernel
theorem dX6_unpin_12 : decode cX6_unpin 12 = .ok (.iconst 1, 1) := by decide +kernel
theorem dX6_unpin_13 : decode cX6_unpin 13 = .ok (.isub, 1) := by decide +kernel
theorem dX6_unpin_14 : decode cX6_unpin 14 = .ok (.iastore, 1) := by decide +kernel
theorem dX6_unpin_15 : decode cX6_unpin 15 = .ok (.aload_n 0, 1) := by decide +kernel
theorem dX6_unpin_16 : decode cX6_unpin 16 = .ok (.getfield 29, 3) := by decide +kernel
theorem dX6_unpin_19 : decode cX6_unpin 19 = .ok (.aload_n 0, 1) := by decide +kernel
theorem dX6_unpin_20 : decode cX6_unpin 20 = .ok (.getfield 44, 3) := by decide +kernel
theorem dX6_unpin_23 : decode cX6_unpin 23 = .ok (.iload_n 1, 1) := by decide +kernel
theorem dX6_unpin_24 : decode cX6_unpin 24 = .ok (.iaload, 1) := by decide +kernel
theorem dX6_unpin_25 : decode cX6_unpin 25 = .ok (.dup2, 1) := by decide +kernel
theorem dX6_unpin_26 : decode cX6_unpin 26 = .ok (.iaload, 1) := by decide +kernel
theorem dX6_unpin_27 : decode cX6_unpin 27 = .ok (.iconst 1, 1) := by decide +kernel
theorem dX6_unpin_28 : decode cX6_unpin 28 = .ok (.isub, 1) := by decide +kernel
theorem dX6_unpin_29 : decode cX6_unpin 29 = .ok (.iastore, 1) := by decide +kernel
theorem dX6_unpin_30 : decode cX6_unpin 30 = .ok (.aload_n 0, 1) := by decide +kernel
theorem dX6_unpin_31 : decode cX6_unpin 31 = .ok (.getfield 47, 3) := by decide +kernel
theorem dX6_unpin_34 : decode cX6_unpin 34 = .ok (.iload_n 1, 1) := by decide +kernel
theorem dX6_unpin_35 : decode cX6_unpin 35 = .ok (.iaload, 1) := by decide +kernel
theorem dX6_unpin_36 : decode cX6_unpin 36 = .ok (.ifCond .lt 18, 3) := by decide +kernel
theorem dX6_unpin_39 : decode cX6_unpin 39 = .ok (.aload_n 0, 1) := by decide +kernel
theorem dX6_unpin_40 : decode cX6_unpin 40 = .ok (.getfield 29, 3) := by decide +kernel
theorem dX6_unpin_43 : decode cX6_unpin 43 = .ok (.aload_n 0, 1) := by decide +kernel
theorem dX6_unpin_44 : decode cX6_unpin 44 = .ok (.getfield 47, 3) := by decide +kernel
theorem dX6_unpin_47 : decode cX6_unpin 47 = .ok (.iload_n 1, 1) := by decide +kernel
theorem dX6_unpin_48 : decode cX6_unpin 48 = .ok (.iaload, 1) := by decide +kernel
theorem dX6_unpin_49 : decode cX6_unpin 49 = .ok (.dup2, 1) := by decide +kernel
theorem dX6_unpin_50 : decode cX6_unpin 50 = .ok (.iaload, 1) := by decide +kernel
theorem dX6_unpin_51 : decode cX6_unpin 51 = .ok (.iconst 1, 1) := by decide +kernel
theorem dX6_unpin_52 : decode cX6_unpin 52 = .ok (.isub, 1) := by decide +kernel
theorem dX6_unpin_53 : decode cX6_unpin 53 = .ok (.iastore, 1) := by decide +kernel
theorem dX6_unpin_54 : decode cX6_unpin 54 = .ok (.return_, 1) := by decide +kernel
theorem dX6_leave_0 : decode cX6_leave 0 = .ok (.iconst 0, 1) := by decide +kernel
theorem dX6_leave_1 : decode cX6_leave 1 = .ok (.istore_n 2, 1) := by decide +kernel
theorem dX6_leave_2 : decode cX6_leave 2 = .ok (.iconst 0, 1) := by decide +kernel
theorem dX6_leave_3 : decode cX6_leave 3 = .ok (.istore_n 3, 1) := by decide +kernel
theorem dX6_leave_4 : decode cX6_leave 4 = .ok (.iload_n 3, 1) := by decide +kernel
theorem dX6_leave_5 : decode cX6_leave 5 = .ok (.aload_n 0, 1) := by decide +kernel
theorem dX6_leave_6 : decode cX6_leave 6 = .ok (.getfield 101, 3) := by decide +kernel
theorem dX6_leave_9 : decode cX6_leave 9 = .ok (.if_icmp .ge 34, 3) := by decide +kernel
theorem dX6_leave_12 : decode cX6_leave 12 = .ok (.aload_n 0, 1) := by decide +kernel
theorem dX6_leave_13 : decode cX6_leave 13 = .ok (.getfield 63, 3) := by decide +kernel
theorem dX6_leave_16 : decode cX6_leave 16 = .ok (.iload_n 3, 1) := by decide +kernel
theorem dX6_leave_17 : decode cX6_leave 17 = .ok (.iaload, 1) := by decide +kernel
theorem dX6_leave_18 : decode cX6_leave 18 = .ok (.iload_n 1, 1) := by decide +kernel
theorem dX6_leave_19 : decode cX6_leave 19 = .ok (.if_icmp .eq 18, 3) := by decide +kernel
theorem dX6_leave_22 : decode cX6_leave 22 = .ok (.aload_n 0, 1) := by decide +kernel
theorem dX6_leave_23 : decode cX6_leave 23 = .ok (.getfield 63, 3) := by decide +kernel
theorem dX6_leave_26 : decode cX6_leave 26 = .ok (.iload_n 2, 1) := by decide +kernel
theorem dX6_leave_27 : decode cX6_leave 27 = .ok (.aload_n 0, 1) := by decide +kernel
theorem dX6_leave_28 : decode cX6_leave 28 = .ok (.getfield 63, 3) := by decide +kernel
theorem dX6_leave_31 : decode cX6_leave 31 = .ok (.iload_n 3, 1) := by decide +kernel
theorem dX6_leave_32 : decode cX6_leave 32 = .ok (.iaload, 1) := by decide +kernel
theorem dX6_leave_33 : decode cX6_leave 33 = .ok (.iastore, 1) := by decide +kernel
theorem dX6_leave_34 : decode cX6_leave 34 = .ok (.iinc 2 1, 3) := by decide +kernel
theorem dX6_leave_37 : decode cX6_leave 37 = .ok (.iinc 3 1, 3) := by decide +kernel
theorem dX6_leave_40 : decode cX6_leave 40 = .ok (.goto (-36), 3) := by decide +kernel
theorem dX6_leave_43 : decode cX6_leave 43 = .ok (.aload_n 0, 1) := by decide +kernel
theorem dX6_leave_44 : decode cX6_leave 44 = .ok (.iload_n 2, 1) := by decide +kernel
theorem dX6_leave_45 : decode cX6_leave 45 = .ok (.putfield 101, 3) := by decide +kernel
theorem dX6_leave_48 : decode cX6_leave 48 = .ok (.aload_n 0, 1) := by decide +kernel
theorem dX6_leave_49 : decode cX6_leave 49 = .ok (.iload_n 1, 1) := by decide +kernel
theorem dX6_leave_50 : decode cX6_leave 50 = .ok (.invokevirtual 159, 3) := by decide +kernel
theorem dX6_leave_53 : decode cX6_leave 53 = .ok (.aload_n 0, 1) := by decide +kernel
theorem dX6_leave_54 : decode cX6_leave 54 = .ok (.getfield 60, 3) := by decide +kernel
theorem dX6_leave_57 : decode cX6_leave 57 = .ok (.iload_n 1, 1) := by decide +kernel
theorem dX6_leave_58 : decode cX6_leave 58 = .ok (.iaload, 1) := by decide +kernel
theorem dX6_leave_59 : decode cX6_leave 59 = .ok (.ifCond .lt 26, 3) := by decide +kernel
theorem dX6_leave_62 : decode cX6_leave 62 = .ok (.aload_n 0, 1) := by decide +kernel
theorem dX6_leave_63 : decode cX6_leave 63 = .ok (.aload_n 0, 1) := by decide +kernel
theorem dX6_leave_64 : decode cX6_leave 64 = .ok (.getfield 57, 3) := by decide +kernel
theorem dX6_leave_67 : decode cX6_leave 67 = .ok (.iload_n 1, 1) := by decide +kernel
theorem dX6_leave_68 : decode cX6_leave 68 = .ok (.iaload, 1) := by decide +kernel
theorem dX6_leave_69 : decode cX6_leave 69 = .ok (.aload_n 0, 1) := by decide +kernel
theorem dX6_leave_70 : decode cX6_leave 70 = .ok (.getfield 60, 3) := by decide +kernel
theorem dX6_leave_73 : decode cX6_leave 73 = .ok (.iload_n 1, 1) := by decide +kernel
theorem dX6_leave_74 : decode cX6_leave 74 = .ok (.iaload, 1) := by decide +kernel
theorem dX6_leave_75 : decode cX6_leave 75 = .ok (.invokevirtual 135, 3) := by decide +kernel
theorem dX6_leave_78 : decode cX6_leave 78 = .ok (.aload_n 0, 1) := by decide +kernel
theorem dX6_leave_79 : decode cX6_leave 79 = .ok (.getfield 60, 3) := by decide +kernel
theorem dX6_leave_82 : decode cX6_leave 82 = .ok (.iload_n 1, 1) := by decide +kernel
theorem dX6_leave_83 : decode cX6_leave 83 = .ok (.iconst (-1), 1) := by decide +kernel
theorem dX6_leave_84 : decode cX6_leave 84 = .ok (.iastore, 1) := by decide +kernel
theorem dX6_leave_85 : decode cX6_leave 85 = .ok (.return_, 1) := by decide +kernel
theorem dX6_tick_0 : decode cX6_tick 0 = .ok (.aload_n 0, 1) := by decide +kernel
theorem dX6_tick_1 : decode cX6_tick 1 = .ok (.getfield 101, 3) := by decide +kernel
theorem dX6_tick_4 : decode cX6_tick 4 = .ok (.ifCond .ne 5, 3) := by decide +kernel
theorem dX6_tick_7 : decode cX6_tick 7 = .ok (.iconst (-1), 1) := by decide +kernel
theorem dX6_tick_8 : decode cX6_tick 8 = .ok (.ireturn, 1) := by decide +kernel
theorem dX6_tick_9 : decode cX6_tick 9 = .ok (.aload_n 0, 1) := by decide +kernel
theorem dX6_tick_10 : decode cX6_tick 10 = .ok (.getfield 63, 3) := by decide +kernel
theorem dX6_tick_13 : decode cX6_tick 13 = .ok (.iconst 0, 1) := by decide +kernel
theorem dX6_tick_14 : decode cX6_tick 14 = .ok (.iaload, 1) := by decide +kernel
theorem dX6_tick_15 : decode cX6_tick 15 = .ok (.istore_n 1, 1) := by decide +kernel
theorem dX6_tick_16 : decode cX6_tick 16 = .ok (.aload_n 0, 1) := by decide +kernel
theorem dX6_tick_17 : decode cX6_tick 17 = .ok (.dup, 1) := by decide +kernel
theorem dX6_tick_18 : decode cX6_tick 18 = .ok (.getfield 104, 3) := by decide +kernel
theorem dX6_tick_21 : decode cX6_tick 21 = .ok (.iconst 1, 1) := by decide +kernel
theorem dX6_tick_22 : decode cX6_tick 22 = .ok (.iadd, 1) := by decide +kernel
theorem dX6_tick_23 : decode cX6_tick 23 = .ok (.putfield 104, 3) := by decide +kernel
theorem dX6_tick_26 : decode cX6_tick 26 = .ok (.aload_n 0, 1) := by decide +kernel
theorem dX6_tick_27 : decode cX6_tick 27 = .ok (.getfield 35, 3) := by decide +kernel
theorem dX6_tick_30 : decode cX6_tick 30 = .ok (.iload_n 1, 1) := by decide +kernel
theorem dX6_tick_31 : decode cX6_tick 31 = .ok (.iaload, 1) := by decide +kernel
theorem dX6_tick_32 : decode cX6_tick 32 = .ok (.ifCond .ne 11, 3) := by decide +kernel
theorem dX6_tick_35 : decode cX6_tick 35 = .ok (.aload_n 0, 1) := by decide +kernel
theorem dX6_tick_36 : decode cX6_tick 36 = .ok (.iload_n 1, 1) := by decide +kernel
theorem dX6_tick_37 : decode cX6_tick 37 = .ok (.invokevirtual 162, 3) := by decide +kernel
theorem dX6_tick_40 : decode cX6_tick 40 = .ok (.goto 75, 3) := by decide +kernel
theorem dX6_tick_43 : decode cX6_tick 43 = .ok (.aload_n 0, 1) := by decide +kernel
theorem dX6_tick_44 : decode cX6_tick 44 = .ok (.getfield 50, 3) := by decide +kernel
theorem dX6_tick_47 : decode cX6_tick 47 = .ok (.iload_n 1, 1) := by decide +kernel
theorem dX6_tick_48 : decode cX6_tick 48 = .ok (.dup2, 1) := by decide +kernel
theorem dX6_tick_49 : decode cX6_tick 49 = .ok (.laload, 1) := by decide +kernel
theorem dX6_tick_50 : decode cX6_tick 50 = .ok (.aload_n 0, 1) := by decide +kernel
theorem dX6_tick_51 : decode cX6_tick 51 = .ok (.getfield 95, 3) := by decide +kernel
theorem dX6_tick_54 : decode cX6_tick 54 = .ok (.i2l, 1) := by decide +kernel
theorem dX6_tick_55 : decode cX6_tick 55 = .ok (.lsub, 1) := by decide +kernel
theorem dX6_tick_56 : decode cX6_tick 56 = .ok (.lastore, 1) := by decide +kernel
theorem dX6_tick_57 : decode cX6_tick 57 = .ok (.aload_n 0, 1) := by decide +kernel
theorem dX6_tick_58 : decode cX6_tick 58 = .ok (.getfield 50, 3) := by decide +kernel
theorem dX6_tick_61 : decode cX6_tick 61 = .ok (.iload_n 1, 1) := by decide +kernel
theorem dX6_tick_62 : decode cX6_tick 62 = .ok (.laload, 1) := by decide +kernel
theorem dX6_tick_63 : decode cX6_tick 63 = .ok (.lconst 0, 1) := by decide +kernel
theorem dX6_tick_64 : decode cX6_tick 64 = .ok (.lcmp, 1) := by decide +kernel
theorem dX6_tick_65 : decode cX6_tick 65 = .ok (.ifCond .gt 50, 3) := by decide +kernel
theorem dX6_tick_68 : decode cX6_tick 68 = .ok (.aload_n 0, 1) := by decide +kernel
theorem dX6_tick_69 : decode cX6_tick 69 = .ok (.iload_n 1, 1) := by decide +kernel
theorem dX6_tick_70 : decode cX6_tick 70 = .ok (.invokevirtual 165, 3) := by decide +kernel
theorem dX6_tick_73 : decode cX6_tick 73 = .ok (.aload_n 0, 1) := by decide +kernel
theorem dX6_tick_74 : decode cX6_tick 74 = .ok (.getfield 54, 3) := by decide +kernel
theorem dX6_tick_77 : decode cX6_tick 77 = .ok (.iload_n 1, 1) := by decide +kernel
theorem dX6_tick_78 : decode cX6_tick 78 = .ok (.iaload, 1) := by decide +kernel
theorem dX6_tick_79 : decode cX6_tick 79 = .ok (.istore_n 2, 1) := by decide +kernel
theorem dX6_tick_80 : decode cX6_tick 80 = .ok (.aload_n 0, 1) := by decide +kernel
theorem dX6_tick_81 : decode cX6_tick 81 = .ok (.getfield 32, 3) := by decide +kernel
theorem dX6_tick_84 : decode cX6_tick 84 = .ok (.iload_n 2, 1) := by decide +kernel
theorem dX6_tick_85 : decode cX6_tick 85 = .ok (.iconst 0, 1) := by decide +kernel
theorem dX6_tick_86 : decode cX6_tick 86 = .ok (.bastore, 1) := by decide +kernel
theorem dX6_tick_87 : decode cX6_tick 87 = .ok (.aload_n 0, 1) := by decide +kernel
theorem dX6_tick_88 : decode cX6_tick 88 = .ok (.getfield 29, 3) := by decide +kernel
theorem dX6_tick_91 : decode cX6_tick 91 = .ok (.iload_n 2, 1) := by decide +kernel
theorem dX6_tick_92 : decode cX6_tick 92 = .ok (.iconst 0, 1) := by decide +kernel
theorem dX6_tick_93 : decode cX6_tick 93 = .ok (.iastore, 1) := by decide +kernel
theorem dX6_tick_94 : decode cX6_tick 94 = .ok (.aload_n 0, 1) := by decide +kernel
theorem dX6_tick_95 : decode cX6_tick 95 = .ok (.getfield 50, 3) := by decide +kernel
theorem dX6_tick_98 : decode cX6_tick 98 = .ok (.iload_n 1, 1) := by decide +kernel
theorem dX6_tick_99 : decode cX6_tick 99 = .ok (.lconst 0, 1) := by decide +kernel
theorem dX6_tick_100 : decode cX6_tick 100 = .ok (.lastore, 1) := by decide +kernel
theorem dX6_tick_101 : decode cX6_tick 101 = .ok (.aload_n 0, 1) := by decide +kernel
theorem dX6_tick_102 : decode cX6_tick 102 = .ok (.getfield 35, 3) := by decide +kernel
theorem dX6_tick_105 : decode cX6_tick 105 = .ok (.iload_n 1, 1) := by decide +kernel
theorem dX6_tick_106 : decode cX6_tick 106 = .ok (.iconst 2, 1) := by decide +kernel
theorem dX6_tick_107 : decode cX6_tick 107 = .ok (.iastore, 1) := by decide +kernel
theorem dX6_tick_108 : decode cX6_tick 108 = .ok (.aload_n 0, 1) := by decide +kernel
theorem dX6_tick_109 : decode cX6_tick 109 = .ok (.iload_n 1, 1) := by decide +kernel
theorem dX6_tick_110 : decode cX6_tick 110 = .ok (.invokevirtual 168, 3) := by decide +kernel
theorem dX6_tick_113 : decode cX6_tick 113 = .ok (.iload_n 1, 1) := by decide +kernel
theorem dX6_tick_114 : decode cX6_tick 114 = .ok (.ireturn, 1) := by decide +kernel
theorem dX6_tick_115 : decode cX6_tick 115 = .ok (.iconst 1, 1) := by decide +kernel
theorem dX6_tick_116 : decode cX6_tick 116 = .ok (.istore_n 2, 1) := by decide +kernel
theorem dX6_tick_117 : decode cX6_tick 117 = .ok (.iload_n 2, 1) := by decide +kernel
theorem dX6_tick_118 : decode cX6_tick 118 = .ok (.aload_n 0, 1) := by decide +kernel
theorem dX6_tick_119 : decode cX6_tick 119 = .ok (.getfield 101, 3) := by decide +kernel
theorem dX6_tick_122 : decode cX6_tick 122 = .ok (.if_icmp .ge 23, 3) := by decide +kernel
theorem dX6_tick_125 : decode cX6_tick 125 = .ok (.aload_n 0, 1) := by decide +kernel
theorem dX6_tick_126 : decode cX6_tick 126 = .ok (.getfield 63, 3) := by decide +kernel
theorem dX6_tick_129 : decode cX6_tick 129 = .ok (.iload_n 2, 1) := by decide +kernel
theorem dX6_tick_130 : decode cX6_tick 130 = .ok (.iconst 1, 1) := by decide +kernel
theorem dX6_tick_131 : decode cX6_tick 131 = .ok (.isub, 1) := by decide +kernel
theorem dX6_tick_132 : decode cX6_tick 132 = .ok (.aload_n 0, 1) := by decide +kernel
theorem dX6_tick_133 : decode cX6_tick 133 = .ok (.getfield 63, 3) := by decide +kernel
theorem dX6_tick_136 : decode cX6_tick 136 = .ok (.iload_n 2, 1) := by decide +kernel
theorem dX6_tick_137 : decode cX6_tick 137 = .ok (.iaload, 1) := by decide +kernel
theorem dX6_tick_138 : decode cX6_tick 138 = .ok (.iastore, 1) := by decide +kernel
theorem dX6_tick_139 : decode cX6_tick 139 = .ok (.iinc 2 1, 3) := by decide +kernel
theorem dX6_tick_142 : decode cX6_tick 142 = .ok (.goto (-25), 3) := by decide +kernel
theorem dX6_tick_145 : decode cX6_tick 145 = .ok (.aload_n 0, 1) := by decide +kernel
theorem dX6_tick_146 : decode cX6_tick 146 = .ok (.getfield 63, 3) := by decide +kernel
theorem dX6_tick_149 : decode cX6_tick 149 = .ok (.aload_n 0, 1) := by decide +kernel
theorem dX6_tick_150 : decode cX6_tick 150 = .ok (.getfield 101, 3) := by decide +kernel
theorem dX6_tick_153 : decode cX6_tick 153 = .ok (.iconst 1, 1) := by decide +kernel
theorem dX6_tick_154 : decode cX6_tick 154 = .ok (.isub, 1) := by decide +kernel
theorem dX6_tick_155 : decode cX6_tick 155 = .ok (.iload_n 1, 1) := by decide +kernel
theorem dX6_tick_156 : decode cX6_tick 156 = .ok (.iastore, 1) := by decide +kernel
theorem dX6_tick_157 : decode cX6_tick 157 = .ok (.iload_n 1, 1) := by decide +kernel
theorem dX6_tick_158 : decode cX6_tick 158 = .ok (.ireturn, 1) := by decide +kernel
theorem dX6_run_0 : decode cX6_run 0 = .ok (.iload_n 1, 1) := by decide +kernel
theorem dX6_run_1 : decode cX6_run 1 = .ok (.ifCond .lt 10, 3) := by decide +kernel
theorem dX6_run_4 : decode cX6_run 4 = .ok (.iload_n 1, 1) := by decide +kernel
theorem dX6_run_5 : decode cX6_run 5 = .ok (.sipush 5000, 3) := by decide +kernel
theorem dX6_run_8 : decode cX6_run 8 = .ok (.if_icmp .le 5, 3) := by decide +kernel
theorem dX6_run_11 : decode cX6_run 11 = .ok (.iconst (-1), 1) := by decide +kernel
theorem dX6_run_12 : decode cX6_run 12 = .ok (.ireturn, 1) := by decide +kernel
theorem dX6_run_13 : decode cX6_run 13 = .ok (.iconst 0, 1) := by decide +kernel
theorem dX6_run_14 : decode cX6_run 14 = .ok (.istore_n 2, 1) := by decide +kernel
theorem dX6_run_15 : decode cX6_run 15 = .ok (.iload_n 2, 1) := by decide +kernel
theorem dX6_run_16 : decode cX6_run 16 = .ok (.iload_n 1, 1) := by decide +kernel
theorem dX6_run_17 : decode cX6_run 17 = .ok (.if_icmp .ge 21, 3) := by decide +kernel
theorem dX6_run_20 : decode cX6_run 20 = .ok (.aload_n 0, 1) := by decide +kernel
theorem dX6_run_21 : decode cX6_run 21 = .ok (.getfield 101, 3) := by decide +kernel
theorem dX6_run_24 : decode cX6_run 24 = .ok (.ifCond .le 14, 3) := by decide +kernel
theorem dX6_run_27 : decode cX6_run 27 = .ok (.aload_n 0, 1) := by decide +kernel
theorem dX6_run_28 : decode cX6_run 28 = .ok (.invokevirtual 171, 3) := by decide +kernel
theorem dX6_run_31 : decode cX6_run 31 = .ok (.istore_n 3, 1) := by decide +kernel
theorem dX6_run_32 : decode cX6_run 32 = .ok (.iinc 2 1, 3) := by decide +kernel
theorem dX6_run_35 : decode cX6_run 35 = .ok (.goto (-20), 3) := by decide +kernel
theorem dX6_run_38 : decode cX6_run 38 = .ok (.iload_n 2, 1) := by decide +kernel
theorem dX6_run_39 : decode cX6_run 39 = .ok (.ireturn, 1) := by decide +kernel
theorem dX6_isJob_0 : decode cX6_isJob 0 = .ok (.iload_n 1, 1) := by decide +kernel
theorem dX6_isJob_1 : decode cX6_isJob 1 = .ok (.ifCond .lt 24, 3) := by decide +kernel
theorem dX6_isJob_4 : decode cX6_isJob 4 = .ok (.iload_n 1, 1) := by decide +kernel
theorem dX6_isJob_5 : decode cX6_isJob 5 = .ok (.aload_n 0, 1) := by decide +kernel
theorem dX6_isJob_6 : decode cX6_isJob 6 = .ok (.getfield 89, 3) := by decide +kernel
theorem dX6_isJob_9 : decode cX6_isJob 9 = .ok (.if_icmp .ge 16, 3) := by decide +kernel
theorem dX6_isJob_12 : decode cX6_isJob 12 = .ok (.aload_n 0, 1) := by decide +kernel
theorem dX6_isJob_13 : decode cX6_isJob 13 = .ok (.getfield 35, 3) := by decide +kernel
theorem dX6_isJob_16 : decode cX6_isJob 16 = .ok (.iload_n 1, 1) := by decide +kernel
theorem dX6_isJob_17 : decode cX6_isJob 17 = .ok (.iaload, 1) := by decide +kernel
theorem dX6_isJob_18 : decode cX6_isJob 18 = .ok (.ifCond .lt 7, 3) := by decide +kernel
theorem dX6_isJob_21 : decode cX6_isJob 21 = .ok (.iconst 1, 1) := by decide +kernel
theorem dX6_isJob_22 : decode cX6_isJob 22 = .ok (.goto 4, 3) := by decide +kernel
theorem dX6_isJob_25 : decode cX6_isJob 25 = .ok (.iconst 0, 1) := by decide +kernel
theorem dX6_isJob_26 : decode cX6_isJob 26 = .ok (.ireturn, 1) := by decide +kernel
theorem dX6_jobState_0 : decode cX6_jobState 0 = .ok (.aload_n 0, 1) := by decide +kernel
theorem dX6_jobState_1 : decode cX6_jobState 1 = .ok (.iload_n 1, 1) := by decide +kernel
theorem dX6_jobState_2 : decode cX6_jobState 2 = .ok (.invokevirtual 174, 3) := by decide +kernel
theorem dX6_jobState_5 : decode cX6_jobState 5 = .ok (.ifCond .eq 12, 3) := by decide +kernel
theorem dX6_jobState_8 : decode cX6_jobState 8 = .ok (.aload_n 0, 1) := by decide +kernel
theorem dX6_jobState_9 : decode cX6_jobState 9 = .ok (.getfield 35, 3) := by decide +kernel
theorem dX6_jobState_12 : decode cX6_jobState 12 = .ok (.iload_n 1, 1) := by decide +kernel
theorem dX6_jobState_13 : decode cX6_jobState 13 = .ok (.iaload, 1) := by decide +kernel
theorem dX6_jobState_14 : decode cX6_jobState 14 = .ok (.goto 4, 3) := by decide +kernel
theorem dX6_jobState_17 : decode cX6_jobState 17 = .ok (.iconst (-1), 1) := by decide +kernel
theorem dX6_jobState_18 : decode cX6_jobState 18 = .ok (.ireturn, 1) := by decide +kernel
theorem dX6_jobResult_0 : decode cX6_jobResult 0 = .ok (.aload_n 0, 1) := by decide +kernel
theorem dX6_jobResult_1 : decode cX6_jobResult 1 = .ok (.iload_n 1, 1) := by decide +kernel
theorem dX6_jobResult_2 : decode cX6_jobResult 2 = .ok (.invokevirtual 174, 3) := by decide +kernel
theorem dX6_jobResult_5 : decode cX6_jobResult 5 = .ok (.ifCond .eq 32, 3) := by decide +kernel
theorem dX6_jobResult_8 : decode cX6_jobResult 8 = .ok (.aload_n 0, 1) := by decide +kernel
theorem dX6_jobResult_9 : decode cX6_jobResult 9 = .ok (.getfield 35, 3) := by decide +kernel
theorem dX6_jobResult_12 : decode cX6_jobResult 12 = .ok (.iload_n 1, 1) := by decide +kernel
theorem dX6_jobResult_13 : decode cX6_jobResult 13 = .ok (.iaload, 1) := by decide +kernel
theorem dX6_jobResult_14 : decode cX6_jobResult 14 = .ok (.iconst 1, 1) := by decide +kernel
theorem dX6_jobResult_15 : decode cX6_jobResult 15 = .ok (.if_icmp .eq 13, 3) := by decide +kernel
theorem dX6_jobResult_18 : decode cX6_jobResult 18 = .ok (.aload_n 0, 1) := by decide +kernel
theorem dX6_jobResult_19 : decode cX6_jobResult 19 = .ok (.getfield 35, 3) := by decide +kernel
theorem dX6_jobResult_22 : decode cX6_jobResult 22 = .ok (.iload_n 1, 1) := by decide +kernel
theorem dX6_jobResult_23 : decode cX6_jobResult 23 = .ok (.iaload, 1) := by decide +kernel
theorem dX6_jobResult_24 : decode cX6_jobResult 24 = .ok (.iconst 2, 1) := by decide +kernel
theorem dX6_jobResult_25 : decode cX6_jobResult 25 = .ok (.if_icmp .ne 12, 3) := by decide +kernel
theorem dX6_jobResult_28 : decode cX6_jobResult 28 = .ok (.aload_n 0, 1) := by decide +kernel
theorem dX6_jobResult_29 : decode cX6_jobResult 29 = .ok (.getfield 54, 3) := by decide +kernel
theorem dX6_jobResult_32 : decode cX6_jobResult 32 = .ok (.iload_n 1, 1) := by decide +kernel
theorem dX6_jobResult_33 : decode cX6_jobResult 33 = .ok (.iaload, 1) := by decide +kernel
theorem dX6_jobResult_34 : decode cX6_jobResult 34 = .ok (.goto 4, 3) := by decide +kernel
theorem dX6_jobResult_37 : decode cX6_jobResult 37 = .ok (.iconst (-1), 1) := by decide +kernel
theorem dX6_jobResult_38 : decode cX6_jobResult 38 = .ok (.ireturn, 1) := by decide +kernel
theorem dX6_workLeft_0 : decode cX6_workLeft 0 = .ok (.aload_n 0, 1) := by decide +kernel
theorem dX6_workLeft_1 : decode cX6_workLeft 1 = .ok (.iload_n 1, 1) := by decide +kernel
theorem dX6_workLeft_2 : decode cX6_workLeft 2 = .ok (.invokevirtual 174, 3) := by decide +kernel
theorem dX6_workLeft_5 : decode cX6_workLeft 5 = .ok (.ifCond .eq 26, 3) := by decide +kernel
theorem dX6_workLeft_8 : decode cX6_workLeft 8 = .ok (.aload_n 0, 1) := by decide +kernel
theorem dX6_workLeft_9 : decode cX6_workLeft 9 = .ok (.getfield 35, 3) := by decide +kernel
theorem dX6_workLeft_12 : decode cX6_workLeft 12 = .ok (.iload_n 1, 1) := by decide +kernel
theorem dX6_workLeft_13 : decode cX6_workLeft 13 = .ok (.iaload, 1) := by decide +kernel
theorem dX6_workLeft_14 : decode cX6_workLeft 14 = .ok (.iconst 1, 1) := by decide +kernel
theorem dX6_workLeft_15 : decode cX6_workLeft 15 = .ok (.if_icmp .le 7, 3) := by decide +kernel
theorem dX6_workLeft_18 : decode cX6_workLeft 18 = .ok (.lconst 0, 1) := by decide +kernel
theorem dX6_workLeft_19 : decode cX6_workLeft 19 = .ok (.goto 15, 3) := by decide +kernel
theorem dX6_workLeft_22 : decode cX6_workLeft 22 = .ok (.aload_n 0, 1) := by decide +kernel
theorem dX6_workLeft_23 : decode cX6_workLeft 23 = .ok (.getfield 50, 3) := by decide +kernel
theorem dX6_workLeft_26 : decode cX6_workLeft 26 = .ok (.iload_n 1, 1) := by decide +kernel
theorem dX6_workLeft_27 : decode cX6_workLeft 27 = .ok (.laload, 1) := by decide +kernel
theorem dX6_workLeft_28 : decode cX6_workLeft 28 = .ok (.goto 6, 3) := by decide +kernel
theorem dX6_workLeft_31 : decode cX6_workLeft 31 = .ok (.ldc2_w 177, 3) := by decide +kernel
theorem dX6_workLeft_34 : decode cX6_workLeft 34 = .ok (.lreturn, 1) := by decide +kernel
theorem dX6_cancel_0 : decode cX6_cancel 0 = .ok (.aload_n 0, 1) := by decide +kernel
theorem dX6_cancel_1 : decode cX6_cancel 1 = .ok (.iload_n 1, 1) := by decide +kernel
theorem dX6_cancel_2 : decode cX6_cancel 2 = .ok (.invokevirtual 174, 3) := by decide +kernel
theorem dX6_cancel_5 : decode cX6_cancel 5 = .ok (.ifCond .eq 13, 3) := by decide +kernel
theorem dX6_cancel_8 : decode cX6_cancel 8 = .ok (.aload_n 0, 1) := by decide +kernel
theorem dX6_cancel_9 : decode cX6_cancel 9 = .ok (.getfield 35, 3) := by decide +kernel
theorem dX6_cancel_12 : decode cX6_cancel 12 = .ok (.iload_n 1, 1) := by decide +kernel
theorem dX6_cancel_13 : decode cX6_cancel 13 = .ok (.iaload, 1) := by decide +kernel
theorem dX6_cancel_14 : decode cX6_cancel 14 = .ok (.iconst 1, 1) := by decide +kernel
theorem dX6_cancel_15 : decode cX6_cancel 15 = .ok (.if_icmp .le 5, 3) := by decide +kernel
theorem dX6_cancel_18 : decode cX6_cancel 18 = .ok (.iconst 0, 1) := by decide +kernel
theorem dX6_cancel_19 : decode cX6_cancel 19 = .ok (.ireturn, 1) := by decide +kernel
theorem dX6_cancel_20 : decode cX6_cancel 20 = .ok (.aload_n 0, 1) := by decide +kernel
theorem dX6_cancel_21 : decode cX6_cancel 21 = .ok (.iload_n 1, 1) := by decide +kernel
theorem dX6_cancel_22 : decode cX6_cancel 22 = .ok (.invokevirtual 168, 3) := by decide +kernel
theorem dX6_cancel_25 : decode cX6_cancel 25 = .ok (.aload_n 0, 1) := by decide +kernel
theorem dX6_cancel_26 : decode cX6_cancel 26 = .ok (.getfield 54, 3) := by decide +kernel
theorem dX6_cancel_29 : decode cX6_cancel 29 = .ok (.iload_n 1, 1) := by decide +kernel
theorem dX6_cancel_30 : decode cX6_cancel 30 = .ok (.iaload, 1) := by decide +kernel
theorem dX6_cancel_31 : decode cX6_cancel 31 = .ok (.istore_n 2, 1) := by decide +kernel
theorem dX6_cancel_32 : decode cX6_cancel 32 = .ok (.aload_n 0, 1) := by decide +kernel
theorem dX6_cancel_33 : decode cX6_cancel 33 = .ok (.getfield 35, 3) := by decide +kernel
theorem dX6_cancel_36 : decode cX6_cancel 36 = .ok (.iload_n 1, 1) := by decide +kernel
theorem dX6_cancel_37 : decode cX6_cancel 37 = .ok (.iconst 3, 1) := by decide +kernel
theorem dX6_cancel_38 : decode cX6_cancel 38 = .ok (.iastore, 1) := by decide +kernel
theorem dX6_cancel_39 : decode cX6_cancel 39 = .ok (.iload_n 2, 1) := by decide +kernel
theorem dX6_cancel_40 : decode cX6_cancel 40 = .ok (.ifCond .lt 15, 3) := by decide +kernel
theorem dX6_cancel_43 : decode cX6_cancel 43 = .ok (.aload_n 0, 1) := by decide +kernel
theorem dX6_cancel_44 : decode cX6_cancel 44 = .ok (.getfield 29, 3) := by decide +kernel
theorem dX6_cancel_47 : decode cX6_cancel 47 = .ok (.iload_n 2, 1) := by decide +kernel
theorem dX6_cancel_48 : decode cX6_cancel 48 = .ok (.iconst 0, 1) := by decide +kernel
theorem dX6_cancel_49 : decode cX6_cancel 49 = .ok (.iastore, 1) := by decide +kernel
theorem dX6_cancel_50 : decode cX6_cancel 50 = .ok (.aload_n 0, 1) := by decide +kernel
theorem dX6_cancel_51 : decode cX6_cancel 51 = .ok (.iload_n 2, 1) := by decide +kernel
theorem dX6_cancel_52 : decode cX6_cancel 52 = .ok (.invokevirtual 139, 3) := by decide +kernel
theorem dX6_cancel_55 : decode cX6_cancel 55 = .ok (.aload_n 0, 1) := by decide +kernel
theorem dX6_cancel_56 : decode cX6_cancel 56 = .ok (.getfield 54, 3) := by decide +kernel
theorem dX6_cancel_59 : decode cX6_cancel 59 = .ok (.iload_n 1, 1) := by decide +kernel
theorem dX6_cancel_60 : decode cX6_cancel 60 = .ok (.iconst (-1), 1) := by decide +kernel
theorem dX6_cancel_61 : decode cX6_cancel 61 = .ok (.iastore, 1) := by decide +kernel
theorem dX6_cancel_62 : decode cX6_cancel 62 = .ok (.iconst 1, 1) := by decide +kernel
theorem dX6_cancel_63 : decode cX6_cancel 63 = .ok (.ireturn, 1) := by decide +kernel
theorem dX6_forget_0 : decode cX6_forget 0 = .ok (.aload_n 0, 1) := by decide +kernel
theorem dX6_forget_1 : decode cX6_forget 1 = .ok (.iload_n 1, 1) := by decide +kernel
theorem dX6_forget_2 : decode cX6_forget 2 = .ok (.invokevirtual 174, 3) := by decide +kernel
theorem dX6_forget_5 : decode cX6_forget 5 = .ok (.ifCond .eq 13, 3) := by decide +kernel
theorem dX6_forget_8 : decode cX6_forget 8 = .ok (.aload_n 0, 1) := by decide +kernel
theorem dX6_forget_9 : decode cX6_forget 9 = .ok (.getfield 35, 3) := by decide +kernel
theorem dX6_forget_12 : decode cX6_forget 12 = .ok (.iload_n 1, 1) := by decide +kernel
theorem dX6_forget_13 : decode cX6_forget 13 = .ok (.iaload, 1) := by decide +kernel
theorem dX6_forget_14 : decode cX6_forget 14 = .ok (.iconst 2, 1) := by decide +kernel
theorem dX6_forget_15 : decode cX6_forget 15 = .ok (.if_icmp .ge 5, 3) := by decide +kernel
theorem dX6_forget_18 : decode cX6_forget 18 = .ok (.iconst 0, 1) := by decide +kernel
theorem dX6_forget_19 : decode cX6_forget 19 = .ok (.ireturn, 1) := by decide +kernel
theorem dX6_forget_20 : decode cX6_forget 20 = .ok (.aload_n 0, 1) := by decide +kernel
theorem dX6_forget_21 : decode cX6_forget 21 = .ok (.getfield 35, 3) := by decide +kernel
theorem dX6_forget_24 : decode cX6_forget 24 = .ok (.iload_n 1, 1) := by decide +kernel
theorem dX6_forget_25 : decode cX6_forget 25 = .ok (.iconst (-1), 1) := by decide +kernel
theorem dX6_forget_26 : decode cX6_forget 26 = .ok (.iastore, 1) := by decide +kernel
theorem dX6_forget_27 : decode cX6_forget 27 = .ok (.iconst 1, 1) := by decide +kernel
theorem dX6_forget_28 : decode cX6_forget 28 = .ok (.ireturn, 1) := by decide +kernel
theorem dX6_freeCells_0 : decode cX6_freeCells 0 = .ok (.iconst 0, 1) := by decide +kernel
theorem dX6_freeCells_1 : decode cX6_freeCells 1 = .ok (.istore_n 1, 1) := by decide +kernel
theorem dX6_freeCells_2 : decode cX6_freeCells 2 = .ok (.iconst 0, 1) := by decide +kernel
theorem dX6_freeCells_3 : decode cX6_freeCells 3 = .ok (.istore_n 2, 1) := by decide +kernel
theorem dX6_freeCells_4 : decode cX6_freeCells 4 = .ok (.iload_n 2, 1) := by decide +kernel
theorem dX6_freeCells_5 : decode cX6_freeCells 5 = .ok (.aload_n 0, 1) := by decide +kernel
theorem dX6_freeCells_6 : decode cX6_freeCells 6 = .ok (.invokevirtual 114, 3) := by decide +kernel
theorem dX6_freeCells_9 : decode cX6_freeCells 9 = .ok (.if_icmp .ge 33, 3) := by decide +kernel
theorem dX6_freeCells_12 : decode cX6_freeCells 12 = .ok (.iload_n 1, 1) := by decide +kernel
theorem dX6_freeCells_13 : decode cX6_freeCells 13 = .ok (.aload_n 0, 1) := by decide +kernel
theorem dX6_freeCells_14 : decode cX6_freeCells 14 = .ok (.getfield 13, 3) := by decide +kernel
theorem dX6_freeCells_17 : decode cX6_freeCells 17 = .ok (.iload_n 2, 1) := by decide +kernel
theorem dX6_freeCells_18 : decode cX6_freeCells 18 = .ok (.iaload, 1) := by decide +kernel
theorem dX6_freeCells_19 : decode cX6_freeCells 19 = .ok (.ifCond .lt 14, 3) := by decide +kernel
theorem dX6_freeCells_22 : decode cX6_freeCells 22 = .ok (.iconst 1, 1) := by decide +kernel
theorem dX6_freeCells_23 : decode cX6_freeCells 23 = .ok (.aload_n 0, 1) := by decide +kernel
theorem dX6_freeCells_24 : decode cX6_freeCells 24 = .ok (.getfield 13, 3) := by decide +kernel
theorem dX6_freeCells_27 : decode cX6_freeCells 27 = .ok (.iload_n 2, 1) := by decide +kernel
theorem dX6_freeCells_28 : decode cX6_freeCells 28 = .ok (.iaload, 1) := by decide +kernel
theorem dX6_freeCells_29 : decode cX6_freeCells 29 = .ok (.ishl, 1) := by decide +kernel
theorem dX6_freeCells_30 : decode cX6_freeCells 30 = .ok (.goto 4, 3) := by decide +kernel
theorem dX6_freeCells_33 : decode cX6_freeCells 33 = .ok (.iconst 0, 1) := by decide +kernel
theorem dX6_freeCells_34 : decode cX6_freeCells 34 = .ok (.iadd, 1) := by decide +kernel
theorem dX6_freeCells_35 : decode cX6_freeCells 35 = .ok (.istore_n 1, 1) := by decide +kernel
theorem dX6_freeCells_36 : decode cX6_freeCells 36 = .ok (.iinc 2 1, 3) := by decide +kernel
theorem dX6_freeCells_39 : decode cX6_freeCells 39 = .ok (.goto (-35), 3) := by decide +kernel
theorem dX6_freeCells_42 : decode cX6_freeCells 42 = .ok (.iload_n 1, 1) := by decide +kernel
theorem dX6_freeCells_43 : decode cX6_freeCells 43 = .ok (.ireturn, 1) := by decide +kernel
theorem dX6_freeBlock_0 : decode cX6_freeBlock 0 = .ok (.iload_n 1, 1) := by decide +kernel
theorem dX6_freeBlock_1 : decode cX6_freeBlock 1 = .ok (.ifCond .lt 16, 3) := by decide +kernel
theorem dX6_freeBlock_4 : decode cX6_freeBlock 4 = .ok (.iload_n 1, 1) := by decide +kernel
theorem dX6_freeBlock_5 : decode cX6_freeBlock 5 = .ok (.aload_n 0, 1) := by decide +kernel
theorem dX6_freeBlock_6 : decode cX6_freeBlock 6 = .ok (.getfield 85, 3) := by decide +kernel
theorem dX6_freeBlock_9 : decode cX6_freeBlock 9 = .ok (.if_icmp .gt 8, 3) := by decide +kernel
theorem dX6_freeBlock_12 : decode cX6_freeBlock 12 = .ok (.iload_n 2, 1) := by decide +kernel
theorem dX6_freeBlock_13 : decode cX6_freeBlock 13 = .ok (.iconst (-1), 1) := by decide +kernel
theorem dX6_freeBlock_14 : decode cX6_freeBlock 14 = .ok (.if_icmp .ge 5, 3) := by decide +kernel
theorem dX6_freeBlock_17 : decode cX6_freeBlock 17 = .ok (.iconst (-1), 1) := by decide +kernel
theorem dX6_freeBlock_18 : decode cX6_freeBlock 18 = .ok (.ireturn, 1) := by decide +kernel
theorem dX6_freeBlock_19 : decode cX6_freeBlock 19 = .ok (.iconst 0, 1) := by decide +kernel
theorem dX6_freeBlock_20 : decode cX6_freeBlock 20 = .ok (.istore_n 3, 1) := by decide +kernel
theorem dX6_freeBlock_21 : decode cX6_freeBlock 21 = .ok (.iconst 0, 1) := by decide +kernel
theorem dX6_freeBlock_22 : decode cX6_freeBlock 22 = .ok (.istore 4, 2) := by decide +kernel
theorem dX6_freeBlock_24 : decode cX6_freeBlock 24 = .ok (.iload 4, 2) := by decide +kernel
theorem dX6_freeBlock_26 : decode cX6_freeBlock 26 = .ok (.aload_n 0, 1) := by decide +kernel
theorem dX6_freeBlock_27 : decode cX6_freeBlock 27 = .ok (.invokevirtual 114, 3) := by decide +kernel
theorem dX6_freeBlock_30 : decode cX6_freeBlock 30 = .ok (.if_icmp .ge 31, 3) := by decide +kernel
theorem dX6_freeBlock_33 : decode cX6_freeBlock 33 = .ok (.aload_n 0, 1) := by decide +kernel
theorem dX6_freeBlock_34 : decode cX6_freeBlock 34 = .ok (.getfield 13, 3) := by decide +kernel
theorem dX6_freeBlock_37 : decode cX6_freeBlock 37 = .ok (.iload 4, 2) := by decide +kernel
theorem dX6_freeBlock_39 : decode cX6_freeBlock 39 = .ok (.iaload, 1) := by decide +kernel
theorem dX6_freeBlock_40 : decode cX6_freeBlock 40 = .ok (.iload_n 1, 1) := by decide +kernel
theorem dX6_freeBlock_41 : decode cX6_freeBlock 41 = .ok (.if_icmp .ne 14, 3) := by decide +kernel
theorem dX6_freeBlock_44 : decode cX6_freeBlock 44 = .ok (.iload_n 3, 1) := by decide +kernel
theorem dX6_freeBlock_45 : decode cX6_freeBlock 45 = .ok (.iload_n 2, 1) := by decide +kernel
theorem dX6_freeBlock_46 : decode cX6_freeBlock 46 = .ok (.if_icmp .ne 6, 3) := by decide +kernel
theorem dX6_freeBlock_49 : decode cX6_freeBlock 49 = .ok (.iload 4, 2) := by decide +kernel
theorem dX6_freeBlock_51 : decode cX6_freeBlock 51 = .ok (.ireturn, 1) := by decide +kernel
theorem dX6_freeBlock_52 : decode cX6_freeBlock 52 = .ok (.iinc 3 1, 3) := by decide +kernel
theorem dX6_freeBlock_55 : decode cX6_freeBlock 55 = .ok (.iinc 4 1, 3) := by decide +kernel
theorem dX6_freeBlock_58 : decode cX6_freeBlock 58 = .ok (.goto (-34), 3) := by decide +kernel
theorem dX6_freeBlock_61 : decode cX6_freeBlock 61 = .ok (.iload_n 2, 1) := by decide +kernel
theorem dX6_freeBlock_62 : decode cX6_freeBlock 62 = .ok (.iconst (-1), 1) := by decide +kernel
theorem dX6_freeBlock_63 : decode cX6_freeBlock 63 = .ok (.if_icmp .ne 7, 3) := by decide +kernel
theorem dX6_freeBlock_66 : decode cX6_freeBlock 66 = .ok (.iload_n 3, 1) := by decide +kernel
theorem dX6_freeBlock_67 : decode cX6_freeBlock 67 = .ok (.goto 4, 3) := by decide +kernel
theorem dX6_freeBlock_70 : decode cX6_freeBlock 70 = .ok (.iconst (-1), 1) := by decide +kernel
theorem dX6_freeBlock_71 : decode cX6_freeBlock 71 = .ok (.ireturn, 1) := by decide +kernel
theorem dX6_number_0 : decode cX6_number 0 = .ok (.aload_n 0, 1) := by decide +kernel
theorem dX6_number_1 : decode cX6_number 1 = .ok (.iload_n 1, 1) := by decide +kernel
theorem dX6_number_2 : decode cX6_number 2 = .ok (.invokevirtual 131, 3) := by decide +kernel
theorem dX6_number_5 : decode cX6_number 5 = .ok (.ifCond .eq 12, 3) := by decide +kernel
theorem dX6_number_8 : decode cX6_number 8 = .ok (.iload_n 2, 1) := by decide +kernel
theorem dX6_number_9 : decode cX6_number 9 = .ok (.ifCond .lt 8, 3) := by decide +kernel
theorem dX6_number_12 : decode cX6_number 12 = .ok (.iload_n 2, 1) := by decide +kernel
theorem dX6_number_13 : decode cX6_number 13 = .ok (.iconst 2, 1) := by decide +kernel
theorem dX6_number_14 : decode cX6_number 14 = .ok (.if_icmp .le 5, 3) := by decide +kernel
theorem dX6_number_17 : decode cX6_number 17 = .ok (.iconst (-1), 1) := by decide +kernel
theorem dX6_number_18 : decode cX6_number 18 = .ok (.ireturn, 1) := by decide +kernel
theorem dX6_number_19 : decode cX6_number 19 = .ok (.iload_n 2, 1) := by decide +kernel
theorem dX6_number_20 : decode cX6_number 20 = .ok (.ifCond .ne 12, 3) := by decide +kernel
theorem dX6_number_23 : decode cX6_number 23 = .ok (.aload_n 0, 1) := by decide +kernel
theorem dX6_number_24 : decode cX6_number 24 = .ok (.getfield 23, 3) := by decide +kernel
theorem dX6_number_27 : decode cX6_number 27 = .ok (.iload_n 1, 1) := by decide +kernel
theorem dX6_number_28 : decode cX6_number 28 = .ok (.iaload, 1) := by decide +kernel
theorem dX6_number_29 : decode cX6_number 29 = .ok (.goto 23, 3) := by decide +kernel
theorem dX6_number_32 : decode cX6_number 32 = .ok (.iload_n 2, 1) := by decide +kernel
theorem dX6_number_33 : decode cX6_number 33 = .ok (.iconst 1, 1) := by decide +kernel
theorem dX6_number_34 : decode cX6_number 34 = .ok (.if_icmp .ne 12, 3) := by decide +kernel
theorem dX6_number_37 : decode cX6_number 37 = .ok (.aload_n 0, 1) := by decide +kernel
theorem dX6_number_38 : decode cX6_number 38 = .ok (.getfield 26, 3) := by decide +kernel
theorem dX6_number_41 : decode cX6_number 41 = .ok (.iload_n 1, 1) := by decide +kernel
theorem dX6_number_42 : decode cX6_number 42 = .ok (.iaload, 1) := by decide +kernel
theorem dX6_number_43 : decode cX6_number 43 = .ok (.goto 9, 3) := by decide +kernel
theorem dX6_number_46 : decode cX6_number 46 = .ok (.aload_n 0, 1) := by decide +kernel
theorem dX6_number_47 : decode cX6_number 47 = .ok (.getfield 29, 3) := by decide +kernel
theorem dX6_number_50 : decode cX6_number 50 = .ok (.iload_n 1, 1) := by decide +kernel
theorem dX6_number_51 : decode cX6_number 51 = .ok (.iaload, 1) := by decide +kernel
theorem dX6_number_52 : decode cX6_number 52 = .ok (.ireturn, 1) := by decide +kernel
theorem dX6_count_0 : decode cX6_count 0 = .ok (.iload_n 1, 1) := by decide +kernel
theorem dX6_count_1 : decode cX6_count 1 = .ok (.tableswitch 78 0 4 #[35, 40, 45, 50, 55], 35) := by decide +kernel
theorem dX6_count_36 : decode cX6_count 36 = .ok (.aload_n 0, 1) := by decide +kernel
theorem dX6_count_37 : decode cX6_count 37 = .ok (.invokevirtual 107, 3) := by decide +kernel
theorem dX6_count_40 : decode cX6_count 40 = .ok (.ireturn, 1) := by decide +kernel
theorem dX6_count_41 : decode cX6_count 41 = .ok (.aload_n 0, 1) := by decide +kernel
theorem dX6_count_42 : decode cX6_count 42 = .ok (.invokevirtual 111, 3) := by decide +kernel
theorem dX6_count_45 : decode cX6_count 45 = .ok (.ireturn, 1) := by decide +kernel
theorem dX6_count_46 : decode cX6_count 46 = .ok (.aload_n 0, 1) := by decide +kernel
theorem dX6_count_47 : decode cX6_count 47 = .ok (.getfield 101, 3) := by decide +kernel
theorem dX6_count_50 : decode cX6_count 50 = .ok (.ireturn, 1) := by decide +kernel
theorem dX6_count_51 : decode cX6_count 51 = .ok (.aload_n 0, 1) := by decide +kernel
theorem dX6_count_52 : decode cX6_count 52 = .ok (.getfield 104, 3) := by decide +kernel
theorem dX6_count_55 : decode cX6_count 55 = .ok (.ireturn, 1) := by decide +kernel
theorem dX6_count_56 : decode cX6_count 56 = .ok (.iload_n 2, 1) := by decide +kernel
theorem dX6_count_57 : decode cX6_count 57 = .ok (.ifCond .lt 20, 3) := by decide +kernel
theorem dX6_count_60 : decode cX6_count 60 = .ok (.iload_n 2, 1) := by decide +kernel
theorem dX6_count_61 : decode cX6_count 61 = .ok (.aload_n 0, 1) := by decide +kernel
theorem dX6_count_62 : decode cX6_count 62 = .ok (.getfield 101, 3) := by decide +kernel
theorem dX6_count_65 : decode cX6_count 65 = .ok (.if_icmp .ge 12, 3) := by decide +kernel
theorem dX6_count_68 : decode cX6_count 68 = .ok (.aload_n 0, 1) := by decide +kernel
theorem dX6_count_69 : decode cX6_count 69 = .ok (.getfield 63, 3) := by decide +kernel
theorem dX6_count_72 : decode cX6_count 72 = .ok (.iload_n 2, 1) := by decide +kernel
theorem dX6_count_73 : decode cX6_count 73 = .ok (.iaload, 1) := by decide +kernel
theorem dX6_count_74 : decode cX6_count 74 = .ok (.goto 4, 3) := by decide +kernel
theorem dX6_count_77 : decode cX6_count 77 = .ok (.iconst (-1), 1) := by decide +kernel
theorem dX6_count_78 : decode cX6_count 78 = .ok (.ireturn, 1) := by decide +kernel
theorem dX6_count_79 : decode cX6_count 79 = .ok (.iconst (-1), 1) := by decide +kernel
theorem dX6_count_80 : decode cX6_count 80 = .ok (.ireturn, 1) := by decide +kernel
theorem dX6_loadU_0 : decode cX6_loadU 0 = .ok (.aload_n 0, 1) := by decide +kernel
theorem dX6_loadU_1 : decode cX6_loadU 1 = .ok (.aload_n 0, 1) := by decide +kernel
theorem dX6_loadU_2 : decode cX6_loadU 2 = .ok (.iload_n 1, 1) := by decide +kernel
theorem dX6_loadU_3 : decode cX6_loadU 3 = .ok (.invokevirtual 146, 3) := by decide +kernel
theorem dX6_loadU_6 : decode cX6_loadU 6 = .ok (.putfield 179, 3) := by decide +kernel
theorem dX6_loadU_9 : decode cX6_loadU 9 = .ok (.iconst 0, 1) := by decide +kernel
theorem dX6_loadU_10 : decode cX6_loadU 10 = .ok (.istore_n 2, 1) := by decide +kernel
theorem dX6_loadU_11 : decode cX6_loadU 11 = .ok (.iload_n 2, 1) := by decide +kernel
theorem dX6_loadU_12 : decode cX6_loadU 12 = .ok (.aload_n 0, 1) := by decide +kernel
theorem dX6_loadU_13 : decode cX6_loadU 13 = .ok (.getfield 179, 3) := by decide +kernel
theorem dX6_loadU_16 : decode cX6_loadU 16 = .ok (.if_icmp .ge 28, 3) := by decide +kernel
theorem dX6_loadU_19 : decode cX6_loadU 19 = .ok (.aload_n 0, 1) := by decide +kernel
theorem dX6_loadU_20 : decode cX6_loadU 20 = .ok (.getfield 66, 3) := by decide +kernel
theorem dX6_loadU_23 : decode cX6_loadU 23 = .ok (.iload_n 2, 1) := by decide +kernel
theorem dX6_loadU_24 : decode cX6_loadU 24 = .ok (.aload_n 0, 1) := by decide +kernel
theorem dX6_loadU_25 : decode cX6_loadU 25 = .ok (.getfield 7, 3) := by decide +kernel
theorem dX6_loadU_28 : decode cX6_loadU 28 = .ok (.aload_n 0, 1) := by decide +kernel
theorem dX6_loadU_29 : decode cX6_loadU 29 = .ok (.getfield 23, 3) := by decide +kernel
theorem dX6_loadU_32 : decode cX6_loadU 32 = .ok (.iload_n 1, 1) := by decide +kernel
theorem dX6_loadU_33 : decode cX6_loadU 33 = .ok (.iaload, 1) := by decide +kernel
theorem dX6_loadU_34 : decode cX6_loadU 34 = .ok (.iload_n 2, 1) := by decide +kernel
theorem dX6_loadU_35 : decode cX6_loadU 35 = .ok (.iadd, 1) := by decide +kernel
theorem dX6_loadU_36 : decode cX6_loadU 36 = .ok (.iaload, 1) := by decide +kernel
theorem dX6_loadU_37 : decode cX6_loadU 37 = .ok (.iastore, 1) := by decide +kernel
theorem dX6_loadU_38 : decode cX6_loadU 38 = .ok (.iinc 2 1, 3) := by decide +kernel
theorem dX6_loadU_41 : decode cX6_loadU 41 = .ok (.goto (-30), 3) := by decide +kernel
theorem dX6_loadU_44 : decode cX6_loadU 44 = .ok (.return_, 1) := by decide +kernel
theorem dX6_loadV_0 : decode cX6_loadV 0 = .ok (.aload_n 0, 1) := by decide +kernel
theorem dX6_loadV_1 : decode cX6_loadV 1 = .ok (.aload_n 0, 1) := by decide +kernel
theorem dX6_loadV_2 : decode cX6_loadV 2 = .ok (.iload_n 1, 1) := by decide +kernel
theorem dX6_loadV_3 : decode cX6_loadV 3 = .ok (.invokevirtual 146, 3) := by decide +kernel
theorem dX6_loadV_6 : decode cX6_loadV 6 = .ok (.putfield 182, 3) := by decide +kernel
theorem dX6_loadV_9 : decode cX6_loadV 9 = .ok (.iconst 0, 1) := by decide +kernel
theorem dX6_loadV_10 : decode cX6_loadV 10 = .ok (.istore_n 2, 1) := by decide +kernel
theorem dX6_loadV_11 : decode cX6_loadV 11 = .ok (.iload_n 2, 1) := by decide +kernel
theorem dX6_loadV_12 : decode cX6_loadV 12 = .ok (.aload_n 0, 1) := by decide +kernel
theorem dX6_loadV_13 : decode cX6_loadV 13 = .ok (.getfield 182, 3) := by decide +kernel
theorem dX6_loadV_16 : decode cX6_loadV 16 = .ok (.if_icmp .ge 28, 3) := by decide +kernel
theorem dX6_loadV_19 : decode cX6_loadV 19 = .ok (.aload_n 0, 1) := by decide +kernel
theorem dX6_loadV_20 : decode cX6_loadV 20 = .ok (.getfield 69, 3) := by decide +kernel
theorem dX6_loadV_23 : decode cX6_loadV 23 = .ok (.iload_n 2, 1) := by decide +kernel
theorem dX6_loadV_24 : decode cX6_loadV 24 = .ok (.aload_n 0, 1) := by decide +kernel
theorem dX6_loadV_25 : decode cX6_loadV 25 = .ok (.getfield 7, 3) := by decide +kernel
theorem dX6_loadV_28 : decode cX6_loadV 28 = .ok (.aload_n 0, 1) := by decide +kernel
theorem dX6_loadV_29 : decode cX6_loadV 29 = .ok (.getfield 23, 3) := by decide +kernel
theorem dX6_loadV_32 : decode cX6_loadV 32 = .ok (.iload_n 1, 1) := by decide +kernel
theorem dX6_loadV_33 : decode cX6_loadV 33 = .ok (.iaload, 1) := by decide +kernel
theorem dX6_loadV_34 : decode cX6_loadV 34 = .ok (.iload_n 2, 1) := by decide +kernel
theorem dX6_loadV_35 : decode cX6_loadV 35 = .ok (.iadd, 1) := by decide +kernel
theorem dX6_loadV_36 : decode cX6_loadV 36 = .ok (.iaload, 1) := by decide +kernel
theorem dX6_loadV_37 : decode cX6_loadV 37 = .ok (.iastore, 1) := by decide +kernel
theorem dX6_loadV_38 : decode cX6_loadV 38 = .ok (.iinc 2 1, 3) := by decide +kernel
theorem dX6_loadV_41 : decode cX6_loadV 41 = .ok (.goto (-30), 3) := by decide +kernel
theorem dX6_loadV_44 : decode cX6_loadV 44 = .ok (.return_, 1) := by decide +kernel
theorem dX6_shiftOfV_0 : decode cX6_shiftOfV 0 = .ok (.iconst 0, 1) := by decide +kernel
theorem dX6_shiftOfV_1 : decode cX6_shiftOfV 1 = .ok (.istore_n 1, 1) := by decide +kernel
theorem dX6_shiftOfV_2 : decode cX6_shiftOfV 2 = .ok (.aload_n 0, 1) := by decide +kernel
theorem dX6_shiftOfV_3 : decode cX6_shiftOfV 3 = .ok (.getfield 69, 3) := by decide +kernel
theorem dX6_shiftOfV_6 : decode cX6_shiftOfV 6 = .ok (.aload_n 0, 1) := by decide +kernel
theorem dX6_shiftOfV_7 : decode cX6_shiftOfV 7 = .ok (.getfield 182, 3) := by decide +kernel
theorem dX6_shiftOfV_10 : decode cX6_shiftOfV 10 = .ok (.iconst 1, 1) := by decide +kernel
theorem dX6_shiftOfV_11 : decode cX6_shiftOfV 11 = .ok (.isub, 1) := by decide +kernel
theorem dX6_shiftOfV_12 : decode cX6_shiftOfV 12 = .ok (.iaload, 1) := by decide +kernel
theorem dX6_shiftOfV_13 : decode cX6_shiftOfV 13 = .ok (.iload_n 1, 1) := by decide +kernel
theorem dX6_shiftOfV_14 : decode cX6_shiftOfV 14 = .ok (.ishl, 1) := by decide +kernel
theorem dX6_shiftOfV_15 : decode cX6_shiftOfV 15 = .ok (.ldc 185, 2) := by decide +kernel
theorem dX6_shiftOfV_17 : decode cX6_shiftOfV 17 = .ok (.iand, 1) := by decide +kernel
theorem dX6_shiftOfV_18 : decode cX6_shiftOfV 18 = .ok (.ifCond .ne 9, 3) := by decide +kernel
theorem dX6_shiftOfV_21 : decode cX6_shiftOfV 21 = .ok (.iinc 1 1, 3) := by decide +kernel
theorem dX6_shiftOfV_24 : decode cX6_shiftOfV 24 = .ok (.goto (-22), 3) := by decide +kernel
theorem dX6_shiftOfV_27 : decode cX6_shiftOfV 27 = .ok (.iload_n 1, 1) := by decide +kernel
theorem dX6_shiftOfV_28 : decode cX6_shiftOfV 28 = .ok (.ireturn, 1) := by decide +kernel
theorem dX6_divide_0 : decode cX6_divide 0 = .ok (.aload_n 0, 1) := by decide +kernel
theorem dX6_divide_1 : decode cX6_divide 1 = .ok (.getfield 179, 3) := by decide +kernel
theorem dX6_divide_4 : decode cX6_divide 4 = .ok (.aload_n 0, 1) := by decide +kernel
theorem dX6_divide_5 : decode cX6_divide 5 = .ok (.getfield 182, 3) := by decide +kernel
theorem dX6_divide_8 : decode cX6_divide 8 = .ok (.if_icmp .ge 4, 3) := by decide +kernel
theorem dX6_divide_11 : decode cX6_divide 11 = .ok (.return_, 1) := by decide +kernel
theorem dX6_divide_12 : decode cX6_divide 12 = .ok (.aload_n 0, 1) := by decide +kernel
theorem dX6_divide_13 : decode cX6_divide 13 = .ok (.invokevirtual 186, 3) := by decide +kernel
theorem dX6_divide_16 : decode cX6_divide 16 = .ok (.istore_n 1, 1) := by decide +kernel
theorem dX6_divide_17 : decode cX6_divide 17 = .ok (.aload_n 0, 1) := by decide +kernel
theorem dX6_divide_18 : decode cX6_divide 18 = .ok (.getfield 182, 3) := by decide +kernel
theorem dX6_divide_21 : decode cX6_divide 21 = .ok (.istore_n 2, 1) := by decide +kernel
theorem dX6_divide_22 : decode cX6_divide 22 = .ok (.aload_n 0, 1) := by decide +kernel
theorem dX6_divide_23 : decode cX6_divide 23 = .ok (.getfield 66, 3) := by decide +kernel
theorem dX6_divide_26 : decode cX6_divide 26 = .ok (.aload_n 0, 1) := by decide +kernel
theorem dX6_divide_27 : decode cX6_divide 27 = .ok (.getfield 179, 3) := by decide +kernel
theorem dX6_divide_30 : decode cX6_divide 30 = .ok (.iconst 0, 1) := by decide +kernel
theorem dX6_divide_31 : decode cX6_divide 31 = .ok (.iastore, 1) := by decide +kernel
theorem dX6_divide_32 : decode cX6_divide 32 = .ok (.aload_n 0, 1) := by decide +kernel
theorem dX6_divide_33 : decode cX6_divide 33 = .ok (.getfield 179, 3) := by decide +kernel
theorem dX6_divide_36 : decode cX6_divide 36 = .ok (.istore_n 3, 1) := by decide +kernel
theorem dX6_divide_37 : decode cX6_divide 37 = .ok (.iload_n 3, 1) := by decide +kernel
theorem dX6_divide_38 : decode cX6_divide 38 = .ok (.ifCond .le 51, 3) := by decide +kernel
theorem dX6_divide_41 : decode cX6_divide 41 = .ok (.aload_n 0, 1) := by decide +kernel
theorem dX6_divide_42 : decode cX6_divide 42 = .ok (.getfield 66, 3) := by decide +kernel
theorem dX6_divide_45 : decode cX6_divide 45 = .ok (.iload_n 3, 1) := by decide +kernel
theorem dX6_divide_46 : decode cX6_divide 46 = .ok (.aload_n 0, 1) := by decide +kernel
theorem dX6_divide_47 : decode cX6_divide 47 = .ok (.getfield 66, 3) := by decide +kernel
theorem dX6_divide_50 : decode cX6_divide 50 = .ok (.iload_n 3, 1) := by decide +kernel
theorem dX6_divide_51 : decode cX6_divide 51 = .ok (.iaload, 1) := by decide +kernel
theorem dX6_divide_52 : decode cX6_divide 52 = .ok (.i2l, 1) := by decide +kernel
theorem dX6_divide_53 : decode cX6_divide 53 = .ok (.iload_n 1, 1) := by decide +kernel
theorem dX6_divide_54 : decode cX6_divide 54 = .ok (.lshl, 1) := by decide +kernel
theorem dX6_divide_55 : decode cX6_divide 55 = .ok (.ldc2_w 189, 3) := by decide +kernel
theorem dX6_divide_58 : decode cX6_divide 58 = .ok (.land, 1) := by decide +kernel
theorem dX6_divide_59 : decode cX6_divide 59 = .ok (.l2i, 1) := by decide +kernel
theorem dX6_divide_60 : decode cX6_divide 60 = .ok (.iload_n 1, 1) := by decide +kernel
theorem dX6_divide_61 : decode cX6_divide 61 = .ok (.ifCond .ne 7, 3) := by decide +kernel
theorem dX6_divide_64 : decode cX6_divide 64 = .ok (.iconst 0, 1) := by decide +kernel
theorem dX6_divide_65 : decode cX6_divide 65 = .ok (.goto 16, 3) := by decide +kernel
theorem dX6_divide_68 : decode cX6_divide 68 = .ok (.aload_n 0, 1) := by decide +kernel
theorem dX6_divide_69 : decode cX6_divide 69 = .ok (.getfield 66, 3) := by decide +kernel
theorem dX6_divide_72 : decode cX6_divide 72 = .ok (.iload_n 3, 1) := by decide +kernel
theorem dX6_divide_73 : decode cX6_divide 73 = .ok (.iconst 1, 1) := by decide +kernel
theorem dX6_divide_74 : decode cX6_divide 74 = .ok (.isub, 1) := by decide +kernel
theorem dX6_divide_75 : decode cX6_divide 75 = .ok (.iaload, 1) := by decide +kernel
theorem dX6_divide_76 : decode cX6_divide 76 = .ok (.bipush 31, 2) := by decide +kernel
theorem dX6_divide_78 : decode cX6_divide 78 = .ok (.iload_n 1, 1) := by decide +kernel
theorem dX6_divide_79 : decode cX6_divide 79 = .ok (.isub, 1) := by decide +kernel
theorem dX6_divide_80 : decode cX6_divide 80 = .ok (.ishr, 1) := by decide +kernel
theorem dX6_divide_81 : decode cX6_divide 81 = .ok (.ior, 1) := by decide +kernel
theorem dX6_divide_82 : decode cX6_divide 82 = .ok (.iastore, 1) := by decide +kernel
theorem dX6_divide_83 : decode cX6_divide 83 = .ok (.iinc 3 (-1), 3) := by decide +kernel
theorem dX6_divide_86 : decode cX6_divide 86 = .ok (.goto (-49), 3) := by decide +kernel
theorem dX6_divide_89 : decode cX6_divide 89 = .ok (.aload_n 0, 1) := by decide +kernel
theorem dX6_divide_90 : decode cX6_divide 90 = .ok (.getfield 66, 3) := by decide +kernel
theorem dX6_divide_93 : decode cX6_divide 93 = .ok (.iconst 0, 1) := by decide +kernel
theorem dX6_divide_94 : decode cX6_divide 94 = .ok (.aload_n 0, 1) := by decide +kernel
theorem dX6_divide_95 : decode cX6_divide 95 = .ok (.getfield 66, 3) := by decide +kernel
theorem dX6_divide_98 : decode cX6_divide 98 = .ok (.iconst 0, 1) := by decide +kernel
theorem dX6_divide_99 : decode cX6_divide 99 = .ok (.iaload, 1) := by decide +kernel
theorem dX6_divide_100 : decode cX6_divide 100 = .ok (.i2l, 1) := by decide +kernel
theorem dX6_divide_101 : decode cX6_divide 101 = .ok (.iload_n 1, 1) := by decide +kernel
theorem dX6_divide_102 : decode cX6_divide 102 = .ok (.lshl, 1) := by decide +kernel
theorem dX6_divide_103 : decode cX6_divide 103 = .ok (.ldc2_w 189, 3) := by decide +kernel
theorem dX6_divide_106 : decode cX6_divide 106 = .ok (.land, 1) := by decide +kernel
theorem dX6_divide_107 : decode cX6_divide 107 = .ok (.l2i, 1) := by decide +kernel
theorem dX6_divide_108 : decode cX6_divide 108 = .ok (.iastore, 1) := by decide +kernel
theorem dX6_divide_109 : decode cX6_divide 109 = .ok (.iload_n 2, 1) := by decide +kernel
theorem dX6_divide_110 : decode cX6_divide 110 = .ok (.iconst 1, 1) := by decide +kernel
theorem dX6_divide_111 : decode cX6_divide 111 = .ok (.isub, 1) := by decide +kernel
theorem dX6_divide_112 : decode cX6_divide 112 = .ok (.istore_n 3, 1) := by decide +kernel
theorem dX6_divide_113 : decode cX6_divide 113 = .ok (.iload_n 3, 1) := by decide +kernel
theorem dX6_divide_114 : decode cX6_divide 114 = .ok (.ifCond .lt 55, 3) := by decide +kernel
theorem dX6_divide_117 : decode cX6_divide 117 = .ok (.aload_n 0, 1) := by decide +kernel
theorem dX6_divide_118 : decode cX6_divide 118 = .ok (.getfield 69, 3) := by decide +kernel
theorem dX6_divide_121 : decode cX6_divide 121 = .ok (.iload_n 3, 1) := by decide +kernel
theorem dX6_divide_122 : decode cX6_divide 122 = .ok (.aload_n 0, 1) := by decide +kernel
theorem dX6_divide_123 : decode cX6_divide 123 = .ok (.getfield 69, 3) := by decide +kernel
theorem dX6_divide_126 : decode cX6_divide 126 = .ok (.iload_n 3, 1) := by decide +kernel
theorem dX6_divide_127 : decode cX6_divide 127 = .ok (.iaload, 1) := by decide +kernel
theorem dX6_divide_128 : decode cX6_divide 128 = .ok (.i2l, 1) := by decide +kernel
theorem dX6_divide_129 : decode cX6_divide 129 = .ok (.iload_n 1, 1) := by decide +kernel
theorem dX6_divide_130 : decode cX6_divide 130 = .ok (.lshl, 1) := by decide +kernel
theorem dX6_divide_131 : decode cX6_divide 131 = .ok (.ldc2_w 189, 3) := by decide +kernel
theorem dX6_divide_134 : decode cX6_divide 134 = .ok (.land, 1) := by decide +kernel
theorem dX6_divide_135 : decode cX6_divide 135 = .ok (.l2i, 1) := by decide +kernel
theorem dX6_divide_136 : decode cX6_divide 136 = .ok (.iload_n 1, 1) := by decide +kernel
theorem dX6_divide_137 : decode cX6_divide 137 = .ok (.ifCond .eq 7, 3) := by decide +kernel
theorem dX6_divide_140 : decode cX6_divide 140 = .ok (.iload_n 3, 1) := by decide +kernel
theorem dX6_divide_141 : decode cX6_divide 141 = .ok (.ifCond .ne 7, 3) := by decide +kernel
theorem dX6_divide_144 : decode cX6_divide 144 = .ok (.iconst 0, 1) := by decide +kernel
theorem dX6_divide_145 : decode cX6_divide 145 = .ok (.goto 16, 3) := by decide +kernel
theorem dX6_divide_148 : decode cX6_divide 148 = .ok (.aload_n 0, 1) := by decide +kernel
theorem dX6_divide_149 : decode cX6_divide 149 = .ok (.getfield 69, 3) := by decide +kernel
theorem dX6_divide_152 : decode cX6_divide 152 = .ok (.iload_n 3, 1) := by decide +kernel
theorem dX6_divide_153 : decode cX6_divide 153 = .ok (.iconst 1, 1) := by decide +kernel
theorem dX6_divide_154 : decode cX6_divide 154 = .ok (.isub, 1) := by decide +kernel
theorem dX6_divide_155 : decode cX6_divide 155 = .ok (.iaload, 1) := by decide +kernel
theorem dX6_divide_156 : decode cX6_divide 156 = .ok (.bipush 31, 2) := by decide +kernel
theorem dX6_divide_158 : decode cX6_divide 158 = .ok (.iload_n 1, 1) := by decide +kernel
theorem dX6_divide_159 : decode cX6_divide 159 = .ok (.isub, 1) := by decide +kernel
theorem dX6_divide_160 : decode cX6_divide 160 = .ok (.ishr, 1) := by decide +kernel
theorem dX6_divide_161 : decode cX6_divide 161 = .ok (.ior, 1) := by decide +kernel
theorem dX6_divide_162 : decode cX6_divide 162 = .ok (.iastore, 1) := by decide +kernel
theorem dX6_divide_163 : decode cX6_divide 163 = .ok (.iinc 3 (-1), 3) := by decide +kernel
theorem dX6_divide_166 : decode cX6_divide 166 = .ok (.goto (-53), 3) := by decide +kernel
theorem dX6_divide_169 : decode cX6_divide 169 = .ok (.aload_n 0, 1) := by decide +kernel
theorem dX6_divide_170 : decode cX6_divide 170 = .ok (.getfield 179, 3) := by decide +kernel
theorem dX6_divide_173 : decode cX6_divide 173 = .ok (.iload_n 2, 1) := by decide +kernel
theorem dX6_divide_174 : decode cX6_divide 174 = .ok (.isub, 1) := by decide +kernel
theorem dX6_divide_175 : decode cX6_divide 175 = .ok (.istore_n 3, 1) := by decide +kernel
theorem dX6_divide_176 : decode cX6_divide 176 = .ok (.iload_n 3, 1) := by decide +kernel
theorem dX6_divide_177 : decode cX6_divide 177 = .ok (.ifCond .lt 22, 3) := by decide +kernel
theorem dX6_divide_180 : decode cX6_divide 180 = .ok (.aload_n 0, 1) := by decide +kernel
theorem dX6_divide_181 : decode cX6_divide 181 = .ok (.getfield 72, 3) := by decide +kernel
theorem dX6_divide_184 : decode cX6_divide 184 = .ok (.iload_n 3, 1) := by decide +kernel
theorem dX6_divide_185 : decode cX6_divide 185 = .ok (.aload_n 0, 1) := by decide +kernel
theorem dX6_divide_186 : decode cX6_divide 186 = .ok (.iload_n 3, 1) := by decide +kernel
theorem dX6_divide_187 : decode cX6_divide 187 = .ok (.iload_n 2, 1) := by decide +kernel
theorem dX6_divide_188 : decode cX6_divide 188 = .ok (.invokevirtual 191, 3) := by decide +kernel
theorem dX6_divide_191 : decode cX6_divide 191 = .ok (.l2i, 1) := by decide +kernel
theorem dX6_divide_192 : decode cX6_divide 192 = .ok (.iastore, 1) := by decide +kernel
theorem dX6_divide_193 : decode cX6_divide 193 = .ok (.iinc 3 (-1), 3) := by decide +kernel
theorem dX6_divide_196 : decode cX6_divide 196 = .ok (.goto (-20), 3) := by decide +kernel
theorem dX6_divide_199 : decode cX6_divide 199 = .ok (.iconst 0, 1) := by decide +kernel
theorem dX6_divide_200 : decode cX6_divide 200 = .ok (.istore_n 3, 1) := by decide +kernel
theorem dX6_divide_201 : decode cX6_divide 201 = .ok (.iload_n 3, 1) := by decide +kernel
theorem dX6_divide_202 : decode cX6_divide 202 = .ok (.iload_n 2, 1) := by decide +kernel
theorem dX6_divide_203 : decode cX6_divide 203 = .ok (.if_icmp .ge 119, 3) := by decide +kernel
theorem dX6_divide_206 : decode cX6_divide 206 = .ok (.iload_n 3, 1) := by decide +kernel
theorem dX6_divide_207 : decode cX6_divide 207 = .ok (.iconst 1, 1) := by decide +kernel
theorem dX6_divide_208 : decode cX6_divide 208 = .ok (.iadd, 1) := by decide +kernel
theorem dX6_divide_209 : decode cX6_divide 209 = .ok (.iload_n 2, 1) := by decide +kernel
theorem dX6_divide_210 : decode cX6_divide 210 = .ok (.if_icmp .ge 9, 3) := by decide +kernel
theorem dX6_divide_213 : decode cX6_divide 213 = .ok (.iload_n 3, 1) := by decide +kernel
theorem dX6_divide_214 : decode cX6_divide 214 = .ok (.iconst 1, 1) := by decide +kernel
theorem dX6_divide_215 : decode cX6_divide 215 = .ok (.iadd, 1) := by decide +kernel
theorem dX6_divide_216 : decode cX6_divide 216 = .ok (.goto 4, 3) := by decide +kernel
theorem dX6_divide_219 : decode cX6_divide 219 = .ok (.iconst (-1), 1) := by decide +kernel
theorem dX6_divide_220 : decode cX6_divide 220 = .ok (.istore 4, 2) := by decide +kernel
theorem dX6_divide_222 : decode cX6_divide 222 = .ok (.aload_n 0, 1) := by decide +kernel
theorem dX6_divide_223 : decode cX6_divide 223 = .ok (.getfield 66, 3) := by decide +kernel
theorem dX6_divide_226 : decode cX6_divide 226 = .ok (.iload_n 3, 1) := by decide +kernel
theorem dX6_divide_227 : decode cX6_divide 227 = .ok (.aload_n 0, 1) := by decide +kernel
theorem dX6_divide_228 : decode cX6_divide 228 = .ok (.getfield 66, 3) := by decide +kernel
theorem dX6_divide_231 : decode cX6_divide 231 = .ok (.iload_n 3, 1) := by decide +kernel
theorem dX6_divide_232 : decode cX6_divide 232 = .ok (.iaload, 1) := by decide +kernel
theorem dX6_divide_233 : decode cX6_divide 233 = .ok (.iload_n 1, 1) := by decide +kernel
theorem dX6_divide_234 : decode cX6_divide 234 = .ok (.ishr, 1) := by decide +kernel
theorem dX6_divide_235 : decode cX6_divide 235 = .ok (.iload_n 1, 1) := by decide +kernel
theorem dX6_divide_236 : decode cX6_divide 236 = .ok (.ifCond .eq 8, 3) := by decide +kernel
theorem dX6_divide_239 : decode cX6_divide 239 = .ok (.iload 4, 2) := by decide +kernel
theorem dX6_divide_241 : decode cX6_divide 241 = .ok (.ifCond .ge 7, 3) := by decide +kernel
theorem dX6_divide_244 : decode cX6_divide 244 = .ok (.iconst 0, 1) := by decide +kernel
theorem dX6_divide_245 : decode cX6_divide 245 = .ok (.goto 22, 3) := by decide +kernel
theorem dX6_divide_248 : decode cX6_divide 248 = .ok (.aload_n 0, 1) := by decide +kernel
theorem dX6_divide_249 : decode cX6_divide 249 = .ok (.getfield 66, 3) := by decide +kernel
theorem dX6_divide_252 : decode cX6_divide 252 = .ok (.iload_n 3, 1) := by decide +kernel
theorem dX6_divide_253 : decode cX6_divide 253 = .ok (.iconst 1, 1) := by decide +kernel
theorem dX6_divide_254 : decode cX6_divide 254 = .ok (.iadd, 1) := by decide +kernel
theorem dX6_divide_255 : decode cX6_divide 255 = .ok (.iaload, 1) := by decide +kernel
theorem dX6_divide_256 : decode cX6_divide 256 = .ok (.i2l, 1) := by decide +kernel
theorem dX6_divide_257 : decode cX6_divide 257 = .ok (.bipush 31, 2) := by decide +kernel
theorem dX6_divide_259 : decode cX6_divide 259 = .ok (.iload_n 1, 1) := by decide +kernel
theorem dX6_divide_260 : decode cX6_divide 260 = .ok (.isub, 1) := by decide +kernel
theorem dX6_divide_261 : decode cX6_divide 261 = .ok (.lshl, 1) := by decide +kernel
theorem dX6_divide_262 : decode cX6_divide 262 = .ok (.ldc2_w 189, 3) := by decide +kernel
theorem dX6_divide_265 : decode cX6_divide 265 = .ok (.land, 1) := by decide +kernel
theorem dX6_divide_266 : decode cX6_divide 266 = .ok (.l2i, 1) := by decide +kernel
theorem dX6_divide_267 : decode cX6_divide 267 = .ok (.ior, 1) := by decide +kernel
theorem dX6_divide_268 : decode cX6_divide 268 = .ok (.iastore, 1) := by decide +kernel
theorem dX6_divide_269 : decode cX6_divide 269 = .ok (.aload_n 0, 1) := by decide +kernel
theorem dX6_divide_270 : decode cX6_divide 270 = .ok (.getfield 69, 3) := by decide +kernel
theorem dX6_divide_273 : decode cX6_divide 273 = .ok (.iload_n 3, 1) := by decide +kernel
theorem dX6_divide_274 : decode cX6_divide 274 = .ok (.aload_n 0, 1) := by decide +kernel
theorem dX6_divide_275 : decode cX6_divide 275 = .ok (.getfield 69, 3) := by decide +kernel
theorem dX6_divide_278 : decode cX6_divide 278 = .ok (.iload_n 3, 1) := by decide +kernel
theorem dX6_divide_279 : decode cX6_divide 279 = .ok (.iaload, 1) := by decide +kernel
theorem dX6_divide_280 : decode cX6_divide 280 = .ok (.iload_n 1, 1) := by decide +kernel
theorem dX6_divide_281 : decode cX6_divide 281 = .ok (.ishr, 1) := by decide +kernel
theorem dX6_divide_282 : decode cX6_divide 282 = .ok (.iload_n 1, 1) := by decide +kernel
theorem dX6_divide_283 : decode cX6_divide 283 = .ok (.ifCond .eq 8, 3) := by decide +kernel
theorem dX6_divide_286 : decode cX6_divide 286 = .ok (.iload 4, 2) := by decide +kernel
theorem dX6_divide_288 : decode cX6_divide 288 = .ok (.ifCond .ge 7, 3) := by decide +kernel
theorem dX6_divide_291 : decode cX6_divide 291 = .ok (.iconst 0, 1) := by decide +kernel
theorem dX6_divide_292 : decode cX6_divide 292 = .ok (.goto 22, 3) := by decide +kernel
theorem dX6_divide_295 : decode cX6_divide 295 = .ok (.aload_n 0, 1) := by decide +kernel
theorem dX6_divide_296 : decode cX6_divide 296 = .ok (.getfield 69, 3) := by decide +kernel
theorem dX6_divide_299 : decode cX6_divide 299 = .ok (.iload_n 3, 1) := by decide +kernel
theorem dX6_divide_300 : decode cX6_divide 300 = .ok (.iconst 1, 1) := by decide +kernel
theorem dX6_divide_301 : decode cX6_divide 301 = .ok (.iadd, 1) := by decide +kernel
theorem dX6_divide_302 : decode cX6_divide 302 = .ok (.iaload, 1) := by decide +kernel
theorem dX6_divide_303 : decode cX6_divide 303 = .ok (.i2l, 1) := by decide +kernel
theorem dX6_divide_304 : decode cX6_divide 304 = .ok (.bipush 31, 2) := by decide +kernel
theorem dX6_divide_306 : decode cX6_divide 306 = .ok (.iload_n 1, 1) := by decide +kernel
theorem dX6_divide_307 : decode cX6_divide 307 = .ok (.isub, 1) := by decide +kernel
theorem dX6_divide_308 : decode cX6_divide 308 = .ok (.lshl, 1) := by decide +kernel
theorem dX6_divide_309 : decode cX6_divide 309 = .ok (.ldc2_w 189, 3) := by decide +kernel
theorem dX6_divide_312 : decode cX6_divide 312 = .ok (.land, 1) := by decide +kernel
theorem dX6_divide_313 : decode cX6_divide 313 = .ok (.l2i, 1) := by decide +kernel
theorem dX6_divide_314 : decode cX6_divide 314 = .ok (.ior, 1) := by decide +kernel
theorem dX6_divide_315 : decode cX6_divide 315 = .ok (.iastore, 1) := by decide +kernel
theorem dX6_divide_316 : decode cX6_divide 316 = .ok (.iinc 3 1, 3) := by decide +kernel
theorem dX6_divide_319 : decode cX6_divide 319 = .ok (.goto (-118), 3) := by decide +kernel
theorem dX6_divide_322 : decode cX6_divide 322 = .ok (.aload_n 0, 1) := by decide +kernel
theorem dX6_divide_323 : decode cX6_divide 323 = .ok (.iload_n 2, 1) := by decide +kernel
theorem dX6_divide_324 : decode cX6_divide 324 = .ok (.putfield 179, 3) := by decide +kernel
theorem dX6_divide_327 : decode cX6_divide 327 = .ok (.aload_n 0, 1) := by decide +kernel
theorem dX6_divide_328 : decode cX6_divide 328 = .ok (.getfield 179, 3) := by decide +kernel
theorem dX6_divide_331 : decode cX6_divide 331 = .ok (.ifCond .le 30, 3) := by decide +kernel
theorem dX6_divide_334 : decode cX6_divide 334 = .ok (.aload_n 0, 1) := by decide +kernel
theorem dX6_divide_335 : decode cX6_divide 335 = .ok (.getfield 66, 3) := by decide +kernel
theorem dX6_divide_338 : decode cX6_divide 338 = .ok (.aload_n 0, 1) := by decide +kernel
theorem dX6_divide_339 : decode cX6_divide 339 = .ok (.getfield 179, 3) := by decide +kernel
theorem dX6_divide_342 : decode cX6_divide 342 = .ok (.iconst 1, 1) := by decide +kernel
theorem dX6_divide_343 : decode cX6_divide 343 = .ok (.isub, 1) := by decide +kernel
theorem dX6_divide_344 : decode cX6_divide 344 = .ok (.iaload, 1) := by decide +kernel
theorem dX6_divide_345 : decode cX6_divide 345 = .ok (.ifCond .ne 16, 3) := by decide +kernel
theorem dX6_divide_348 : decode cX6_divide 348 = .ok (.aload_n 0, 1) := by decide +kernel
theorem dX6_divide_349 : decode cX6_divide 349 = .ok (.dup, 1) := by decide +kernel
theorem dX6_divide_350 : decode cX6_divide 350 = .ok (.getfield 179, 3) := by decide +kernel
theorem dX6_divide_353 : decode cX6_divide 353 = .ok (.iconst 1, 1) := by decide +kernel
theorem dX6_divide_354 : decode cX6_divide 354 = .ok (.isub, 1) := by decide +kernel
theorem dX6_divide_355 : decode cX6_divide 355 = .ok (.putfield 179, 3) := by decide +kernel
theorem dX6_divide_358 : decode cX6_divide 358 = .ok (.goto (-31), 3) := by decide +kernel
theorem dX6_divide_361 : decode cX6_divide 361 = .ok (.return_, 1) := by decide +kernel
theorem dX6_digit_0 : decode cX6_digit 0 = .ok (.aload_n 0, 1) := by decide +kernel
theorem dX6_digit_1 : decode cX6_digit 1 = .ok (.getfield 66, 3) := by decide +kernel
theorem dX6_digit_4 : decode cX6_digit 4 = .ok (.iload_n 1, 1) := by decide +kernel
theorem dX6_digit_5 : decode cX6_digit 5 = .ok (.iload_n 2, 1) := by decide +kernel
theorem dX6_digit_6 : decode cX6_digit 6 = .ok (.iadd, 1) := by decide +kernel
theorem dX6_digit_7 : decode cX6_digit 7 = .ok (.iaload, 1) := by decide +kernel
theorem dX6_digit_8 : decode cX6_digit 8 = .ok (.i2l, 1) := by decide +kernel
theorem dX6_digit_9 : decode cX6_digit 9 = .ok (.bipush 31, 2) := by decide +kernel
theorem dX6_digit_11 : decode cX6_digit 11 = .ok (.lshl, 1) := by decide +kernel
theorem dX6_digit_12 : decode cX6_digit 12 = .ok (.aload_n 0, 1) := by decide +kernel
theorem dX6_digit_13 : decode cX6_digit 13 = .ok (.getfield 66, 3) := by decide +kernel
theorem dX6_digit_16 : decode cX6_digit 16 = .ok (.iload_n 1, 1) := by decide +kernel
theorem dX6_digit_17 : decode cX6_digit 17 = .ok (.iload_n 2, 1) := by decide +kernel
theorem dX6_digit_18 : decode cX6_digit 18 = .ok (.iadd, 1) := by decide +kernel
theorem dX6_digit_19 : decode cX6_digit 19 = .ok (.iconst 1, 1) := by decide +kernel
theorem dX6_digit_20 : decode cX6_digit 20 = .ok (.isub, 1) := by decide +kernel
theorem dX6_digit_21 : decode cX6_digit 21 = .ok (.iaload, 1) := by decide +kernel
theorem dX6_digit_22 : decode cX6_digit 22 = .ok (.i2l, 1) := by decide +kernel
theorem dX6_digit_23 : decode cX6_digit 23 = .ok (.ladd, 1) := by decide +kernel
theorem dX6_digit_24 : decode cX6_digit 24 = .ok (.lstore_n 3, 1) := by decide +kernel
theorem dX6_digit_25 : decode cX6_digit 25 = .ok (.lload_n 3, 1) := by decide +kernel
theorem dX6_digit_26 : decode cX6_digit 26 = .ok (.aload_n 0, 1) := by decide +kernel
theorem dX6_digit_27 : decode cX6_digit 27 = .ok (.getfield 69, 3) := by decide +kernel
theorem dX6_digit_30 : decode cX6_digit 30 = .ok (.iload_n 2, 1) := by decide +kernel
theorem dX6_digit_31 : decode cX6_digit 31 = .ok (.iconst 1, 1) := by decide +kernel
theorem dX6_digit_32 : decode cX6_digit 32 = .ok (.isub, 1) := by decide +kernel
theorem dX6_digit_33 : decode cX6_digit 33 = .ok (.iaload, 1) := by decide +kernel
theorem dX6_digit_34 : decode cX6_digit 34 = .ok (.i2l, 1) := by decide +kernel
theorem dX6_digit_35 : decode cX6_digit 35 = .ok (.ldiv, 1) := by decide +kernel
theorem dX6_digit_36 : decode cX6_digit 36 = .ok (.lstore 5, 2) := by decide +kernel
theorem dX6_digit_38 : decode cX6_digit 38 = .ok (.lload_n 3, 1) := by decide +kernel
theorem dX6_digit_39 : decode cX6_digit 39 = .ok (.aload_n 0, 1) := by decide +kernel
theorem dX6_digit_40 : decode cX6_digit 40 = .ok (.getfield 69, 3) := by decide +kernel
theorem dX6_digit_43 : decode cX6_digit 43 = .ok (.iload_n 2, 1) := by decide +kernel
theorem dX6_digit_44 : decode cX6_digit 44 = .ok (.iconst 1, 1) := by decide +kernel
theorem dX6_digit_45 : decode cX6_digit 45 = .ok (.isub, 1) := by decide +kernel
theorem dX6_digit_46 : decode cX6_digit 46 = .ok (.iaload, 1) := by decide +kernel
theorem dX6_digit_47 : decode cX6_digit 47 = .ok (.i2l, 1) := by decide +kernel
theorem dX6_digit_48 : decode cX6_digit 48 = .ok (.lrem, 1) := by decide +kernel
theorem dX6_digit_49 : decode cX6_digit 49 = .ok (.lstore 7, 2) := by decide +kernel
theorem dX6_digit_51 : decode cX6_digit 51 = .ok (.iconst 1, 1) := by decide +kernel
theorem dX6_digit_52 : decode cX6_digit 52 = .ok (.istore 9, 2) := by decide +kernel
theorem dX6_digit_54 : decode cX6_digit 54 = .ok (.iload 9, 2) := by decide +kernel
theorem dX6_digit_56 : decode cX6_digit 56 = .ok (.ifCond .eq 94, 3) := by decide +kernel
theorem dX6_digit_59 : decode cX6_digit 59 = .ok (.lload 7, 2) := by decide +kernel
theorem dX6_digit_61 : decode cX6_digit 61 = .ok (.ldc2_w 195, 3) := by decide +kernel
theorem dX6_digit_64 : decode cX6_digit 64 = .ok (.lcmp, 1) := by decide +kernel
theorem dX6_digit_65 : decode cX6_digit 65 = .ok (.ifCond .ge 85, 3) := by decide +kernel
theorem dX6_digit_68 : decode cX6_digit 68 = .ok (.lload 5, 2) := by decide +kernel
theorem dX6_digit_70 : decode cX6_digit 70 = .ok (.ldc2_w 195, 3) := by decide +kernel
theorem dX6_digit_73 : decode cX6_digit 73 = .ok (.lcmp, 1) := by decide +kernel
theorem dX6_digit_74 : decode cX6_digit 74 = .ok (.ifCond .ge 41, 3) := by decide +kernel
theorem dX6_digit_77 : decode cX6_digit 77 = .ok (.iload_n 2, 1) := by decide +kernel
theorem dX6_digit_78 : decode cX6_digit 78 = .ok (.iconst 1, 1) := by decide +kernel
theorem dX6_digit_79 : decode cX6_digit 79 = .ok (.if_icmp .le 40, 3) := by decide +kernel
theorem dX6_digit_82 : decode cX6_digit 82 = .ok (.lload 5, 2) := by decide +kernel
theorem dX6_digit_84 : decode cX6_digit 84 = .ok (.aload_n 0, 1) := by decide +kernel
theorem dX6_digit_85 : decode cX6_digit 85 = .ok (.getfield 69, 3) := by decide +kernel
theorem dX6_digit_88 : decode cX6_digit 88 = .ok (.iload_n 2, 1) := by decide +kernel
theorem dX6_digit_89 : decode cX6_digit 89 = .ok (.iconst 2, 1) := by decide +kernel
theorem dX6_digit_90 : decode cX6_digit 90 = .ok (.isub, 1) := by decide +kernel
theorem dX6_digit_91 : decode cX6_digit 91 = .ok (.iaload, 1) := by decide +kernel
theorem dX6_digit_92 : decode cX6_digit 92 = .ok (.i2l, 1) := by decide +kernel
theorem dX6_digit_93 : decode cX6_digit 93 = .ok (.lmul, 1) := by decide +kernel
theorem dX6_digit_94 : decode cX6_digit 94 = .ok (.lload 7, 2) := by decide +kernel
theorem dX6_digit_96 : decode cX6_digit 96 = .ok (.bipush 31, 2) := by decide +kernel
theorem dX6_digit_98 : decode cX6_digit 98 = .ok (.lshl, 1) := by decide +kernel
theorem dX6_digit_99 : decode cX6_digit 99 = .ok (.aload_n 0, 1) := by decide +kernel
theorem dX6_digit_100 : decode cX6_digit 100 = .ok (.getfield 66, 3) := by decide +kernel
theorem dX6_digit_103 : decode cX6_digit 103 = .ok (.iload_n 1, 1) := by decide +kernel
theorem dX6_digit_104 : decode cX6_digit 104 = .ok (.iload_n 2, 1) := by decide +kernel
theorem dX6_digit_105 : decode cX6_digit 105 = .ok (.iadd, 1) := by decide +kernel
theorem dX6_digit_106 : decode cX6_digit 106 = .ok (.iconst 2, 1) := by decide +kernel
theorem dX6_digit_107 : decode cX6_digit 107 = .ok (.isub, 1) := by decide +kernel
theorem dX6_digit_108 : decode cX6_digit 108 = .ok (.iaload, 1) := by decide +kernel
theorem dX6_digit_109 : decode cX6_digit 109 = .ok (.i2l, 1) := by decide +kernel
theorem dX6_digit_110 : decode cX6_digit 110 = .ok (.ladd, 1) := by decide +kernel
theorem dX6_digit_111 : decode cX6_digit 111 = .ok (.lcmp, 1) := by decide +kernel
theorem dX6_digit_112 : decode cX6_digit 112 = .ok (.ifCond .le 7, 3) := by decide +kernel
theorem dX6_digit_115 : decode cX6_digit 115 = .ok (.iconst 1, 1) := by decide +kernel
theorem dX6_digit_116 : decode cX6_digit 116 = .ok (.goto 4, 3) := by decide +kernel
theorem dX6_digit_119 : decode cX6_digit 119 = .ok (.iconst 0, 1) := by decide +kernel
theorem dX6_digit_120 : decode cX6_digit 120 = .ok (.istore 9, 2) := by decide +kernel
theorem dX6_digit_122 : decode cX6_digit 122 = .ok (.iload 9, 2) := by decide +kernel
theorem dX6_digit_124 : decode cX6_digit 124 = .ok (.ifCond .eq (-70), 3) := by decide +kernel
theorem dX6_digit_127 : decode cX6_digit 127 = .ok (.lload 5, 2) := by decide +kernel
theorem dX6_digit_129 : decode cX6_digit 129 = .ok (.lconst 1, 1) := by decide +kernel
theorem dX6_digit_130 : decode cX6_digit 130 = .ok (.lsub, 1) := by decide +kernel
theorem dX6_digit_131 : decode cX6_digit 131 = .ok (.lstore 5, 2) := by decide +kernel
theorem dX6_digit_133 : decode cX6_digit 133 = .ok (.lload 7, 2) := by decide +kernel
theorem dX6_digit_135 : decode cX6_digit 135 = .ok (.aload_n 0, 1) := by decide +kernel
theorem dX6_digit_136 : decode cX6_digit 136 = .ok (.getfield 69, 3) := by decide +kernel
theorem dX6_digit_139 : decode cX6_digit 139 = .ok (.iload_n 2, 1) := by decide +kernel
theorem dX6_digit_140 : decode cX6_digit 140 = .ok (.iconst 1, 1) := by decide +kernel
theorem dX6_digit_141 : decode cX6_digit 141 = .ok (.isub, 1) := by decide +kernel
theorem dX6_digit_142 : decode cX6_digit 142 = .ok (.iaload, 1) := by decide +kernel
theorem dX6_digit_143 : decode cX6_digit 143 = .ok (.i2l, 1) := by decide +kernel
theorem dX6_digit_144 : decode cX6_digit 144 = .ok (.ladd, 1) := by decide +kernel
theorem dX6_digit_145 : decode cX6_digit 145 = .ok (.lstore 7, 2) := by decide +kernel
theorem dX6_digit_147 : decode cX6_digit 147 = .ok (.goto (-93), 3) := by decide +kernel
theorem dX6_digit_150 : decode cX6_digit 150 = .ok (.lconst 0, 1) := by decide +kernel
theorem dX6_digit_151 : decode cX6_digit 151 = .ok (.lstore 10, 2) := by decide +kernel
theorem dX6_digit_153 : decode cX6_digit 153 = .ok (.lconst 0, 1) := by decide +kernel
theorem dX6_digit_154 : decode cX6_digit 154 = .ok (.lstore 12, 2) := by decide +kernel
theorem dX6_digit_156 : decode cX6_digit 156 = .ok (.iconst 0, 1) := by decide +kernel
theorem dX6_digit_157 : decode cX6_digit 157 = .ok (.istore 14, 2) := by decide +kernel
theorem dX6_digit_159 : decode cX6_digit 159 = .ok (.iload 14, 2) := by decide +kernel
theorem dX6_digit_161 : decode cX6_digit 161 = .ok (.iload_n 2, 1) := by decide +kernel
theorem dX6_digit_162 : decode cX6_digit 162 = .ok (.if_icmp .ge 96, 3) := by decide +kernel
theorem dX6_digit_165 : decode cX6_digit 165 = .ok (.lload 5, 2) := by decide +kernel
theorem dX6_digit_167 : decode cX6_digit 167 = .ok (.aload_n 0, 1) := by decide +kernel
theorem dX6_digit_168 : decode cX6_digit 168 = .ok (.getfield 69, 3) := by decide +kernel
theorem dX6_digit_171 : decode cX6_digit 171 = .ok (.iload 14, 2) := by decide +kernel
theorem dX6_digit_173 : decode cX6_digit 173 = .ok (.iaload, 1) := by decide +kernel
theorem dX6_digit_174 : decode cX6_digit 174 = .ok (.i2l, 1) := by decide +kernel
theorem dX6_digit_175 : decode cX6_digit 175 = .ok (.lmul, 1) := by decide +kernel
theorem dX6_digit_176 : decode cX6_digit 176 = .ok (.lload 10, 2) := by decide +kernel
theorem dX6_digit_178 : decode cX6_digit 178 = .ok (.ladd, 1) := by decide +kernel
theorem dX6_digit_179 : decode cX6_digit 179 = .ok (.lstore 15, 2) := by decide +kernel
theorem dX6_digit_181 : decode cX6_digit 181 = .ok (.lload 15, 2) := by decide +kernel
theorem dX6_digit_183 : decode cX6_digit 183 = .ok (.bipush 31, 2) := by decide +kernel
theorem dX6_digit_185 : decode cX6_digit 185 = .ok (.lshr, 1) := by decide +kernel
theorem dX6_digit_186 : decode cX6_digit 186 = .ok (.lstore 10, 2) := by decide +kernel
theorem dX6_digit_188 : decode cX6_digit 188 = .ok (.aload_n 0, 1) := by decide +kernel
theorem dX6_digit_189 : decode cX6_digit 189 = .ok (.getfield 66, 3) := by decide +kernel
theorem dX6_digit_192 : decode cX6_digit 192 = .ok (.iload 14, 2) := by decide +kernel
theorem dX6_digit_194 : decode cX6_digit 194 = .ok (.iload_n 1, 1) := by decide +kernel
theorem dX6_digit_195 : decode cX6_digit 195 = .ok (.iadd, 1) := by decide +kernel
theorem dX6_digit_196 : decode cX6_digit 196 = .ok (.iaload, 1) := by decide +kernel
theorem dX6_digit_197 : decode cX6_digit 197 = .ok (.i2l, 1) := by decide +kernel
theorem dX6_digit_198 : decode cX6_digit 198 = .ok (.lload 15, 2) := by decide +kernel
theorem dX6_digit_200 : decode cX6_digit 200 = .ok (.ldc2_w 189, 3) := by decide +kernel
theorem dX6_digit_203 : decode cX6_digit 203 = .ok (.land, 1) := by decide +kernel
theorem dX6_digit_204 : decode cX6_digit 204 = .ok (.lsub, 1) := by decide +kernel
theorem dX6_digit_205 : decode cX6_digit 205 = .ok (.lload 12, 2) := by decide +kernel
theorem dX6_digit_207 : decode cX6_digit 207 = .ok (.lsub, 1) := by decide +kernel
theorem dX6_digit_208 : decode cX6_digit 208 = .ok (.lstore 17, 2) := by decide +kernel
theorem dX6_digit_210 : decode cX6_digit 210 = .ok (.lload 17, 2) := by decide +kernel
theorem dX6_digit_212 : decode cX6_digit 212 = .ok (.lconst 0, 1) := by decide +kernel
theorem dX6_digit_213 : decode cX6_digit 213 = .ok (.lcmp, 1) := by decide +kernel
theorem dX6_digit_214 : decode cX6_digit 214 = .ok (.ifCond .ge 7, 3) := by decide +kernel
theorem dX6_digit_217 : decode cX6_digit 217 = .ok (.lconst 1, 1) := by decide +kernel
theorem dX6_digit_218 : decode cX6_digit 218 = .ok (.goto 4, 3) := by decide +kernel
theorem dX6_digit_221 : decode cX6_digit 221 = .ok (.lconst 0, 1) := by decide +kernel
theorem dX6_digit_222 : decode cX6_digit 222 = .ok (.lstore 12, 2) := by decide +kernel
theorem dX6_digit_224 : decode cX6_digit 224 = .ok (.aload_n 0, 1) := by decide +kernel
theorem dX6_digit_225 : decode cX6_digit 225 = .ok (.getfield 66, 3) := by decide +kernel
theorem dX6_digit_228 : decode cX6_digit 228 = .ok (.iload 14, 2) := by decide +kernel
theorem dX6_digit_230 : decode cX6_digit 230 = .ok (.iload_n 1, 1) := by decide +kernel
theorem dX6_digit_231 : decode cX6_digit 231 = .ok (.iadd, 1) := by decide +kernel
theorem dX6_digit_232 : decode cX6_digit 232 = .ok (.lload 17, 2) := by decide +kernel
theorem dX6_digit_234 : decode cX6_digit 234 = .ok (.lconst 0, 1) := by decide +kernel
theorem dX6_digit_235 : decode cX6_digit 235 = .ok (.lcmp, 1) := by decide +kernel
theorem dX6_digit_236 : decode cX6_digit 236 = .ok (.ifCond .ge 12, 3) := by decide +kernel
theorem dX6_digit_239 : decode cX6_digit 239 = .ok (.lload 17, 2) := by decide +kernel
theorem dX6_digit_241 : decode cX6_digit 241 = .ok (.ldc2_w 195, 3) := by decide +kernel
theorem dX6_digit_244 : decode cX6_digit 244 = .ok (.ladd, 1) := by decide +kernel
theorem dX6_digit_245 : decode cX6_digit 245 = .ok (.goto 5, 3) := by decide +kernel
theorem dX6_digit_248 : decode cX6_digit 248 = .ok (.lload 17, 2) := by decide +kernel
theorem dX6_digit_250 : decode cX6_digit 250 = .ok (.l2i, 1) := by decide +kernel
theorem dX6_digit_251 : decode cX6_digit 251 = .ok (.iastore, 1) := by decide +kernel
theorem dX6_digit_252 : decode cX6_digit 252 = .ok (.iinc 14 1, 3) := by decide +kernel
theorem dX6_digit_255 : decode cX6_digit 255 = .ok (.goto (-96), 3) := by decide +kernel
theorem dX6_digit_258 : decode cX6_digit 258 = .ok (.aload_n 0, 1) := by decide +kernel
end
section
theorem dX6_digit_259 : decode cX6_digit 259 = .ok (.getfield 66, 3) := by decide +kernel
theorem dX6_digit_262 : decode cX6_digit 262 = .ok (.iload_n 1, 1) := by decide +kernel
theorem dX6_digit_263 : decode cX6_digit 263 = .ok (.iload_n 2, 1) := by decide +kernel
theorem dX6_digit_264 : decode cX6_digit 264 = .ok (.iadd, 1) := by decide +kernel
theorem dX6_digit_265 : decode cX6_digit 265 = .ok (.iaload, 1) := by decide +kernel
theorem dX6_digit_266 : decode cX6_digit 266 = .ok (.i2l, 1) := by decide +kernel
theorem dX6_digit_267 : decode cX6_digit 267 = .ok (.lload 10, 2) := by decide +kernel
theorem dX6_digit_269 : decode cX6_digit 269 = .ok (.lsub, 1) := by decide +kernel
theorem dX6_digit_270 : decode cX6_digit 270 = .ok (.lload 12, 2) := by decide +kernel
theorem dX6_digit_272 : decode cX6_digit 272 = .ok (.lsub, 1) := by decide +kernel
theorem dX6_digit_273 : decode cX6_digit 273 = .ok (.lstore 14, 2) := by decide +kernel
theorem dX6_digit_275 : decode cX6_digit 275 = .ok (.lload 14, 2) := by decide +kernel
theorem dX6_digit_277 : decode cX6_digit 277 = .ok (.lconst 0, 1) := by decide +kernel
theorem dX6_digit_278 : decode cX6_digit 278 = .ok (.lcmp, 1) := by decide +kernel
theorem dX6_digit_279 : decode cX6_digit 279 = .ok (.ifCond .ge 81, 3) := by decide +kernel
theorem dX6_digit_282 : decode cX6_digit 282 = .ok (.lload 5, 2) := by decide +kernel
theorem dX6_digit_284 : decode cX6_digit 284 = .ok (.lconst 1, 1) := by decide +kernel
theorem dX6_digit_285 : decode cX6_digit 285 = .ok (.lsub, 1) := by decide +kernel
theorem dX6_digit_286 : decode cX6_digit 286 = .ok (.lstore 5, 2) := by decide +kernel
theorem dX6_digit_288 : decode cX6_digit 288 = .ok (.lconst 0, 1) := by decide +kernel
theorem dX6_digit_289 : decode cX6_digit 289 = .ok (.lstore 16, 2) := by decide +kernel
theorem dX6_digit_291 : decode cX6_digit 291 = .ok (.iconst 0, 1) := by decide +kernel
theorem dX6_digit_292 : decode cX6_digit 292 = .ok (.istore 18, 2) := by decide +kernel
theorem dX6_digit_294 : decode cX6_digit 294 = .ok (.iload 18, 2) := by decide +kernel
theorem dX6_digit_296 : decode cX6_digit 296 = .ok (.iload_n 2, 1) := by decide +kernel
theorem dX6_digit_297 : decode cX6_digit 297 = .ok (.if_icmp .ge 56, 3) := by decide +kernel
theorem dX6_digit_300 : decode cX6_digit 300 = .ok (.aload_n 0, 1) := by decide +kernel
theorem dX6_digit_301 : decode cX6_digit 301 = .ok (.getfield 66, 3) := by decide +kernel
theorem dX6_digit_304 : decode cX6_digit 304 = .ok (.iload 18, 2) := by decide +kernel
theorem dX6_digit_306 : decode cX6_digit 306 = .ok (.iload_n 1, 1) := by decide +kernel
theorem dX6_digit_307 : decode cX6_digit 307 = .ok (.iadd, 1) := by decide +kernel
theorem dX6_digit_308 : decode cX6_digit 308 = .ok (.iaload, 1) := by decide +kernel
theorem dX6_digit_309 : decode cX6_digit 309 = .ok (.i2l, 1) := by decide +kernel
theorem dX6_digit_310 : decode cX6_digit 310 = .ok (.aload_n 0, 1) := by decide +kernel
theorem dX6_digit_311 : decode cX6_digit 311 = .ok (.getfield 69, 3) := by decide +kernel
theorem dX6_digit_314 : decode cX6_digit 314 = .ok (.iload 18, 2) := by decide +kernel
theorem dX6_digit_316 : decode cX6_digit 316 = .ok (.iaload, 1) := by decide +kernel
theorem dX6_digit_317 : decode cX6_digit 317 = .ok (.i2l, 1) := by decide +kernel
theorem dX6_digit_318 : decode cX6_digit 318 = .ok (.ladd, 1) := by decide +kernel
theorem dX6_digit_319 : decode cX6_digit 319 = .ok (.lload 16, 2) := by decide +kernel
theorem dX6_digit_321 : decode cX6_digit 321 = .ok (.ladd, 1) := by decide +kernel
theorem dX6_digit_322 : decode cX6_digit 322 = .ok (.lstore 19, 2) := by decide +kernel
theorem dX6_digit_324 : decode cX6_digit 324 = .ok (.lload 19, 2) := by decide +kernel
theorem dX6_digit_326 : decode cX6_digit 326 = .ok (.bipush 31, 2) := by decide +kernel
theorem dX6_digit_328 : decode cX6_digit 328 = .ok (.lshr, 1) := by decide +kernel
theorem dX6_digit_329 : decode cX6_digit 329 = .ok (.lstore 16, 2) := by decide +kernel
theorem dX6_digit_331 : decode cX6_digit 331 = .ok (.aload_n 0, 1) := by decide +kernel
theorem dX6_digit_332 : decode cX6_digit 332 = .ok (.getfield 66, 3) := by decide +kernel
theorem dX6_digit_335 : decode cX6_digit 335 = .ok (.iload 18, 2) := by decide +kernel
theorem dX6_digit_337 : decode cX6_digit 337 = .ok (.iload_n 1, 1) := by decide +kernel
theorem dX6_digit_338 : decode cX6_digit 338 = .ok (.iadd, 1) := by decide +kernel
theorem dX6_digit_339 : decode cX6_digit 339 = .ok (.lload 19, 2) := by decide +kernel
theorem dX6_digit_341 : decode cX6_digit 341 = .ok (.ldc2_w 189, 3) := by decide +kernel
theorem dX6_digit_344 : decode cX6_digit 344 = .ok (.land, 1) := by decide +kernel
theorem dX6_digit_345 : decode cX6_digit 345 = .ok (.l2i, 1) := by decide +kernel
theorem dX6_digit_346 : decode cX6_digit 346 = .ok (.iastore, 1) := by decide +kernel
theorem dX6_digit_347 : decode cX6_digit 347 = .ok (.iinc 18 1, 3) := by decide +kernel
theorem dX6_digit_350 : decode cX6_digit 350 = .ok (.goto (-56), 3) := by decide +kernel
theorem dX6_digit_353 : decode cX6_digit 353 = .ok (.lload 14, 2) := by decide +kernel
theorem dX6_digit_355 : decode cX6_digit 355 = .ok (.lload 16, 2) := by decide +kernel
theorem dX6_digit_357 : decode cX6_digit 357 = .ok (.ladd, 1) := by decide +kernel
theorem dX6_digit_358 : decode cX6_digit 358 = .ok (.lstore 14, 2) := by decide +kernel
theorem dX6_digit_360 : decode cX6_digit 360 = .ok (.aload_n 0, 1) := by decide +kernel
theorem dX6_digit_361 : decode cX6_digit 361 = .ok (.getfield 66, 3) := by decide +kernel
theorem dX6_digit_364 : decode cX6_digit 364 = .ok (.iload_n 1, 1) := by decide +kernel
theorem dX6_digit_365 : decode cX6_digit 365 = .ok (.iload_n 2, 1) := by decide +kernel
theorem dX6_digit_366 : decode cX6_digit 366 = .ok (.iadd, 1) := by decide +kernel
theorem dX6_digit_367 : decode cX6_digit 367 = .ok (.lload 14, 2) := by decide +kernel
theorem dX6_digit_369 : decode cX6_digit 369 = .ok (.l2i, 1) := by decide +kernel
theorem dX6_digit_370 : decode cX6_digit 370 = .ok (.iastore, 1) := by decide +kernel
theorem dX6_digit_371 : decode cX6_digit 371 = .ok (.lload 5, 2) := by decide +kernel
theorem dX6_digit_373 : decode cX6_digit 373 = .ok (.lreturn, 1) := by decide +kernel
theorem dX6_times_0 : decode cX6_times 0 = .ok (.iload_n 1, 1) := by decide +kernel
theorem dX6_times_1 : decode cX6_times 1 = .ok (.ifCond .eq 10, 3) := by decide +kernel
theorem dX6_times_4 : decode cX6_times 4 = .ok (.aload_n 0, 1) := by decide +kernel
theorem dX6_times_5 : decode cX6_times 5 = .ok (.getfield 197, 3) := by decide +kernel
theorem dX6_times_8 : decode cX6_times 8 = .ok (.goto 7, 3) := by decide +kernel
theorem dX6_times_11 : decode cX6_times 11 = .ok (.aload_n 0, 1) := by decide +kernel
theorem dX6_times_12 : decode cX6_times 12 = .ok (.getfield 200, 3) := by decide +kernel
theorem dX6_times_15 : decode cX6_times 15 = .ok (.istore_n 2, 1) := by decide +kernel
theorem dX6_times_16 : decode cX6_times 16 = .ok (.iconst 0, 1) := by decide +kernel
theorem dX6_times_17 : decode cX6_times 17 = .ok (.istore_n 3, 1) := by decide +kernel
theorem dX6_times_18 : decode cX6_times 18 = .ok (.iload_n 3, 1) := by decide +kernel
theorem dX6_times_19 : decode cX6_times 19 = .ok (.aload_n 0, 1) := by decide +kernel
theorem dX6_times_20 : decode cX6_times 20 = .ok (.getfield 200, 3) := by decide +kernel
theorem dX6_times_23 : decode cX6_times 23 = .ok (.iload_n 2, 1) := by decide +kernel
theorem dX6_times_24 : decode cX6_times 24 = .ok (.iadd, 1) := by decide +kernel
theorem dX6_times_25 : decode cX6_times 25 = .ok (.if_icmp .ge 16, 3) := by decide +kernel
theorem dX6_times_28 : decode cX6_times 28 = .ok (.aload_n 0, 1) := by decide +kernel
theorem dX6_times_29 : decode cX6_times 29 = .ok (.getfield 66, 3) := by decide +kernel
theorem dX6_times_32 : decode cX6_times 32 = .ok (.iload_n 3, 1) := by decide +kernel
theorem dX6_times_33 : decode cX6_times 33 = .ok (.iconst 0, 1) := by decide +kernel
theorem dX6_times_34 : decode cX6_times 34 = .ok (.iastore, 1) := by decide +kernel
theorem dX6_times_35 : decode cX6_times 35 = .ok (.iinc 3 1, 3) := by decide +kernel
theorem dX6_times_38 : decode cX6_times 38 = .ok (.goto (-20), 3) := by decide +kernel
theorem dX6_times_41 : decode cX6_times 41 = .ok (.iconst 0, 1) := by decide +kernel
theorem dX6_times_42 : decode cX6_times 42 = .ok (.istore_n 3, 1) := by decide +kernel
theorem dX6_times_43 : decode cX6_times 43 = .ok (.iload_n 3, 1) := by decide +kernel
theorem dX6_times_44 : decode cX6_times 44 = .ok (.aload_n 0, 1) := by decide +kernel
theorem dX6_times_45 : decode cX6_times 45 = .ok (.getfield 200, 3) := by decide +kernel
theorem dX6_times_48 : decode cX6_times 48 = .ok (.if_icmp .ge 107, 3) := by decide +kernel
theorem dX6_times_51 : decode cX6_times 51 = .ok (.lconst 0, 1) := by decide +kernel
theorem dX6_times_52 : decode cX6_times 52 = .ok (.lstore 4, 2) := by decide +kernel
theorem dX6_times_54 : decode cX6_times 54 = .ok (.iconst 0, 1) := by decide +kernel
theorem dX6_times_55 : decode cX6_times 55 = .ok (.istore 6, 2) := by decide +kernel
theorem dX6_times_57 : decode cX6_times 57 = .ok (.iload 6, 2) := by decide +kernel
theorem dX6_times_59 : decode cX6_times 59 = .ok (.iload_n 2, 1) := by decide +kernel
theorem dX6_times_60 : decode cX6_times 60 = .ok (.if_icmp .ge 78, 3) := by decide +kernel
theorem dX6_times_63 : decode cX6_times 63 = .ok (.aload_n 0, 1) := by decide +kernel
theorem dX6_times_64 : decode cX6_times 64 = .ok (.getfield 78, 3) := by decide +kernel
theorem dX6_times_67 : decode cX6_times 67 = .ok (.iload_n 3, 1) := by decide +kernel
theorem dX6_times_68 : decode cX6_times 68 = .ok (.iaload, 1) := by decide +kernel
theorem dX6_times_69 : decode cX6_times 69 = .ok (.i2l, 1) := by decide +kernel
theorem dX6_times_70 : decode cX6_times 70 = .ok (.iload_n 1, 1) := by decide +kernel
theorem dX6_times_71 : decode cX6_times 71 = .ok (.ifCond .eq 13, 3) := by decide +kernel
theorem dX6_times_74 : decode cX6_times 74 = .ok (.aload_n 0, 1) := by decide +kernel
theorem dX6_times_75 : decode cX6_times 75 = .ok (.getfield 75, 3) := by decide +kernel
theorem dX6_times_78 : decode cX6_times 78 = .ok (.iload 6, 2) := by decide +kernel
theorem dX6_times_80 : decode cX6_times 80 = .ok (.iaload, 1) := by decide +kernel
theorem dX6_times_81 : decode cX6_times 81 = .ok (.goto 10, 3) := by decide +kernel
theorem dX6_times_84 : decode cX6_times 84 = .ok (.aload_n 0, 1) := by decide +kernel
theorem dX6_times_85 : decode cX6_times 85 = .ok (.getfield 78, 3) := by decide +kernel
theorem dX6_times_88 : decode cX6_times 88 = .ok (.iload 6, 2) := by decide +kernel
theorem dX6_times_90 : decode cX6_times 90 = .ok (.iaload, 1) := by decide +kernel
theorem dX6_times_91 : decode cX6_times 91 = .ok (.i2l, 1) := by decide +kernel
theorem dX6_times_92 : decode cX6_times 92 = .ok (.lmul, 1) := by decide +kernel
theorem dX6_times_93 : decode cX6_times 93 = .ok (.aload_n 0, 1) := by decide +kernel
theorem dX6_times_94 : decode cX6_times 94 = .ok (.getfield 66, 3) := by decide +kernel
theorem dX6_times_97 : decode cX6_times 97 = .ok (.iload_n 3, 1) := by decide +kernel
theorem dX6_times_98 : decode cX6_times 98 = .ok (.iload 6, 2) := by decide +kernel
theorem dX6_times_100 : decode cX6_times 100 = .ok (.iadd, 1) := by decide +kernel
theorem dX6_times_101 : decode cX6_times 101 = .ok (.iaload, 1) := by decide +kernel
theorem dX6_times_102 : decode cX6_times 102 = .ok (.i2l, 1) := by decide +kernel
theorem dX6_times_103 : decode cX6_times 103 = .ok (.ladd, 1) := by decide +kernel
theorem dX6_times_104 : decode cX6_times 104 = .ok (.lload 4, 2) := by decide +kernel
theorem dX6_times_106 : decode cX6_times 106 = .ok (.ladd, 1) := by decide +kernel
theorem dX6_times_107 : decode cX6_times 107 = .ok (.lstore 7, 2) := by decide +kernel
theorem dX6_times_109 : decode cX6_times 109 = .ok (.aload_n 0, 1) := by decide +kernel
theorem dX6_times_110 : decode cX6_times 110 = .ok (.getfield 66, 3) := by decide +kernel
theorem dX6_times_113 : decode cX6_times 113 = .ok (.iload_n 3, 1) := by decide +kernel
theorem dX6_times_114 : decode cX6_times 114 = .ok (.iload 6, 2) := by decide +kernel
theorem dX6_times_116 : decode cX6_times 116 = .ok (.iadd, 1) := by decide +kernel
theorem dX6_times_117 : decode cX6_times 117 = .ok (.lload 7, 2) := by decide +kernel
theorem dX6_times_119 : decode cX6_times 119 = .ok (.ldc2_w 189, 3) := by decide +kernel
theorem dX6_times_122 : decode cX6_times 122 = .ok (.land, 1) := by decide +kernel
theorem dX6_times_123 : decode cX6_times 123 = .ok (.l2i, 1) := by decide +kernel
theorem dX6_times_124 : decode cX6_times 124 = .ok (.iastore, 1) := by decide +kernel
theorem dX6_times_125 : decode cX6_times 125 = .ok (.lload 7, 2) := by decide +kernel
theorem dX6_times_127 : decode cX6_times 127 = .ok (.bipush 31, 2) := by decide +kernel
theorem dX6_times_129 : decode cX6_times 129 = .ok (.lshr, 1) := by decide +kernel
theorem dX6_times_130 : decode cX6_times 130 = .ok (.lstore 4, 2) := by decide +kernel
theorem dX6_times_132 : decode cX6_times 132 = .ok (.iinc 6 1, 3) := by decide +kernel
theorem dX6_times_135 : decode cX6_times 135 = .ok (.goto (-78), 3) := by decide +kernel
theorem dX6_times_138 : decode cX6_times 138 = .ok (.aload_n 0, 1) := by decide +kernel
theorem dX6_times_139 : decode cX6_times 139 = .ok (.getfield 66, 3) := by decide +kernel
theorem dX6_times_142 : decode cX6_times 142 = .ok (.iload_n 3, 1) := by decide +kernel
theorem dX6_times_143 : decode cX6_times 143 = .ok (.iload_n 2, 1) := by decide +kernel
theorem dX6_times_144 : decode cX6_times 144 = .ok (.iadd, 1) := by decide +kernel
theorem dX6_times_145 : decode cX6_times 145 = .ok (.lload 4, 2) := by decide +kernel
theorem dX6_times_147 : decode cX6_times 147 = .ok (.l2i, 1) := by decide +kernel
theorem dX6_times_148 : decode cX6_times 148 = .ok (.iastore, 1) := by decide +kernel
theorem dX6_times_149 : decode cX6_times 149 = .ok (.iinc 3 1, 3) := by decide +kernel
theorem dX6_times_152 : decode cX6_times 152 = .ok (.goto (-109), 3) := by decide +kernel
theorem dX6_times_155 : decode cX6_times 155 = .ok (.aload_n 0, 1) := by decide +kernel
theorem dX6_times_156 : decode cX6_times 156 = .ok (.aload_n 0, 1) := by decide +kernel
theorem dX6_times_157 : decode cX6_times 157 = .ok (.getfield 200, 3) := by decide +kernel
theorem dX6_times_160 : decode cX6_times 160 = .ok (.iload_n 2, 1) := by decide +kernel
theorem dX6_times_161 : decode cX6_times 161 = .ok (.iadd, 1) := by decide +kernel
theorem dX6_times_162 : decode cX6_times 162 = .ok (.putfield 179, 3) := by decide +kernel
theorem dX6_times_165 : decode cX6_times 165 = .ok (.aload_n 0, 1) := by decide +kernel
theorem dX6_times_166 : decode cX6_times 166 = .ok (.getfield 179, 3) := by decide +kernel
theorem dX6_times_169 : decode cX6_times 169 = .ok (.ifCond .le 30, 3) := by decide +kernel
theorem dX6_times_172 : decode cX6_times 172 = .ok (.aload_n 0, 1) := by decide +kernel
theorem dX6_times_173 : decode cX6_times 173 = .ok (.getfield 66, 3) := by decide +kernel
theorem dX6_times_176 : decode cX6_times 176 = .ok (.aload_n 0, 1) := by decide +kernel
theorem dX6_times_177 : decode cX6_times 177 = .ok (.getfield 179, 3) := by decide +kernel
theorem dX6_times_180 : decode cX6_times 180 = .ok (.iconst 1, 1) := by decide +kernel
theorem dX6_times_181 : decode cX6_times 181 = .ok (.isub, 1) := by decide +kernel
theorem dX6_times_182 : decode cX6_times 182 = .ok (.iaload, 1) := by decide +kernel
theorem dX6_times_183 : decode cX6_times 183 = .ok (.ifCond .ne 16, 3) := by decide +kernel
theorem dX6_times_186 : decode cX6_times 186 = .ok (.aload_n 0, 1) := by decide +kernel
theorem dX6_times_187 : decode cX6_times 187 = .ok (.dup, 1) := by decide +kernel
theorem dX6_times_188 : decode cX6_times 188 = .ok (.getfield 179, 3) := by decide +kernel
theorem dX6_times_191 : decode cX6_times 191 = .ok (.iconst 1, 1) := by decide +kernel
theorem dX6_times_192 : decode cX6_times 192 = .ok (.isub, 1) := by decide +kernel
theorem dX6_times_193 : decode cX6_times 193 = .ok (.putfield 179, 3) := by decide +kernel
theorem dX6_times_196 : decode cX6_times 196 = .ok (.goto (-31), 3) := by decide +kernel
theorem dX6_times_199 : decode cX6_times 199 = .ok (.return_, 1) := by decide +kernel
theorem dX6_putU_0 : decode cX6_putU 0 = .ok (.iconst 0, 1) := by decide +kernel
theorem dX6_putU_1 : decode cX6_putU 1 = .ok (.istore_n 2, 1) := by decide +kernel
theorem dX6_putU_2 : decode cX6_putU 2 = .ok (.iload_n 2, 1) := by decide +kernel
theorem dX6_putU_3 : decode cX6_putU 3 = .ok (.aload_n 0, 1) := by decide +kernel
theorem dX6_putU_4 : decode cX6_putU 4 = .ok (.getfield 20, 3) := by decide +kernel
theorem dX6_putU_7 : decode cX6_putU 7 = .ok (.iload_n 1, 1) := by decide +kernel
theorem dX6_putU_8 : decode cX6_putU 8 = .ok (.iaload, 1) := by decide +kernel
theorem dX6_putU_9 : decode cX6_putU 9 = .ok (.if_icmp .ge 40, 3) := by decide +kernel
theorem dX6_putU_12 : decode cX6_putU 12 = .ok (.aload_n 0, 1) := by decide +kernel
theorem dX6_putU_13 : decode cX6_putU 13 = .ok (.getfield 7, 3) := by decide +kernel
theorem dX6_putU_16 : decode cX6_putU 16 = .ok (.aload_n 0, 1) := by decide +kernel
theorem dX6_putU_17 : decode cX6_putU 17 = .ok (.getfield 23, 3) := by decide +kernel
theorem dX6_putU_20 : decode cX6_putU 20 = .ok (.iload_n 1, 1) := by decide +kernel
theorem dX6_putU_21 : decode cX6_putU 21 = .ok (.iaload, 1) := by decide +kernel
theorem dX6_putU_22 : decode cX6_putU 22 = .ok (.iload_n 2, 1) := by decide +kernel
theorem dX6_putU_23 : decode cX6_putU 23 = .ok (.iadd, 1) := by decide +kernel
theorem dX6_putU_24 : decode cX6_putU 24 = .ok (.iload_n 2, 1) := by decide +kernel
theorem dX6_putU_25 : decode cX6_putU 25 = .ok (.aload_n 0, 1) := by decide +kernel
theorem dX6_putU_26 : decode cX6_putU 26 = .ok (.getfield 179, 3) := by decide +kernel
theorem dX6_putU_29 : decode cX6_putU 29 = .ok (.if_icmp .ge 12, 3) := by decide +kernel
theorem dX6_putU_32 : decode cX6_putU 32 = .ok (.aload_n 0, 1) := by decide +kernel
theorem dX6_putU_33 : decode cX6_putU 33 = .ok (.getfield 66, 3) := by decide +kernel
theorem dX6_putU_36 : decode cX6_putU 36 = .ok (.iload_n 2, 1) := by decide +kernel
theorem dX6_putU_37 : decode cX6_putU 37 = .ok (.iaload, 1) := by decide +kernel
theorem dX6_putU_38 : decode cX6_putU 38 = .ok (.goto 4, 3) := by decide +kernel
theorem dX6_putU_41 : decode cX6_putU 41 = .ok (.iconst 0, 1) := by decide +kernel
theorem dX6_putU_42 : decode cX6_putU 42 = .ok (.iastore, 1) := by decide +kernel
theorem dX6_putU_43 : decode cX6_putU 43 = .ok (.iinc 2 1, 3) := by decide +kernel
theorem dX6_putU_46 : decode cX6_putU 46 = .ok (.goto (-44), 3) := by decide +kernel
theorem dX6_putU_49 : decode cX6_putU 49 = .ok (.return_, 1) := by decide +kernel
theorem dX6_uToR_0 : decode cX6_uToR 0 = .ok (.aload_n 0, 1) := by decide +kernel
theorem dX6_uToR_1 : decode cX6_uToR 1 = .ok (.aload_n 0, 1) := by decide +kernel
theorem dX6_uToR_2 : decode cX6_uToR 2 = .ok (.getfield 179, 3) := by decide +kernel
theorem dX6_uToR_5 : decode cX6_uToR 5 = .ok (.putfield 200, 3) := by decide +kernel
theorem dX6_uToR_8 : decode cX6_uToR 8 = .ok (.iconst 0, 1) := by decide +kernel
theorem dX6_uToR_9 : decode cX6_uToR 9 = .ok (.istore_n 1, 1) := by decide +kernel
theorem dX6_uToR_10 : decode cX6_uToR 10 = .ok (.iload_n 1, 1) := by decide +kernel
theorem dX6_uToR_11 : decode cX6_uToR 11 = .ok (.aload_n 0, 1) := by decide +kernel
theorem dX6_uToR_12 : decode cX6_uToR 12 = .ok (.getfield 179, 3) := by decide +kernel
theorem dX6_uToR_15 : decode cX6_uToR 15 = .ok (.if_icmp .ge 21, 3) := by decide +kernel
theorem dX6_uToR_18 : decode cX6_uToR 18 = .ok (.aload_n 0, 1) := by decide +kernel
theorem dX6_uToR_19 : decode cX6_uToR 19 = .ok (.getfield 78, 3) := by decide +kernel
theorem dX6_uToR_22 : decode cX6_uToR 22 = .ok (.iload_n 1, 1) := by decide +kernel
theorem dX6_uToR_23 : decode cX6_uToR 23 = .ok (.aload_n 0, 1) := by decide +kernel
theorem dX6_uToR_24 : decode cX6_uToR 24 = .ok (.getfield 66, 3) := by decide +kernel
theorem dX6_uToR_27 : decode cX6_uToR 27 = .ok (.iload_n 1, 1) := by decide +kernel
theorem dX6_uToR_28 : decode cX6_uToR 28 = .ok (.iaload, 1) := by decide +kernel
theorem dX6_uToR_29 : decode cX6_uToR 29 = .ok (.iastore, 1) := by decide +kernel
theorem dX6_uToR_30 : decode cX6_uToR 30 = .ok (.iinc 1 1, 3) := by decide +kernel
theorem dX6_uToR_33 : decode cX6_uToR 33 = .ok (.goto (-23), 3) := by decide +kernel
theorem dX6_uToR_36 : decode cX6_uToR 36 = .ok (.return_, 1) := by decide +kernel
theorem dX6_reckon_0 : decode cX6_reckon 0 = .ok (.aload_n 0, 1) := by decide +kernel
theorem dX6_reckon_1 : decode cX6_reckon 1 = .ok (.getfield 54, 3) := by decide +kernel
theorem dX6_reckon_4 : decode cX6_reckon 4 = .ok (.iload_n 1, 1) := by decide +kernel
theorem dX6_reckon_5 : decode cX6_reckon 5 = .ok (.iaload, 1) := by decide +kernel
theorem dX6_reckon_6 : decode cX6_reckon 6 = .ok (.istore_n 2, 1) := by decide +kernel
theorem dX6_reckon_7 : decode cX6_reckon 7 = .ok (.aload_n 0, 1) := by decide +kernel
theorem dX6_reckon_8 : decode cX6_reckon 8 = .ok (.getfield 38, 3) := by decide +kernel
theorem dX6_reckon_11 : decode cX6_reckon 11 = .ok (.iload_n 1, 1) := by decide +kernel
theorem dX6_reckon_12 : decode cX6_reckon 12 = .ok (.iaload, 1) := by decide +kernel
theorem dX6_reckon_13 : decode cX6_reckon 13 = .ok (.tableswitch 203 0 2 #[27, 100, 190], 27) := by decide +kernel
theorem dX6_reckon_40 : decode cX6_reckon 40 = .ok (.aload_n 0, 1) := by decide +kernel
theorem dX6_reckon_41 : decode cX6_reckon 41 = .ok (.aload_n 0, 1) := by decide +kernel
theorem dX6_reckon_42 : decode cX6_reckon 42 = .ok (.getfield 41, 3) := by decide +kernel
theorem dX6_reckon_45 : decode cX6_reckon 45 = .ok (.iload_n 1, 1) := by decide +kernel
theorem dX6_reckon_46 : decode cX6_reckon 46 = .ok (.iaload, 1) := by decide +kernel
theorem dX6_reckon_47 : decode cX6_reckon 47 = .ok (.invokevirtual 203, 3) := by decide +kernel
theorem dX6_reckon_50 : decode cX6_reckon 50 = .ok (.aload_n 0, 1) := by decide +kernel
theorem dX6_reckon_51 : decode cX6_reckon 51 = .ok (.invokevirtual 206, 3) := by decide +kernel
theorem dX6_reckon_54 : decode cX6_reckon 54 = .ok (.aload_n 0, 1) := by decide +kernel
theorem dX6_reckon_55 : decode cX6_reckon 55 = .ok (.aload_n 0, 1) := by decide +kernel
theorem dX6_reckon_56 : decode cX6_reckon 56 = .ok (.getfield 44, 3) := by decide +kernel
theorem dX6_reckon_59 : decode cX6_reckon 59 = .ok (.iload_n 1, 1) := by decide +kernel
theorem dX6_reckon_60 : decode cX6_reckon 60 = .ok (.iaload, 1) := by decide +kernel
theorem dX6_reckon_61 : decode cX6_reckon 61 = .ok (.invokevirtual 203, 3) := by decide +kernel
theorem dX6_reckon_64 : decode cX6_reckon 64 = .ok (.aload_n 0, 1) := by decide +kernel
theorem dX6_reckon_65 : decode cX6_reckon 65 = .ok (.aload_n 0, 1) := by decide +kernel
theorem dX6_reckon_66 : decode cX6_reckon 66 = .ok (.getfield 179, 3) := by decide +kernel
theorem dX6_reckon_69 : decode cX6_reckon 69 = .ok (.putfield 197, 3) := by decide +kernel
theorem dX6_reckon_72 : decode cX6_reckon 72 = .ok (.iconst 0, 1) := by decide +kernel
theorem dX6_reckon_73 : decode cX6_reckon 73 = .ok (.istore_n 3, 1) := by decide +kernel
theorem dX6_reckon_74 : decode cX6_reckon 74 = .ok (.iload_n 3, 1) := by decide +kernel
theorem dX6_reckon_75 : decode cX6_reckon 75 = .ok (.aload_n 0, 1) := by decide +kernel
theorem dX6_reckon_76 : decode cX6_reckon 76 = .ok (.getfield 179, 3) := by decide +kernel
theorem dX6_reckon_79 : decode cX6_reckon 79 = .ok (.if_icmp .ge 21, 3) := by decide +kernel
theorem dX6_reckon_82 : decode cX6_reckon 82 = .ok (.aload_n 0, 1) := by decide +kernel
theorem dX6_reckon_83 : decode cX6_reckon 83 = .ok (.getfield 75, 3) := by decide +kernel
theorem dX6_reckon_86 : decode cX6_reckon 86 = .ok (.iload_n 3, 1) := by decide +kernel
theorem dX6_reckon_87 : decode cX6_reckon 87 = .ok (.aload_n 0, 1) := by decide +kernel
theorem dX6_reckon_88 : decode cX6_reckon 88 = .ok (.getfield 66, 3) := by decide +kernel
theorem dX6_reckon_91 : decode cX6_reckon 91 = .ok (.iload_n 3, 1) := by decide +kernel
theorem dX6_reckon_92 : decode cX6_reckon 92 = .ok (.iaload, 1) := by decide +kernel
theorem dX6_reckon_93 : decode cX6_reckon 93 = .ok (.iastore, 1) := by decide +kernel
theorem dX6_reckon_94 : decode cX6_reckon 94 = .ok (.iinc 3 1, 3) := by decide +kernel
theorem dX6_reckon_97 : decode cX6_reckon 97 = .ok (.goto (-23), 3) := by decide +kernel
theorem dX6_reckon_100 : decode cX6_reckon 100 = .ok (.aload_n 0, 1) := by decide +kernel
theorem dX6_reckon_101 : decode cX6_reckon 101 = .ok (.iconst 1, 1) := by decide +kernel
theorem dX6_reckon_102 : decode cX6_reckon 102 = .ok (.invokevirtual 209, 3) := by decide +kernel
theorem dX6_reckon_105 : decode cX6_reckon 105 = .ok (.aload_n 0, 1) := by decide +kernel
theorem dX6_reckon_106 : decode cX6_reckon 106 = .ok (.iload_n 2, 1) := by decide +kernel
theorem dX6_reckon_107 : decode cX6_reckon 107 = .ok (.invokevirtual 213, 3) := by decide +kernel
theorem dX6_reckon_110 : decode cX6_reckon 110 = .ok (.goto 165, 3) := by decide +kernel
theorem dX6_reckon_113 : decode cX6_reckon 113 = .ok (.aload_n 0, 1) := by decide +kernel
theorem dX6_reckon_114 : decode cX6_reckon 114 = .ok (.aload_n 0, 1) := by decide +kernel
theorem dX6_reckon_115 : decode cX6_reckon 115 = .ok (.getfield 41, 3) := by decide +kernel
theorem dX6_reckon_118 : decode cX6_reckon 118 = .ok (.iload_n 1, 1) := by decide +kernel
theorem dX6_reckon_119 : decode cX6_reckon 119 = .ok (.iaload, 1) := by decide +kernel
theorem dX6_reckon_120 : decode cX6_reckon 120 = .ok (.invokevirtual 203, 3) := by decide +kernel
theorem dX6_reckon_123 : decode cX6_reckon 123 = .ok (.aload_n 0, 1) := by decide +kernel
theorem dX6_reckon_124 : decode cX6_reckon 124 = .ok (.aload_n 0, 1) := by decide +kernel
theorem dX6_reckon_125 : decode cX6_reckon 125 = .ok (.getfield 44, 3) := by decide +kernel
theorem dX6_reckon_128 : decode cX6_reckon 128 = .ok (.iload_n 1, 1) := by decide +kernel
theorem dX6_reckon_129 : decode cX6_reckon 129 = .ok (.iaload, 1) := by decide +kernel
theorem dX6_reckon_130 : decode cX6_reckon 130 = .ok (.invokevirtual 216, 3) := by decide +kernel
theorem dX6_reckon_133 : decode cX6_reckon 133 = .ok (.aload_n 0, 1) := by decide +kernel
theorem dX6_reckon_134 : decode cX6_reckon 134 = .ok (.getfield 179, 3) := by decide +kernel
theorem dX6_reckon_137 : decode cX6_reckon 137 = .ok (.aload_n 0, 1) := by decide +kernel
theorem dX6_reckon_138 : decode cX6_reckon 138 = .ok (.getfield 182, 3) := by decide +kernel
theorem dX6_reckon_141 : decode cX6_reckon 141 = .ok (.isub, 1) := by decide +kernel
theorem dX6_reckon_142 : decode cX6_reckon 142 = .ok (.iconst 1, 1) := by decide +kernel
theorem dX6_reckon_143 : decode cX6_reckon 143 = .ok (.iadd, 1) := by decide +kernel
theorem dX6_reckon_144 : decode cX6_reckon 144 = .ok (.istore_n 3, 1) := by decide +kernel
theorem dX6_reckon_145 : decode cX6_reckon 145 = .ok (.aload_n 0, 1) := by decide +kernel
theorem dX6_reckon_146 : decode cX6_reckon 146 = .ok (.invokevirtual 219, 3) := by decide +kernel
theorem dX6_reckon_149 : decode cX6_reckon 149 = .ok (.iconst 0, 1) := by decide +kernel
theorem dX6_reckon_150 : decode cX6_reckon 150 = .ok (.istore 4, 2) := by decide +kernel
theorem dX6_reckon_152 : decode cX6_reckon 152 = .ok (.iload 4, 2) := by decide +kernel
theorem dX6_reckon_154 : decode cX6_reckon 154 = .ok (.aload_n 0, 1) := by decide +kernel
theorem dX6_reckon_155 : decode cX6_reckon 155 = .ok (.getfield 20, 3) := by decide +kernel
theorem dX6_reckon_158 : decode cX6_reckon 158 = .ok (.iload_n 2, 1) := by decide +kernel
theorem dX6_reckon_159 : decode cX6_reckon 159 = .ok (.iaload, 1) := by decide +kernel
theorem dX6_reckon_160 : decode cX6_reckon 160 = .ok (.if_icmp .ge 40, 3) := by decide +kernel
theorem dX6_reckon_163 : decode cX6_reckon 163 = .ok (.aload_n 0, 1) := by decide +kernel
theorem dX6_reckon_164 : decode cX6_reckon 164 = .ok (.getfield 7, 3) := by decide +kernel
theorem dX6_reckon_167 : decode cX6_reckon 167 = .ok (.aload_n 0, 1) := by decide +kernel
theorem dX6_reckon_168 : decode cX6_reckon 168 = .ok (.getfield 23, 3) := by decide +kernel
theorem dX6_reckon_171 : decode cX6_reckon 171 = .ok (.iload_n 2, 1) := by decide +kernel
theorem dX6_reckon_172 : decode cX6_reckon 172 = .ok (.iaload, 1) := by decide +kernel
theorem dX6_reckon_173 : decode cX6_reckon 173 = .ok (.iload 4, 2) := by decide +kernel
theorem dX6_reckon_175 : decode cX6_reckon 175 = .ok (.iadd, 1) := by decide +kernel
theorem dX6_reckon_176 : decode cX6_reckon 176 = .ok (.iload 4, 2) := by decide +kernel
theorem dX6_reckon_178 : decode cX6_reckon 178 = .ok (.iload_n 3, 1) := by decide +kernel
theorem dX6_reckon_179 : decode cX6_reckon 179 = .ok (.if_icmp .ge 13, 3) := by decide +kernel
theorem dX6_reckon_182 : decode cX6_reckon 182 = .ok (.aload_n 0, 1) := by decide +kernel
theorem dX6_reckon_183 : decode cX6_reckon 183 = .ok (.getfield 72, 3) := by decide +kernel
theorem dX6_reckon_186 : decode cX6_reckon 186 = .ok (.iload 4, 2) := by decide +kernel
theorem dX6_reckon_188 : decode cX6_reckon 188 = .ok (.iaload, 1) := by decide +kernel
theorem dX6_reckon_189 : decode cX6_reckon 189 = .ok (.goto 4, 3) := by decide +kernel
theorem dX6_reckon_192 : decode cX6_reckon 192 = .ok (.iconst 0, 1) := by decide +kernel
theorem dX6_reckon_193 : decode cX6_reckon 193 = .ok (.iastore, 1) := by decide +kernel
theorem dX6_reckon_194 : decode cX6_reckon 194 = .ok (.iinc 4 1, 3) := by decide +kernel
theorem dX6_reckon_197 : decode cX6_reckon 197 = .ok (.goto (-45), 3) := by decide +kernel
theorem dX6_reckon_200 : decode cX6_reckon 200 = .ok (.goto 75, 3) := by decide +kernel
theorem dX6_reckon_203 : decode cX6_reckon 203 = .ok (.aload_n 0, 1) := by decide +kernel
theorem dX6_reckon_204 : decode cX6_reckon 204 = .ok (.iload_n 1, 1) := by decide +kernel
theorem dX6_reckon_205 : decode cX6_reckon 205 = .ok (.invokevirtual 222, 3) := by decide +kernel
theorem dX6_reckon_208 : decode cX6_reckon 208 = .ok (.aload_n 0, 1) := by decide +kernel
theorem dX6_reckon_209 : decode cX6_reckon 209 = .ok (.iload_n 2, 1) := by decide +kernel
theorem dX6_reckon_210 : decode cX6_reckon 210 = .ok (.invokevirtual 213, 3) := by decide +kernel
theorem dX6_reckon_213 : decode cX6_reckon 213 = .ok (.goto 62, 3) := by decide +kernel
theorem dX6_reckon_216 : decode cX6_reckon 216 = .ok (.aload_n 0, 1) := by decide +kernel
theorem dX6_reckon_217 : decode cX6_reckon 217 = .ok (.iload_n 1, 1) := by decide +kernel
theorem dX6_reckon_218 : decode cX6_reckon 218 = .ok (.invokevirtual 225, 3) := by decide +kernel
theorem dX6_reckon_221 : decode cX6_reckon 221 = .ok (.iconst 0, 1) := by decide +kernel
theorem dX6_reckon_222 : decode cX6_reckon 222 = .ok (.istore 4, 2) := by decide +kernel
theorem dX6_reckon_224 : decode cX6_reckon 224 = .ok (.iload 4, 2) := by decide +kernel
theorem dX6_reckon_226 : decode cX6_reckon 226 = .ok (.aload_n 0, 1) := by decide +kernel
theorem dX6_reckon_227 : decode cX6_reckon 227 = .ok (.getfield 20, 3) := by decide +kernel
theorem dX6_reckon_230 : decode cX6_reckon 230 = .ok (.iload_n 2, 1) := by decide +kernel
theorem dX6_reckon_231 : decode cX6_reckon 231 = .ok (.iaload, 1) := by decide +kernel
theorem dX6_reckon_232 : decode cX6_reckon 232 = .ok (.if_icmp .ge 43, 3) := by decide +kernel
theorem dX6_reckon_235 : decode cX6_reckon 235 = .ok (.aload_n 0, 1) := by decide +kernel
theorem dX6_reckon_236 : decode cX6_reckon 236 = .ok (.getfield 7, 3) := by decide +kernel
theorem dX6_reckon_239 : decode cX6_reckon 239 = .ok (.aload_n 0, 1) := by decide +kernel
theorem dX6_reckon_240 : decode cX6_reckon 240 = .ok (.getfield 23, 3) := by decide +kernel
theorem dX6_reckon_243 : decode cX6_reckon 243 = .ok (.iload_n 2, 1) := by decide +kernel
theorem dX6_reckon_244 : decode cX6_reckon 244 = .ok (.iaload, 1) := by decide +kernel
theorem dX6_reckon_245 : decode cX6_reckon 245 = .ok (.iload 4, 2) := by decide +kernel
theorem dX6_reckon_247 : decode cX6_reckon 247 = .ok (.iadd, 1) := by decide +kernel
theorem dX6_reckon_248 : decode cX6_reckon 248 = .ok (.iload 4, 2) := by decide +kernel
theorem dX6_reckon_250 : decode cX6_reckon 250 = .ok (.aload_n 0, 1) := by decide +kernel
theorem dX6_reckon_251 : decode cX6_reckon 251 = .ok (.getfield 200, 3) := by decide +kernel
theorem dX6_reckon_254 : decode cX6_reckon 254 = .ok (.if_icmp .ge 13, 3) := by decide +kernel
theorem dX6_reckon_257 : decode cX6_reckon 257 = .ok (.aload_n 0, 1) := by decide +kernel
theorem dX6_reckon_258 : decode cX6_reckon 258 = .ok (.getfield 78, 3) := by decide +kernel
theorem dX6_reckon_261 : decode cX6_reckon 261 = .ok (.iload 4, 2) := by decide +kernel
theorem dX6_reckon_263 : decode cX6_reckon 263 = .ok (.iaload, 1) := by decide +kernel
theorem dX6_reckon_264 : decode cX6_reckon 264 = .ok (.goto 4, 3) := by decide +kernel
theorem dX6_reckon_267 : decode cX6_reckon 267 = .ok (.iconst 0, 1) := by decide +kernel
theorem dX6_reckon_268 : decode cX6_reckon 268 = .ok (.iastore, 1) := by decide +kernel
theorem dX6_reckon_269 : decode cX6_reckon 269 = .ok (.iinc 4 1, 3) := by decide +kernel
theorem dX6_reckon_272 : decode cX6_reckon 272 = .ok (.goto (-48), 3) := by decide +kernel
theorem dX6_reckon_275 : decode cX6_reckon 275 = .ok (.return_, 1) := by decide +kernel
theorem dX6_common_0 : decode cX6_common 0 = .ok (.aload_n 0, 1) := by decide +kernel
theorem dX6_common_1 : decode cX6_common 1 = .ok (.aload_n 0, 1) := by decide +kernel
theorem dX6_common_2 : decode cX6_common 2 = .ok (.getfield 41, 3) := by decide +kernel
theorem dX6_common_5 : decode cX6_common 5 = .ok (.iload_n 1, 1) := by decide +kernel
theorem dX6_common_6 : decode cX6_common 6 = .ok (.iaload, 1) := by decide +kernel
theorem dX6_common_7 : decode cX6_common 7 = .ok (.invokevirtual 203, 3) := by decide +kernel
theorem dX6_common_10 : decode cX6_common 10 = .ok (.aload_n 0, 1) := by decide +kernel
theorem dX6_common_11 : decode cX6_common 11 = .ok (.aload_n 0, 1) := by decide +kernel
theorem dX6_common_12 : decode cX6_common 12 = .ok (.getfield 44, 3) := by decide +kernel
theorem dX6_common_15 : decode cX6_common 15 = .ok (.iload_n 1, 1) := by decide +kernel
theorem dX6_common_16 : decode cX6_common 16 = .ok (.iaload, 1) := by decide +kernel
theorem dX6_common_17 : decode cX6_common 17 = .ok (.invokevirtual 216, 3) := by decide +kernel
theorem dX6_common_20 : decode cX6_common 20 = .ok (.aload_n 0, 1) := by decide +kernel
theorem dX6_common_21 : decode cX6_common 21 = .ok (.getfield 182, 3) := by decide +kernel
theorem dX6_common_24 : decode cX6_common 24 = .ok (.ifCond .le 116, 3) := by decide +kernel
theorem dX6_common_27 : decode cX6_common 27 = .ok (.aload_n 0, 1) := by decide +kernel
theorem dX6_common_28 : decode cX6_common 28 = .ok (.invokevirtual 219, 3) := by decide +kernel
theorem dX6_common_31 : decode cX6_common 31 = .ok (.aload_n 0, 1) := by decide +kernel
theorem dX6_common_32 : decode cX6_common 32 = .ok (.getfield 179, 3) := by decide +kernel
theorem dX6_common_35 : decode cX6_common 35 = .ok (.aload_n 0, 1) := by decide +kernel
theorem dX6_common_36 : decode cX6_common 36 = .ok (.getfield 182, 3) := by decide +kernel
theorem dX6_common_39 : decode cX6_common 39 = .ok (.if_icmp .le 10, 3) := by decide +kernel
theorem dX6_common_42 : decode cX6_common 42 = .ok (.aload_n 0, 1) := by decide +kernel
theorem dX6_common_43 : decode cX6_common 43 = .ok (.getfield 179, 3) := by decide +kernel
theorem dX6_common_46 : decode cX6_common 46 = .ok (.goto 7, 3) := by decide +kernel
theorem dX6_common_49 : decode cX6_common 49 = .ok (.aload_n 0, 1) := by decide +kernel
theorem dX6_common_50 : decode cX6_common 50 = .ok (.getfield 182, 3) := by decide +kernel
theorem dX6_common_53 : decode cX6_common 53 = .ok (.istore_n 2, 1) := by decide +kernel
theorem dX6_common_54 : decode cX6_common 54 = .ok (.iconst 0, 1) := by decide +kernel
theorem dX6_common_55 : decode cX6_common 55 = .ok (.istore_n 3, 1) := by decide +kernel
theorem dX6_common_56 : decode cX6_common 56 = .ok (.iload_n 3, 1) := by decide +kernel
theorem dX6_common_57 : decode cX6_common 57 = .ok (.iload_n 2, 1) := by decide +kernel
theorem dX6_common_58 : decode cX6_common 58 = .ok (.if_icmp .ge 61, 3) := by decide +kernel
theorem dX6_common_61 : decode cX6_common 61 = .ok (.iload_n 3, 1) := by decide +kernel
theorem dX6_common_62 : decode cX6_common 62 = .ok (.aload_n 0, 1) := by decide +kernel
theorem dX6_common_63 : decode cX6_common 63 = .ok (.getfield 182, 3) := by decide +kernel
theorem dX6_common_66 : decode cX6_common 66 = .ok (.if_icmp .ge 12, 3) := by decide +kernel
theorem dX6_common_69 : decode cX6_common 69 = .ok (.aload_n 0, 1) := by decide +kernel
theorem dX6_common_70 : decode cX6_common 70 = .ok (.getfield 69, 3) := by decide +kernel
theorem dX6_common_73 : decode cX6_common 73 = .ok (.iload_n 3, 1) := by decide +kernel
theorem dX6_common_74 : decode cX6_common 74 = .ok (.iaload, 1) := by decide +kernel
theorem dX6_common_75 : decode cX6_common 75 = .ok (.goto 4, 3) := by decide +kernel
theorem dX6_common_78 : decode cX6_common 78 = .ok (.iconst 0, 1) := by decide +kernel
theorem dX6_common_79 : decode cX6_common 79 = .ok (.istore 4, 2) := by decide +kernel
theorem dX6_common_81 : decode cX6_common 81 = .ok (.aload_n 0, 1) := by decide +kernel
theorem dX6_common_82 : decode cX6_common 82 = .ok (.getfield 69, 3) := by decide +kernel
theorem dX6_common_85 : decode cX6_common 85 = .ok (.iload_n 3, 1) := by decide +kernel
theorem dX6_common_86 : decode cX6_common 86 = .ok (.iload_n 3, 1) := by decide +kernel
theorem dX6_common_87 : decode cX6_common 87 = .ok (.aload_n 0, 1) := by decide +kernel
theorem dX6_common_88 : decode cX6_common 88 = .ok (.getfield 179, 3) := by decide +kernel
theorem dX6_common_91 : decode cX6_common 91 = .ok (.if_icmp .ge 12, 3) := by decide +kernel
theorem dX6_common_94 : decode cX6_common 94 = .ok (.aload_n 0, 1) := by decide +kernel
theorem dX6_common_95 : decode cX6_common 95 = .ok (.getfield 66, 3) := by decide +kernel
theorem dX6_common_98 : decode cX6_common 98 = .ok (.iload_n 3, 1) := by decide +kernel
theorem dX6_common_99 : decode cX6_common 99 = .ok (.iaload, 1) := by decide +kernel
theorem dX6_common_100 : decode cX6_common 100 = .ok (.goto 4, 3) := by decide +kernel
theorem dX6_common_103 : decode cX6_common 103 = .ok (.iconst 0, 1) := by decide +kernel
theorem dX6_common_104 : decode cX6_common 104 = .ok (.iastore, 1) := by decide +kernel
theorem dX6_common_105 : decode cX6_common 105 = .ok (.aload_n 0, 1) := by decide +kernel
theorem dX6_common_106 : decode cX6_common 106 = .ok (.getfield 66, 3) := by decide +kernel
theorem dX6_common_109 : decode cX6_common 109 = .ok (.iload_n 3, 1) := by decide +kernel
theorem dX6_common_110 : decode cX6_common 110 = .ok (.iload 4, 2) := by decide +kernel
theorem dX6_common_112 : decode cX6_common 112 = .ok (.iastore, 1) := by decide +kernel
theorem dX6_common_113 : decode cX6_common 113 = .ok (.iinc 3 1, 3) := by decide +kernel
theorem dX6_common_116 : decode cX6_common 116 = .ok (.goto (-60), 3) := by decide +kernel
theorem dX6_common_119 : decode cX6_common 119 = .ok (.aload_n 0, 1) := by decide +kernel
theorem dX6_common_120 : decode cX6_common 120 = .ok (.getfield 179, 3) := by decide +kernel
theorem dX6_common_123 : decode cX6_common 123 = .ok (.istore_n 3, 1) := by decide +kernel
theorem dX6_common_124 : decode cX6_common 124 = .ok (.aload_n 0, 1) := by decide +kernel
theorem dX6_common_125 : decode cX6_common 125 = .ok (.aload_n 0, 1) := by decide +kernel
theorem dX6_common_126 : decode cX6_common 126 = .ok (.getfield 182, 3) := by decide +kernel
theorem dX6_common_129 : decode cX6_common 129 = .ok (.putfield 179, 3) := by decide +kernel
theorem dX6_common_132 : decode cX6_common 132 = .ok (.aload_n 0, 1) := by decide +kernel
theorem dX6_common_133 : decode cX6_common 133 = .ok (.iload_n 3, 1) := by decide +kernel
theorem dX6_common_134 : decode cX6_common 134 = .ok (.putfield 182, 3) := by decide +kernel
theorem dX6_common_137 : decode cX6_common 137 = .ok (.goto (-117), 3) := by decide +kernel
theorem dX6_common_140 : decode cX6_common 140 = .ok (.return_, 1) := by decide +kernel
theorem dX6_power_0 : decode cX6_power 0 = .ok (.aload_n 0, 1) := by decide +kernel
theorem dX6_power_1 : decode cX6_power 1 = .ok (.aload_n 0, 1) := by decide +kernel
theorem dX6_power_2 : decode cX6_power 2 = .ok (.getfield 41, 3) := by decide +kernel
theorem dX6_power_5 : decode cX6_power 5 = .ok (.iload_n 1, 1) := by decide +kernel
theorem dX6_power_6 : decode cX6_power 6 = .ok (.iaload, 1) := by decide +kernel
theorem dX6_power_7 : decode cX6_power 7 = .ok (.invokevirtual 203, 3) := by decide +kernel
theorem dX6_power_10 : decode cX6_power 10 = .ok (.aload_n 0, 1) := by decide +kernel
theorem dX6_power_11 : decode cX6_power 11 = .ok (.aload_n 0, 1) := by decide +kernel
theorem dX6_power_12 : decode cX6_power 12 = .ok (.getfield 47, 3) := by decide +kernel
theorem dX6_power_15 : decode cX6_power 15 = .ok (.iload_n 1, 1) := by decide +kernel
theorem dX6_power_16 : decode cX6_power 16 = .ok (.iaload, 1) := by decide +kernel
theorem dX6_power_17 : decode cX6_power 17 = .ok (.invokevirtual 216, 3) := by decide +kernel
theorem dX6_power_20 : decode cX6_power 20 = .ok (.aload_n 0, 1) := by decide +kernel
theorem dX6_power_21 : decode cX6_power 21 = .ok (.invokevirtual 219, 3) := by decide +kernel
theorem dX6_power_24 : decode cX6_power 24 = .ok (.aload_n 0, 1) := by decide +kernel
theorem dX6_power_25 : decode cX6_power 25 = .ok (.aload_n 0, 1) := by decide +kernel
theorem dX6_power_26 : decode cX6_power 26 = .ok (.getfield 179, 3) := by decide +kernel
theorem dX6_power_29 : decode cX6_power 29 = .ok (.putfield 197, 3) := by decide +kernel
theorem dX6_power_32 : decode cX6_power 32 = .ok (.iconst 0, 1) := by decide +kernel
theorem dX6_power_33 : decode cX6_power 33 = .ok (.istore_n 2, 1) := by decide +kernel
theorem dX6_power_34 : decode cX6_power 34 = .ok (.iload_n 2, 1) := by decide +kernel
theorem dX6_power_35 : decode cX6_power 35 = .ok (.aload_n 0, 1) := by decide +kernel
theorem dX6_power_36 : decode cX6_power 36 = .ok (.getfield 179, 3) := by decide +kernel
theorem dX6_power_39 : decode cX6_power 39 = .ok (.if_icmp .ge 21, 3) := by decide +kernel
theorem dX6_power_42 : decode cX6_power 42 = .ok (.aload_n 0, 1) := by decide +kernel
theorem dX6_power_43 : decode cX6_power 43 = .ok (.getfield 75, 3) := by decide +kernel
theorem dX6_power_46 : decode cX6_power 46 = .ok (.iload_n 2, 1) := by decide +kernel
theorem dX6_power_47 : decode cX6_power 47 = .ok (.aload_n 0, 1) := by decide +kernel
theorem dX6_power_48 : decode cX6_power 48 = .ok (.getfield 66, 3) := by decide +kernel
theorem dX6_power_51 : decode cX6_power 51 = .ok (.iload_n 2, 1) := by decide +kernel
theorem dX6_power_52 : decode cX6_power 52 = .ok (.iaload, 1) := by decide +kernel
theorem dX6_power_53 : decode cX6_power 53 = .ok (.iastore, 1) := by decide +kernel
theorem dX6_power_54 : decode cX6_power 54 = .ok (.iinc 2 1, 3) := by decide +kernel
theorem dX6_power_57 : decode cX6_power 57 = .ok (.goto (-23), 3) := by decide +kernel
theorem dX6_power_60 : decode cX6_power 60 = .ok (.aload_n 0, 1) := by decide +kernel
theorem dX6_power_61 : decode cX6_power 61 = .ok (.iconst 1, 1) := by decide +kernel
theorem dX6_power_62 : decode cX6_power 62 = .ok (.putfield 200, 3) := by decide +kernel
theorem dX6_power_65 : decode cX6_power 65 = .ok (.aload_n 0, 1) := by decide +kernel
theorem dX6_power_66 : decode cX6_power 66 = .ok (.getfield 78, 3) := by decide +kernel
theorem dX6_power_69 : decode cX6_power 69 = .ok (.iconst 0, 1) := by decide +kernel
theorem dX6_power_70 : decode cX6_power 70 = .ok (.iconst 1, 1) := by decide +kernel
theorem dX6_power_71 : decode cX6_power 71 = .ok (.iastore, 1) := by decide +kernel
theorem dX6_power_72 : decode cX6_power 72 = .ok (.aload_n 0, 1) := by decide +kernel
theorem dX6_power_73 : decode cX6_power 73 = .ok (.getfield 182, 3) := by decide +kernel
theorem dX6_power_76 : decode cX6_power 76 = .ok (.iconst 1, 1) := by decide +kernel
theorem dX6_power_77 : decode cX6_power 77 = .ok (.if_icmp .ne 18, 3) := by decide +kernel
theorem dX6_power_80 : decode cX6_power 80 = .ok (.aload_n 0, 1) := by decide +kernel
theorem dX6_power_81 : decode cX6_power 81 = .ok (.getfield 69, 3) := by decide +kernel
theorem dX6_power_84 : decode cX6_power 84 = .ok (.iconst 0, 1) := by decide +kernel
theorem dX6_power_85 : decode cX6_power 85 = .ok (.iaload, 1) := by decide +kernel
theorem dX6_power_86 : decode cX6_power 86 = .ok (.iconst 1, 1) := by decide +kernel
theorem dX6_power_87 : decode cX6_power 87 = .ok (.if_icmp .ne 8, 3) := by decide +kernel
theorem dX6_power_90 : decode cX6_power 90 = .ok (.aload_n 0, 1) := by decide +kernel
theorem dX6_power_91 : decode cX6_power 91 = .ok (.iconst 0, 1) := by decide +kernel
theorem dX6_power_92 : decode cX6_power 92 = .ok (.putfield 200, 3) := by decide +kernel
theorem dX6_power_95 : decode cX6_power 95 = .ok (.aload_n 0, 1) := by decide +kernel
theorem dX6_power_96 : decode cX6_power 96 = .ok (.getfield 44, 3) := by decide +kernel
theorem dX6_power_99 : decode cX6_power 99 = .ok (.iload_n 1, 1) := by decide +kernel
theorem dX6_power_100 : decode cX6_power 100 = .ok (.iaload, 1) := by decide +kernel
theorem dX6_power_101 : decode cX6_power 101 = .ok (.istore_n 2, 1) := by decide +kernel
theorem dX6_power_102 : decode cX6_power 102 = .ok (.bipush 31, 2) := by decide +kernel
theorem dX6_power_104 : decode cX6_power 104 = .ok (.aload_n 0, 1) := by decide +kernel
theorem dX6_power_105 : decode cX6_power 105 = .ok (.iload_n 2, 1) := by decide +kernel
theorem dX6_power_106 : decode cX6_power 106 = .ok (.invokevirtual 146, 3) := by decide +kernel
theorem dX6_power_109 : decode cX6_power 109 = .ok (.imul, 1) := by decide +kernel
theorem dX6_power_110 : decode cX6_power 110 = .ok (.iconst 1, 1) := by decide +kernel
theorem dX6_power_111 : decode cX6_power 111 = .ok (.isub, 1) := by decide +kernel
theorem dX6_power_112 : decode cX6_power 112 = .ok (.istore_n 3, 1) := by decide +kernel
theorem dX6_power_113 : decode cX6_power 113 = .ok (.iload_n 3, 1) := by decide +kernel
theorem dX6_power_114 : decode cX6_power 114 = .ok (.ifCond .lt 69, 3) := by decide +kernel
theorem dX6_power_117 : decode cX6_power 117 = .ok (.aload_n 0, 1) := by decide +kernel
theorem dX6_power_118 : decode cX6_power 118 = .ok (.getfield 200, 3) := by decide +kernel
theorem dX6_power_121 : decode cX6_power 121 = .ok (.ifCond .le 62, 3) := by decide +kernel
theorem dX6_power_124 : decode cX6_power 124 = .ok (.aload_n 0, 1) := by decide +kernel
theorem dX6_power_125 : decode cX6_power 125 = .ok (.iconst 0, 1) := by decide +kernel
theorem dX6_power_126 : decode cX6_power 126 = .ok (.invokevirtual 209, 3) := by decide +kernel
theorem dX6_power_129 : decode cX6_power 129 = .ok (.aload_n 0, 1) := by decide +kernel
theorem dX6_power_130 : decode cX6_power 130 = .ok (.invokevirtual 219, 3) := by decide +kernel
theorem dX6_power_133 : decode cX6_power 133 = .ok (.aload_n 0, 1) := by decide +kernel
theorem dX6_power_134 : decode cX6_power 134 = .ok (.invokevirtual 206, 3) := by decide +kernel
theorem dX6_power_137 : decode cX6_power 137 = .ok (.aload_n 0, 1) := by decide +kernel
theorem dX6_power_138 : decode cX6_power 138 = .ok (.getfield 7, 3) := by decide +kernel
theorem dX6_power_141 : decode cX6_power 141 = .ok (.aload_n 0, 1) := by decide +kernel
theorem dX6_power_142 : decode cX6_power 142 = .ok (.getfield 23, 3) := by decide +kernel
theorem dX6_power_145 : decode cX6_power 145 = .ok (.iload_n 2, 1) := by decide +kernel
theorem dX6_power_146 : decode cX6_power 146 = .ok (.iaload, 1) := by decide +kernel
theorem dX6_power_147 : decode cX6_power 147 = .ok (.iload_n 3, 1) := by decide +kernel
theorem dX6_power_148 : decode cX6_power 148 = .ok (.bipush 31, 2) := by decide +kernel
theorem dX6_power_150 : decode cX6_power 150 = .ok (.idiv, 1) := by decide +kernel
theorem dX6_power_151 : decode cX6_power 151 = .ok (.iadd, 1) := by decide +kernel
theorem dX6_power_152 : decode cX6_power 152 = .ok (.iaload, 1) := by decide +kernel
theorem dX6_power_153 : decode cX6_power 153 = .ok (.iload_n 3, 1) := by decide +kernel
theorem dX6_power_154 : decode cX6_power 154 = .ok (.bipush 31, 2) := by decide +kernel
theorem dX6_power_156 : decode cX6_power 156 = .ok (.irem, 1) := by decide +kernel
theorem dX6_power_157 : decode cX6_power 157 = .ok (.ishr, 1) := by decide +kernel
theorem dX6_power_158 : decode cX6_power 158 = .ok (.iconst 1, 1) := by decide +kernel
theorem dX6_power_159 : decode cX6_power 159 = .ok (.iand, 1) := by decide +kernel
theorem dX6_power_160 : decode cX6_power 160 = .ok (.iconst 1, 1) := by decide +kernel
theorem dX6_power_161 : decode cX6_power 161 = .ok (.if_icmp .ne 16, 3) := by decide +kernel
theorem dX6_power_164 : decode cX6_power 164 = .ok (.aload_n 0, 1) := by decide +kernel
theorem dX6_power_165 : decode cX6_power 165 = .ok (.iconst 1, 1) := by decide +kernel
theorem dX6_power_166 : decode cX6_power 166 = .ok (.invokevirtual 209, 3) := by decide +kernel
theorem dX6_power_169 : decode cX6_power 169 = .ok (.aload_n 0, 1) := by decide +kernel
theorem dX6_power_170 : decode cX6_power 170 = .ok (.invokevirtual 219, 3) := by decide +kernel
theorem dX6_power_173 : decode cX6_power 173 = .ok (.aload_n 0, 1) := by decide +kernel
theorem dX6_power_174 : decode cX6_power 174 = .ok (.invokevirtual 206, 3) := by decide +kernel
theorem dX6_power_177 : decode cX6_power 177 = .ok (.iinc 3 (-1), 3) := by decide +kernel
theorem dX6_power_180 : decode cX6_power 180 = .ok (.goto (-67), 3) := by decide +kernel
theorem dX6_power_183 : decode cX6_power 183 = .ok (.return_, 1) := by decide +kernel
theorem dJ9_max_7cf53_0 : decode cJ9_max_7cf53 0 = .ok (.iload_n 0, 1) := by decide +kernel
theorem dJ9_max_7cf53_1 : decode cJ9_max_7cf53 1 = .ok (.iload_n 1, 1) := by decide +kernel
theorem dJ9_max_7cf53_2 : decode cJ9_max_7cf53 2 = .ok (.if_icmp .lt 7, 3) := by decide +kernel
theorem dJ9_max_7cf53_5 : decode cJ9_max_7cf53 5 = .ok (.iload_n 0, 1) := by decide +kernel
theorem dJ9_max_7cf53_6 : decode cJ9_max_7cf53 6 = .ok (.goto 4, 3) := by decide +kernel
theorem dJ9_max_7cf53_9 : decode cJ9_max_7cf53 9 = .ok (.iload_n 1, 1) := by decide +kernel
theorem dJ9_max_7cf53_10 : decode cJ9_max_7cf53 10 = .ok (.ireturn, 1) := by decide +kernel
theorem dJ9_max_f86c9_0 : decode cJ9_max_f86c9 0 = .ok (.lload_n 0, 1) := by decide +kernel
theorem dJ9_max_f86c9_1 : decode cJ9_max_f86c9 1 = .ok (.lload_n 2, 1) := by decide +kernel
theorem dJ9_max_f86c9_2 : decode cJ9_max_f86c9 2 = .ok (.lcmp, 1) := by decide +kernel
theorem dJ9_max_f86c9_3 : decode cJ9_max_f86c9 3 = .ok (.ifCond .lt 7, 3) := by decide +kernel
theorem dJ9_max_f86c9_6 : decode cJ9_max_f86c9 6 = .ok (.lload_n 0, 1) := by decide +kernel
theorem dJ9_max_f86c9_7 : decode cJ9_max_f86c9 7 = .ok (.goto 4, 3) := by decide +kernel
theorem dJ9_max_f86c9_10 : decode cJ9_max_f86c9 10 = .ok (.lload_n 2, 1) := by decide +kernel
theorem dJ9_max_f86c9_11 : decode cJ9_max_f86c9 11 = .ok (.lreturn, 1) := by decide +kernel
theorem dJ9_min_7cf53_0 : decode cJ9_min_7cf53 0 = .ok (.iload_n 0, 1) := by decide +kernel
theorem dJ9_min_7cf53_1 : decode cJ9_min_7cf53 1 = .ok (.iload_n 1, 1) := by decide +kernel
theorem dJ9_min_7cf53_2 : decode cJ9_min_7cf53 2 = .ok (.if_icmp .gt 7, 3) := by decide +kernel
theorem dJ9_min_7cf53_5 : decode cJ9_min_7cf53 5 = .ok (.iload_n 0, 1) := by decide +kernel
theorem dJ9_min_7cf53_6 : decode cJ9_min_7cf53 6 = .ok (.goto 4, 3) := by decide +kernel
theorem dJ9_min_7cf53_9 : decode cJ9_min_7cf53 9 = .ok (.iload_n 1, 1) := by decide +kernel
theorem dJ9_min_7cf53_10 : decode cJ9_min_7cf53 10 = .ok (.ireturn, 1) := by decide +kernel
theorem dJ7_rangeCheck_23922_0 : decode cJ7_rangeCheck_23922 0 = .ok (.iload_n 1, 1) := by decide +kernel
theorem dJ7_rangeCheck_23922_1 : decode cJ7_rangeCheck_23922 1 = .ok (.iload_n 2, 1) := by decide +kernel
theorem dJ7_rangeCheck_23922_2 : decode cJ7_rangeCheck_23922 2 = .ok (.if_icmp .le 44, 3) := by decide +kernel
theorem dJ7_rangeCheck_23922_5 : decode cJ7_rangeCheck_23922 5 = .ok (.new 43, 3) := by decide +kernel
theorem dJ7_rangeCheck_23922_8 : decode cJ7_rangeCheck_23922 8 = .ok (.dup, 1) := by decide +kernel
theorem dJ7_rangeCheck_23922_9 : decode cJ7_rangeCheck_23922 9 = .ok (.new 45, 3) := by decide +kernel
theorem dJ7_rangeCheck_23922_12 : decode cJ7_rangeCheck_23922 12 = .ok (.dup, 1) := by decide +kernel
theorem dJ7_rangeCheck_23922_13 : decode cJ7_rangeCheck_23922 13 = .ok (.invokespecial 47, 3) := by decide +kernel
theorem dJ7_rangeCheck_23922_16 : decode cJ7_rangeCheck_23922 16 = .ok (.ldc 48, 2) := by decide +kernel
theorem dJ7_rangeCheck_23922_18 : decode cJ7_rangeCheck_23922 18 = .ok (.invokevirtual 50, 3) := by decide +kernel
theorem dJ7_rangeCheck_23922_21 : decode cJ7_rangeCheck_23922 21 = .ok (.iload_n 1, 1) := by decide +kernel
theorem dJ7_rangeCheck_23922_22 : decode cJ7_rangeCheck_23922 22 = .ok (.invokevirtual 54, 3) := by decide +kernel
theorem dJ7_rangeCheck_23922_25 : decode cJ7_rangeCheck_23922 25 = .ok (.ldc 57, 2) := by decide +kernel
theorem dJ7_rangeCheck_23922_27 : decode cJ7_rangeCheck_23922 27 = .ok (.invokevirtual 50, 3) := by decide +kernel
theorem dJ7_rangeCheck_23922_30 : decode cJ7_rangeCheck_23922 30 = .ok (.iload_n 2, 1) := by decide +kernel
theorem dJ7_rangeCheck_23922_31 : decode cJ7_rangeCheck_23922 31 = .ok (.invokevirtual 54, 3) := by decide +kernel
theorem dJ7_rangeCheck_23922_34 : decode cJ7_rangeCheck_23922 34 = .ok (.ldc 59, 2) := by decide +kernel
theorem dJ7_rangeCheck_23922_36 : decode cJ7_rangeCheck_23922 36 = .ok (.invokevirtual 50, 3) := by decide +kernel
theorem dJ7_rangeCheck_23922_39 : decode cJ7_rangeCheck_23922 39 = .ok (.invokevirtual 61, 3) := by decide +kernel
theorem dJ7_rangeCheck_23922_42 : decode cJ7_rangeCheck_23922 42 = .ok (.invokespecial 65, 3) := by decide +kernel
theorem dJ7_rangeCheck_23922_45 : decode cJ7_rangeCheck_23922 45 = .ok (.athrow, 1) := by decide +kernel
theorem dJ7_rangeCheck_23922_46 : decode cJ7_rangeCheck_23922 46 = .ok (.iload_n 1, 1) := by decide +kernel
theorem dJ7_rangeCheck_23922_47 : decode cJ7_rangeCheck_23922 47 = .ok (.ifCond .ge 12, 3) := by decide +kernel
theorem dJ7_rangeCheck_23922_50 : decode cJ7_rangeCheck_23922 50 = .ok (.new 68, 3) := by decide +kernel
theorem dJ7_rangeCheck_23922_53 : decode cJ7_rangeCheck_23922 53 = .ok (.dup, 1) := by decide +kernel
theorem dJ7_rangeCheck_23922_54 : decode cJ7_rangeCheck_23922 54 = .ok (.iload_n 1, 1) := by decide +kernel
theorem dJ7_rangeCheck_23922_55 : decode cJ7_rangeCheck_23922 55 = .ok (.invokespecial 70, 3) := by decide +kernel
theorem dJ7_rangeCheck_23922_58 : decode cJ7_rangeCheck_23922 58 = .ok (.athrow, 1) := by decide +kernel
theorem dJ7_rangeCheck_23922_59 : decode cJ7_rangeCheck_23922 59 = .ok (.iload_n 2, 1) := by decide +kernel
theorem dJ7_rangeCheck_23922_60 : decode cJ7_rangeCheck_23922 60 = .ok (.iload_n 0, 1) := by decide +kernel
theorem dJ7_rangeCheck_23922_61 : decode cJ7_rangeCheck_23922 61 = .ok (.if_icmp .le 12, 3) := by decide +kernel
theorem dJ7_rangeCheck_23922_64 : decode cJ7_rangeCheck_23922 64 = .ok (.new 68, 3) := by decide +kernel
theorem dJ7_rangeCheck_23922_67 : decode cJ7_rangeCheck_23922 67 = .ok (.dup, 1) := by decide +kernel
theorem dJ7_rangeCheck_23922_68 : decode cJ7_rangeCheck_23922 68 = .ok (.iload_n 2, 1) := by decide +kernel
theorem dJ7_rangeCheck_23922_69 : decode cJ7_rangeCheck_23922 69 = .ok (.invokespecial 70, 3) := by decide +kernel
theorem dJ7_rangeCheck_23922_72 : decode cJ7_rangeCheck_23922 72 = .ok (.athrow, 1) := by decide +kernel
theorem dJ7_rangeCheck_23922_73 : decode cJ7_rangeCheck_23922 73 = .ok (.return_, 1) := by decide +kernel
theorem dJ7_fill_53178_0 : decode cJ7_fill_53178 0 = .ok (.iconst 0, 1) := by decide +kernel
theorem dJ7_fill_53178_1 : decode cJ7_fill_53178 1 = .ok (.istore_n 2, 1) := by decide +kernel
theorem dJ7_fill_53178_2 : decode cJ7_fill_53178 2 = .ok (.aload_n 0, 1) := by decide +kernel
theorem dJ7_fill_53178_3 : decode cJ7_fill_53178 3 = .ok (.arraylength, 1) := by decide +kernel
theorem dJ7_fill_53178_4 : decode cJ7_fill_53178 4 = .ok (.istore_n 3, 1) := by decide +kernel
theorem dJ7_fill_53178_5 : decode cJ7_fill_53178 5 = .ok (.iload_n 2, 1) := by decide +kernel
theorem dJ7_fill_53178_6 : decode cJ7_fill_53178 6 = .ok (.iload_n 3, 1) := by decide +kernel
theorem dJ7_fill_53178_7 : decode cJ7_fill_53178 7 = .ok (.if_icmp .ge 13, 3) := by decide +kernel
theorem dJ7_fill_53178_10 : decode cJ7_fill_53178 10 = .ok (.aload_n 0, 1) := by decide +kernel
theorem dJ7_fill_53178_11 : decode cJ7_fill_53178 11 = .ok (.iload_n 2, 1) := by decide +kernel
theorem dJ7_fill_53178_12 : decode cJ7_fill_53178 12 = .ok (.iload_n 1, 1) := by decide +kernel
theorem dJ7_fill_53178_13 : decode cJ7_fill_53178 13 = .ok (.iastore, 1) := by decide +kernel
theorem dJ7_fill_53178_14 : decode cJ7_fill_53178 14 = .ok (.iinc 2 1, 3) := by decide +kernel
theorem dJ7_fill_53178_17 : decode cJ7_fill_53178 17 = .ok (.goto (-12), 3) := by decide +kernel
theorem dJ7_fill_53178_20 : decode cJ7_fill_53178 20 = .ok (.return_, 1) := by decide +kernel
theorem dJ7_fill_fda19_0 : decode cJ7_fill_fda19 0 = .ok (.aload_n 0, 1) := by decide +kernel
theorem dJ7_fill_fda19_1 : decode cJ7_fill_fda19 1 = .ok (.arraylength, 1) := by decide +kernel
theorem dJ7_fill_fda19_2 : decode cJ7_fill_fda19 2 = .ok (.iload_n 1, 1) := by decide +kernel
theorem dJ7_fill_fda19_3 : decode cJ7_fill_fda19 3 = .ok (.iload_n 2, 1) := by decide +kernel
theorem dJ7_fill_fda19_4 : decode cJ7_fill_fda19 4 = .ok (.invokestatic 13, 3) := by decide +kernel
theorem dJ7_fill_fda19_7 : decode cJ7_fill_fda19 7 = .ok (.iload_n 1, 1) := by decide +kernel
theorem dJ7_fill_fda19_8 : decode cJ7_fill_fda19 8 = .ok (.istore 4, 2) := by decide +kernel
theorem dJ7_fill_fda19_10 : decode cJ7_fill_fda19 10 = .ok (.iload 4, 2) := by decide +kernel
theorem dJ7_fill_fda19_12 : decode cJ7_fill_fda19 12 = .ok (.iload_n 2, 1) := by decide +kernel
theorem dJ7_fill_fda19_13 : decode cJ7_fill_fda19 13 = .ok (.if_icmp .ge 14, 3) := by decide +kernel
theorem dJ7_fill_fda19_16 : decode cJ7_fill_fda19 16 = .ok (.aload_n 0, 1) := by decide +kernel
theorem dJ7_fill_fda19_17 : decode cJ7_fill_fda19 17 = .ok (.iload 4, 2) := by decide +kernel
theorem dJ7_fill_fda19_19 : decode cJ7_fill_fda19 19 = .ok (.iload_n 3, 1) := by decide +kernel
theorem dJ7_fill_fda19_20 : decode cJ7_fill_fda19 20 = .ok (.iastore, 1) := by decide +kernel
theorem dJ7_fill_fda19_21 : decode cJ7_fill_fda19 21 = .ok (.iinc 4 1, 3) := by decide +kernel
theorem dJ7_fill_fda19_24 : decode cJ7_fill_fda19 24 = .ok (.goto (-14), 3) := by decide +kernel
theorem dJ7_fill_fda19_27 : decode cJ7_fill_fda19 27 = .ok (.return_, 1) := by decide +kernel
theorem dL_cell_0 : decode cL_cell 0 = .ok (.iload_n 1, 1) := by decide +kernel
theorem dL_cell_1 : decode cL_cell 1 = .ok (.aload_n 0, 1) := by decide +kernel
theorem dL_cell_2 : decode cL_cell 2 = .ok (.arraylength, 1) := by decide +kernel
theorem dL_cell_3 : decode cL_cell 3 = .ok (.if_icmp .ge 9, 3) := by decide +kernel
theorem dL_cell_6 : decode cL_cell 6 = .ok (.aload_n 0, 1) := by decide +kernel
theorem dL_cell_7 : decode cL_cell 7 = .ok (.iload_n 1, 1) := by decide +kernel
theorem dL_cell_8 : decode cL_cell 8 = .ok (.iaload, 1) := by decide +kernel
theorem dL_cell_9 : decode cL_cell 9 = .ok (.goto 4, 3) := by decide +kernel
theorem dL_cell_12 : decode cL_cell 12 = .ok (.iconst 0, 1) := by decide +kernel
theorem dL_cell_13 : decode cL_cell 13 = .ok (.ireturn, 1) := by decide +kernel
theorem dL_law_0 : decode cL_law 0 = .ok (.new 7, 3) := by decide +kernel
theorem dL_law_3 : decode cL_law 3 = .ok (.dup, 1) := by decide +kernel
theorem dL_law_4 : decode cL_law 4 = .ok (.aload_n 0, 1) := by decide +kernel
theorem dL_law_5 : decode cL_law 5 = .ok (.iconst 0, 1) := by decide +kernel
theorem dL_law_6 : decode cL_law 6 = .ok (.invokestatic 9, 3) := by decide +kernel
theorem dL_law_9 : decode cL_law 9 = .ok (.aload_n 0, 1) := by decide +kernel
theorem dL_law_10 : decode cL_law 10 = .ok (.iconst 1, 1) := by decide +kernel
theorem dL_law_11 : decode cL_law 11 = .ok (.invokestatic 9, 3) := by decide +kernel
theorem dL_law_14 : decode cL_law 14 = .ok (.aload_n 0, 1) := by decide +kernel
theorem dL_law_15 : decode cL_law 15 = .ok (.iconst 2, 1) := by decide +kernel
theorem dL_law_16 : decode cL_law 16 = .ok (.invokestatic 9, 3) := by decide +kernel
theorem dL_law_19 : decode cL_law 19 = .ok (.aload_n 0, 1) := by decide +kernel
theorem dL_law_20 : decode cL_law 20 = .ok (.iconst 3, 1) := by decide +kernel
theorem dL_law_21 : decode cL_law 21 = .ok (.invokestatic 9, 3) := by decide +kernel
theorem dL_law_24 : decode cL_law 24 = .ok (.invokespecial 15, 3) := by decide +kernel
theorem dL_law_27 : decode cL_law 27 = .ok (.astore_n 1, 1) := by decide +kernel
theorem dL_law_28 : decode cL_law 28 = .ok (.new 18, 3) := by decide +kernel
theorem dL_law_31 : decode cL_law 31 = .ok (.dup, 1) := by decide +kernel
theorem dL_law_32 : decode cL_law 32 = .ok (.aload_n 0, 1) := by decide +kernel
theorem dL_law_33 : decode cL_law 33 = .ok (.iconst 0, 1) := by decide +kernel
theorem dL_law_34 : decode cL_law 34 = .ok (.invokestatic 9, 3) := by decide +kernel
theorem dL_law_37 : decode cL_law 37 = .ok (.aload_n 0, 1) := by decide +kernel
theorem dL_law_38 : decode cL_law 38 = .ok (.iconst 1, 1) := by decide +kernel
theorem dL_law_39 : decode cL_law 39 = .ok (.invokestatic 9, 3) := by decide +kernel
theorem dL_law_42 : decode cL_law 42 = .ok (.aload_n 0, 1) := by decide +kernel
theorem dL_law_43 : decode cL_law 43 = .ok (.iconst 2, 1) := by decide +kernel
theorem dL_law_44 : decode cL_law 44 = .ok (.invokestatic 9, 3) := by decide +kernel
theorem dL_law_47 : decode cL_law 47 = .ok (.aload_n 0, 1) := by decide +kernel
theorem dL_law_48 : decode cL_law 48 = .ok (.iconst 3, 1) := by decide +kernel
theorem dL_law_49 : decode cL_law 49 = .ok (.invokestatic 9, 3) := by decide +kernel
theorem dL_law_52 : decode cL_law 52 = .ok (.invokespecial 20, 3) := by decide +kernel
theorem dL_law_55 : decode cL_law 55 = .ok (.astore_n 2, 1) := by decide +kernel
theorem dL_law_56 : decode cL_law 56 = .ok (.iconst 4, 1) := by decide +kernel
theorem dL_law_57 : decode cL_law 57 = .ok (.istore_n 3, 1) := by decide +kernel
theorem dL_law_58 : decode cL_law 58 = .ok (.iload_n 3, 1) := by decide +kernel
theorem dL_law_59 : decode cL_law 59 = .ok (.aload_n 0, 1) := by decide +kernel
theorem dL_law_60 : decode cL_law 60 = .ok (.arraylength, 1) := by decide +kernel
theorem dL_law_61 : decode cL_law 61 = .ok (.iconst 5, 1) := by decide +kernel
theorem dL_law_62 : decode cL_law 62 = .ok (.isub, 1) := by decide +kernel
theorem dL_law_63 : decode cL_law 63 = .ok (.if_icmp .gt 578, 3) := by decide +kernel
theorem dL_law_66 : decode cL_law 66 = .ok (.aload_n 0, 1) := by decide +kernel
theorem dL_law_67 : decode cL_law 67 = .ok (.iload_n 3, 1) := by decide +kernel
theorem dL_law_68 : decode cL_law 68 = .ok (.iaload, 1) := by decide +kernel
theorem dL_law_69 : decode cL_law 69 = .ok (.bipush 31, 2) := by decide +kernel
theorem dL_law_71 : decode cL_law 71 = .ok (.iand, 1) := by decide +kernel
theorem dL_law_72 : decode cL_law 72 = .ok (.tableswitch 563 0 17 #[88, 101, 124, 167, 200, 223, 246, 299, 312, 335, 358, 381, 405, 428, 451, 464, 497, 530], 88) := by decide +kernel
theorem dL_law_160 : decode cL_law 160 = .ok (.aload_n 1, 1) := by decide +kernel
theorem dL_law_161 : decode cL_law 161 = .ok (.invokevirtual 21, 3) := by decide +kernel
theorem dL_law_164 : decode cL_law 164 = .ok (.aload_n 2, 1) := by decide +kernel
theorem dL_law_165 : decode cL_law 165 = .ok (.invokevirtual 25, 3) := by decide +kernel
theorem dL_law_168 : decode cL_law 168 = .ok (.if_icmp .eq 467, 3) := by decide +kernel
theorem dL_law_171 : decode cL_law 171 = .ok (.iconst 0, 1) := by decide +kernel
theorem dL_law_172 : decode cL_law 172 = .ok (.ireturn, 1) := by decide +kernel
theorem dL_law_173 : decode cL_law 173 = .ok (.aload_n 1, 1) := by decide +kernel
theorem dL_law_174 : decode cL_law 174 = .ok (.aload_n 0, 1) := by decide +kernel
theorem dL_law_175 : decode cL_law 175 = .ok (.iload_n 3, 1) := by decide +kernel
theorem dL_law_176 : decode cL_law 176 = .ok (.iconst 1, 1) := by decide +kernel
theorem dL_law_177 : decode cL_law 177 = .ok (.iadd, 1) := by decide +kernel
theorem dL_law_178 : decode cL_law 178 = .ok (.iaload, 1) := by decide +kernel
theorem dL_law_179 : decode cL_law 179 = .ok (.invokevirtual 26, 3) := by decide +kernel
theorem dL_law_182 : decode cL_law 182 = .ok (.aload_n 2, 1) := by decide +kernel
theorem dL_law_183 : decode cL_law 183 = .ok (.aload_n 0, 1) := by decide +kernel
theorem dL_law_184 : decode cL_law 184 = .ok (.iload_n 3, 1) := by decide +kernel
theorem dL_law_185 : decode cL_law 185 = .ok (.iconst 1, 1) := by decide +kernel
theorem dL_law_186 : decode cL_law 186 = .ok (.iadd, 1) := by decide +kernel
theorem dL_law_187 : decode cL_law 187 = .ok (.iaload, 1) := by decide +kernel
theorem dL_law_188 : decode cL_law 188 = .ok (.invokevirtual 30, 3) := by decide +kernel
theorem dL_law_191 : decode cL_law 191 = .ok (.if_icmp .eq 444, 3) := by decide +kernel
theorem dL_law_194 : decode cL_law 194 = .ok (.iconst 0, 1) := by decide +kernel
theorem dL_law_195 : decode cL_law 195 = .ok (.ireturn, 1) := by decide +kernel
theorem dL_law_196 : decode cL_law 196 = .ok (.aload_n 1, 1) := by decide +kernel
theorem dL_law_197 : decode cL_law 197 = .ok (.aload_n 0, 1) := by decide +kernel
theorem dL_law_198 : decode cL_law 198 = .ok (.iload_n 3, 1) := by decide +kernel
theorem dL_law_199 : decode cL_law 199 = .ok (.iconst 1, 1) := by decide +kernel
theorem dL_law_200 : decode cL_law 200 = .ok (.iadd, 1) := by decide +kernel
theorem dL_law_201 : decode cL_law 201 = .ok (.iaload, 1) := by decide +kernel
theorem dL_law_202 : decode cL_law 202 = .ok (.aload_n 0, 1) := by decide +kernel
theorem dL_law_203 : decode cL_law 203 = .ok (.iload_n 3, 1) := by decide +kernel
theorem dL_law_204 : decode cL_law 204 = .ok (.iconst 2, 1) := by decide +kernel
theorem dL_law_205 : decode cL_law 205 = .ok (.iadd, 1) := by decide +kernel
theorem dL_law_206 : decode cL_law 206 = .ok (.iaload, 1) := by decide +kernel
theorem dL_law_207 : decode cL_law 207 = .ok (.aload_n 0, 1) := by decide +kernel
theorem dL_law_208 : decode cL_law 208 = .ok (.iload_n 3, 1) := by decide +kernel
theorem dL_law_209 : decode cL_law 209 = .ok (.iconst 3, 1) := by decide +kernel
theorem dL_law_210 : decode cL_law 210 = .ok (.iadd, 1) := by decide +kernel
theorem dL_law_211 : decode cL_law 211 = .ok (.iaload, 1) := by decide +kernel
theorem dL_law_212 : decode cL_law 212 = .ok (.invokevirtual 31, 3) := by decide +kernel
theorem dL_law_215 : decode cL_law 215 = .ok (.aload_n 2, 1) := by decide +kernel
theorem dL_law_216 : decode cL_law 216 = .ok (.aload_n 0, 1) := by decide +kernel
theorem dL_law_217 : decode cL_law 217 = .ok (.iload_n 3, 1) := by decide +kernel
theorem dL_law_218 : decode cL_law 218 = .ok (.iconst 1, 1) := by decide +kernel
theorem dL_law_219 : decode cL_law 219 = .ok (.iadd, 1) := by decide +kernel
theorem dL_law_220 : decode cL_law 220 = .ok (.iaload, 1) := by decide +kernel
theorem dL_law_221 : decode cL_law 221 = .ok (.aload_n 0, 1) := by decide +kernel
theorem dL_law_222 : decode cL_law 222 = .ok (.iload_n 3, 1) := by decide +kernel
theorem dL_law_223 : decode cL_law 223 = .ok (.iconst 2, 1) := by decide +kernel
theorem dL_law_224 : decode cL_law 224 = .ok (.iadd, 1) := by decide +kernel
theorem dL_law_225 : decode cL_law 225 = .ok (.iaload, 1) := by decide +kernel
theorem dL_law_226 : decode cL_law 226 = .ok (.aload_n 0, 1) := by decide +kernel
theorem dL_law_227 : decode cL_law 227 = .ok (.iload_n 3, 1) := by decide +kernel
theorem dL_law_228 : decode cL_law 228 = .ok (.iconst 3, 1) := by decide +kernel
theorem dL_law_229 : decode cL_law 229 = .ok (.iadd, 1) := by decide +kernel
theorem dL_law_230 : decode cL_law 230 = .ok (.iaload, 1) := by decide +kernel
theorem dL_law_231 : decode cL_law 231 = .ok (.invokevirtual 35, 3) := by decide +kernel
theorem dL_law_234 : decode cL_law 234 = .ok (.if_icmp .eq 401, 3) := by decide +kernel
theorem dL_law_237 : decode cL_law 237 = .ok (.iconst 0, 1) := by decide +kernel
theorem dL_law_238 : decode cL_law 238 = .ok (.ireturn, 1) := by decide +kernel
theorem dL_law_239 : decode cL_law 239 = .ok (.aload_n 1, 1) := by decide +kernel
theorem dL_law_240 : decode cL_law 240 = .ok (.aload_n 0, 1) := by decide +kernel
theorem dL_law_241 : decode cL_law 241 = .ok (.iload_n 3, 1) := by decide +kernel
theorem dL_law_242 : decode cL_law 242 = .ok (.iconst 1, 1) := by decide +kernel
theorem dL_law_243 : decode cL_law 243 = .ok (.iadd, 1) := by decide +kernel
theorem dL_law_244 : decode cL_law 244 = .ok (.iaload, 1) := by decide +kernel
theorem dL_law_245 : decode cL_law 245 = .ok (.aload_n 0, 1) := by decide +kernel
theorem dL_law_246 : decode cL_law 246 = .ok (.iload_n 3, 1) := by decide +kernel
theorem dL_law_247 : decode cL_law 247 = .ok (.iconst 2, 1) := by decide +kernel
theorem dL_law_248 : decode cL_law 248 = .ok (.iadd, 1) := by decide +kernel
theorem dL_law_249 : decode cL_law 249 = .ok (.iaload, 1) := by decide +kernel
theorem dL_law_250 : decode cL_law 250 = .ok (.invokevirtual 36, 3) := by decide +kernel
theorem dL_law_253 : decode cL_law 253 = .ok (.aload_n 2, 1) := by decide +kernel
theorem dL_law_254 : decode cL_law 254 = .ok (.aload_n 0, 1) := by decide +kernel
theorem dL_law_255 : decode cL_law 255 = .ok (.iload_n 3, 1) := by decide +kernel
theorem dL_law_256 : decode cL_law 256 = .ok (.iconst 1, 1) := by decide +kernel
theorem dL_law_257 : decode cL_law 257 = .ok (.iadd, 1) := by decide +kernel
theorem dL_law_258 : decode cL_law 258 = .ok (.iaload, 1) := by decide +kernel
theorem dL_law_259 : decode cL_law 259 = .ok (.aload_n 0, 1) := by decide +kernel
theorem dL_law_260 : decode cL_law 260 = .ok (.iload_n 3, 1) := by decide +kernel
theorem dL_law_261 : decode cL_law 261 = .ok (.iconst 2, 1) := by decide +kernel
theorem dL_law_262 : decode cL_law 262 = .ok (.iadd, 1) := by decide +kernel
theorem dL_law_263 : decode cL_law 263 = .ok (.iaload, 1) := by decide +kernel
theorem dL_law_264 : decode cL_law 264 = .ok (.invokevirtual 40, 3) := by decide +kernel
theorem dL_law_267 : decode cL_law 267 = .ok (.if_icmp .eq 368, 3) := by decide +kernel
theorem dL_law_270 : decode cL_law 270 = .ok (.iconst 0, 1) := by decide +kernel
theorem dL_law_271 : decode cL_law 271 = .ok (.ireturn, 1) := by decide +kernel
theorem dL_law_272 : decode cL_law 272 = .ok (.aload_n 1, 1) := by decide +kernel
theorem dL_law_273 : decode cL_law 273 = .ok (.aload_n 0, 1) := by decide +kernel
theorem dL_law_274 : decode cL_law 274 = .ok (.iload_n 3, 1) := by decide +kernel
theorem dL_law_275 : decode cL_law 275 = .ok (.iconst 1, 1) := by decide +kernel
theorem dL_law_276 : decode cL_law 276 = .ok (.iadd, 1) := by decide +kernel
theorem dL_law_277 : decode cL_law 277 = .ok (.iaload, 1) := by decide +kernel
theorem dL_law_278 : decode cL_law 278 = .ok (.invokevirtual 41, 3) := by decide +kernel
theorem dL_law_281 : decode cL_law 281 = .ok (.aload_n 2, 1) := by decide +kernel
theorem dL_law_282 : decode cL_law 282 = .ok (.aload_n 0, 1) := by decide +kernel
theorem dL_law_283 : decode cL_law 283 = .ok (.iload_n 3, 1) := by decide +kernel
theorem dL_law_284 : decode cL_law 284 = .ok (.iconst 1, 1) := by decide +kernel
theorem dL_law_285 : decode cL_law 285 = .ok (.iadd, 1) := by decide +kernel
theorem dL_law_286 : decode cL_law 286 = .ok (.iaload, 1) := by decide +kernel
theorem dL_law_287 : decode cL_law 287 = .ok (.invokevirtual 44, 3) := by decide +kernel
theorem dL_law_290 : decode cL_law 290 = .ok (.if_icmp .eq 345, 3) := by decide +kernel
theorem dL_law_293 : decode cL_law 293 = .ok (.iconst 0, 1) := by decide +kernel
theorem dL_law_294 : decode cL_law 294 = .ok (.ireturn, 1) := by decide +kernel
theorem dL_law_295 : decode cL_law 295 = .ok (.aload_n 1, 1) := by decide +kernel
theorem dL_law_296 : decode cL_law 296 = .ok (.aload_n 0, 1) := by decide +kernel
theorem dL_law_297 : decode cL_law 297 = .ok (.iload_n 3, 1) := by decide +kernel
theorem dL_law_298 : decode cL_law 298 = .ok (.iconst 1, 1) := by decide +kernel
theorem dL_law_299 : decode cL_law 299 = .ok (.iadd, 1) := by decide +kernel
theorem dL_law_300 : decode cL_law 300 = .ok (.iaload, 1) := by decide +kernel
theorem dL_law_301 : decode cL_law 301 = .ok (.invokevirtual 45, 3) := by decide +kernel
theorem dL_law_304 : decode cL_law 304 = .ok (.aload_n 2, 1) := by decide +kernel
theorem dL_law_305 : decode cL_law 305 = .ok (.aload_n 0, 1) := by decide +kernel
theorem dL_law_306 : decode cL_law 306 = .ok (.iload_n 3, 1) := by decide +kernel
theorem dL_law_307 : decode cL_law 307 = .ok (.iconst 1, 1) := by decide +kernel
theorem dL_law_308 : decode cL_law 308 = .ok (.iadd, 1) := by decide +kernel
theorem dL_law_309 : decode cL_law 309 = .ok (.iaload, 1) := by decide +kernel
theorem dL_law_310 : decode cL_law 310 = .ok (.invokevirtual 49, 3) := by decide +kernel
theorem dL_law_313 : decode cL_law 313 = .ok (.if_icmp .eq 322, 3) := by decide +kernel
theorem dL_law_316 : decode cL_law 316 = .ok (.iconst 0, 1) := by decide +kernel
theorem dL_law_317 : decode cL_law 317 = .ok (.ireturn, 1) := by decide +kernel
theorem dL_law_318 : decode cL_law 318 = .ok (.aload_n 1, 1) := by decide +kernel
theorem dL_law_319 : decode cL_law 319 = .ok (.aload_n 0, 1) := by decide +kernel
theorem dL_law_320 : decode cL_law 320 = .ok (.iload_n 3, 1) := by decide +kernel
theorem dL_law_321 : decode cL_law 321 = .ok (.iconst 1, 1) := by decide +kernel
theorem dL_law_322 : decode cL_law 322 = .ok (.iadd, 1) := by decide +kernel
theorem dL_law_323 : decode cL_law 323 = .ok (.iaload, 1) := by decide +kernel
theorem dL_law_324 : decode cL_law 324 = .ok (.aload_n 0, 1) := by decide +kernel
theorem dL_law_325 : decode cL_law 325 = .ok (.iload_n 3, 1) := by decide +kernel
theorem dL_law_326 : decode cL_law 326 = .ok (.iconst 2, 1) := by decide +kernel
theorem dL_law_327 : decode cL_law 327 = .ok (.iadd, 1) := by decide +kernel
theorem dL_law_328 : decode cL_law 328 = .ok (.iaload, 1) := by decide +kernel
theorem dL_law_329 : decode cL_law 329 = .ok (.aload_n 0, 1) := by decide +kernel
theorem dL_law_330 : decode cL_law 330 = .ok (.iload_n 3, 1) := by decide +kernel
theorem dL_law_331 : decode cL_law 331 = .ok (.iconst 3, 1) := by decide +kernel
theorem dL_law_332 : decode cL_law 332 = .ok (.iadd, 1) := by decide +kernel
theorem dL_law_333 : decode cL_law 333 = .ok (.iaload, 1) := by decide +kernel
theorem dL_law_334 : decode cL_law 334 = .ok (.aload_n 0, 1) := by decide +kernel
theorem dL_law_335 : decode cL_law 335 = .ok (.iload_n 3, 1) := by decide +kernel
theorem dL_law_336 : decode cL_law 336 = .ok (.iconst 4, 1) := by decide +kernel
theorem dL_law_337 : decode cL_law 337 = .ok (.iadd, 1) := by decide +kernel
theorem dL_law_338 : decode cL_law 338 = .ok (.iaload, 1) := by decide +kernel
theorem dL_law_339 : decode cL_law 339 = .ok (.invokevirtual 50, 3) := by decide +kernel
theorem dL_law_342 : decode cL_law 342 = .ok (.aload_n 2, 1) := by decide +kernel
theorem dL_law_343 : decode cL_law 343 = .ok (.aload_n 0, 1) := by decide +kernel
theorem dL_law_344 : decode cL_law 344 = .ok (.iload_n 3, 1) := by decide +kernel
theorem dL_law_345 : decode cL_law 345 = .ok (.iconst 1, 1) := by decide +kernel
theorem dL_law_346 : decode cL_law 346 = .ok (.iadd, 1) := by decide +kernel
theorem dL_law_347 : decode cL_law 347 = .ok (.iaload, 1) := by decide +kernel
theorem dL_law_348 : decode cL_law 348 = .ok (.aload_n 0, 1) := by decide +kernel
theorem dL_law_349 : decode cL_law 349 = .ok (.iload_n 3, 1) := by decide +kernel
theorem dL_law_350 : decode cL_law 350 = .ok (.iconst 2, 1) := by decide +kernel
theorem dL_law_351 : decode cL_law 351 = .ok (.iadd, 1) := by decide +kernel
theorem dL_law_352 : decode cL_law 352 = .ok (.iaload, 1) := by decide +kernel
theorem dL_law_353 : decode cL_law 353 = .ok (.aload_n 0, 1) := by decide +kernel
theorem dL_law_354 : decode cL_law 354 = .ok (.iload_n 3, 1) := by decide +kernel
theorem dL_law_355 : decode cL_law 355 = .ok (.iconst 3, 1) := by decide +kernel
theorem dL_law_356 : decode cL_law 356 = .ok (.iadd, 1) := by decide +kernel
theorem dL_law_357 : decode cL_law 357 = .ok (.iaload, 1) := by decide +kernel
theorem dL_law_358 : decode cL_law 358 = .ok (.aload_n 0, 1) := by decide +kernel
theorem dL_law_359 : decode cL_law 359 = .ok (.iload_n 3, 1) := by decide +kernel
theorem dL_law_360 : decode cL_law 360 = .ok (.iconst 4, 1) := by decide +kernel
theorem dL_law_361 : decode cL_law 361 = .ok (.iadd, 1) := by decide +kernel
theorem dL_law_362 : decode cL_law 362 = .ok (.iaload, 1) := by decide +kernel
theorem dL_law_363 : decode cL_law 363 = .ok (.invokevirtual 54, 3) := by decide +kernel
theorem dL_law_366 : decode cL_law 366 = .ok (.if_icmp .eq 269, 3) := by decide +kernel
theorem dL_law_369 : decode cL_law 369 = .ok (.iconst 0, 1) := by decide +kernel
theorem dL_law_370 : decode cL_law 370 = .ok (.ireturn, 1) := by decide +kernel
theorem dL_law_371 : decode cL_law 371 = .ok (.aload_n 1, 1) := by decide +kernel
theorem dL_law_372 : decode cL_law 372 = .ok (.invokevirtual 55, 3) := by decide +kernel
theorem dL_law_375 : decode cL_law 375 = .ok (.aload_n 2, 1) := by decide +kernel
theorem dL_law_376 : decode cL_law 376 = .ok (.invokevirtual 58, 3) := by decide +kernel
theorem dL_law_379 : decode cL_law 379 = .ok (.if_icmp .eq 256, 3) := by decide +kernel
theorem dL_law_382 : decode cL_law 382 = .ok (.iconst 0, 1) := by decide +kernel
theorem dL_law_383 : decode cL_law 383 = .ok (.ireturn, 1) := by decide +kernel
theorem dL_law_384 : decode cL_law 384 = .ok (.aload_n 1, 1) := by decide +kernel
theorem dL_law_385 : decode cL_law 385 = .ok (.aload_n 0, 1) := by decide +kernel
theorem dL_law_386 : decode cL_law 386 = .ok (.iload_n 3, 1) := by decide +kernel
theorem dL_law_387 : decode cL_law 387 = .ok (.iconst 1, 1) := by decide +kernel
theorem dL_law_388 : decode cL_law 388 = .ok (.iadd, 1) := by decide +kernel
theorem dL_law_389 : decode cL_law 389 = .ok (.iaload, 1) := by decide +kernel
theorem dL_law_390 : decode cL_law 390 = .ok (.invokevirtual 59, 3) := by decide +kernel
theorem dL_law_393 : decode cL_law 393 = .ok (.aload_n 2, 1) := by decide +kernel
theorem dL_law_394 : decode cL_law 394 = .ok (.aload_n 0, 1) := by decide +kernel
theorem dL_law_395 : decode cL_law 395 = .ok (.iload_n 3, 1) := by decide +kernel
theorem dL_law_396 : decode cL_law 396 = .ok (.iconst 1, 1) := by decide +kernel
theorem dL_law_397 : decode cL_law 397 = .ok (.iadd, 1) := by decide +kernel
theorem dL_law_398 : decode cL_law 398 = .ok (.iaload, 1) := by decide +kernel
theorem dL_law_399 : decode cL_law 399 = .ok (.invokevirtual 62, 3) := by decide +kernel
theorem dL_law_402 : decode cL_law 402 = .ok (.if_icmp .eq 233, 3) := by decide +kernel
theorem dL_law_405 : decode cL_law 405 = .ok (.iconst 0, 1) := by decide +kernel
theorem dL_law_406 : decode cL_law 406 = .ok (.ireturn, 1) := by decide +kernel
theorem dL_law_407 : decode cL_law 407 = .ok (.aload_n 1, 1) := by decide +kernel
theorem dL_law_408 : decode cL_law 408 = .ok (.aload_n 0, 1) := by decide +kernel
theorem dL_law_409 : decode cL_law 409 = .ok (.iload_n 3, 1) := by decide +kernel
theorem dL_law_410 : decode cL_law 410 = .ok (.iconst 1, 1) := by decide +kernel
theorem dL_law_411 : decode cL_law 411 = .ok (.iadd, 1) := by decide +kernel
theorem dL_law_412 : decode cL_law 412 = .ok (.iaload, 1) := by decide +kernel
theorem dL_law_413 : decode cL_law 413 = .ok (.invokevirtual 63, 3) := by decide +kernel
theorem dL_law_416 : decode cL_law 416 = .ok (.aload_n 2, 1) := by decide +kernel
theorem dL_law_417 : decode cL_law 417 = .ok (.aload_n 0, 1) := by decide +kernel
theorem dL_law_418 : decode cL_law 418 = .ok (.iload_n 3, 1) := by decide +kernel
theorem dL_law_419 : decode cL_law 419 = .ok (.iconst 1, 1) := by decide +kernel
theorem dL_law_420 : decode cL_law 420 = .ok (.iadd, 1) := by decide +kernel
theorem dL_law_421 : decode cL_law 421 = .ok (.iaload, 1) := by decide +kernel
theorem dL_law_422 : decode cL_law 422 = .ok (.invokevirtual 66, 3) := by decide +kernel
theorem dL_law_425 : decode cL_law 425 = .ok (.if_icmp .eq 210, 3) := by decide +kernel
theorem dL_law_428 : decode cL_law 428 = .ok (.iconst 0, 1) := by decide +kernel
theorem dL_law_429 : decode cL_law 429 = .ok (.ireturn, 1) := by decide +kernel
theorem dL_law_430 : decode cL_law 430 = .ok (.aload_n 1, 1) := by decide +kernel
theorem dL_law_431 : decode cL_law 431 = .ok (.aload_n 0, 1) := by decide +kernel
theorem dL_law_432 : decode cL_law 432 = .ok (.iload_n 3, 1) := by decide +kernel
theorem dL_law_433 : decode cL_law 433 = .ok (.iconst 1, 1) := by decide +kernel
theorem dL_law_434 : decode cL_law 434 = .ok (.iadd, 1) := by decide +kernel
theorem dL_law_435 : decode cL_law 435 = .ok (.iaload, 1) := by decide +kernel
theorem dL_law_436 : decode cL_law 436 = .ok (.invokevirtual 67, 3) := by decide +kernel
theorem dL_law_439 : decode cL_law 439 = .ok (.aload_n 2, 1) := by decide +kernel
theorem dL_law_440 : decode cL_law 440 = .ok (.aload_n 0, 1) := by decide +kernel
theorem dL_law_441 : decode cL_law 441 = .ok (.iload_n 3, 1) := by decide +kernel
theorem dL_law_442 : decode cL_law 442 = .ok (.iconst 1, 1) := by decide +kernel
theorem dL_law_443 : decode cL_law 443 = .ok (.iadd, 1) := by decide +kernel
theorem dL_law_444 : decode cL_law 444 = .ok (.iaload, 1) := by decide +kernel
theorem dL_law_445 : decode cL_law 445 = .ok (.invokevirtual 70, 3) := by decide +kernel
theorem dL_law_448 : decode cL_law 448 = .ok (.if_icmp .eq 187, 3) := by decide +kernel
theorem dL_law_451 : decode cL_law 451 = .ok (.iconst 0, 1) := by decide +kernel
theorem dL_law_452 : decode cL_law 452 = .ok (.ireturn, 1) := by decide +kernel
theorem dL_law_453 : decode cL_law 453 = .ok (.aload_n 1, 1) := by decide +kernel
theorem dL_law_454 : decode cL_law 454 = .ok (.aload_n 0, 1) := by decide +kernel
theorem dL_law_455 : decode cL_law 455 = .ok (.iload_n 3, 1) := by decide +kernel
theorem dL_law_456 : decode cL_law 456 = .ok (.iconst 1, 1) := by decide +kernel
theorem dL_law_457 : decode cL_law 457 = .ok (.iadd, 1) := by decide +kernel
theorem dL_law_458 : decode cL_law 458 = .ok (.iaload, 1) := by decide +kernel
theorem dL_law_459 : decode cL_law 459 = .ok (.invokevirtual 71, 3) := by decide +kernel
theorem dL_law_462 : decode cL_law 462 = .ok (.aload_n 2, 1) := by decide +kernel
theorem dL_law_463 : decode cL_law 463 = .ok (.aload_n 0, 1) := by decide +kernel
theorem dL_law_464 : decode cL_law 464 = .ok (.iload_n 3, 1) := by decide +kernel
theorem dL_law_465 : decode cL_law 465 = .ok (.iconst 1, 1) := by decide +kernel
theorem dL_law_466 : decode cL_law 466 = .ok (.iadd, 1) := by decide +kernel
theorem dL_law_467 : decode cL_law 467 = .ok (.iaload, 1) := by decide +kernel
theorem dL_law_468 : decode cL_law 468 = .ok (.invokevirtual 75, 3) := by decide +kernel
theorem dL_law_471 : decode cL_law 471 = .ok (.lcmp, 1) := by decide +kernel
theorem dL_law_472 : decode cL_law 472 = .ok (.ifCond .eq 163, 3) := by decide +kernel
theorem dL_law_475 : decode cL_law 475 = .ok (.iconst 0, 1) := by decide +kernel
theorem dL_law_476 : decode cL_law 476 = .ok (.ireturn, 1) := by decide +kernel
theorem dL_law_477 : decode cL_law 477 = .ok (.aload_n 1, 1) := by decide +kernel
theorem dL_law_478 : decode cL_law 478 = .ok (.aload_n 0, 1) := by decide +kernel
theorem dL_law_479 : decode cL_law 479 = .ok (.iload_n 3, 1) := by decide +kernel
theorem dL_law_480 : decode cL_law 480 = .ok (.iconst 1, 1) := by decide +kernel
theorem dL_law_481 : decode cL_law 481 = .ok (.iadd, 1) := by decide +kernel
theorem dL_law_482 : decode cL_law 482 = .ok (.iaload, 1) := by decide +kernel
theorem dL_law_483 : decode cL_law 483 = .ok (.invokevirtual 76, 3) := by decide +kernel
theorem dL_law_486 : decode cL_law 486 = .ok (.aload_n 2, 1) := by decide +kernel
theorem dL_law_487 : decode cL_law 487 = .ok (.aload_n 0, 1) := by decide +kernel
theorem dL_law_488 : decode cL_law 488 = .ok (.iload_n 3, 1) := by decide +kernel
theorem dL_law_489 : decode cL_law 489 = .ok (.iconst 1, 1) := by decide +kernel
theorem dL_law_490 : decode cL_law 490 = .ok (.iadd, 1) := by decide +kernel
theorem dL_law_491 : decode cL_law 491 = .ok (.iaload, 1) := by decide +kernel
theorem dL_law_492 : decode cL_law 492 = .ok (.invokevirtual 79, 3) := by decide +kernel
theorem dL_law_495 : decode cL_law 495 = .ok (.if_icmp .eq 140, 3) := by decide +kernel
theorem dL_law_498 : decode cL_law 498 = .ok (.iconst 0, 1) := by decide +kernel
theorem dL_law_499 : decode cL_law 499 = .ok (.ireturn, 1) := by decide +kernel
theorem dL_law_500 : decode cL_law 500 = .ok (.aload_n 1, 1) := by decide +kernel
theorem dL_law_501 : decode cL_law 501 = .ok (.aload_n 0, 1) := by decide +kernel
theorem dL_law_502 : decode cL_law 502 = .ok (.iload_n 3, 1) := by decide +kernel
theorem dL_law_503 : decode cL_law 503 = .ok (.iconst 1, 1) := by decide +kernel
theorem dL_law_504 : decode cL_law 504 = .ok (.iadd, 1) := by decide +kernel
theorem dL_law_505 : decode cL_law 505 = .ok (.iaload, 1) := by decide +kernel
theorem dL_law_506 : decode cL_law 506 = .ok (.invokevirtual 80, 3) := by decide +kernel
theorem dL_law_509 : decode cL_law 509 = .ok (.aload_n 2, 1) := by decide +kernel
theorem dL_law_510 : decode cL_law 510 = .ok (.aload_n 0, 1) := by decide +kernel
theorem dL_law_511 : decode cL_law 511 = .ok (.iload_n 3, 1) := by decide +kernel
theorem dL_law_512 : decode cL_law 512 = .ok (.iconst 1, 1) := by decide +kernel
theorem dL_law_513 : decode cL_law 513 = .ok (.iadd, 1) := by decide +kernel
theorem dL_law_514 : decode cL_law 514 = .ok (.iaload, 1) := by decide +kernel
theorem dL_law_515 : decode cL_law 515 = .ok (.invokevirtual 83, 3) := by decide +kernel
theorem dL_law_518 : decode cL_law 518 = .ok (.if_icmp .eq 117, 3) := by decide +kernel
theorem dL_law_521 : decode cL_law 521 = .ok (.iconst 0, 1) := by decide +kernel
theorem dL_law_522 : decode cL_law 522 = .ok (.ireturn, 1) := by decide +kernel
theorem dL_law_523 : decode cL_law 523 = .ok (.aload_n 1, 1) := by decide +kernel
theorem dL_law_524 : decode cL_law 524 = .ok (.invokevirtual 84, 3) := by decide +kernel
theorem dL_law_527 : decode cL_law 527 = .ok (.aload_n 2, 1) := by decide +kernel
theorem dL_law_528 : decode cL_law 528 = .ok (.invokevirtual 87, 3) := by decide +kernel
theorem dL_law_531 : decode cL_law 531 = .ok (.if_icmp .eq 104, 3) := by decide +kernel
theorem dL_law_534 : decode cL_law 534 = .ok (.iconst 0, 1) := by decide +kernel
theorem dL_law_535 : decode cL_law 535 = .ok (.ireturn, 1) := by decide +kernel
theorem dL_law_536 : decode cL_law 536 = .ok (.aload_n 1, 1) := by decide +kernel
theorem dL_law_537 : decode cL_law 537 = .ok (.aload_n 0, 1) := by decide +kernel
theorem dL_law_538 : decode cL_law 538 = .ok (.iload_n 3, 1) := by decide +kernel
theorem dL_law_539 : decode cL_law 539 = .ok (.iconst 1, 1) := by decide +kernel
theorem dL_law_540 : decode cL_law 540 = .ok (.iadd, 1) := by decide +kernel
theorem dL_law_541 : decode cL_law 541 = .ok (.iaload, 1) := by decide +kernel
theorem dL_law_542 : decode cL_law 542 = .ok (.aload_n 0, 1) := by decide +kernel
theorem dL_law_543 : decode cL_law 543 = .ok (.iload_n 3, 1) := by decide +kernel
theorem dL_law_544 : decode cL_law 544 = .ok (.iconst 2, 1) := by decide +kernel
theorem dL_law_545 : decode cL_law 545 = .ok (.iadd, 1) := by decide +kernel
theorem dL_law_546 : decode cL_law 546 = .ok (.iaload, 1) := by decide +kernel
theorem dL_law_547 : decode cL_law 547 = .ok (.invokevirtual 88, 3) := by decide +kernel
theorem dL_law_550 : decode cL_law 550 = .ok (.aload_n 2, 1) := by decide +kernel
theorem dL_law_551 : decode cL_law 551 = .ok (.aload_n 0, 1) := by decide +kernel
theorem dL_law_552 : decode cL_law 552 = .ok (.iload_n 3, 1) := by decide +kernel
theorem dL_law_553 : decode cL_law 553 = .ok (.iconst 1, 1) := by decide +kernel
theorem dL_law_554 : decode cL_law 554 = .ok (.iadd, 1) := by decide +kernel
theorem dL_law_555 : decode cL_law 555 = .ok (.iaload, 1) := by decide +kernel
theorem dL_law_556 : decode cL_law 556 = .ok (.aload_n 0, 1) := by decide +kernel
theorem dL_law_557 : decode cL_law 557 = .ok (.iload_n 3, 1) := by decide +kernel
theorem dL_law_558 : decode cL_law 558 = .ok (.iconst 2, 1) := by decide +kernel
theorem dL_law_559 : decode cL_law 559 = .ok (.iadd, 1) := by decide +kernel
theorem dL_law_560 : decode cL_law 560 = .ok (.iaload, 1) := by decide +kernel
theorem dL_law_561 : decode cL_law 561 = .ok (.invokevirtual 91, 3) := by decide +kernel
theorem dL_law_564 : decode cL_law 564 = .ok (.if_icmp .eq 71, 3) := by decide +kernel
theorem dL_law_567 : decode cL_law 567 = .ok (.iconst 0, 1) := by decide +kernel
theorem dL_law_568 : decode cL_law 568 = .ok (.ireturn, 1) := by decide +kernel
theorem dL_law_569 : decode cL_law 569 = .ok (.aload_n 1, 1) := by decide +kernel
theorem dL_law_570 : decode cL_law 570 = .ok (.aload_n 0, 1) := by decide +kernel
theorem dL_law_571 : decode cL_law 571 = .ok (.iload_n 3, 1) := by decide +kernel
theorem dL_law_572 : decode cL_law 572 = .ok (.iconst 1, 1) := by decide +kernel
theorem dL_law_573 : decode cL_law 573 = .ok (.iadd, 1) := by decide +kernel
theorem dL_law_574 : decode cL_law 574 = .ok (.iaload, 1) := by decide +kernel
theorem dL_law_575 : decode cL_law 575 = .ok (.aload_n 0, 1) := by decide +kernel
theorem dL_law_576 : decode cL_law 576 = .ok (.iload_n 3, 1) := by decide +kernel
theorem dL_law_577 : decode cL_law 577 = .ok (.iconst 2, 1) := by decide +kernel
theorem dL_law_578 : decode cL_law 578 = .ok (.iadd, 1) := by decide +kernel
theorem dL_law_579 : decode cL_law 579 = .ok (.iaload, 1) := by decide +kernel
theorem dL_law_580 : decode cL_law 580 = .ok (.invokevirtual 92, 3) := by decide +kernel
theorem dL_law_583 : decode cL_law 583 = .ok (.aload_n 2, 1) := by decide +kernel
theorem dL_law_584 : decode cL_law 584 = .ok (.aload_n 0, 1) := by decide +kernel
theorem dL_law_585 : decode cL_law 585 = .ok (.iload_n 3, 1) := by decide +kernel
theorem dL_law_586 : decode cL_law 586 = .ok (.iconst 1, 1) := by decide +kernel
theorem dL_law_587 : decode cL_law 587 = .ok (.iadd, 1) := by decide +kernel
theorem dL_law_588 : decode cL_law 588 = .ok (.iaload, 1) := by decide +kernel
theorem dL_law_589 : decode cL_law 589 = .ok (.aload_n 0, 1) := by decide +kernel
theorem dL_law_590 : decode cL_law 590 = .ok (.iload_n 3, 1) := by decide +kernel
theorem dL_law_591 : decode cL_law 591 = .ok (.iconst 2, 1) := by decide +kernel
theorem dL_law_592 : decode cL_law 592 = .ok (.iadd, 1) := by decide +kernel
theorem dL_law_593 : decode cL_law 593 = .ok (.iaload, 1) := by decide +kernel
theorem dL_law_594 : decode cL_law 594 = .ok (.invokevirtual 95, 3) := by decide +kernel
theorem dL_law_597 : decode cL_law 597 = .ok (.if_icmp .eq 38, 3) := by decide +kernel
theorem dL_law_600 : decode cL_law 600 = .ok (.iconst 0, 1) := by decide +kernel
theorem dL_law_601 : decode cL_law 601 = .ok (.ireturn, 1) := by decide +kernel
theorem dL_law_602 : decode cL_law 602 = .ok (.aload_n 1, 1) := by decide +kernel
theorem dL_law_603 : decode cL_law 603 = .ok (.aload_n 0, 1) := by decide +kernel
theorem dL_law_604 : decode cL_law 604 = .ok (.iload_n 3, 1) := by decide +kernel
theorem dL_law_605 : decode cL_law 605 = .ok (.iconst 1, 1) := by decide +kernel
theorem dL_law_606 : decode cL_law 606 = .ok (.iadd, 1) := by decide +kernel
theorem dL_law_607 : decode cL_law 607 = .ok (.iaload, 1) := by decide +kernel
theorem dL_law_608 : decode cL_law 608 = .ok (.aload_n 0, 1) := by decide +kernel
theorem dL_law_609 : decode cL_law 609 = .ok (.iload_n 3, 1) := by decide +kernel
theorem dL_law_610 : decode cL_law 610 = .ok (.iconst 2, 1) := by decide +kernel
theorem dL_law_611 : decode cL_law 611 = .ok (.iadd, 1) := by decide +kernel
theorem dL_law_612 : decode cL_law 612 = .ok (.iaload, 1) := by decide +kernel
theorem dL_law_613 : decode cL_law 613 = .ok (.invokevirtual 96, 3) := by decide +kernel
theorem dL_law_616 : decode cL_law 616 = .ok (.aload_n 2, 1) := by decide +kernel
theorem dL_law_617 : decode cL_law 617 = .ok (.aload_n 0, 1) := by decide +kernel
theorem dL_law_618 : decode cL_law 618 = .ok (.iload_n 3, 1) := by decide +kernel
theorem dL_law_619 : decode cL_law 619 = .ok (.iconst 1, 1) := by decide +kernel
theorem dL_law_620 : decode cL_law 620 = .ok (.iadd, 1) := by decide +kernel
theorem dL_law_621 : decode cL_law 621 = .ok (.iaload, 1) := by decide +kernel
theorem dL_law_622 : decode cL_law 622 = .ok (.aload_n 0, 1) := by decide +kernel
theorem dL_law_623 : decode cL_law 623 = .ok (.iload_n 3, 1) := by decide +kernel
theorem dL_law_624 : decode cL_law 624 = .ok (.iconst 2, 1) := by decide +kernel
theorem dL_law_625 : decode cL_law 625 = .ok (.iadd, 1) := by decide +kernel
theorem dL_law_626 : decode cL_law 626 = .ok (.iaload, 1) := by decide +kernel
theorem dL_law_627 : decode cL_law 627 = .ok (.invokevirtual 99, 3) := by decide +kernel
theorem dL_law_630 : decode cL_law 630 = .ok (.if_icmp .eq 5, 3) := by decide +kernel
theorem dL_law_633 : decode cL_law 633 = .ok (.iconst 0, 1) := by decide +kernel
theorem dL_law_634 : decode cL_law 634 = .ok (.ireturn, 1) := by decide +kernel
theorem dL_law_635 : decode cL_law 635 = .ok (.iinc 3 5, 3) := by decide +kernel
theorem dL_law_638 : decode cL_law 638 = .ok (.goto (-580), 3) := by decide +kernel
theorem dL_law_641 : decode cL_law 641 = .ok (.iconst 1, 1) := by decide +kernel
theorem dL_law_642 : decode cL_law 642 = .ok (.ireturn, 1) := by decide +kernel
end
section
/-! THE WORDS: tb has those words of the tables that hold through calls; a row says of each that it is there. -/
def tb : List Cond := lw_tbl.filter goodWord
theorem tb_t {w : Cond} (h : w ∈ tables_1) (hg : goodWord w = true) : w ∈ tb := List.mem_filter.mpr ⟨List.mem_append_right _ h, hg⟩
theorem tb_s {q : MethodName × Nat} (h : q ∈ lw_privs) : Cond.selects q.1.cls q.1 q.1 ∈ tb := List.mem_filter.mpr ⟨List.mem_append_left _ (List.mem_map.mpr ⟨q, h, rfl⟩), rfl⟩
theorem tb_good : ∀ w ∈ tb, goodWord w = true := fun w h => (List.mem_filter.mp h).2
theorem tb_lw : ∀ w ∈ tb, w ∈ lw_tbl := fun w h => (List.mem_filter.mp h).1
theorem tb_1 {w : Cond} (i : Nat) (h : tables_1_1[i]? = some w) (hg : goodWord w = true) : w ∈ tb := tb_t (by have h := List.mem_of_getElem? h; exact List.mem_append_left _ h) hg
theorem tb_2 {w : Cond} (i : Nat) (h : tables_1_2[i]? = some w) (hg : goodWord w = true) : w ∈ tb := tb_t (by have h := List.mem_of_getElem? h; exact List.mem_append_right _ (List.mem_append_left _ h)) hg
theorem tb_3 {w : Cond} (i : Nat) (h : tables_1_3[i]? = some w) (hg : goodWord w = true) : w ∈ tb := tb_t (by have h := List.mem_of_getElem? h; exact List.mem_append_right _ (List.mem_append_right _ (List.mem_append_left _ h))) hg
theorem tb_4 {w : Cond} (i : Nat) (h : tables_1_4[i]? = some w) (hg : goodWord w = true) : w ∈ tb := tb_t (by have h := List.mem_of_getElem? h; exact List.mem_append_right _ (List.mem_append_right _ (List.mem_append_right _ (h)))) hg
theorem gv {y : MethodName} {own : String} {idx : Nat} {b : ByteArray} {n : Nat} {r : Option FieldType} (h1 : Cond.methodLink own idx y ∈ tb) (h2 : Cond.instanceMethod y ∈ tb) (h3 : Cond.selects y.cls y y ∈ tb) (h4 : Cond.initialized y.cls ∈ tb) (h5 : Cond.code y b n r ∈ tb) : GoodIn tb (wsV own idx y.cls y (Cond.code y b n r :: tb)) := by
  intro w hw
  have hm : w ∈ tb := by
    simp only [wsV, List.cons_append, List.nil_append, List.mem_cons] at hw
    rcases hw with rfl | rfl | rfl | rfl | rfl | hw
    all_goals assumption
  exact ⟨hm, good_of_word (tb_good w hm)⟩
theorem gs {y : MethodName} {own : String} {idx : Nat} {b : ByteArray} {n : Nat} {r : Option FieldType} (h1 : Cond.methodLink own idx y ∈ tb) (h2 : Cond.static y ∈ tb) (h4 : Cond.initialized y.cls ∈ tb) (h5 : Cond.code y b n r ∈ tb) : GoodIn tb (va_wsS own idx y (Cond.code y b n r :: tb)) := by
  intro w hw
  have hm : w ∈ tb := by
    simp only [va_wsS, List.cons_append, List.nil_append, List.mem_cons] at hw
    rcases hw with rfl | rfl | rfl | rfl | hw
    all_goals assumption
  exact ⟨hm, good_of_word (tb_good w hm)⟩
theorem gi {y : MethodName} {b : ByteArray} {n : Nat} {r : Option FieldType} (h5 : Cond.code y b n r ∈ tb) : GoodIn tb (Cond.code y b n r :: tb) := by
  intro w hw
  have hm : w ∈ tb := by
    rcases List.mem_cons.mp hw with rfl | hw
    all_goals assumption
  exact ⟨hm, good_of_word (tb_good w hm)⟩
theorem m_n_RL : (Jvm.Cond.initialized "LimbKernelLaw") ∈ tb := tb_1 0 rfl rfl
theorem m_n_RX5 : (Jvm.Cond.initialized "LimbKernel") ∈ tb := tb_1 1 rfl rfl
theorem m_n_RX1 : (Jvm.Cond.initialized "LimbKernel$Memory") ∈ tb := tb_1 2 rfl rfl
theorem m_n_RJ9 : (Jvm.Cond.initialized "java/lang/Math") ∈ tb := tb_1 3 rfl rfl
theorem m_n_RJ7 : (Jvm.Cond.initialized "java/util/Arrays") ∈ tb := tb_1 4 rfl rfl
theorem m_n_RX4 : (Jvm.Cond.initialized "LimbKernel$Reckoner") ∈ tb := tb_1 5 rfl rfl
theorem m_n_RX0 : (Jvm.Cond.initialized "LimbKernel$Job") ∈ tb := tb_1 6 rfl rfl
theorem m_n_RX2 : (Jvm.Cond.initialized "LimbKernel$Numeral") ∈ tb := tb_1 7 rfl rfl
theorem m_n_RX3 : (Jvm.Cond.initialized "LimbKernel$Queue") ∈ tb := tb_1 8 rfl rfl
theorem m_n_RX6 : (Jvm.Cond.initialized "LimbKernelModel") ∈ tb := tb_1 9 rfl rfl
theorem m_n_RJ10 : (Jvm.Cond.initialized "java/lang/System") ∈ tb := tb_1 10 rfl rfl
theorem m_l_RL_15 : (Jvm.Cond.methodLink "LimbKernelLaw" (15 : Nat) ({ cls := "LimbKernel", name := "<init>", desc := "(IIII)V" } : Jvm.MethodName)) ∈ tb := tb_1 13 rfl rfl
theorem m_i_yX5_init : (Jvm.Cond.instanceMethod ({ cls := "LimbKernel", name := "<init>", desc := "(IIII)V" } : Jvm.MethodName)) ∈ tb := tb_1 14 rfl rfl
theorem m_c_yX5_init : (Jvm.Cond.code ({ cls := "LimbKernel", name := "<init>", desc := "(IIII)V" } : Jvm.MethodName) prog_1_method_1_code (6 : Nat) (Option.none : Option Jvm.ClassFile.FieldType)) ∈ tb := tb_1 15 rfl rfl
theorem m_l_RX5_1 : (Jvm.Cond.methodLink "LimbKernel" (1 : Nat) ({ cls := "java/lang/Object", name := "<init>", desc := "()V" } : Jvm.MethodName)) ∈ tb := tb_1 16 rfl rfl
theorem m_l_RX5_9 : (Jvm.Cond.methodLink "LimbKernel" (9 : Nat) ({ cls := "LimbKernel", name := "within", desc := "(III)I" } : Jvm.MethodName)) ∈ tb := tb_1 21 rfl rfl
theorem m_s_yX5_within : (Jvm.Cond.static ({ cls := "LimbKernel", name := "within", desc := "(III)I" } : Jvm.MethodName)) ∈ tb := tb_1 22 rfl rfl
theorem m_c_yX5_within : (Jvm.Cond.code ({ cls := "LimbKernel", name := "within", desc := "(III)I" } : Jvm.MethodName) prog_1_method_20_code (3 : Nat) (Option.some Jvm.ClassFile.FieldType.int)) ∈ tb := tb_1 23 rfl rfl
theorem m_l_RX5_196 : (Jvm.Cond.methodLink "LimbKernel" (196 : Nat) ({ cls := "java/lang/Math", name := "min", desc := "(II)I" } : Jvm.MethodName)) ∈ tb := tb_1 24 rfl rfl
theorem m_s_yJ9_min_7cf53 : (Jvm.Cond.static ({ cls := "java/lang/Math", name := "min", desc := "(II)I" } : Jvm.MethodName)) ∈ tb := tb_1 25 rfl rfl
theorem m_c_yJ9_min_7cf53 : (Jvm.Cond.code ({ cls := "java/lang/Math", name := "min", desc := "(II)I" } : Jvm.MethodName) prog_9_method_69_code (2 : Nat) (Option.some Jvm.ClassFile.FieldType.int)) ∈ tb := tb_1 26 rfl rfl
theorem m_l_RX5_201 : (Jvm.Cond.methodLink "LimbKernel" (201 : Nat) ({ cls := "java/lang/Math", name := "max", desc := "(II)I" } : Jvm.MethodName)) ∈ tb := tb_1 27 rfl rfl
theorem m_s_yJ9_max_7cf53 : (Jvm.Cond.static ({ cls := "java/lang/Math", name := "max", desc := "(II)I" } : Jvm.MethodName)) ∈ tb := tb_1 28 rfl rfl
theorem m_c_yJ9_max_7cf53 : (Jvm.Cond.code ({ cls := "java/lang/Math", name := "max", desc := "(II)I" } : Jvm.MethodName) prog_9_method_65_code (2 : Nat) (Option.some Jvm.ClassFile.FieldType.int)) ∈ tb := tb_1 29 rfl rfl
theorem m_l_RX5_15 : (Jvm.Cond.methodLink "LimbKernel" (15 : Nat) ({ cls := "LimbKernel$Memory", name := "<init>", desc := "(I)V" } : Jvm.MethodName)) ∈ tb := tb_1 30 rfl rfl
theorem m_i_yX1_init : (Jvm.Cond.instanceMethod ({ cls := "LimbKernel$Memory", name := "<init>", desc := "(I)V" } : Jvm.MethodName)) ∈ tb := tb_1 31 rfl rfl
theorem m_c_yX1_init : (Jvm.Cond.code ({ cls := "LimbKernel$Memory", name := "<init>", desc := "(I)V" } : Jvm.MethodName) prog_3_method_1_code (2 : Nat) (Option.none : Option Jvm.ClassFile.FieldType)) ∈ tb := tb_1 32 rfl rfl
theorem m_l_RX1_3 : (Jvm.Cond.methodLink "LimbKernel$Memory" (3 : Nat) ({ cls := "java/lang/Object", name := "<init>", desc := "()V" } : Jvm.MethodName)) ∈ tb := tb_1 33 rfl rfl
theorem m_l_RX1_25 : (Jvm.Cond.methodLink "LimbKernel$Memory" (25 : Nat) ({ cls := "LimbKernel$Memory", name := "clear", desc := "()V" } : Jvm.MethodName)) ∈ tb := tb_1 34 rfl rfl
theorem m_i_yX1_clear : (Jvm.Cond.instanceMethod ({ cls := "LimbKernel$Memory", name := "clear", desc := "()V" } : Jvm.MethodName)) ∈ tb := tb_1 35 rfl rfl
theorem m_e_yX1_clear : (Jvm.Cond.selects "LimbKernel$Memory" ({ cls := "LimbKernel$Memory", name := "clear", desc := "()V" } : Jvm.MethodName) ({ cls := "LimbKernel$Memory", name := "clear", desc := "()V" } : Jvm.MethodName)) ∈ tb := tb_1 36 rfl rfl
theorem m_c_yX1_clear : (Jvm.Cond.code ({ cls := "LimbKernel$Memory", name := "clear", desc := "()V" } : Jvm.MethodName) prog_3_method_2_code (1 : Nat) (Option.none : Option Jvm.ClassFile.FieldType)) ∈ tb := tb_1 37 rfl rfl
theorem m_l_RX1_28 : (Jvm.Cond.methodLink "LimbKernel$Memory" (28 : Nat) ({ cls := "java/util/Arrays", name := "fill", desc := "([II)V" } : Jvm.MethodName)) ∈ tb := tb_1 38 rfl rfl
theorem m_s_yJ7_fill_53178 : (Jvm.Cond.static ({ cls := "java/util/Arrays", name := "fill", desc := "([II)V" } : Jvm.MethodName)) ∈ tb := tb_1 39 rfl rfl
theorem m_c_yJ7_fill_53178 : (Jvm.Cond.code ({ cls := "java/util/Arrays", name := "fill", desc := "([II)V" } : Jvm.MethodName) prog_11_method_103_code (4 : Nat) (Option.none : Option Jvm.ClassFile.FieldType)) ∈ tb := tb_1 40 rfl rfl
theorem m_l_RX1_34 : (Jvm.Cond.methodLink "LimbKernel$Memory" (34 : Nat) ({ cls := "LimbKernel$Memory", name := "addFree", desc := "(II)V" } : Jvm.MethodName)) ∈ tb := tb_1 41 rfl rfl
theorem m_i_yX1_addFree : (Jvm.Cond.instanceMethod ({ cls := "LimbKernel$Memory", name := "addFree", desc := "(II)V" } : Jvm.MethodName)) ∈ tb := tb_1 43 rfl rfl
theorem m_c_yX1_addFree : (Jvm.Cond.code ({ cls := "LimbKernel$Memory", name := "addFree", desc := "(II)V" } : Jvm.MethodName) prog_3_method_10_code (3 : Nat) (Option.none : Option Jvm.ClassFile.FieldType)) ∈ tb := tb_1 44 rfl rfl
theorem m_f_RX1_9 : (Jvm.Cond.fieldLink "LimbKernel$Memory" (9 : Nat) "LimbKernel$Memory" "log" "I") ∈ tb := tb_1 45 rfl rfl
theorem m_f_RX5_177 : (Jvm.Cond.fieldLink "LimbKernel" (177 : Nat) "LimbKernel$Memory" "log" "I") ∈ tb := tb_1 46 rfl rfl
theorem m_f_RX1_15 : (Jvm.Cond.fieldLink "LimbKernel$Memory" (15 : Nat) "LimbKernel$Memory" "limbs" "[I") ∈ tb := tb_1 47 rfl rfl
theorem m_f_RX5_24 : (Jvm.Cond.fieldLink "LimbKernel" (24 : Nat) "LimbKernel$Memory" "limbs" "[I") ∈ tb := tb_1 48 rfl rfl
theorem m_f_RX1_19 : (Jvm.Cond.fieldLink "LimbKernel$Memory" (19 : Nat) "LimbKernel$Memory" "freeOf" "[I") ∈ tb := tb_1 49 rfl rfl
theorem m_f_RX5_180 : (Jvm.Cond.fieldLink "LimbKernel" (180 : Nat) "LimbKernel$Memory" "freeOf" "[I") ∈ tb := tb_1 50 rfl rfl
theorem m_f_RX1_22 : (Jvm.Cond.fieldLink "LimbKernel$Memory" (22 : Nat) "LimbKernel$Memory" "freeAt" "[I") ∈ tb := tb_1 51 rfl rfl
theorem m_l_RX5_28 : (Jvm.Cond.methodLink "LimbKernel" (28 : Nat) ({ cls := "LimbKernel$Reckoner", name := "<init>", desc := "([I)V" } : Jvm.MethodName)) ∈ tb := tb_1 64 rfl rfl
theorem m_i_yX4_init : (Jvm.Cond.instanceMethod ({ cls := "LimbKernel$Reckoner", name := "<init>", desc := "([I)V" } : Jvm.MethodName)) ∈ tb := tb_1 65 rfl rfl
theorem m_c_yX4_init : (Jvm.Cond.code ({ cls := "LimbKernel$Reckoner", name := "<init>", desc := "([I)V" } : Jvm.MethodName) prog_6_method_1_code (2 : Nat) (Option.none : Option Jvm.ClassFile.FieldType)) ∈ tb := tb_1 66 rfl rfl
theorem m_l_RX4_3 : (Jvm.Cond.methodLink "LimbKernel$Reckoner" (3 : Nat) ({ cls := "java/lang/Object", name := "<init>", desc := "()V" } : Jvm.MethodName)) ∈ tb := tb_1 67 rfl rfl
theorem m_f_RX4_9 : (Jvm.Cond.fieldLink "LimbKernel$Reckoner" (9 : Nat) "LimbKernel$Reckoner" "limbs" "[I") ∈ tb := tb_1 68 rfl rfl
theorem m_f_RX4_53 : (Jvm.Cond.fieldLink "LimbKernel$Reckoner" (53 : Nat) "LimbKernel$Reckoner" "divisor" "I") ∈ tb := tb_1 69 rfl rfl
theorem m_f_RX4_38 : (Jvm.Cond.fieldLink "LimbKernel$Reckoner" (38 : Nat) "LimbKernel$Reckoner" "divisorSize" "I") ∈ tb := tb_1 70 rfl rfl
theorem m_f_RX4_90 : (Jvm.Cond.fieldLink "LimbKernel$Reckoner" (90 : Nat) "LimbKernel$Reckoner" "shift" "I") ∈ tb := tb_1 71 rfl rfl
theorem m_f_RX4_93 : (Jvm.Cond.fieldLink "LimbKernel$Reckoner" (93 : Nat) "LimbKernel$Reckoner" "divisorTop" "J") ∈ tb := tb_1 72 rfl rfl
theorem m_f_RX4_97 : (Jvm.Cond.fieldLink "LimbKernel$Reckoner" (97 : Nat) "LimbKernel$Reckoner" "divisorNext" "J") ∈ tb := tb_1 73 rfl rfl
theorem m_i_yX0_init : (Jvm.Cond.instanceMethod ({ cls := "LimbKernel$Job", name := "<init>", desc := "()V" } : Jvm.MethodName)) ∈ tb := tb_1 91 rfl rfl
theorem m_c_yX0_init : (Jvm.Cond.code ({ cls := "LimbKernel$Job", name := "<init>", desc := "()V" } : Jvm.MethodName) prog_2_method_1_code (1 : Nat) (Option.none : Option Jvm.ClassFile.FieldType)) ∈ tb := tb_1 92 rfl rfl
theorem m_l_RX0_3 : (Jvm.Cond.methodLink "LimbKernel$Job" (3 : Nat) ({ cls := "java/lang/Object", name := "<init>", desc := "()V" } : Jvm.MethodName)) ∈ tb := tb_1 93 rfl rfl
theorem m_f_RX0_9 : (Jvm.Cond.fieldLink "LimbKernel$Job" (9 : Nat) "LimbKernel$Job" "state" "I") ∈ tb := tb_1 94 rfl rfl
theorem m_f_RX5_141 : (Jvm.Cond.fieldLink "LimbKernel" (141 : Nat) "LimbKernel$Job" "state" "I") ∈ tb := tb_1 95 rfl rfl
theorem m_f_RX0_24 : (Jvm.Cond.fieldLink "LimbKernel$Job" (24 : Nat) "LimbKernel$Job" "op" "I") ∈ tb := tb_1 96 rfl rfl
theorem m_f_RX5_125 : (Jvm.Cond.fieldLink "LimbKernel" (125 : Nat) "LimbKernel$Job" "op" "I") ∈ tb := tb_1 97 rfl rfl
theorem m_f_RX5_128 : (Jvm.Cond.fieldLink "LimbKernel" (128 : Nat) "LimbKernel$Job" "a" "I") ∈ tb := tb_1 98 rfl rfl
theorem m_f_RX5_131 : (Jvm.Cond.fieldLink "LimbKernel" (131 : Nat) "LimbKernel$Job" "b" "I") ∈ tb := tb_1 99 rfl rfl
theorem m_f_RX5_134 : (Jvm.Cond.fieldLink "LimbKernel" (134 : Nat) "LimbKernel$Job" "m" "I") ∈ tb := tb_1 100 rfl rfl
theorem m_f_RX0_15 : (Jvm.Cond.fieldLink "LimbKernel$Job" (15 : Nat) "LimbKernel$Job" "result" "I") ∈ tb := tb_1 101 rfl rfl
theorem m_f_RX5_113 : (Jvm.Cond.fieldLink "LimbKernel" (113 : Nat) "LimbKernel$Job" "result" "I") ∈ tb := tb_1 102 rfl rfl
theorem m_f_RX0_45 : (Jvm.Cond.fieldLink "LimbKernel$Job" (45 : Nat) "LimbKernel$Job" "resultSize" "I") ∈ tb := tb_1 103 rfl rfl
theorem m_f_RX5_242 : (Jvm.Cond.fieldLink "LimbKernel" (242 : Nat) "LimbKernel$Job" "resultSize" "I") ∈ tb := tb_1 104 rfl rfl
theorem m_f_RX0_54 : (Jvm.Cond.fieldLink "LimbKernel$Job" (54 : Nat) "LimbKernel$Job" "resultOrder" "I") ∈ tb := tb_1 105 rfl rfl
theorem m_f_RX5_232 : (Jvm.Cond.fieldLink "LimbKernel" (232 : Nat) "LimbKernel$Job" "resultOrder" "I") ∈ tb := tb_1 106 rfl rfl
theorem m_f_RX0_18 : (Jvm.Cond.fieldLink "LimbKernel$Job" (18 : Nat) "LimbKernel$Job" "room" "I") ∈ tb := tb_1 107 rfl rfl
theorem m_f_RX5_245 : (Jvm.Cond.fieldLink "LimbKernel" (245 : Nat) "LimbKernel$Job" "room" "I") ∈ tb := tb_1 108 rfl rfl
theorem m_f_RX0_21 : (Jvm.Cond.fieldLink "LimbKernel$Job" (21 : Nat) "LimbKernel$Job" "roomOrder" "I") ∈ tb := tb_1 109 rfl rfl
theorem m_f_RX5_235 : (Jvm.Cond.fieldLink "LimbKernel" (235 : Nat) "LimbKernel$Job" "roomOrder" "I") ∈ tb := tb_1 110 rfl rfl
theorem m_f_RX0_57 : (Jvm.Cond.fieldLink "LimbKernel$Job" (57 : Nat) "LimbKernel$Job" "work" "J") ∈ tb := tb_1 111 rfl rfl
theorem m_f_RX5_157 : (Jvm.Cond.fieldLink "LimbKernel" (157 : Nat) "LimbKernel$Job" "work" "J") ∈ tb := tb_1 112 rfl rfl
theorem m_i_yX2_init : (Jvm.Cond.instanceMethod ({ cls := "LimbKernel$Numeral", name := "<init>", desc := "()V" } : Jvm.MethodName)) ∈ tb := tb_1 140 rfl rfl
theorem m_c_yX2_init : (Jvm.Cond.code ({ cls := "LimbKernel$Numeral", name := "<init>", desc := "()V" } : Jvm.MethodName) prog_4_method_1_code (1 : Nat) (Option.none : Option Jvm.ClassFile.FieldType)) ∈ tb := tb_1 141 rfl rfl
theorem m_l_RX2_1 : (Jvm.Cond.methodLink "LimbKernel$Numeral" (1 : Nat) ({ cls := "java/lang/Object", name := "<init>", desc := "()V" } : Jvm.MethodName)) ∈ tb := tb_1 142 rfl rfl
theorem m_f_RX5_70 : (Jvm.Cond.fieldLink "LimbKernel" (70 : Nat) "LimbKernel$Numeral" "inUse" "Z") ∈ tb := tb_1 143 rfl rfl
theorem m_f_RX5_204 : (Jvm.Cond.fieldLink "LimbKernel" (204 : Nat) "LimbKernel$Numeral" "unfinished" "Z") ∈ tb := tb_1 144 rfl rfl
theorem m_f_RX2_7 : (Jvm.Cond.fieldLink "LimbKernel$Numeral" (7 : Nat) "LimbKernel$Numeral" "size" "I") ∈ tb := tb_1 145 rfl rfl
theorem m_f_RX4_23 : (Jvm.Cond.fieldLink "LimbKernel$Reckoner" (23 : Nat) "LimbKernel$Numeral" "size" "I") ∈ tb := tb_1 146 rfl rfl
theorem m_f_RX5_110 : (Jvm.Cond.fieldLink "LimbKernel" (110 : Nat) "LimbKernel$Numeral" "size" "I") ∈ tb := tb_1 147 rfl rfl
theorem m_f_RX4_17 : (Jvm.Cond.fieldLink "LimbKernel$Reckoner" (17 : Nat) "LimbKernel$Numeral" "address" "I") ∈ tb := tb_1 148 rfl rfl
theorem m_f_RX5_104 : (Jvm.Cond.fieldLink "LimbKernel" (104 : Nat) "LimbKernel$Numeral" "address" "I") ∈ tb := tb_1 149 rfl rfl
theorem m_f_RX5_187 : (Jvm.Cond.fieldLink "LimbKernel" (187 : Nat) "LimbKernel$Numeral" "order" "I") ∈ tb := tb_1 150 rfl rfl
theorem m_f_RX5_98 : (Jvm.Cond.fieldLink "LimbKernel" (98 : Nat) "LimbKernel$Numeral" "pins" "I") ∈ tb := tb_1 151 rfl rfl
theorem m_l_RX5_51 : (Jvm.Cond.methodLink "LimbKernel" (51 : Nat) ({ cls := "LimbKernel$Queue", name := "<init>", desc := "(I)V" } : Jvm.MethodName)) ∈ tb := tb_1 167 rfl rfl
theorem m_i_yX3_init : (Jvm.Cond.instanceMethod ({ cls := "LimbKernel$Queue", name := "<init>", desc := "(I)V" } : Jvm.MethodName)) ∈ tb := tb_1 168 rfl rfl
theorem m_c_yX3_init : (Jvm.Cond.code ({ cls := "LimbKernel$Queue", name := "<init>", desc := "(I)V" } : Jvm.MethodName) prog_5_method_1_code (2 : Nat) (Option.none : Option Jvm.ClassFile.FieldType)) ∈ tb := tb_1 169 rfl rfl
theorem m_l_RX3_3 : (Jvm.Cond.methodLink "LimbKernel$Queue" (3 : Nat) ({ cls := "java/lang/Object", name := "<init>", desc := "()V" } : Jvm.MethodName)) ∈ tb := tb_1 170 rfl rfl
theorem m_f_RX3_9 : (Jvm.Cond.fieldLink "LimbKernel$Queue" (9 : Nat) "LimbKernel$Queue" "ring" "[I") ∈ tb := tb_1 171 rfl rfl
theorem m_f_RX3_23 : (Jvm.Cond.fieldLink "LimbKernel$Queue" (23 : Nat) "LimbKernel$Queue" "head" "I") ∈ tb := tb_1 172 rfl rfl
theorem m_f_RX3_15 : (Jvm.Cond.fieldLink "LimbKernel$Queue" (15 : Nat) "LimbKernel$Queue" "length" "I") ∈ tb := tb_1 173 rfl rfl
theorem m_f_RX5_190 : (Jvm.Cond.fieldLink "LimbKernel" (190 : Nat) "LimbKernel$Queue" "length" "I") ∈ tb := tb_1 174 rfl rfl
theorem m_f_RX5_18 : (Jvm.Cond.fieldLink "LimbKernel" (18 : Nat) "LimbKernel" "memory" "LLimbKernel$Memory;") ∈ tb := tb_1 182 rfl rfl
theorem m_f_RX5_31 : (Jvm.Cond.fieldLink "LimbKernel" (31 : Nat) "LimbKernel" "reckoner" "LLimbKernel$Reckoner;") ∈ tb := tb_1 183 rfl rfl
theorem m_f_RX5_44 : (Jvm.Cond.fieldLink "LimbKernel" (44 : Nat) "LimbKernel" "numerals" "[LLimbKernel$Numeral;") ∈ tb := tb_1 184 rfl rfl
theorem m_f_RX5_37 : (Jvm.Cond.fieldLink "LimbKernel" (37 : Nat) "LimbKernel" "jobs" "[LLimbKernel$Job;") ∈ tb := tb_1 185 rfl rfl
theorem m_f_RX5_52 : (Jvm.Cond.fieldLink "LimbKernel" (52 : Nat) "LimbKernel" "queue" "LLimbKernel$Queue;") ∈ tb := tb_1 186 rfl rfl
theorem m_f_RX5_56 : (Jvm.Cond.fieldLink "LimbKernel" (56 : Nat) "LimbKernel" "quantum" "I") ∈ tb := tb_1 187 rfl rfl
theorem m_f_RX5_63 : (Jvm.Cond.fieldLink "LimbKernel" (63 : Nat) "LimbKernel" "handlesInUse" "I") ∈ tb := tb_1 188 rfl rfl
theorem m_f_RX5_60 : (Jvm.Cond.fieldLink "LimbKernel" (60 : Nat) "LimbKernel" "jobsInUse" "I") ∈ tb := tb_1 189 rfl rfl
theorem m_f_RX5_75 : (Jvm.Cond.fieldLink "LimbKernel" (75 : Nat) "LimbKernel" "turns" "I") ∈ tb := tb_1 190 rfl rfl
theorem m_l_RL_21 : (Jvm.Cond.methodLink "LimbKernelLaw" (21 : Nat) ({ cls := "LimbKernel", name := "init", desc := "()I" } : Jvm.MethodName)) ∈ tb := tb_1 210 rfl rfl
theorem m_i_yX5_init_ : (Jvm.Cond.instanceMethod ({ cls := "LimbKernel", name := "init", desc := "()I" } : Jvm.MethodName)) ∈ tb := tb_1 211 rfl rfl
theorem m_e_yX5_init_ : (Jvm.Cond.selects "LimbKernel" ({ cls := "LimbKernel", name := "init", desc := "()I" } : Jvm.MethodName) ({ cls := "LimbKernel", name := "init", desc := "()I" } : Jvm.MethodName)) ∈ tb := tb_1 212 rfl rfl
theorem m_c_yX5_init_ : (Jvm.Cond.code ({ cls := "LimbKernel", name := "init", desc := "()I" } : Jvm.MethodName) prog_1_method_2_code (3 : Nat) (Option.some Jvm.ClassFile.FieldType.int)) ∈ tb := tb_1 213 rfl rfl
theorem m_l_RX5_66 : (Jvm.Cond.methodLink "LimbKernel" (66 : Nat) ({ cls := "LimbKernel$Memory", name := "clear", desc := "()V" } : Jvm.MethodName)) ∈ tb := tb_1 214 rfl rfl
theorem m_l_RX5_69 : (Jvm.Cond.methodLink "LimbKernel" (69 : Nat) ({ cls := "LimbKernel$Queue", name := "clear", desc := "()V" } : Jvm.MethodName)) ∈ tb := tb_1 215 rfl rfl
theorem m_i_yX3_clear : (Jvm.Cond.instanceMethod ({ cls := "LimbKernel$Queue", name := "clear", desc := "()V" } : Jvm.MethodName)) ∈ tb := tb_1 216 rfl rfl
theorem m_e_yX3_clear : (Jvm.Cond.selects "LimbKernel$Queue" ({ cls := "LimbKernel$Queue", name := "clear", desc := "()V" } : Jvm.MethodName) ({ cls := "LimbKernel$Queue", name := "clear", desc := "()V" } : Jvm.MethodName)) ∈ tb := tb_1 217 rfl rfl
theorem m_c_yX3_clear : (Jvm.Cond.code ({ cls := "LimbKernel$Queue", name := "clear", desc := "()V" } : Jvm.MethodName) prog_5_method_2_code (1 : Nat) (Option.none : Option Jvm.ClassFile.FieldType)) ∈ tb := tb_1 218 rfl rfl
theorem m_l_RX5_74 : (Jvm.Cond.methodLink "LimbKernel" (74 : Nat) ({ cls := "LimbKernel$Job", name := "clear", desc := "()V" } : Jvm.MethodName)) ∈ tb := tb_1 219 rfl rfl
theorem m_i_yX0_clear : (Jvm.Cond.instanceMethod ({ cls := "LimbKernel$Job", name := "clear", desc := "()V" } : Jvm.MethodName)) ∈ tb := tb_1 220 rfl rfl
theorem m_e_yX0_clear : (Jvm.Cond.selects "LimbKernel$Job" ({ cls := "LimbKernel$Job", name := "clear", desc := "()V" } : Jvm.MethodName) ({ cls := "LimbKernel$Job", name := "clear", desc := "()V" } : Jvm.MethodName)) ∈ tb := tb_1 221 rfl rfl
theorem m_c_yX0_clear : (Jvm.Cond.code ({ cls := "LimbKernel$Job", name := "clear", desc := "()V" } : Jvm.MethodName) prog_2_method_2_code (1 : Nat) (Option.none : Option Jvm.ClassFile.FieldType)) ∈ tb := tb_1 222 rfl rfl
theorem m_l_RL_26 : (Jvm.Cond.methodLink "LimbKernelLaw" (26 : Nat) ({ cls := "LimbKernel", name := "newNumber", desc := "(I)I" } : Jvm.MethodName)) ∈ tb := tb_1 223 rfl rfl
theorem m_i_yX5_newNumber : (Jvm.Cond.instanceMethod ({ cls := "LimbKernel", name := "newNumber", desc := "(I)I" } : Jvm.MethodName)) ∈ tb := tb_1 224 rfl rfl
theorem m_e_yX5_newNumber : (Jvm.Cond.selects "LimbKernel" ({ cls := "LimbKernel", name := "newNumber", desc := "(I)I" } : Jvm.MethodName) ({ cls := "LimbKernel", name := "newNumber", desc := "(I)I" } : Jvm.MethodName)) ∈ tb := tb_1 225 rfl rfl
theorem m_c_yX5_newNumber : (Jvm.Cond.code ({ cls := "LimbKernel", name := "newNumber", desc := "(I)I" } : Jvm.MethodName) prog_1_method_3_code (5 : Nat) (Option.some Jvm.ClassFile.FieldType.int)) ∈ tb := tb_1 226 rfl rfl
theorem m_l_RX5_78 : (Jvm.Cond.methodLink "LimbKernel" (78 : Nat) ({ cls := "LimbKernel", name := "leastFreeHandle", desc := "()I" } : Jvm.MethodName)) ∈ tb := tb_1 227 rfl rfl
theorem m_i_yX5_leastFreeHandle : (Jvm.Cond.instanceMethod ({ cls := "LimbKernel", name := "leastFreeHandle", desc := "()I" } : Jvm.MethodName)) ∈ tb := tb_1 229 rfl rfl
theorem m_c_yX5_leastFreeHandle : (Jvm.Cond.code ({ cls := "LimbKernel", name := "leastFreeHandle", desc := "()I" } : Jvm.MethodName) prog_1_method_25_code (2 : Nat) (Option.some Jvm.ClassFile.FieldType.int)) ∈ tb := tb_1 230 rfl rfl
theorem m_l_RX5_82 : (Jvm.Cond.methodLink "LimbKernel" (82 : Nat) ({ cls := "LimbKernel$Memory", name := "orderFor", desc := "(J)I" } : Jvm.MethodName)) ∈ tb := tb_1 231 rfl rfl
theorem m_s_yX1_orderFor : (Jvm.Cond.static ({ cls := "LimbKernel$Memory", name := "orderFor", desc := "(J)I" } : Jvm.MethodName)) ∈ tb := tb_1 232 rfl rfl
theorem m_c_yX1_orderFor : (Jvm.Cond.code ({ cls := "LimbKernel$Memory", name := "orderFor", desc := "(J)I" } : Jvm.MethodName) prog_3_method_3_code (3 : Nat) (Option.some Jvm.ClassFile.FieldType.int)) ∈ tb := tb_1 233 rfl rfl
theorem m_l_RX5_86 : (Jvm.Cond.methodLink "LimbKernel" (86 : Nat) ({ cls := "LimbKernel$Memory", name := "give", desc := "(I)I" } : Jvm.MethodName)) ∈ tb := tb_1 234 rfl rfl
theorem m_i_yX1_give : (Jvm.Cond.instanceMethod ({ cls := "LimbKernel$Memory", name := "give", desc := "(I)I" } : Jvm.MethodName)) ∈ tb := tb_1 235 rfl rfl
theorem m_e_yX1_give : (Jvm.Cond.selects "LimbKernel$Memory" ({ cls := "LimbKernel$Memory", name := "give", desc := "(I)I" } : Jvm.MethodName) ({ cls := "LimbKernel$Memory", name := "give", desc := "(I)I" } : Jvm.MethodName)) ∈ tb := tb_1 236 rfl rfl
theorem m_c_yX1_give : (Jvm.Cond.code ({ cls := "LimbKernel$Memory", name := "give", desc := "(I)I" } : Jvm.MethodName) prog_3_method_5_code (5 : Nat) (Option.some Jvm.ClassFile.FieldType.int)) ∈ tb := tb_1 237 rfl rfl
theorem m_l_RX1_38 : (Jvm.Cond.methodLink "LimbKernel$Memory" (38 : Nat) ({ cls := "LimbKernel$Memory", name := "leastFreeOrder", desc := "(I)I" } : Jvm.MethodName)) ∈ tb := tb_1 238 rfl rfl
theorem m_i_yX1_leastFreeOrder : (Jvm.Cond.instanceMethod ({ cls := "LimbKernel$Memory", name := "leastFreeOrder", desc := "(I)I" } : Jvm.MethodName)) ∈ tb := tb_2 0 rfl rfl
theorem m_c_yX1_leastFreeOrder : (Jvm.Cond.code ({ cls := "LimbKernel$Memory", name := "leastFreeOrder", desc := "(I)I" } : Jvm.MethodName) prog_3_method_9_code (3 : Nat) (Option.some Jvm.ClassFile.FieldType.int)) ∈ tb := tb_2 1 rfl rfl
theorem m_l_RX1_42 : (Jvm.Cond.methodLink "LimbKernel$Memory" (42 : Nat) ({ cls := "LimbKernel$Memory", name := "addressOfFree", desc := "(II)I" } : Jvm.MethodName)) ∈ tb := tb_2 2 rfl rfl
theorem m_i_yX1_addressOfFree : (Jvm.Cond.instanceMethod ({ cls := "LimbKernel$Memory", name := "addressOfFree", desc := "(II)I" } : Jvm.MethodName)) ∈ tb := tb_2 3 rfl rfl
theorem m_e_yX1_addressOfFree : (Jvm.Cond.selects "LimbKernel$Memory" ({ cls := "LimbKernel$Memory", name := "addressOfFree", desc := "(II)I" } : Jvm.MethodName) ({ cls := "LimbKernel$Memory", name := "addressOfFree", desc := "(II)I" } : Jvm.MethodName)) ∈ tb := tb_2 4 rfl rfl
theorem m_c_yX1_addressOfFree : (Jvm.Cond.code ({ cls := "LimbKernel$Memory", name := "addressOfFree", desc := "(II)I" } : Jvm.MethodName) prog_3_method_8_code (5 : Nat) (Option.some Jvm.ClassFile.FieldType.int)) ∈ tb := tb_2 5 rfl rfl
theorem m_l_RX1_46 : (Jvm.Cond.methodLink "LimbKernel$Memory" (46 : Nat) ({ cls := "LimbKernel$Memory", name := "removeFree", desc := "(II)V" } : Jvm.MethodName)) ∈ tb := tb_2 6 rfl rfl
theorem m_i_yX1_removeFree : (Jvm.Cond.instanceMethod ({ cls := "LimbKernel$Memory", name := "removeFree", desc := "(II)V" } : Jvm.MethodName)) ∈ tb := tb_2 8 rfl rfl
theorem m_c_yX1_removeFree : (Jvm.Cond.code ({ cls := "LimbKernel$Memory", name := "removeFree", desc := "(II)V" } : Jvm.MethodName) prog_3_method_11_code (3 : Nat) (Option.none : Option Jvm.ClassFile.FieldType)) ∈ tb := tb_2 9 rfl rfl
theorem m_l_RX5_90 : (Jvm.Cond.methodLink "LimbKernel" (90 : Nat) ({ cls := "LimbKernel", name := "occupy", desc := "(IIII)V" } : Jvm.MethodName)) ∈ tb := tb_2 10 rfl rfl
theorem m_i_yX5_occupy : (Jvm.Cond.instanceMethod ({ cls := "LimbKernel", name := "occupy", desc := "(IIII)V" } : Jvm.MethodName)) ∈ tb := tb_2 12 rfl rfl
theorem m_c_yX5_occupy : (Jvm.Cond.code ({ cls := "LimbKernel", name := "occupy", desc := "(IIII)V" } : Jvm.MethodName) prog_1_method_27_code (6 : Nat) (Option.none : Option Jvm.ClassFile.FieldType)) ∈ tb := tb_2 13 rfl rfl
theorem m_l_RX5_210 : (Jvm.Cond.methodLink "LimbKernel" (210 : Nat) ({ cls := "java/util/Arrays", name := "fill", desc := "([IIII)V" } : Jvm.MethodName)) ∈ tb := tb_2 14 rfl rfl
theorem m_s_yJ7_fill_fda19 : (Jvm.Cond.static ({ cls := "java/util/Arrays", name := "fill", desc := "([IIII)V" } : Jvm.MethodName)) ∈ tb := tb_2 15 rfl rfl
theorem m_c_yJ7_fill_fda19 : (Jvm.Cond.code ({ cls := "java/util/Arrays", name := "fill", desc := "([IIII)V" } : Jvm.MethodName) prog_11_method_104_code (5 : Nat) (Option.none : Option Jvm.ClassFile.FieldType)) ∈ tb := tb_2 16 rfl rfl
theorem m_l_RJ7_13 : (Jvm.Cond.methodLink "java/util/Arrays" (13 : Nat) ({ cls := "java/util/Arrays", name := "rangeCheck", desc := "(III)V" } : Jvm.MethodName)) ∈ tb := tb_2 17 rfl rfl
theorem m_s_yJ7_rangeCheck_23922 : (Jvm.Cond.static ({ cls := "java/util/Arrays", name := "rangeCheck", desc := "(III)V" } : Jvm.MethodName)) ∈ tb := tb_2 18 rfl rfl
theorem m_c_yJ7_rangeCheck_23922 : (Jvm.Cond.code ({ cls := "java/util/Arrays", name := "rangeCheck", desc := "(III)V" } : Jvm.MethodName) prog_11_method_30_code (3 : Nat) (Option.none : Option Jvm.ClassFile.FieldType)) ∈ tb := tb_2 19 rfl rfl
theorem m_l_RL_31 : (Jvm.Cond.methodLink "LimbKernelLaw" (31 : Nat) ({ cls := "LimbKernel", name := "setLimb", desc := "(III)Z" } : Jvm.MethodName)) ∈ tb := tb_2 20 rfl rfl
theorem m_i_yX5_setLimb : (Jvm.Cond.instanceMethod ({ cls := "LimbKernel", name := "setLimb", desc := "(III)Z" } : Jvm.MethodName)) ∈ tb := tb_2 21 rfl rfl
theorem m_e_yX5_setLimb : (Jvm.Cond.selects "LimbKernel" ({ cls := "LimbKernel", name := "setLimb", desc := "(III)Z" } : Jvm.MethodName) ({ cls := "LimbKernel", name := "setLimb", desc := "(III)Z" } : Jvm.MethodName)) ∈ tb := tb_2 22 rfl rfl
theorem m_c_yX5_setLimb : (Jvm.Cond.code ({ cls := "LimbKernel", name := "setLimb", desc := "(III)Z" } : Jvm.MethodName) prog_1_method_4_code (4 : Nat) (Option.some Jvm.ClassFile.FieldType.boolean)) ∈ tb := tb_2 23 rfl rfl
theorem m_l_RX5_94 : (Jvm.Cond.methodLink "LimbKernel" (94 : Nat) ({ cls := "LimbKernel", name := "isNumber", desc := "(I)Z" } : Jvm.MethodName)) ∈ tb := tb_2 24 rfl rfl
theorem m_i_yX5_isNumber : (Jvm.Cond.instanceMethod ({ cls := "LimbKernel", name := "isNumber", desc := "(I)Z" } : Jvm.MethodName)) ∈ tb := tb_2 26 rfl rfl
theorem m_c_yX5_isNumber : (Jvm.Cond.code ({ cls := "LimbKernel", name := "isNumber", desc := "(I)Z" } : Jvm.MethodName) prog_1_method_21_code (2 : Nat) (Option.some Jvm.ClassFile.FieldType.boolean)) ∈ tb := tb_2 27 rfl rfl
theorem m_l_RX5_101 : (Jvm.Cond.methodLink "LimbKernel" (101 : Nat) ({ cls := "LimbKernel$Numeral", name := "hasLimb", desc := "(I)Z" } : Jvm.MethodName)) ∈ tb := tb_2 28 rfl rfl
theorem m_i_yX2_hasLimb : (Jvm.Cond.instanceMethod ({ cls := "LimbKernel$Numeral", name := "hasLimb", desc := "(I)Z" } : Jvm.MethodName)) ∈ tb := tb_2 29 rfl rfl
theorem m_e_yX2_hasLimb : (Jvm.Cond.selects "LimbKernel$Numeral" ({ cls := "LimbKernel$Numeral", name := "hasLimb", desc := "(I)Z" } : Jvm.MethodName) ({ cls := "LimbKernel$Numeral", name := "hasLimb", desc := "(I)Z" } : Jvm.MethodName)) ∈ tb := tb_2 30 rfl rfl
theorem m_c_yX2_hasLimb : (Jvm.Cond.code ({ cls := "LimbKernel$Numeral", name := "hasLimb", desc := "(I)Z" } : Jvm.MethodName) prog_4_method_2_code (2 : Nat) (Option.some Jvm.ClassFile.FieldType.boolean)) ∈ tb := tb_2 31 rfl rfl
theorem m_l_RL_36 : (Jvm.Cond.methodLink "LimbKernelLaw" (36 : Nat) ({ cls := "LimbKernel", name := "getLimb", desc := "(II)I" } : Jvm.MethodName)) ∈ tb := tb_2 32 rfl rfl
theorem m_i_yX5_getLimb : (Jvm.Cond.instanceMethod ({ cls := "LimbKernel", name := "getLimb", desc := "(II)I" } : Jvm.MethodName)) ∈ tb := tb_2 33 rfl rfl
theorem m_e_yX5_getLimb : (Jvm.Cond.selects "LimbKernel" ({ cls := "LimbKernel", name := "getLimb", desc := "(II)I" } : Jvm.MethodName) ({ cls := "LimbKernel", name := "getLimb", desc := "(II)I" } : Jvm.MethodName)) ∈ tb := tb_2 34 rfl rfl
theorem m_c_yX5_getLimb : (Jvm.Cond.code ({ cls := "LimbKernel", name := "getLimb", desc := "(II)I" } : Jvm.MethodName) prog_1_method_5_code (3 : Nat) (Option.some Jvm.ClassFile.FieldType.int)) ∈ tb := tb_2 35 rfl rfl
theorem m_l_RX5_107 : (Jvm.Cond.methodLink "LimbKernel" (107 : Nat) ({ cls := "LimbKernel", name := "isFinished", desc := "(I)Z" } : Jvm.MethodName)) ∈ tb := tb_2 36 rfl rfl
theorem m_i_yX5_isFinished : (Jvm.Cond.instanceMethod ({ cls := "LimbKernel", name := "isFinished", desc := "(I)Z" } : Jvm.MethodName)) ∈ tb := tb_2 38 rfl rfl
theorem m_c_yX5_isFinished : (Jvm.Cond.code ({ cls := "LimbKernel", name := "isFinished", desc := "(I)Z" } : Jvm.MethodName) prog_1_method_22_code (2 : Nat) (Option.some Jvm.ClassFile.FieldType.boolean)) ∈ tb := tb_2 39 rfl rfl
theorem m_l_RL_41 : (Jvm.Cond.methodLink "LimbKernelLaw" (41 : Nat) ({ cls := "LimbKernel", name := "sizeOf", desc := "(I)I" } : Jvm.MethodName)) ∈ tb := tb_2 40 rfl rfl
theorem m_i_yX5_sizeOf : (Jvm.Cond.instanceMethod ({ cls := "LimbKernel", name := "sizeOf", desc := "(I)I" } : Jvm.MethodName)) ∈ tb := tb_2 41 rfl rfl
theorem m_e_yX5_sizeOf : (Jvm.Cond.selects "LimbKernel" ({ cls := "LimbKernel", name := "sizeOf", desc := "(I)I" } : Jvm.MethodName) ({ cls := "LimbKernel", name := "sizeOf", desc := "(I)I" } : Jvm.MethodName)) ∈ tb := tb_2 42 rfl rfl
theorem m_c_yX5_sizeOf : (Jvm.Cond.code ({ cls := "LimbKernel", name := "sizeOf", desc := "(I)I" } : Jvm.MethodName) prog_1_method_6_code (2 : Nat) (Option.some Jvm.ClassFile.FieldType.int)) ∈ tb := tb_2 43 rfl rfl
theorem m_l_RL_45 : (Jvm.Cond.methodLink "LimbKernelLaw" (45 : Nat) ({ cls := "LimbKernel", name := "release", desc := "(I)Z" } : Jvm.MethodName)) ∈ tb := tb_2 44 rfl rfl
theorem m_i_yX5_release : (Jvm.Cond.instanceMethod ({ cls := "LimbKernel", name := "release", desc := "(I)Z" } : Jvm.MethodName)) ∈ tb := tb_2 45 rfl rfl
theorem m_e_yX5_release : (Jvm.Cond.selects "LimbKernel" ({ cls := "LimbKernel", name := "release", desc := "(I)Z" } : Jvm.MethodName) ({ cls := "LimbKernel", name := "release", desc := "(I)Z" } : Jvm.MethodName)) ∈ tb := tb_2 46 rfl rfl
theorem m_c_yX5_release : (Jvm.Cond.code ({ cls := "LimbKernel", name := "release", desc := "(I)Z" } : Jvm.MethodName) prog_1_method_7_code (3 : Nat) (Option.some Jvm.ClassFile.FieldType.boolean)) ∈ tb := tb_2 47 rfl rfl
theorem m_l_RX5_116 : (Jvm.Cond.methodLink "LimbKernel" (116 : Nat) ({ cls := "LimbKernel", name := "vacate", desc := "(I)V" } : Jvm.MethodName)) ∈ tb := tb_2 48 rfl rfl
theorem m_i_yX5_vacate : (Jvm.Cond.instanceMethod ({ cls := "LimbKernel", name := "vacate", desc := "(I)V" } : Jvm.MethodName)) ∈ tb := tb_2 50 rfl rfl
theorem m_c_yX5_vacate : (Jvm.Cond.code ({ cls := "LimbKernel", name := "vacate", desc := "(I)V" } : Jvm.MethodName) prog_1_method_28_code (2 : Nat) (Option.none : Option Jvm.ClassFile.FieldType)) ∈ tb := tb_2 51 rfl rfl
theorem m_l_RX5_216 : (Jvm.Cond.methodLink "LimbKernel" (216 : Nat) ({ cls := "LimbKernel$Memory", name := "takeBack", desc := "(II)V" } : Jvm.MethodName)) ∈ tb := tb_2 52 rfl rfl
theorem m_i_yX1_takeBack : (Jvm.Cond.instanceMethod ({ cls := "LimbKernel$Memory", name := "takeBack", desc := "(II)V" } : Jvm.MethodName)) ∈ tb := tb_2 53 rfl rfl
theorem m_e_yX1_takeBack : (Jvm.Cond.selects "LimbKernel$Memory" ({ cls := "LimbKernel$Memory", name := "takeBack", desc := "(II)V" } : Jvm.MethodName) ({ cls := "LimbKernel$Memory", name := "takeBack", desc := "(II)V" } : Jvm.MethodName)) ∈ tb := tb_2 54 rfl rfl
theorem m_c_yX1_takeBack : (Jvm.Cond.code ({ cls := "LimbKernel$Memory", name := "takeBack", desc := "(II)V" } : Jvm.MethodName) prog_3_method_6_code (5 : Nat) (Option.none : Option Jvm.ClassFile.FieldType)) ∈ tb := tb_2 55 rfl rfl
theorem m_l_RL_50 : (Jvm.Cond.methodLink "LimbKernelLaw" (50 : Nat) ({ cls := "LimbKernel", name := "submit", desc := "(IIII)I" } : Jvm.MethodName)) ∈ tb := tb_2 56 rfl rfl
theorem m_i_yX5_submit : (Jvm.Cond.instanceMethod ({ cls := "LimbKernel", name := "submit", desc := "(IIII)I" } : Jvm.MethodName)) ∈ tb := tb_2 57 rfl rfl
theorem m_e_yX5_submit : (Jvm.Cond.selects "LimbKernel" ({ cls := "LimbKernel", name := "submit", desc := "(IIII)I" } : Jvm.MethodName) ({ cls := "LimbKernel", name := "submit", desc := "(IIII)I" } : Jvm.MethodName)) ∈ tb := tb_2 58 rfl rfl
theorem m_c_yX5_submit : (Jvm.Cond.code ({ cls := "LimbKernel", name := "submit", desc := "(IIII)I" } : Jvm.MethodName) prog_1_method_8_code (7 : Nat) (Option.some Jvm.ClassFile.FieldType.int)) ∈ tb := tb_2 59 rfl rfl
theorem m_l_RX5_119 : (Jvm.Cond.methodLink "LimbKernel" (119 : Nat) ({ cls := "LimbKernel", name := "isZero", desc := "(I)Z" } : Jvm.MethodName)) ∈ tb := tb_2 60 rfl rfl
theorem m_i_yX5_isZero : (Jvm.Cond.instanceMethod ({ cls := "LimbKernel", name := "isZero", desc := "(I)Z" } : Jvm.MethodName)) ∈ tb := tb_2 62 rfl rfl
theorem m_c_yX5_isZero : (Jvm.Cond.code ({ cls := "LimbKernel", name := "isZero", desc := "(I)Z" } : Jvm.MethodName) prog_1_method_23_code (2 : Nat) (Option.some Jvm.ClassFile.FieldType.boolean)) ∈ tb := tb_2 63 rfl rfl
theorem m_l_RX5_207 : (Jvm.Cond.methodLink "LimbKernel" (207 : Nat) ({ cls := "LimbKernel$Reckoner", name := "significant", desc := "(II)I" } : Jvm.MethodName)) ∈ tb := tb_2 64 rfl rfl
theorem m_i_yX4_significant : (Jvm.Cond.instanceMethod ({ cls := "LimbKernel$Reckoner", name := "significant", desc := "(II)I" } : Jvm.MethodName)) ∈ tb := tb_2 65 rfl rfl
theorem m_e_yX4_significant : (Jvm.Cond.selects "LimbKernel$Reckoner" ({ cls := "LimbKernel$Reckoner", name := "significant", desc := "(II)I" } : Jvm.MethodName) ({ cls := "LimbKernel$Reckoner", name := "significant", desc := "(II)I" } : Jvm.MethodName)) ∈ tb := tb_2 66 rfl rfl
theorem m_c_yX4_significant : (Jvm.Cond.code ({ cls := "LimbKernel$Reckoner", name := "significant", desc := "(II)I" } : Jvm.MethodName) prog_6_method_2_code (4 : Nat) (Option.some Jvm.ClassFile.FieldType.int)) ∈ tb := tb_2 67 rfl rfl
theorem m_l_RX5_122 : (Jvm.Cond.methodLink "LimbKernel" (122 : Nat) ({ cls := "LimbKernel", name := "leastFreeJob", desc := "()I" } : Jvm.MethodName)) ∈ tb := tb_2 68 rfl rfl
theorem m_i_yX5_leastFreeJob : (Jvm.Cond.instanceMethod ({ cls := "LimbKernel", name := "leastFreeJob", desc := "()I" } : Jvm.MethodName)) ∈ tb := tb_2 70 rfl rfl
theorem m_c_yX5_leastFreeJob : (Jvm.Cond.code ({ cls := "LimbKernel", name := "leastFreeJob", desc := "()I" } : Jvm.MethodName) prog_1_method_26_code (2 : Nat) (Option.some Jvm.ClassFile.FieldType.int)) ∈ tb := tb_2 71 rfl rfl
theorem m_l_RX5_137 : (Jvm.Cond.methodLink "LimbKernel" (137 : Nat) ({ cls := "LimbKernel$Job", name := "plan", desc := "(JJJ)V" } : Jvm.MethodName)) ∈ tb := tb_2 72 rfl rfl
theorem m_i_yX0_plan : (Jvm.Cond.instanceMethod ({ cls := "LimbKernel$Job", name := "plan", desc := "(JJJ)V" } : Jvm.MethodName)) ∈ tb := tb_2 73 rfl rfl
theorem m_e_yX0_plan : (Jvm.Cond.selects "LimbKernel$Job" ({ cls := "LimbKernel$Job", name := "plan", desc := "(JJJ)V" } : Jvm.MethodName) ({ cls := "LimbKernel$Job", name := "plan", desc := "(JJJ)V" } : Jvm.MethodName)) ∈ tb := tb_2 74 rfl rfl
theorem m_c_yX0_plan : (Jvm.Cond.code ({ cls := "LimbKernel$Job", name := "plan", desc := "(JJJ)V" } : Jvm.MethodName) prog_2_method_4_code (7 : Nat) (Option.none : Option Jvm.ClassFile.FieldType)) ∈ tb := tb_2 75 rfl rfl
theorem m_l_RX0_27 : (Jvm.Cond.methodLink "LimbKernel$Job" (27 : Nat) ({ cls := "LimbKernel$Job", name := "need", desc := "(JJJ)V" } : Jvm.MethodName)) ∈ tb := tb_2 76 rfl rfl
theorem m_i_yX0_need : (Jvm.Cond.instanceMethod ({ cls := "LimbKernel$Job", name := "need", desc := "(JJJ)V" } : Jvm.MethodName)) ∈ tb := tb_2 78 rfl rfl
theorem m_c_yX0_need : (Jvm.Cond.code ({ cls := "LimbKernel$Job", name := "need", desc := "(JJJ)V" } : Jvm.MethodName) prog_2_method_5_code (7 : Nat) (Option.none : Option Jvm.ClassFile.FieldType)) ∈ tb := tb_2 79 rfl rfl
theorem m_l_RX0_48 : (Jvm.Cond.methodLink "LimbKernel$Job" (48 : Nat) ({ cls := "LimbKernel$Memory", name := "orderFor", desc := "(J)I" } : Jvm.MethodName)) ∈ tb := tb_2 80 rfl rfl
theorem m_k_RX0_31 : (Jvm.Cond.constantLong "LimbKernel$Job" (31 : Nat) (31 : Int64)) ∈ tb := tb_2 81 rfl rfl
theorem m_l_RX0_33 : (Jvm.Cond.methodLink "LimbKernel$Job" (33 : Nat) ({ cls := "java/lang/Math", name := "max", desc := "(JJ)J" } : Jvm.MethodName)) ∈ tb := tb_2 82 rfl rfl
theorem m_s_yJ9_max_f86c9 : (Jvm.Cond.static ({ cls := "java/lang/Math", name := "max", desc := "(JJ)J" } : Jvm.MethodName)) ∈ tb := tb_2 83 rfl rfl
theorem m_c_yJ9_max_f86c9 : (Jvm.Cond.code ({ cls := "java/lang/Math", name := "max", desc := "(JJ)J" } : Jvm.MethodName) prog_9_method_66_code (4 : Nat) (Option.some Jvm.ClassFile.FieldType.long)) ∈ tb := tb_2 84 rfl rfl
theorem m_k_RX0_39 : (Jvm.Cond.constantLong "LimbKernel$Job" (39 : Nat) (2 : Int64)) ∈ tb := tb_2 85 rfl rfl
theorem m_k_RX0_41 : (Jvm.Cond.constantLong "LimbKernel$Job" (41 : Nat) (3 : Int64)) ∈ tb := tb_2 86 rfl rfl
theorem m_k_RX0_43 : (Jvm.Cond.constantLong "LimbKernel$Job" (43 : Nat) (1922 : Int64)) ∈ tb := tb_2 87 rfl rfl
theorem m_l_RX5_144 : (Jvm.Cond.methodLink "LimbKernel" (144 : Nat) ({ cls := "LimbKernel", name := "changePins", desc := "(LLimbKernel$Job;I)V" } : Jvm.MethodName)) ∈ tb := tb_2 88 rfl rfl
theorem m_i_yX5_changePins : (Jvm.Cond.instanceMethod ({ cls := "LimbKernel", name := "changePins", desc := "(LLimbKernel$Job;I)V" } : Jvm.MethodName)) ∈ tb := tb_2 90 rfl rfl
theorem m_c_yX5_changePins : (Jvm.Cond.code ({ cls := "LimbKernel", name := "changePins", desc := "(LLimbKernel$Job;I)V" } : Jvm.MethodName) prog_1_method_29_code (3 : Nat) (Option.none : Option Jvm.ClassFile.FieldType)) ∈ tb := tb_2 91 rfl rfl
theorem m_l_RX5_148 : (Jvm.Cond.methodLink "LimbKernel" (148 : Nat) ({ cls := "LimbKernel$Queue", name := "append", desc := "(I)V" } : Jvm.MethodName)) ∈ tb := tb_2 92 rfl rfl
theorem m_i_yX3_append : (Jvm.Cond.instanceMethod ({ cls := "LimbKernel$Queue", name := "append", desc := "(I)V" } : Jvm.MethodName)) ∈ tb := tb_2 93 rfl rfl
theorem m_e_yX3_append : (Jvm.Cond.selects "LimbKernel$Queue" ({ cls := "LimbKernel$Queue", name := "append", desc := "(I)V" } : Jvm.MethodName) ({ cls := "LimbKernel$Queue", name := "append", desc := "(I)V" } : Jvm.MethodName)) ∈ tb := tb_2 94 rfl rfl
theorem m_c_yX3_append : (Jvm.Cond.code ({ cls := "LimbKernel$Queue", name := "append", desc := "(I)V" } : Jvm.MethodName) prog_5_method_4_code (2 : Nat) (Option.none : Option Jvm.ClassFile.FieldType)) ∈ tb := tb_2 95 rfl rfl
theorem m_l_RX3_19 : (Jvm.Cond.methodLink "LimbKernel$Queue" (19 : Nat) ({ cls := "LimbKernel$Queue", name := "slot", desc := "(I)I" } : Jvm.MethodName)) ∈ tb := tb_2 96 rfl rfl
theorem m_i_yX3_slot : (Jvm.Cond.instanceMethod ({ cls := "LimbKernel$Queue", name := "slot", desc := "(I)I" } : Jvm.MethodName)) ∈ tb := tb_2 98 rfl rfl
theorem m_c_yX3_slot : (Jvm.Cond.code ({ cls := "LimbKernel$Queue", name := "slot", desc := "(I)I" } : Jvm.MethodName) prog_5_method_7_code (3 : Nat) (Option.some Jvm.ClassFile.FieldType.int)) ∈ tb := tb_2 99 rfl rfl
theorem m_l_RL_55 : (Jvm.Cond.methodLink "LimbKernelLaw" (55 : Nat) ({ cls := "LimbKernel", name := "tick", desc := "()I" } : Jvm.MethodName)) ∈ tb := tb_2 100 rfl rfl
theorem m_i_yX5_tick : (Jvm.Cond.instanceMethod ({ cls := "LimbKernel", name := "tick", desc := "()I" } : Jvm.MethodName)) ∈ tb := tb_2 101 rfl rfl
theorem m_e_yX5_tick : (Jvm.Cond.selects "LimbKernel" ({ cls := "LimbKernel", name := "tick", desc := "()I" } : Jvm.MethodName) ({ cls := "LimbKernel", name := "tick", desc := "()I" } : Jvm.MethodName)) ∈ tb := tb_2 102 rfl rfl
theorem m_c_yX5_tick : (Jvm.Cond.code ({ cls := "LimbKernel", name := "tick", desc := "()I" } : Jvm.MethodName) prog_1_method_9_code (1 : Nat) (Option.some Jvm.ClassFile.FieldType.int)) ∈ tb := tb_2 103 rfl rfl
theorem m_l_RX5_151 : (Jvm.Cond.methodLink "LimbKernel" (151 : Nat) ({ cls := "LimbKernel", name := "takeTurn", desc := "()I" } : Jvm.MethodName)) ∈ tb := tb_2 104 rfl rfl
theorem m_i_yX5_takeTurn : (Jvm.Cond.instanceMethod ({ cls := "LimbKernel", name := "takeTurn", desc := "()I" } : Jvm.MethodName)) ∈ tb := tb_2 106 rfl rfl
theorem m_c_yX5_takeTurn : (Jvm.Cond.code ({ cls := "LimbKernel", name := "takeTurn", desc := "()I" } : Jvm.MethodName) prog_1_method_30_code (3 : Nat) (Option.some Jvm.ClassFile.FieldType.int)) ∈ tb := tb_2 107 rfl rfl
theorem m_l_RX5_220 : (Jvm.Cond.methodLink "LimbKernel" (220 : Nat) ({ cls := "LimbKernel$Queue", name := "takeFirst", desc := "()I" } : Jvm.MethodName)) ∈ tb := tb_2 108 rfl rfl
theorem m_i_yX3_takeFirst : (Jvm.Cond.instanceMethod ({ cls := "LimbKernel$Queue", name := "takeFirst", desc := "()I" } : Jvm.MethodName)) ∈ tb := tb_2 109 rfl rfl
theorem m_e_yX3_takeFirst : (Jvm.Cond.selects "LimbKernel$Queue" ({ cls := "LimbKernel$Queue", name := "takeFirst", desc := "()I" } : Jvm.MethodName) ({ cls := "LimbKernel$Queue", name := "takeFirst", desc := "()I" } : Jvm.MethodName)) ∈ tb := tb_2 110 rfl rfl
theorem m_c_yX3_takeFirst : (Jvm.Cond.code ({ cls := "LimbKernel$Queue", name := "takeFirst", desc := "()I" } : Jvm.MethodName) prog_5_method_5_code (2 : Nat) (Option.some Jvm.ClassFile.FieldType.int)) ∈ tb := tb_2 111 rfl rfl
theorem m_l_RX5_223 : (Jvm.Cond.methodLink "LimbKernel" (223 : Nat) ({ cls := "LimbKernel", name := "start", desc := "(LLimbKernel$Job;)V" } : Jvm.MethodName)) ∈ tb := tb_2 112 rfl rfl
theorem m_i_yX5_start : (Jvm.Cond.instanceMethod ({ cls := "LimbKernel", name := "start", desc := "(LLimbKernel$Job;)V" } : Jvm.MethodName)) ∈ tb := tb_2 114 rfl rfl
theorem m_c_yX5_start : (Jvm.Cond.code ({ cls := "LimbKernel", name := "start", desc := "(LLimbKernel$Job;)V" } : Jvm.MethodName) prog_1_method_31_code (3 : Nat) (Option.none : Option Jvm.ClassFile.FieldType)) ∈ tb := tb_2 115 rfl rfl
theorem m_l_RX5_238 : (Jvm.Cond.methodLink "LimbKernel" (238 : Nat) ({ cls := "LimbKernel$Memory", name := "canGive", desc := "(II)Z" } : Jvm.MethodName)) ∈ tb := tb_2 116 rfl rfl
theorem m_i_yX1_canGive : (Jvm.Cond.instanceMethod ({ cls := "LimbKernel$Memory", name := "canGive", desc := "(II)Z" } : Jvm.MethodName)) ∈ tb := tb_2 117 rfl rfl
theorem m_e_yX1_canGive : (Jvm.Cond.selects "LimbKernel$Memory" ({ cls := "LimbKernel$Memory", name := "canGive", desc := "(II)Z" } : Jvm.MethodName) ({ cls := "LimbKernel$Memory", name := "canGive", desc := "(II)Z" } : Jvm.MethodName)) ∈ tb := tb_2 118 rfl rfl
theorem m_c_yX1_canGive : (Jvm.Cond.code ({ cls := "LimbKernel$Memory", name := "canGive", desc := "(II)Z" } : Jvm.MethodName) prog_3_method_4_code (6 : Nat) (Option.some Jvm.ClassFile.FieldType.boolean)) ∈ tb := tb_2 119 rfl rfl
theorem m_l_RX5_226 : (Jvm.Cond.methodLink "LimbKernel" (226 : Nat) ({ cls := "LimbKernel", name := "reckon", desc := "(LLimbKernel$Job;)V" } : Jvm.MethodName)) ∈ tb := tb_2 120 rfl rfl
theorem m_i_yX5_reckon : (Jvm.Cond.instanceMethod ({ cls := "LimbKernel", name := "reckon", desc := "(LLimbKernel$Job;)V" } : Jvm.MethodName)) ∈ tb := tb_2 122 rfl rfl
theorem m_c_yX5_reckon : (Jvm.Cond.code ({ cls := "LimbKernel", name := "reckon", desc := "(LLimbKernel$Job;)V" } : Jvm.MethodName) prog_1_method_32_code (5 : Nat) (Option.none : Option Jvm.ClassFile.FieldType)) ∈ tb := tb_2 123 rfl rfl
theorem m_l_RX5_248 : (Jvm.Cond.methodLink "LimbKernel" (248 : Nat) ({ cls := "LimbKernel$Reckoner", name := "addProduct", desc := "(IIIII)V" } : Jvm.MethodName)) ∈ tb := tb_2 124 rfl rfl
theorem m_i_yX4_addProduct : (Jvm.Cond.instanceMethod ({ cls := "LimbKernel$Reckoner", name := "addProduct", desc := "(IIIII)V" } : Jvm.MethodName)) ∈ tb := tb_2 125 rfl rfl
theorem m_e_yX4_addProduct : (Jvm.Cond.selects "LimbKernel$Reckoner" ({ cls := "LimbKernel$Reckoner", name := "addProduct", desc := "(IIIII)V" } : Jvm.MethodName) ({ cls := "LimbKernel$Reckoner", name := "addProduct", desc := "(IIIII)V" } : Jvm.MethodName)) ∈ tb := tb_2 126 rfl rfl
theorem m_c_yX4_addProduct : (Jvm.Cond.code ({ cls := "LimbKernel$Reckoner", name := "addProduct", desc := "(IIIII)V" } : Jvm.MethodName) prog_6_method_3_code (15 : Nat) (Option.none : Option Jvm.ClassFile.FieldType)) ∈ tb := tb_2 127 rfl rfl
theorem m_k_RX4_15 : (Jvm.Cond.constantLong "LimbKernel$Reckoner" (15 : Nat) (2147483647 : Int64)) ∈ tb := tb_2 128 rfl rfl
theorem m_l_RX5_252 : (Jvm.Cond.methodLink "LimbKernel" (252 : Nat) ({ cls := "LimbKernel$Reckoner", name := "quotient", desc := "(LLimbKernel$Numeral;LLimbKernel$Numeral;LLimbKernel$Numeral;I)V" } : Jvm.MethodName)) ∈ tb := tb_2 129 rfl rfl
theorem m_i_yX4_quotient : (Jvm.Cond.instanceMethod ({ cls := "LimbKernel$Reckoner", name := "quotient", desc := "(LLimbKernel$Numeral;LLimbKernel$Numeral;LLimbKernel$Numeral;I)V" } : Jvm.MethodName)) ∈ tb := tb_2 130 rfl rfl
theorem m_e_yX4_quotient : (Jvm.Cond.selects "LimbKernel$Reckoner" ({ cls := "LimbKernel$Reckoner", name := "quotient", desc := "(LLimbKernel$Numeral;LLimbKernel$Numeral;LLimbKernel$Numeral;I)V" } : Jvm.MethodName) ({ cls := "LimbKernel$Reckoner", name := "quotient", desc := "(LLimbKernel$Numeral;LLimbKernel$Numeral;LLimbKernel$Numeral;I)V" } : Jvm.MethodName)) ∈ tb := tb_2 131 rfl rfl
theorem m_c_yX4_quotient : (Jvm.Cond.code ({ cls := "LimbKernel$Reckoner", name := "quotient", desc := "(LLimbKernel$Numeral;LLimbKernel$Numeral;LLimbKernel$Numeral;I)V" } : Jvm.MethodName) prog_6_method_4_code (5 : Nat) (Option.none : Option Jvm.ClassFile.FieldType)) ∈ tb := tb_2 132 rfl rfl
theorem m_l_RX4_26 : (Jvm.Cond.methodLink "LimbKernel$Reckoner" (26 : Nat) ({ cls := "LimbKernel$Reckoner", name := "chooseDivisor", desc := "(II)Z" } : Jvm.MethodName)) ∈ tb := tb_2 133 rfl rfl
theorem m_i_yX4_chooseDivisor : (Jvm.Cond.instanceMethod ({ cls := "LimbKernel$Reckoner", name := "chooseDivisor", desc := "(II)Z" } : Jvm.MethodName)) ∈ tb := tb_2 135 rfl rfl
theorem m_c_yX4_chooseDivisor : (Jvm.Cond.code ({ cls := "LimbKernel$Reckoner", name := "chooseDivisor", desc := "(II)Z" } : Jvm.MethodName) prog_6_method_12_code (8 : Nat) (Option.some Jvm.ClassFile.FieldType.boolean)) ∈ tb := tb_2 136 rfl rfl
theorem m_l_RX4_87 : (Jvm.Cond.methodLink "LimbKernel$Reckoner" (87 : Nat) ({ cls := "LimbKernel$Reckoner", name := "significant", desc := "(II)I" } : Jvm.MethodName)) ∈ tb := tb_2 137 rfl rfl
theorem m_l_RX4_30 : (Jvm.Cond.methodLink "LimbKernel$Reckoner" (30 : Nat) ({ cls := "LimbKernel$Reckoner", name := "load", desc := "(LLimbKernel$Numeral;I)V" } : Jvm.MethodName)) ∈ tb := tb_2 138 rfl rfl
theorem m_i_yX4_load : (Jvm.Cond.instanceMethod ({ cls := "LimbKernel$Reckoner", name := "load", desc := "(LLimbKernel$Numeral;I)V" } : Jvm.MethodName)) ∈ tb := tb_2 140 rfl rfl
theorem m_c_yX4_load : (Jvm.Cond.code ({ cls := "LimbKernel$Reckoner", name := "load", desc := "(LLimbKernel$Numeral;I)V" } : Jvm.MethodName) prog_6_method_9_code (3 : Nat) (Option.none : Option Jvm.ClassFile.FieldType)) ∈ tb := tb_2 141 rfl rfl
theorem m_l_RX4_47 : (Jvm.Cond.methodLink "LimbKernel$Reckoner" (47 : Nat) ({ cls := "java/lang/System", name := "arraycopy", desc := "(Ljava/lang/Object;ILjava/lang/Object;II)V" } : Jvm.MethodName)) ∈ tb := tb_2 142 rfl rfl
theorem m_l_RX4_34 : (Jvm.Cond.methodLink "LimbKernel$Reckoner" (34 : Nat) ({ cls := "LimbKernel$Reckoner", name := "reduce", desc := "(III)V" } : Jvm.MethodName)) ∈ tb := tb_2 145 rfl rfl
theorem m_i_yX4_reduce : (Jvm.Cond.instanceMethod ({ cls := "LimbKernel$Reckoner", name := "reduce", desc := "(III)V" } : Jvm.MethodName)) ∈ tb := tb_2 147 rfl rfl
theorem m_c_yX4_reduce : (Jvm.Cond.code ({ cls := "LimbKernel$Reckoner", name := "reduce", desc := "(III)V" } : Jvm.MethodName) prog_6_method_13_code (6 : Nat) (Option.none : Option Jvm.ClassFile.FieldType)) ∈ tb := tb_2 148 rfl rfl
theorem m_l_RX4_75 : (Jvm.Cond.methodLink "LimbKernel$Reckoner" (75 : Nat) ({ cls := "LimbKernel$Reckoner", name := "guessDigit", desc := "(I)J" } : Jvm.MethodName)) ∈ tb := tb_2 149 rfl rfl
theorem m_i_yX4_guessDigit : (Jvm.Cond.instanceMethod ({ cls := "LimbKernel$Reckoner", name := "guessDigit", desc := "(I)J" } : Jvm.MethodName)) ∈ tb := tb_2 151 rfl rfl
theorem m_c_yX4_guessDigit : (Jvm.Cond.code ({ cls := "LimbKernel$Reckoner", name := "guessDigit", desc := "(I)J" } : Jvm.MethodName) prog_6_method_14_code (14 : Nat) (Option.some Jvm.ClassFile.FieldType.long)) ∈ tb := tb_2 152 rfl rfl
theorem m_l_RX4_79 : (Jvm.Cond.methodLink "LimbKernel$Reckoner" (79 : Nat) ({ cls := "LimbKernel$Reckoner", name := "subtractTimes", desc := "(IJ)I" } : Jvm.MethodName)) ∈ tb := tb_2 153 rfl rfl
theorem m_i_yX4_subtractTimes : (Jvm.Cond.instanceMethod ({ cls := "LimbKernel$Reckoner", name := "subtractTimes", desc := "(IJ)I" } : Jvm.MethodName)) ∈ tb := tb_2 155 rfl rfl
theorem m_c_yX4_subtractTimes : (Jvm.Cond.code ({ cls := "LimbKernel$Reckoner", name := "subtractTimes", desc := "(IJ)I" } : Jvm.MethodName) prog_6_method_15_code (11 : Nat) (Option.some Jvm.ClassFile.FieldType.int)) ∈ tb := tb_2 156 rfl rfl
theorem m_l_RX5_256 : (Jvm.Cond.methodLink "LimbKernel" (256 : Nat) ({ cls := "LimbKernel$Reckoner", name := "greatestDivisor", desc := "(LLimbKernel$Numeral;LLimbKernel$Numeral;LLimbKernel$Numeral;I)V" } : Jvm.MethodName)) ∈ tb := tb_2 157 rfl rfl
theorem m_i_yX4_greatestDivisor : (Jvm.Cond.instanceMethod ({ cls := "LimbKernel$Reckoner", name := "greatestDivisor", desc := "(LLimbKernel$Numeral;LLimbKernel$Numeral;LLimbKernel$Numeral;I)V" } : Jvm.MethodName)) ∈ tb := tb_2 158 rfl rfl
theorem m_e_yX4_greatestDivisor : (Jvm.Cond.selects "LimbKernel$Reckoner" ({ cls := "LimbKernel$Reckoner", name := "greatestDivisor", desc := "(LLimbKernel$Numeral;LLimbKernel$Numeral;LLimbKernel$Numeral;I)V" } : Jvm.MethodName) ({ cls := "LimbKernel$Reckoner", name := "greatestDivisor", desc := "(LLimbKernel$Numeral;LLimbKernel$Numeral;LLimbKernel$Numeral;I)V" } : Jvm.MethodName)) ∈ tb := tb_2 159 rfl rfl
theorem m_c_yX4_greatestDivisor : (Jvm.Cond.code ({ cls := "LimbKernel$Reckoner", name := "greatestDivisor", desc := "(LLimbKernel$Numeral;LLimbKernel$Numeral;LLimbKernel$Numeral;I)V" } : Jvm.MethodName) prog_6_method_5_code (13 : Nat) (Option.none : Option Jvm.ClassFile.FieldType)) ∈ tb := tb_2 160 rfl rfl
theorem m_l_RX4_41 : (Jvm.Cond.methodLink "LimbKernel$Reckoner" (41 : Nat) ({ cls := "java/lang/Math", name := "min", desc := "(II)I" } : Jvm.MethodName)) ∈ tb := tb_2 161 rfl rfl
theorem m_l_RX5_259 : (Jvm.Cond.methodLink "LimbKernel" (259 : Nat) ({ cls := "LimbKernel$Reckoner", name := "powerModulo", desc := "(LLimbKernel$Numeral;LLimbKernel$Numeral;LLimbKernel$Numeral;LLimbKernel$Numeral;I)V" } : Jvm.MethodName)) ∈ tb := tb_2 162 rfl rfl
theorem m_i_yX4_powerModulo : (Jvm.Cond.instanceMethod ({ cls := "LimbKernel$Reckoner", name := "powerModulo", desc := "(LLimbKernel$Numeral;LLimbKernel$Numeral;LLimbKernel$Numeral;LLimbKernel$Numeral;I)V" } : Jvm.MethodName)) ∈ tb := tb_2 163 rfl rfl
theorem m_e_yX4_powerModulo : (Jvm.Cond.selects "LimbKernel$Reckoner" ({ cls := "LimbKernel$Reckoner", name := "powerModulo", desc := "(LLimbKernel$Numeral;LLimbKernel$Numeral;LLimbKernel$Numeral;LLimbKernel$Numeral;I)V" } : Jvm.MethodName) ({ cls := "LimbKernel$Reckoner", name := "powerModulo", desc := "(LLimbKernel$Numeral;LLimbKernel$Numeral;LLimbKernel$Numeral;LLimbKernel$Numeral;I)V" } : Jvm.MethodName)) ∈ tb := tb_2 164 rfl rfl
theorem m_c_yX4_powerModulo : (Jvm.Cond.code ({ cls := "LimbKernel$Reckoner", name := "powerModulo", desc := "(LLimbKernel$Numeral;LLimbKernel$Numeral;LLimbKernel$Numeral;LLimbKernel$Numeral;I)V" } : Jvm.MethodName) prog_6_method_6_code (11 : Nat) (Option.none : Option Jvm.ClassFile.FieldType)) ∈ tb := tb_2 165 rfl rfl
theorem m_l_RX4_56 : (Jvm.Cond.methodLink "LimbKernel$Reckoner" (56 : Nat) ({ cls := "LimbKernel$Reckoner", name := "isOne", desc := "(II)Z" } : Jvm.MethodName)) ∈ tb := tb_2 166 rfl rfl
theorem m_i_yX4_isOne : (Jvm.Cond.instanceMethod ({ cls := "LimbKernel$Reckoner", name := "isOne", desc := "(II)Z" } : Jvm.MethodName)) ∈ tb := tb_2 168 rfl rfl
theorem m_c_yX4_isOne : (Jvm.Cond.code ({ cls := "LimbKernel$Reckoner", name := "isOne", desc := "(II)Z" } : Jvm.MethodName) prog_6_method_7_code (3 : Nat) (Option.some Jvm.ClassFile.FieldType.boolean)) ∈ tb := tb_2 169 rfl rfl
theorem m_l_RX4_59 : (Jvm.Cond.methodLink "LimbKernel$Reckoner" (59 : Nat) ({ cls := "LimbKernel$Reckoner", name := "reduceToBase", desc := "(LLimbKernel$Numeral;II)V" } : Jvm.MethodName)) ∈ tb := tb_2 170 rfl rfl
theorem m_i_yX4_reduceToBase : (Jvm.Cond.instanceMethod ({ cls := "LimbKernel$Reckoner", name := "reduceToBase", desc := "(LLimbKernel$Numeral;II)V" } : Jvm.MethodName)) ∈ tb := tb_2 172 rfl rfl
theorem m_c_yX4_reduceToBase : (Jvm.Cond.code ({ cls := "LimbKernel$Reckoner", name := "reduceToBase", desc := "(LLimbKernel$Numeral;II)V" } : Jvm.MethodName) prog_6_method_10_code (5 : Nat) (Option.none : Option Jvm.ClassFile.FieldType)) ∈ tb := tb_2 173 rfl rfl
theorem m_l_RX4_69 : (Jvm.Cond.methodLink "LimbKernel$Reckoner" (69 : Nat) ({ cls := "java/util/Arrays", name := "fill", desc := "([IIII)V" } : Jvm.MethodName)) ∈ tb := tb_2 174 rfl rfl
theorem m_l_RX4_63 : (Jvm.Cond.methodLink "LimbKernel$Reckoner" (63 : Nat) ({ cls := "LimbKernel$Reckoner", name := "multiplyModulo", desc := "(III)V" } : Jvm.MethodName)) ∈ tb := tb_2 175 rfl rfl
theorem m_i_yX4_multiplyModulo : (Jvm.Cond.instanceMethod ({ cls := "LimbKernel$Reckoner", name := "multiplyModulo", desc := "(III)V" } : Jvm.MethodName)) ∈ tb := tb_2 177 rfl rfl
theorem m_c_yX4_multiplyModulo : (Jvm.Cond.code ({ cls := "LimbKernel$Reckoner", name := "multiplyModulo", desc := "(III)V" } : Jvm.MethodName) prog_6_method_11_code (5 : Nat) (Option.none : Option Jvm.ClassFile.FieldType)) ∈ tb := tb_2 178 rfl rfl
theorem m_l_RX4_83 : (Jvm.Cond.methodLink "LimbKernel$Reckoner" (83 : Nat) ({ cls := "LimbKernel$Reckoner", name := "addProduct", desc := "(IIIII)V" } : Jvm.MethodName)) ∈ tb := tb_2 179 rfl rfl
theorem m_l_RX4_66 : (Jvm.Cond.methodLink "LimbKernel$Reckoner" (66 : Nat) ({ cls := "LimbKernel$Reckoner", name := "hasBit", desc := "(II)Z" } : Jvm.MethodName)) ∈ tb := tb_2 180 rfl rfl
theorem m_i_yX4_hasBit : (Jvm.Cond.instanceMethod ({ cls := "LimbKernel$Reckoner", name := "hasBit", desc := "(II)Z" } : Jvm.MethodName)) ∈ tb := tb_2 182 rfl rfl
theorem m_c_yX4_hasBit : (Jvm.Cond.code ({ cls := "LimbKernel$Reckoner", name := "hasBit", desc := "(II)Z" } : Jvm.MethodName) prog_6_method_8_code (3 : Nat) (Option.some Jvm.ClassFile.FieldType.boolean)) ∈ tb := tb_2 183 rfl rfl
theorem m_l_RX5_229 : (Jvm.Cond.methodLink "LimbKernel" (229 : Nat) ({ cls := "LimbKernel", name := "settle", desc := "(LLimbKernel$Job;)V" } : Jvm.MethodName)) ∈ tb := tb_2 184 rfl rfl
theorem m_i_yX5_settle : (Jvm.Cond.instanceMethod ({ cls := "LimbKernel", name := "settle", desc := "(LLimbKernel$Job;)V" } : Jvm.MethodName)) ∈ tb := tb_2 186 rfl rfl
theorem m_c_yX5_settle : (Jvm.Cond.code ({ cls := "LimbKernel", name := "settle", desc := "(LLimbKernel$Job;)V" } : Jvm.MethodName) prog_1_method_33_code (2 : Nat) (Option.none : Option Jvm.ClassFile.FieldType)) ∈ tb := tb_2 187 rfl rfl
theorem m_l_RX5_170 : (Jvm.Cond.methodLink "LimbKernel" (170 : Nat) ({ cls := "LimbKernel", name := "giveUpRoom", desc := "(LLimbKernel$Job;)V" } : Jvm.MethodName)) ∈ tb := tb_2 188 rfl rfl
theorem m_i_yX5_giveUpRoom : (Jvm.Cond.instanceMethod ({ cls := "LimbKernel", name := "giveUpRoom", desc := "(LLimbKernel$Job;)V" } : Jvm.MethodName)) ∈ tb := tb_2 190 rfl rfl
theorem m_c_yX5_giveUpRoom : (Jvm.Cond.code ({ cls := "LimbKernel", name := "giveUpRoom", desc := "(LLimbKernel$Job;)V" } : Jvm.MethodName) prog_1_method_34_code (2 : Nat) (Option.none : Option Jvm.ClassFile.FieldType)) ∈ tb := tb_2 191 rfl rfl
theorem m_l_RX5_163 : (Jvm.Cond.methodLink "LimbKernel" (163 : Nat) ({ cls := "LimbKernel$Job", name := "isQueued", desc := "()Z" } : Jvm.MethodName)) ∈ tb := tb_2 192 rfl rfl
theorem m_i_yX0_isQueued : (Jvm.Cond.instanceMethod ({ cls := "LimbKernel$Job", name := "isQueued", desc := "()Z" } : Jvm.MethodName)) ∈ tb := tb_2 193 rfl rfl
theorem m_e_yX0_isQueued : (Jvm.Cond.selects "LimbKernel$Job" ({ cls := "LimbKernel$Job", name := "isQueued", desc := "()Z" } : Jvm.MethodName) ({ cls := "LimbKernel$Job", name := "isQueued", desc := "()Z" } : Jvm.MethodName)) ∈ tb := tb_2 194 rfl rfl
theorem m_c_yX0_isQueued : (Jvm.Cond.code ({ cls := "LimbKernel$Job", name := "isQueued", desc := "()Z" } : Jvm.MethodName) prog_2_method_3_code (1 : Nat) (Option.some Jvm.ClassFile.FieldType.boolean)) ∈ tb := tb_2 195 rfl rfl
theorem m_l_RL_59 : (Jvm.Cond.methodLink "LimbKernelLaw" (59 : Nat) ({ cls := "LimbKernel", name := "run", desc := "(I)I" } : Jvm.MethodName)) ∈ tb := tb_2 196 rfl rfl
theorem m_i_yX5_run : (Jvm.Cond.instanceMethod ({ cls := "LimbKernel", name := "run", desc := "(I)I" } : Jvm.MethodName)) ∈ tb := tb_2 197 rfl rfl
theorem m_e_yX5_run : (Jvm.Cond.selects "LimbKernel" ({ cls := "LimbKernel", name := "run", desc := "(I)I" } : Jvm.MethodName) ({ cls := "LimbKernel", name := "run", desc := "(I)I" } : Jvm.MethodName)) ∈ tb := tb_2 198 rfl rfl
theorem m_c_yX5_run : (Jvm.Cond.code ({ cls := "LimbKernel", name := "run", desc := "(I)I" } : Jvm.MethodName) prog_1_method_10_code (3 : Nat) (Option.some Jvm.ClassFile.FieldType.int)) ∈ tb := tb_2 199 rfl rfl
theorem m_l_RL_63 : (Jvm.Cond.methodLink "LimbKernelLaw" (63 : Nat) ({ cls := "LimbKernel", name := "jobState", desc := "(I)I" } : Jvm.MethodName)) ∈ tb := tb_2 200 rfl rfl
theorem m_i_yX5_jobState : (Jvm.Cond.instanceMethod ({ cls := "LimbKernel", name := "jobState", desc := "(I)I" } : Jvm.MethodName)) ∈ tb := tb_2 201 rfl rfl
theorem m_e_yX5_jobState : (Jvm.Cond.selects "LimbKernel" ({ cls := "LimbKernel", name := "jobState", desc := "(I)I" } : Jvm.MethodName) ({ cls := "LimbKernel", name := "jobState", desc := "(I)I" } : Jvm.MethodName)) ∈ tb := tb_2 202 rfl rfl
theorem m_c_yX5_jobState : (Jvm.Cond.code ({ cls := "LimbKernel", name := "jobState", desc := "(I)I" } : Jvm.MethodName) prog_1_method_11_code (2 : Nat) (Option.some Jvm.ClassFile.FieldType.int)) ∈ tb := tb_2 203 rfl rfl
theorem m_l_RX5_154 : (Jvm.Cond.methodLink "LimbKernel" (154 : Nat) ({ cls := "LimbKernel", name := "isJob", desc := "(I)Z" } : Jvm.MethodName)) ∈ tb := tb_2 204 rfl rfl
theorem m_i_yX5_isJob : (Jvm.Cond.instanceMethod ({ cls := "LimbKernel", name := "isJob", desc := "(I)Z" } : Jvm.MethodName)) ∈ tb := tb_2 206 rfl rfl
theorem m_c_yX5_isJob : (Jvm.Cond.code ({ cls := "LimbKernel", name := "isJob", desc := "(I)Z" } : Jvm.MethodName) prog_1_method_24_code (2 : Nat) (Option.some Jvm.ClassFile.FieldType.boolean)) ∈ tb := tb_2 207 rfl rfl
theorem m_l_RL_67 : (Jvm.Cond.methodLink "LimbKernelLaw" (67 : Nat) ({ cls := "LimbKernel", name := "jobResult", desc := "(I)I" } : Jvm.MethodName)) ∈ tb := tb_2 208 rfl rfl
theorem m_i_yX5_jobResult : (Jvm.Cond.instanceMethod ({ cls := "LimbKernel", name := "jobResult", desc := "(I)I" } : Jvm.MethodName)) ∈ tb := tb_2 209 rfl rfl
theorem m_e_yX5_jobResult : (Jvm.Cond.selects "LimbKernel" ({ cls := "LimbKernel", name := "jobResult", desc := "(I)I" } : Jvm.MethodName) ({ cls := "LimbKernel", name := "jobResult", desc := "(I)I" } : Jvm.MethodName)) ∈ tb := tb_2 210 rfl rfl
theorem m_c_yX5_jobResult : (Jvm.Cond.code ({ cls := "LimbKernel", name := "jobResult", desc := "(I)I" } : Jvm.MethodName) prog_1_method_12_code (2 : Nat) (Option.some Jvm.ClassFile.FieldType.int)) ∈ tb := tb_2 211 rfl rfl
theorem m_l_RL_71 : (Jvm.Cond.methodLink "LimbKernelLaw" (71 : Nat) ({ cls := "LimbKernel", name := "workLeft", desc := "(I)J" } : Jvm.MethodName)) ∈ tb := tb_2 212 rfl rfl
theorem m_i_yX5_workLeft : (Jvm.Cond.instanceMethod ({ cls := "LimbKernel", name := "workLeft", desc := "(I)J" } : Jvm.MethodName)) ∈ tb := tb_2 213 rfl rfl
theorem m_e_yX5_workLeft : (Jvm.Cond.selects "LimbKernel" ({ cls := "LimbKernel", name := "workLeft", desc := "(I)J" } : Jvm.MethodName) ({ cls := "LimbKernel", name := "workLeft", desc := "(I)J" } : Jvm.MethodName)) ∈ tb := tb_2 214 rfl rfl
theorem m_c_yX5_workLeft : (Jvm.Cond.code ({ cls := "LimbKernel", name := "workLeft", desc := "(I)J" } : Jvm.MethodName) prog_1_method_13_code (2 : Nat) (Option.some Jvm.ClassFile.FieldType.long)) ∈ tb := tb_2 215 rfl rfl
theorem m_k_RX5_161 : (Jvm.Cond.constantLong "LimbKernel" (161 : Nat) (-1 : Int64)) ∈ tb := tb_2 216 rfl rfl
theorem m_l_RL_76 : (Jvm.Cond.methodLink "LimbKernelLaw" (76 : Nat) ({ cls := "LimbKernel", name := "cancel", desc := "(I)Z" } : Jvm.MethodName)) ∈ tb := tb_2 217 rfl rfl
theorem m_i_yX5_cancel : (Jvm.Cond.instanceMethod ({ cls := "LimbKernel", name := "cancel", desc := "(I)Z" } : Jvm.MethodName)) ∈ tb := tb_2 218 rfl rfl
theorem m_e_yX5_cancel : (Jvm.Cond.selects "LimbKernel" ({ cls := "LimbKernel", name := "cancel", desc := "(I)Z" } : Jvm.MethodName) ({ cls := "LimbKernel", name := "cancel", desc := "(I)Z" } : Jvm.MethodName)) ∈ tb := tb_2 219 rfl rfl
theorem m_c_yX5_cancel : (Jvm.Cond.code ({ cls := "LimbKernel", name := "cancel", desc := "(I)Z" } : Jvm.MethodName) prog_1_method_14_code (3 : Nat) (Option.some Jvm.ClassFile.FieldType.boolean)) ∈ tb := tb_2 220 rfl rfl
theorem m_l_RX5_167 : (Jvm.Cond.methodLink "LimbKernel" (167 : Nat) ({ cls := "LimbKernel$Queue", name := "drop", desc := "(I)V" } : Jvm.MethodName)) ∈ tb := tb_2 221 rfl rfl
theorem m_i_yX3_drop : (Jvm.Cond.instanceMethod ({ cls := "LimbKernel$Queue", name := "drop", desc := "(I)V" } : Jvm.MethodName)) ∈ tb := tb_2 222 rfl rfl
theorem m_e_yX3_drop : (Jvm.Cond.selects "LimbKernel$Queue" ({ cls := "LimbKernel$Queue", name := "drop", desc := "(I)V" } : Jvm.MethodName) ({ cls := "LimbKernel$Queue", name := "drop", desc := "(I)V" } : Jvm.MethodName)) ∈ tb := tb_2 223 rfl rfl
theorem m_c_yX3_drop : (Jvm.Cond.code ({ cls := "LimbKernel$Queue", name := "drop", desc := "(I)V" } : Jvm.MethodName) prog_5_method_6_code (5 : Nat) (Option.none : Option Jvm.ClassFile.FieldType)) ∈ tb := tb_2 224 rfl rfl
theorem m_l_RX3_26 : (Jvm.Cond.methodLink "LimbKernel$Queue" (26 : Nat) ({ cls := "LimbKernel$Queue", name := "takeFirst", desc := "()I" } : Jvm.MethodName)) ∈ tb := tb_2 225 rfl rfl
theorem m_l_RX3_30 : (Jvm.Cond.methodLink "LimbKernel$Queue" (30 : Nat) ({ cls := "LimbKernel$Queue", name := "append", desc := "(I)V" } : Jvm.MethodName)) ∈ tb := tb_2 226 rfl rfl
theorem m_l_RL_80 : (Jvm.Cond.methodLink "LimbKernelLaw" (80 : Nat) ({ cls := "LimbKernel", name := "forget", desc := "(I)Z" } : Jvm.MethodName)) ∈ tb := tb_2 227 rfl rfl
theorem m_i_yX5_forget : (Jvm.Cond.instanceMethod ({ cls := "LimbKernel", name := "forget", desc := "(I)Z" } : Jvm.MethodName)) ∈ tb := tb_2 228 rfl rfl
theorem m_e_yX5_forget : (Jvm.Cond.selects "LimbKernel" ({ cls := "LimbKernel", name := "forget", desc := "(I)Z" } : Jvm.MethodName) ({ cls := "LimbKernel", name := "forget", desc := "(I)Z" } : Jvm.MethodName)) ∈ tb := tb_2 229 rfl rfl
theorem m_c_yX5_forget : (Jvm.Cond.code ({ cls := "LimbKernel", name := "forget", desc := "(I)Z" } : Jvm.MethodName) prog_1_method_15_code (2 : Nat) (Option.some Jvm.ClassFile.FieldType.boolean)) ∈ tb := tb_2 230 rfl rfl
theorem m_l_RL_84 : (Jvm.Cond.methodLink "LimbKernelLaw" (84 : Nat) ({ cls := "LimbKernel", name := "freeCells", desc := "()I" } : Jvm.MethodName)) ∈ tb := tb_2 231 rfl rfl
theorem m_i_yX5_freeCells : (Jvm.Cond.instanceMethod ({ cls := "LimbKernel", name := "freeCells", desc := "()I" } : Jvm.MethodName)) ∈ tb := tb_2 232 rfl rfl
theorem m_e_yX5_freeCells : (Jvm.Cond.selects "LimbKernel" ({ cls := "LimbKernel", name := "freeCells", desc := "()I" } : Jvm.MethodName) ({ cls := "LimbKernel", name := "freeCells", desc := "()I" } : Jvm.MethodName)) ∈ tb := tb_2 233 rfl rfl
theorem m_c_yX5_freeCells : (Jvm.Cond.code ({ cls := "LimbKernel", name := "freeCells", desc := "()I" } : Jvm.MethodName) prog_1_method_16_code (1 : Nat) (Option.some Jvm.ClassFile.FieldType.int)) ∈ tb := tb_2 234 rfl rfl
theorem m_l_RX5_174 : (Jvm.Cond.methodLink "LimbKernel" (174 : Nat) ({ cls := "LimbKernel$Memory", name := "freeLimbs", desc := "()I" } : Jvm.MethodName)) ∈ tb := tb_2 235 rfl rfl
theorem m_i_yX1_freeLimbs : (Jvm.Cond.instanceMethod ({ cls := "LimbKernel$Memory", name := "freeLimbs", desc := "()I" } : Jvm.MethodName)) ∈ tb := tb_2 236 rfl rfl
theorem m_e_yX1_freeLimbs : (Jvm.Cond.selects "LimbKernel$Memory" ({ cls := "LimbKernel$Memory", name := "freeLimbs", desc := "()I" } : Jvm.MethodName) ({ cls := "LimbKernel$Memory", name := "freeLimbs", desc := "()I" } : Jvm.MethodName)) ∈ tb := tb_2 237 rfl rfl
theorem m_c_yX1_freeLimbs : (Jvm.Cond.code ({ cls := "LimbKernel$Memory", name := "freeLimbs", desc := "()I" } : Jvm.MethodName) prog_3_method_7_code (3 : Nat) (Option.some Jvm.ClassFile.FieldType.int)) ∈ tb := tb_2 238 rfl rfl
theorem m_l_RL_88 : (Jvm.Cond.methodLink "LimbKernelLaw" (88 : Nat) ({ cls := "LimbKernel", name := "freeBlock", desc := "(II)I" } : Jvm.MethodName)) ∈ tb := tb_2 239 rfl rfl
theorem m_i_yX5_freeBlock : (Jvm.Cond.instanceMethod ({ cls := "LimbKernel", name := "freeBlock", desc := "(II)I" } : Jvm.MethodName)) ∈ tb := tb_3 0 rfl rfl
theorem m_e_yX5_freeBlock : (Jvm.Cond.selects "LimbKernel" ({ cls := "LimbKernel", name := "freeBlock", desc := "(II)I" } : Jvm.MethodName) ({ cls := "LimbKernel", name := "freeBlock", desc := "(II)I" } : Jvm.MethodName)) ∈ tb := tb_3 1 rfl rfl
theorem m_c_yX5_freeBlock : (Jvm.Cond.code ({ cls := "LimbKernel", name := "freeBlock", desc := "(II)I" } : Jvm.MethodName) prog_1_method_17_code (3 : Nat) (Option.some Jvm.ClassFile.FieldType.int)) ∈ tb := tb_3 2 rfl rfl
theorem m_l_RX5_183 : (Jvm.Cond.methodLink "LimbKernel" (183 : Nat) ({ cls := "LimbKernel$Memory", name := "addressOfFree", desc := "(II)I" } : Jvm.MethodName)) ∈ tb := tb_3 3 rfl rfl
theorem m_l_RL_92 : (Jvm.Cond.methodLink "LimbKernelLaw" (92 : Nat) ({ cls := "LimbKernel", name := "number", desc := "(II)I" } : Jvm.MethodName)) ∈ tb := tb_3 4 rfl rfl
theorem m_i_yX5_number : (Jvm.Cond.instanceMethod ({ cls := "LimbKernel", name := "number", desc := "(II)I" } : Jvm.MethodName)) ∈ tb := tb_3 5 rfl rfl
theorem m_e_yX5_number : (Jvm.Cond.selects "LimbKernel" ({ cls := "LimbKernel", name := "number", desc := "(II)I" } : Jvm.MethodName) ({ cls := "LimbKernel", name := "number", desc := "(II)I" } : Jvm.MethodName)) ∈ tb := tb_3 6 rfl rfl
theorem m_c_yX5_number : (Jvm.Cond.code ({ cls := "LimbKernel", name := "number", desc := "(II)I" } : Jvm.MethodName) prog_1_method_18_code (3 : Nat) (Option.some Jvm.ClassFile.FieldType.int)) ∈ tb := tb_3 7 rfl rfl
theorem m_l_RL_96 : (Jvm.Cond.methodLink "LimbKernelLaw" (96 : Nat) ({ cls := "LimbKernel", name := "count", desc := "(II)I" } : Jvm.MethodName)) ∈ tb := tb_3 8 rfl rfl
theorem m_i_yX5_count : (Jvm.Cond.instanceMethod ({ cls := "LimbKernel", name := "count", desc := "(II)I" } : Jvm.MethodName)) ∈ tb := tb_3 9 rfl rfl
theorem m_e_yX5_count : (Jvm.Cond.selects "LimbKernel" ({ cls := "LimbKernel", name := "count", desc := "(II)I" } : Jvm.MethodName) ({ cls := "LimbKernel", name := "count", desc := "(II)I" } : Jvm.MethodName)) ∈ tb := tb_3 10 rfl rfl
theorem m_c_yX5_count : (Jvm.Cond.code ({ cls := "LimbKernel", name := "count", desc := "(II)I" } : Jvm.MethodName) prog_1_method_19_code (3 : Nat) (Option.some Jvm.ClassFile.FieldType.int)) ∈ tb := tb_3 11 rfl rfl
theorem m_l_RX5_193 : (Jvm.Cond.methodLink "LimbKernel" (193 : Nat) ({ cls := "LimbKernel$Queue", name := "at", desc := "(I)I" } : Jvm.MethodName)) ∈ tb := tb_3 12 rfl rfl
theorem m_i_yX3_at : (Jvm.Cond.instanceMethod ({ cls := "LimbKernel$Queue", name := "at", desc := "(I)I" } : Jvm.MethodName)) ∈ tb := tb_3 13 rfl rfl
theorem m_e_yX3_at : (Jvm.Cond.selects "LimbKernel$Queue" ({ cls := "LimbKernel$Queue", name := "at", desc := "(I)I" } : Jvm.MethodName) ({ cls := "LimbKernel$Queue", name := "at", desc := "(I)I" } : Jvm.MethodName)) ∈ tb := tb_3 14 rfl rfl
theorem m_c_yX3_at : (Jvm.Cond.code ({ cls := "LimbKernel$Queue", name := "at", desc := "(I)I" } : Jvm.MethodName) prog_5_method_3_code (2 : Nat) (Option.some Jvm.ClassFile.FieldType.int)) ∈ tb := tb_3 15 rfl rfl
theorem m_l_RL_9 : (Jvm.Cond.methodLink "LimbKernelLaw" (9 : Nat) ({ cls := "LimbKernelLaw", name := "cell", desc := "([II)I" } : Jvm.MethodName)) ∈ tb := tb_3 16 rfl rfl
theorem m_s_yL_cell : (Jvm.Cond.static ({ cls := "LimbKernelLaw", name := "cell", desc := "([II)I" } : Jvm.MethodName)) ∈ tb := tb_3 17 rfl rfl
theorem m_c_yL_cell : (Jvm.Cond.code ({ cls := "LimbKernelLaw", name := "cell", desc := "([II)I" } : Jvm.MethodName) method_2_code (2 : Nat) (Option.some Jvm.ClassFile.FieldType.int)) ∈ tb := tb_3 18 rfl rfl
theorem m_l_RL_20 : (Jvm.Cond.methodLink "LimbKernelLaw" (20 : Nat) ({ cls := "LimbKernelModel", name := "<init>", desc := "(IIII)V" } : Jvm.MethodName)) ∈ tb := tb_3 21 rfl rfl
theorem m_i_yX6_init : (Jvm.Cond.instanceMethod ({ cls := "LimbKernelModel", name := "<init>", desc := "(IIII)V" } : Jvm.MethodName)) ∈ tb := tb_3 22 rfl rfl
theorem m_c_yX6_init : (Jvm.Cond.code ({ cls := "LimbKernelModel", name := "<init>", desc := "(IIII)V" } : Jvm.MethodName) prog_8_method_1_code (5 : Nat) (Option.none : Option Jvm.ClassFile.FieldType)) ∈ tb := tb_3 23 rfl rfl
theorem m_l_RX6_1 : (Jvm.Cond.methodLink "LimbKernelModel" (1 : Nat) ({ cls := "java/lang/Object", name := "<init>", desc := "()V" } : Jvm.MethodName)) ∈ tb := tb_3 24 rfl rfl
theorem m_l_RX6_81 : (Jvm.Cond.methodLink "LimbKernelModel" (81 : Nat) ({ cls := "LimbKernelModel", name := "within", desc := "(III)I" } : Jvm.MethodName)) ∈ tb := tb_3 25 rfl rfl
theorem m_s_yX6_within : (Jvm.Cond.static ({ cls := "LimbKernelModel", name := "within", desc := "(III)I" } : Jvm.MethodName)) ∈ tb := tb_3 26 rfl rfl
theorem m_c_yX6_within : (Jvm.Cond.code ({ cls := "LimbKernelModel", name := "within", desc := "(III)I" } : Jvm.MethodName) prog_8_method_2_code (3 : Nat) (Option.some Jvm.ClassFile.FieldType.int)) ∈ tb := tb_3 27 rfl rfl
theorem m_l_RX6_98 : (Jvm.Cond.methodLink "LimbKernelModel" (98 : Nat) ({ cls := "LimbKernelModel", name := "begin", desc := "()V" } : Jvm.MethodName)) ∈ tb := tb_3 28 rfl rfl
theorem m_i_yX6_begin : (Jvm.Cond.instanceMethod ({ cls := "LimbKernelModel", name := "begin", desc := "()V" } : Jvm.MethodName)) ∈ tb := tb_3 30 rfl rfl
theorem m_c_yX6_begin : (Jvm.Cond.code ({ cls := "LimbKernelModel", name := "begin", desc := "()V" } : Jvm.MethodName) prog_8_method_3_code (2 : Nat) (Option.none : Option Jvm.ClassFile.FieldType)) ∈ tb := tb_3 31 rfl rfl
theorem m_f_RX6_85 : (Jvm.Cond.fieldLink "LimbKernelModel" (85 : Nat) "LimbKernelModel" "poolLog" "I") ∈ tb := tb_3 32 rfl rfl
theorem m_f_RX6_89 : (Jvm.Cond.fieldLink "LimbKernelModel" (89 : Nat) "LimbKernelModel" "mostJobs" "I") ∈ tb := tb_3 33 rfl rfl
theorem m_f_RX6_92 : (Jvm.Cond.fieldLink "LimbKernelModel" (92 : Nat) "LimbKernelModel" "mostHandles" "I") ∈ tb := tb_3 34 rfl rfl
theorem m_f_RX6_95 : (Jvm.Cond.fieldLink "LimbKernelModel" (95 : Nat) "LimbKernelModel" "quantum" "I") ∈ tb := tb_3 35 rfl rfl
theorem m_f_RX6_7 : (Jvm.Cond.fieldLink "LimbKernelModel" (7 : Nat) "LimbKernelModel" "limbs" "[I") ∈ tb := tb_3 36 rfl rfl
theorem m_f_RX6_13 : (Jvm.Cond.fieldLink "LimbKernelModel" (13 : Nat) "LimbKernelModel" "freeOrder" "[I") ∈ tb := tb_3 37 rfl rfl
theorem m_f_RX6_16 : (Jvm.Cond.fieldLink "LimbKernelModel" (16 : Nat) "LimbKernelModel" "isNumber" "[Z") ∈ tb := tb_3 38 rfl rfl
theorem m_f_RX6_20 : (Jvm.Cond.fieldLink "LimbKernelModel" (20 : Nat) "LimbKernelModel" "size" "[I") ∈ tb := tb_3 39 rfl rfl
theorem m_f_RX6_23 : (Jvm.Cond.fieldLink "LimbKernelModel" (23 : Nat) "LimbKernelModel" "address" "[I") ∈ tb := tb_3 40 rfl rfl
theorem m_f_RX6_26 : (Jvm.Cond.fieldLink "LimbKernelModel" (26 : Nat) "LimbKernelModel" "order" "[I") ∈ tb := tb_3 41 rfl rfl
theorem m_f_RX6_29 : (Jvm.Cond.fieldLink "LimbKernelModel" (29 : Nat) "LimbKernelModel" "pins" "[I") ∈ tb := tb_3 42 rfl rfl
theorem m_f_RX6_32 : (Jvm.Cond.fieldLink "LimbKernelModel" (32 : Nat) "LimbKernelModel" "isOpen" "[Z") ∈ tb := tb_3 43 rfl rfl
theorem m_f_RX6_35 : (Jvm.Cond.fieldLink "LimbKernelModel" (35 : Nat) "LimbKernelModel" "state" "[I") ∈ tb := tb_3 44 rfl rfl
theorem m_f_RX6_38 : (Jvm.Cond.fieldLink "LimbKernelModel" (38 : Nat) "LimbKernelModel" "op" "[I") ∈ tb := tb_3 45 rfl rfl
theorem m_f_RX6_41 : (Jvm.Cond.fieldLink "LimbKernelModel" (41 : Nat) "LimbKernelModel" "first" "[I") ∈ tb := tb_3 46 rfl rfl
theorem m_f_RX6_44 : (Jvm.Cond.fieldLink "LimbKernelModel" (44 : Nat) "LimbKernelModel" "second" "[I") ∈ tb := tb_3 47 rfl rfl
theorem m_f_RX6_47 : (Jvm.Cond.fieldLink "LimbKernelModel" (47 : Nat) "LimbKernelModel" "third" "[I") ∈ tb := tb_3 48 rfl rfl
theorem m_f_RX6_50 : (Jvm.Cond.fieldLink "LimbKernelModel" (50 : Nat) "LimbKernelModel" "work" "[J") ∈ tb := tb_3 49 rfl rfl
theorem m_f_RX6_54 : (Jvm.Cond.fieldLink "LimbKernelModel" (54 : Nat) "LimbKernelModel" "result" "[I") ∈ tb := tb_3 50 rfl rfl
theorem m_f_RX6_57 : (Jvm.Cond.fieldLink "LimbKernelModel" (57 : Nat) "LimbKernelModel" "roomAddress" "[I") ∈ tb := tb_3 51 rfl rfl
theorem m_f_RX6_60 : (Jvm.Cond.fieldLink "LimbKernelModel" (60 : Nat) "LimbKernelModel" "roomOrder" "[I") ∈ tb := tb_3 52 rfl rfl
theorem m_f_RX6_63 : (Jvm.Cond.fieldLink "LimbKernelModel" (63 : Nat) "LimbKernelModel" "queue" "[I") ∈ tb := tb_3 53 rfl rfl
theorem m_f_RX6_101 : (Jvm.Cond.fieldLink "LimbKernelModel" (101 : Nat) "LimbKernelModel" "queued" "I") ∈ tb := tb_3 54 rfl rfl
theorem m_f_RX6_104 : (Jvm.Cond.fieldLink "LimbKernelModel" (104 : Nat) "LimbKernelModel" "turns" "I") ∈ tb := tb_3 55 rfl rfl
theorem m_f_RX6_66 : (Jvm.Cond.fieldLink "LimbKernelModel" (66 : Nat) "LimbKernelModel" "u" "[I") ∈ tb := tb_3 56 rfl rfl
theorem m_f_RX6_69 : (Jvm.Cond.fieldLink "LimbKernelModel" (69 : Nat) "LimbKernelModel" "v" "[I") ∈ tb := tb_3 57 rfl rfl
theorem m_f_RX6_72 : (Jvm.Cond.fieldLink "LimbKernelModel" (72 : Nat) "LimbKernelModel" "q" "[I") ∈ tb := tb_3 58 rfl rfl
theorem m_f_RX6_75 : (Jvm.Cond.fieldLink "LimbKernelModel" (75 : Nat) "LimbKernelModel" "x" "[I") ∈ tb := tb_3 59 rfl rfl
theorem m_f_RX6_78 : (Jvm.Cond.fieldLink "LimbKernelModel" (78 : Nat) "LimbKernelModel" "\x72" "[I") ∈ tb := tb_3 60 rfl rfl
theorem m_f_RX6_179 : (Jvm.Cond.fieldLink "LimbKernelModel" (179 : Nat) "LimbKernelModel" "uSize" "I") ∈ tb := tb_3 61 rfl rfl
theorem m_f_RX6_182 : (Jvm.Cond.fieldLink "LimbKernelModel" (182 : Nat) "LimbKernelModel" "vSize" "I") ∈ tb := tb_3 62 rfl rfl
theorem m_f_RX6_197 : (Jvm.Cond.fieldLink "LimbKernelModel" (197 : Nat) "LimbKernelModel" "xSize" "I") ∈ tb := tb_3 63 rfl rfl
theorem m_f_RX6_200 : (Jvm.Cond.fieldLink "LimbKernelModel" (200 : Nat) "LimbKernelModel" "rSize" "I") ∈ tb := tb_3 64 rfl rfl
theorem m_l_RL_25 : (Jvm.Cond.methodLink "LimbKernelLaw" (25 : Nat) ({ cls := "LimbKernelModel", name := "init", desc := "()I" } : Jvm.MethodName)) ∈ tb := tb_3 134 rfl rfl
theorem m_i_yX6_init_ : (Jvm.Cond.instanceMethod ({ cls := "LimbKernelModel", name := "init", desc := "()I" } : Jvm.MethodName)) ∈ tb := tb_3 135 rfl rfl
theorem m_e_yX6_init_ : (Jvm.Cond.selects "LimbKernelModel" ({ cls := "LimbKernelModel", name := "init", desc := "()I" } : Jvm.MethodName) ({ cls := "LimbKernelModel", name := "init", desc := "()I" } : Jvm.MethodName)) ∈ tb := tb_3 136 rfl rfl
theorem m_c_yX6_init_ : (Jvm.Cond.code ({ cls := "LimbKernelModel", name := "init", desc := "()I" } : Jvm.MethodName) prog_8_method_4_code (2 : Nat) (Option.some Jvm.ClassFile.FieldType.int)) ∈ tb := tb_3 137 rfl rfl
theorem m_l_RX6_107 : (Jvm.Cond.methodLink "LimbKernelModel" (107 : Nat) ({ cls := "LimbKernelModel", name := "handlesInUse", desc := "()I" } : Jvm.MethodName)) ∈ tb := tb_3 138 rfl rfl
theorem m_i_yX6_handlesInUse : (Jvm.Cond.instanceMethod ({ cls := "LimbKernelModel", name := "handlesInUse", desc := "()I" } : Jvm.MethodName)) ∈ tb := tb_3 140 rfl rfl
theorem m_c_yX6_handlesInUse : (Jvm.Cond.code ({ cls := "LimbKernelModel", name := "handlesInUse", desc := "()I" } : Jvm.MethodName) prog_8_method_5_code (3 : Nat) (Option.some Jvm.ClassFile.FieldType.int)) ∈ tb := tb_3 141 rfl rfl
theorem m_l_RX6_111 : (Jvm.Cond.methodLink "LimbKernelModel" (111 : Nat) ({ cls := "LimbKernelModel", name := "jobsThere", desc := "()I" } : Jvm.MethodName)) ∈ tb := tb_3 142 rfl rfl
theorem m_i_yX6_jobsThere : (Jvm.Cond.instanceMethod ({ cls := "LimbKernelModel", name := "jobsThere", desc := "()I" } : Jvm.MethodName)) ∈ tb := tb_3 144 rfl rfl
theorem m_c_yX6_jobsThere : (Jvm.Cond.code ({ cls := "LimbKernelModel", name := "jobsThere", desc := "()I" } : Jvm.MethodName) prog_8_method_6_code (3 : Nat) (Option.some Jvm.ClassFile.FieldType.int)) ∈ tb := tb_3 145 rfl rfl
theorem m_l_RL_30 : (Jvm.Cond.methodLink "LimbKernelLaw" (30 : Nat) ({ cls := "LimbKernelModel", name := "newNumber", desc := "(I)I" } : Jvm.MethodName)) ∈ tb := tb_3 146 rfl rfl
theorem m_i_yX6_newNumber : (Jvm.Cond.instanceMethod ({ cls := "LimbKernelModel", name := "newNumber", desc := "(I)I" } : Jvm.MethodName)) ∈ tb := tb_3 147 rfl rfl
theorem m_e_yX6_newNumber : (Jvm.Cond.selects "LimbKernelModel" ({ cls := "LimbKernelModel", name := "newNumber", desc := "(I)I" } : Jvm.MethodName) ({ cls := "LimbKernelModel", name := "newNumber", desc := "(I)I" } : Jvm.MethodName)) ∈ tb := tb_3 148 rfl rfl
theorem m_c_yX6_newNumber : (Jvm.Cond.code ({ cls := "LimbKernelModel", name := "newNumber", desc := "(I)I" } : Jvm.MethodName) prog_8_method_13_code (4 : Nat) (Option.some Jvm.ClassFile.FieldType.int)) ∈ tb := tb_3 149 rfl rfl
theorem m_l_RX6_114 : (Jvm.Cond.methodLink "LimbKernelModel" (114 : Nat) ({ cls := "LimbKernelModel", name := "pool", desc := "()I" } : Jvm.MethodName)) ∈ tb := tb_3 150 rfl rfl
theorem m_i_yX6_pool : (Jvm.Cond.instanceMethod ({ cls := "LimbKernelModel", name := "pool", desc := "()I" } : Jvm.MethodName)) ∈ tb := tb_3 152 rfl rfl
theorem m_c_yX6_pool : (Jvm.Cond.code ({ cls := "LimbKernelModel", name := "pool", desc := "()I" } : Jvm.MethodName) prog_8_method_7_code (1 : Nat) (Option.some Jvm.ClassFile.FieldType.int)) ∈ tb := tb_3 153 rfl rfl
theorem m_l_RX6_121 : (Jvm.Cond.methodLink "LimbKernelModel" (121 : Nat) ({ cls := "LimbKernelModel", name := "freeHandle", desc := "()I" } : Jvm.MethodName)) ∈ tb := tb_3 154 rfl rfl
theorem m_i_yX6_freeHandle : (Jvm.Cond.instanceMethod ({ cls := "LimbKernelModel", name := "freeHandle", desc := "()I" } : Jvm.MethodName)) ∈ tb := tb_3 156 rfl rfl
theorem m_c_yX6_freeHandle : (Jvm.Cond.code ({ cls := "LimbKernelModel", name := "freeHandle", desc := "()I" } : Jvm.MethodName) prog_8_method_11_code (2 : Nat) (Option.some Jvm.ClassFile.FieldType.int)) ∈ tb := tb_3 157 rfl rfl
theorem m_l_RX6_117 : (Jvm.Cond.methodLink "LimbKernelModel" (117 : Nat) ({ cls := "LimbKernelModel", name := "orderFor", desc := "(I)I" } : Jvm.MethodName)) ∈ tb := tb_3 158 rfl rfl
theorem m_s_yX6_orderFor : (Jvm.Cond.static ({ cls := "LimbKernelModel", name := "orderFor", desc := "(I)I" } : Jvm.MethodName)) ∈ tb := tb_3 159 rfl rfl
theorem m_c_yX6_orderFor : (Jvm.Cond.code ({ cls := "LimbKernelModel", name := "orderFor", desc := "(I)I" } : Jvm.MethodName) prog_8_method_8_code (2 : Nat) (Option.some Jvm.ClassFile.FieldType.int)) ∈ tb := tb_3 160 rfl rfl
theorem m_l_RX6_124 : (Jvm.Cond.methodLink "LimbKernelModel" (124 : Nat) ({ cls := "LimbKernelModel", name := "give", desc := "(I)I" } : Jvm.MethodName)) ∈ tb := tb_3 161 rfl rfl
theorem m_i_yX6_give : (Jvm.Cond.instanceMethod ({ cls := "LimbKernelModel", name := "give", desc := "(I)I" } : Jvm.MethodName)) ∈ tb := tb_3 163 rfl rfl
theorem m_c_yX6_give : (Jvm.Cond.code ({ cls := "LimbKernelModel", name := "give", desc := "(I)I" } : Jvm.MethodName) prog_8_method_9_code (4 : Nat) (Option.some Jvm.ClassFile.FieldType.int)) ∈ tb := tb_3 164 rfl rfl
theorem m_l_RX6_127 : (Jvm.Cond.methodLink "LimbKernelModel" (127 : Nat) ({ cls := "LimbKernelModel", name := "make", desc := "(III)V" } : Jvm.MethodName)) ∈ tb := tb_3 165 rfl rfl
theorem m_i_yX6_make : (Jvm.Cond.instanceMethod ({ cls := "LimbKernelModel", name := "make", desc := "(III)V" } : Jvm.MethodName)) ∈ tb := tb_3 167 rfl rfl
theorem m_c_yX6_make : (Jvm.Cond.code ({ cls := "LimbKernelModel", name := "make", desc := "(III)V" } : Jvm.MethodName) prog_8_method_12_code (5 : Nat) (Option.none : Option Jvm.ClassFile.FieldType)) ∈ tb := tb_3 168 rfl rfl
theorem m_l_RL_35 : (Jvm.Cond.methodLink "LimbKernelLaw" (35 : Nat) ({ cls := "LimbKernelModel", name := "setLimb", desc := "(III)Z" } : Jvm.MethodName)) ∈ tb := tb_3 169 rfl rfl
theorem m_i_yX6_setLimb : (Jvm.Cond.instanceMethod ({ cls := "LimbKernelModel", name := "setLimb", desc := "(III)Z" } : Jvm.MethodName)) ∈ tb := tb_3 170 rfl rfl
theorem m_e_yX6_setLimb : (Jvm.Cond.selects "LimbKernelModel" ({ cls := "LimbKernelModel", name := "setLimb", desc := "(III)Z" } : Jvm.MethodName) ({ cls := "LimbKernelModel", name := "setLimb", desc := "(III)Z" } : Jvm.MethodName)) ∈ tb := tb_3 171 rfl rfl
theorem m_c_yX6_setLimb : (Jvm.Cond.code ({ cls := "LimbKernelModel", name := "setLimb", desc := "(III)Z" } : Jvm.MethodName) prog_8_method_15_code (5 : Nat) (Option.some Jvm.ClassFile.FieldType.boolean)) ∈ tb := tb_3 172 rfl rfl
theorem m_l_RX6_131 : (Jvm.Cond.methodLink "LimbKernelModel" (131 : Nat) ({ cls := "LimbKernelModel", name := "isThere", desc := "(I)Z" } : Jvm.MethodName)) ∈ tb := tb_3 173 rfl rfl
theorem m_i_yX6_isThere : (Jvm.Cond.instanceMethod ({ cls := "LimbKernelModel", name := "isThere", desc := "(I)Z" } : Jvm.MethodName)) ∈ tb := tb_3 175 rfl rfl
theorem m_c_yX6_isThere : (Jvm.Cond.code ({ cls := "LimbKernelModel", name := "isThere", desc := "(I)Z" } : Jvm.MethodName) prog_8_method_14_code (2 : Nat) (Option.some Jvm.ClassFile.FieldType.boolean)) ∈ tb := tb_3 176 rfl rfl
theorem m_l_RL_40 : (Jvm.Cond.methodLink "LimbKernelLaw" (40 : Nat) ({ cls := "LimbKernelModel", name := "getLimb", desc := "(II)I" } : Jvm.MethodName)) ∈ tb := tb_3 177 rfl rfl
theorem m_i_yX6_getLimb : (Jvm.Cond.instanceMethod ({ cls := "LimbKernelModel", name := "getLimb", desc := "(II)I" } : Jvm.MethodName)) ∈ tb := tb_3 178 rfl rfl
theorem m_e_yX6_getLimb : (Jvm.Cond.selects "LimbKernelModel" ({ cls := "LimbKernelModel", name := "getLimb", desc := "(II)I" } : Jvm.MethodName) ({ cls := "LimbKernelModel", name := "getLimb", desc := "(II)I" } : Jvm.MethodName)) ∈ tb := tb_3 179 rfl rfl
theorem m_c_yX6_getLimb : (Jvm.Cond.code ({ cls := "LimbKernelModel", name := "getLimb", desc := "(II)I" } : Jvm.MethodName) prog_8_method_16_code (3 : Nat) (Option.some Jvm.ClassFile.FieldType.int)) ∈ tb := tb_3 180 rfl rfl
theorem m_l_RL_44 : (Jvm.Cond.methodLink "LimbKernelLaw" (44 : Nat) ({ cls := "LimbKernelModel", name := "sizeOf", desc := "(I)I" } : Jvm.MethodName)) ∈ tb := tb_3 181 rfl rfl
theorem m_i_yX6_sizeOf : (Jvm.Cond.instanceMethod ({ cls := "LimbKernelModel", name := "sizeOf", desc := "(I)I" } : Jvm.MethodName)) ∈ tb := tb_3 182 rfl rfl
theorem m_e_yX6_sizeOf : (Jvm.Cond.selects "LimbKernelModel" ({ cls := "LimbKernelModel", name := "sizeOf", desc := "(I)I" } : Jvm.MethodName) ({ cls := "LimbKernelModel", name := "sizeOf", desc := "(I)I" } : Jvm.MethodName)) ∈ tb := tb_3 183 rfl rfl
theorem m_c_yX6_sizeOf : (Jvm.Cond.code ({ cls := "LimbKernelModel", name := "sizeOf", desc := "(I)I" } : Jvm.MethodName) prog_8_method_17_code (2 : Nat) (Option.some Jvm.ClassFile.FieldType.int)) ∈ tb := tb_3 184 rfl rfl
theorem m_l_RL_49 : (Jvm.Cond.methodLink "LimbKernelLaw" (49 : Nat) ({ cls := "LimbKernelModel", name := "release", desc := "(I)Z" } : Jvm.MethodName)) ∈ tb := tb_3 185 rfl rfl
theorem m_i_yX6_release : (Jvm.Cond.instanceMethod ({ cls := "LimbKernelModel", name := "release", desc := "(I)Z" } : Jvm.MethodName)) ∈ tb := tb_3 186 rfl rfl
theorem m_e_yX6_release : (Jvm.Cond.selects "LimbKernelModel" ({ cls := "LimbKernelModel", name := "release", desc := "(I)Z" } : Jvm.MethodName) ({ cls := "LimbKernelModel", name := "release", desc := "(I)Z" } : Jvm.MethodName)) ∈ tb := tb_3 187 rfl rfl
theorem m_c_yX6_release : (Jvm.Cond.code ({ cls := "LimbKernelModel", name := "release", desc := "(I)Z" } : Jvm.MethodName) prog_8_method_19_code (2 : Nat) (Option.some Jvm.ClassFile.FieldType.boolean)) ∈ tb := tb_3 188 rfl rfl
theorem m_l_RX6_139 : (Jvm.Cond.methodLink "LimbKernelModel" (139 : Nat) ({ cls := "LimbKernelModel", name := "go", desc := "(I)V" } : Jvm.MethodName)) ∈ tb := tb_3 189 rfl rfl
theorem m_i_yX6_go : (Jvm.Cond.instanceMethod ({ cls := "LimbKernelModel", name := "go", desc := "(I)V" } : Jvm.MethodName)) ∈ tb := tb_3 191 rfl rfl
theorem m_c_yX6_go : (Jvm.Cond.code ({ cls := "LimbKernelModel", name := "go", desc := "(I)V" } : Jvm.MethodName) prog_8_method_18_code (3 : Nat) (Option.none : Option Jvm.ClassFile.FieldType)) ∈ tb := tb_3 192 rfl rfl
theorem m_l_RX6_135 : (Jvm.Cond.methodLink "LimbKernelModel" (135 : Nat) ({ cls := "LimbKernelModel", name := "free", desc := "(II)V" } : Jvm.MethodName)) ∈ tb := tb_3 193 rfl rfl
theorem m_i_yX6_free : (Jvm.Cond.instanceMethod ({ cls := "LimbKernelModel", name := "free", desc := "(II)V" } : Jvm.MethodName)) ∈ tb := tb_3 195 rfl rfl
theorem m_c_yX6_free : (Jvm.Cond.code ({ cls := "LimbKernelModel", name := "free", desc := "(II)V" } : Jvm.MethodName) prog_8_method_10_code (7 : Nat) (Option.none : Option Jvm.ClassFile.FieldType)) ∈ tb := tb_3 196 rfl rfl
theorem m_l_RL_54 : (Jvm.Cond.methodLink "LimbKernelLaw" (54 : Nat) ({ cls := "LimbKernelModel", name := "submit", desc := "(IIII)I" } : Jvm.MethodName)) ∈ tb := tb_3 197 rfl rfl
theorem m_i_yX6_submit : (Jvm.Cond.instanceMethod ({ cls := "LimbKernelModel", name := "submit", desc := "(IIII)I" } : Jvm.MethodName)) ∈ tb := tb_3 198 rfl rfl
theorem m_e_yX6_submit : (Jvm.Cond.selects "LimbKernelModel" ({ cls := "LimbKernelModel", name := "submit", desc := "(IIII)I" } : Jvm.MethodName) ({ cls := "LimbKernelModel", name := "submit", desc := "(IIII)I" } : Jvm.MethodName)) ∈ tb := tb_3 199 rfl rfl
theorem m_c_yX6_submit : (Jvm.Cond.code ({ cls := "LimbKernelModel", name := "submit", desc := "(IIII)I" } : Jvm.MethodName) prog_8_method_22_code (13 : Nat) (Option.some Jvm.ClassFile.FieldType.int)) ∈ tb := tb_3 200 rfl rfl
theorem m_l_RX6_143 : (Jvm.Cond.methodLink "LimbKernelModel" (143 : Nat) ({ cls := "LimbKernelModel", name := "isOperand", desc := "(I)Z" } : Jvm.MethodName)) ∈ tb := tb_3 201 rfl rfl
theorem m_i_yX6_isOperand : (Jvm.Cond.instanceMethod ({ cls := "LimbKernelModel", name := "isOperand", desc := "(I)Z" } : Jvm.MethodName)) ∈ tb := tb_3 203 rfl rfl
theorem m_c_yX6_isOperand : (Jvm.Cond.code ({ cls := "LimbKernelModel", name := "isOperand", desc := "(I)Z" } : Jvm.MethodName) prog_8_method_20_code (2 : Nat) (Option.some Jvm.ClassFile.FieldType.boolean)) ∈ tb := tb_3 204 rfl rfl
theorem m_l_RX6_146 : (Jvm.Cond.methodLink "LimbKernelModel" (146 : Nat) ({ cls := "LimbKernelModel", name := "length", desc := "(I)I" } : Jvm.MethodName)) ∈ tb := tb_3 205 rfl rfl
theorem m_i_yX6_length : (Jvm.Cond.instanceMethod ({ cls := "LimbKernelModel", name := "length", desc := "(I)I" } : Jvm.MethodName)) ∈ tb := tb_3 207 rfl rfl
theorem m_c_yX6_length : (Jvm.Cond.code ({ cls := "LimbKernelModel", name := "length", desc := "(I)I" } : Jvm.MethodName) prog_8_method_21_code (3 : Nat) (Option.some Jvm.ClassFile.FieldType.int)) ∈ tb := tb_3 208 rfl rfl
theorem m_k_RX6_149 : (Jvm.Cond.constantLong "LimbKernelModel" (149 : Nat) (31 : Int64)) ∈ tb := tb_3 209 rfl rfl
theorem m_k_RX6_151 : (Jvm.Cond.constantLong "LimbKernelModel" (151 : Nat) (1922 : Int64)) ∈ tb := tb_3 210 rfl rfl
theorem m_l_RL_58 : (Jvm.Cond.methodLink "LimbKernelLaw" (58 : Nat) ({ cls := "LimbKernelModel", name := "tick", desc := "()I" } : Jvm.MethodName)) ∈ tb := tb_3 211 rfl rfl
theorem m_i_yX6_tick : (Jvm.Cond.instanceMethod ({ cls := "LimbKernelModel", name := "tick", desc := "()I" } : Jvm.MethodName)) ∈ tb := tb_3 212 rfl rfl
theorem m_e_yX6_tick : (Jvm.Cond.selects "LimbKernelModel" ({ cls := "LimbKernelModel", name := "tick", desc := "()I" } : Jvm.MethodName) ({ cls := "LimbKernelModel", name := "tick", desc := "()I" } : Jvm.MethodName)) ∈ tb := tb_3 213 rfl rfl
theorem m_c_yX6_tick : (Jvm.Cond.code ({ cls := "LimbKernelModel", name := "tick", desc := "()I" } : Jvm.MethodName) prog_8_method_28_code (3 : Nat) (Option.some Jvm.ClassFile.FieldType.int)) ∈ tb := tb_3 214 rfl rfl
theorem m_l_RX6_162 : (Jvm.Cond.methodLink "LimbKernelModel" (162 : Nat) ({ cls := "LimbKernelModel", name := "start", desc := "(I)V" } : Jvm.MethodName)) ∈ tb := tb_3 215 rfl rfl
theorem m_i_yX6_start : (Jvm.Cond.instanceMethod ({ cls := "LimbKernelModel", name := "start", desc := "(I)V" } : Jvm.MethodName)) ∈ tb := tb_3 217 rfl rfl
theorem m_c_yX6_start : (Jvm.Cond.code ({ cls := "LimbKernelModel", name := "start", desc := "(I)V" } : Jvm.MethodName) prog_8_method_25_code (7 : Nat) (Option.none : Option Jvm.ClassFile.FieldType)) ∈ tb := tb_3 218 rfl rfl
theorem m_l_RX6_153 : (Jvm.Cond.methodLink "LimbKernelModel" (153 : Nat) ({ cls := "LimbKernelModel", name := "resultSize", desc := "(I)I" } : Jvm.MethodName)) ∈ tb := tb_3 219 rfl rfl
theorem m_i_yX6_resultSize : (Jvm.Cond.instanceMethod ({ cls := "LimbKernelModel", name := "resultSize", desc := "(I)I" } : Jvm.MethodName)) ∈ tb := tb_3 221 rfl rfl
theorem m_c_yX6_resultSize : (Jvm.Cond.code ({ cls := "LimbKernelModel", name := "resultSize", desc := "(I)I" } : Jvm.MethodName) prog_8_method_23_code (4 : Nat) (Option.some Jvm.ClassFile.FieldType.int)) ∈ tb := tb_3 222 rfl rfl
theorem m_l_RX6_156 : (Jvm.Cond.methodLink "LimbKernelModel" (156 : Nat) ({ cls := "LimbKernelModel", name := "roomSize", desc := "(I)I" } : Jvm.MethodName)) ∈ tb := tb_3 223 rfl rfl
theorem m_i_yX6_roomSize : (Jvm.Cond.instanceMethod ({ cls := "LimbKernelModel", name := "roomSize", desc := "(I)I" } : Jvm.MethodName)) ∈ tb := tb_3 225 rfl rfl
theorem m_c_yX6_roomSize : (Jvm.Cond.code ({ cls := "LimbKernelModel", name := "roomSize", desc := "(I)I" } : Jvm.MethodName) prog_8_method_24_code (4 : Nat) (Option.some Jvm.ClassFile.FieldType.int)) ∈ tb := tb_3 226 rfl rfl
theorem m_l_RX6_165 : (Jvm.Cond.methodLink "LimbKernelModel" (165 : Nat) ({ cls := "LimbKernelModel", name := "reckon", desc := "(I)V" } : Jvm.MethodName)) ∈ tb := tb_3 227 rfl rfl
theorem m_i_yX6_reckon : (Jvm.Cond.instanceMethod ({ cls := "LimbKernelModel", name := "reckon", desc := "(I)V" } : Jvm.MethodName)) ∈ tb := tb_3 229 rfl rfl
theorem m_c_yX6_reckon : (Jvm.Cond.code ({ cls := "LimbKernelModel", name := "reckon", desc := "(I)V" } : Jvm.MethodName) prog_8_method_48_code (5 : Nat) (Option.none : Option Jvm.ClassFile.FieldType)) ∈ tb := tb_3 230 rfl rfl
theorem m_l_RX6_203 : (Jvm.Cond.methodLink "LimbKernelModel" (203 : Nat) ({ cls := "LimbKernelModel", name := "loadU", desc := "(I)V" } : Jvm.MethodName)) ∈ tb := tb_3 231 rfl rfl
theorem m_i_yX6_loadU : (Jvm.Cond.instanceMethod ({ cls := "LimbKernelModel", name := "loadU", desc := "(I)V" } : Jvm.MethodName)) ∈ tb := tb_3 233 rfl rfl
theorem m_c_yX6_loadU : (Jvm.Cond.code ({ cls := "LimbKernelModel", name := "loadU", desc := "(I)V" } : Jvm.MethodName) prog_8_method_40_code (3 : Nat) (Option.none : Option Jvm.ClassFile.FieldType)) ∈ tb := tb_3 234 rfl rfl
theorem m_l_RX6_206 : (Jvm.Cond.methodLink "LimbKernelModel" (206 : Nat) ({ cls := "LimbKernelModel", name := "uToR", desc := "()V" } : Jvm.MethodName)) ∈ tb := tb_3 235 rfl rfl
theorem m_i_yX6_uToR : (Jvm.Cond.instanceMethod ({ cls := "LimbKernelModel", name := "uToR", desc := "()V" } : Jvm.MethodName)) ∈ tb := tb_3 237 rfl rfl
theorem m_c_yX6_uToR : (Jvm.Cond.code ({ cls := "LimbKernelModel", name := "uToR", desc := "()V" } : Jvm.MethodName) prog_8_method_47_code (2 : Nat) (Option.none : Option Jvm.ClassFile.FieldType)) ∈ tb := tb_3 238 rfl rfl
theorem m_l_RX6_209 : (Jvm.Cond.methodLink "LimbKernelModel" (209 : Nat) ({ cls := "LimbKernelModel", name := "times", desc := "(Z)V" } : Jvm.MethodName)) ∈ tb := tb_3 239 rfl rfl
theorem m_i_yX6_times : (Jvm.Cond.instanceMethod ({ cls := "LimbKernelModel", name := "times", desc := "(Z)V" } : Jvm.MethodName)) ∈ tb := tb_4 1 rfl rfl
theorem m_c_yX6_times : (Jvm.Cond.code ({ cls := "LimbKernelModel", name := "times", desc := "(Z)V" } : Jvm.MethodName) prog_8_method_45_code (9 : Nat) (Option.none : Option Jvm.ClassFile.FieldType)) ∈ tb := tb_4 2 rfl rfl
theorem m_k_RX6_189 : (Jvm.Cond.constantLong "LimbKernelModel" (189 : Nat) (2147483647 : Int64)) ∈ tb := tb_4 3 rfl rfl
theorem m_l_RX6_213 : (Jvm.Cond.methodLink "LimbKernelModel" (213 : Nat) ({ cls := "LimbKernelModel", name := "putU", desc := "(I)V" } : Jvm.MethodName)) ∈ tb := tb_4 4 rfl rfl
theorem m_i_yX6_putU : (Jvm.Cond.instanceMethod ({ cls := "LimbKernelModel", name := "putU", desc := "(I)V" } : Jvm.MethodName)) ∈ tb := tb_4 6 rfl rfl
theorem m_c_yX6_putU : (Jvm.Cond.code ({ cls := "LimbKernelModel", name := "putU", desc := "(I)V" } : Jvm.MethodName) prog_8_method_46_code (3 : Nat) (Option.none : Option Jvm.ClassFile.FieldType)) ∈ tb := tb_4 7 rfl rfl
theorem m_l_RX6_216 : (Jvm.Cond.methodLink "LimbKernelModel" (216 : Nat) ({ cls := "LimbKernelModel", name := "loadV", desc := "(I)V" } : Jvm.MethodName)) ∈ tb := tb_4 8 rfl rfl
theorem m_i_yX6_loadV : (Jvm.Cond.instanceMethod ({ cls := "LimbKernelModel", name := "loadV", desc := "(I)V" } : Jvm.MethodName)) ∈ tb := tb_4 10 rfl rfl
theorem m_c_yX6_loadV : (Jvm.Cond.code ({ cls := "LimbKernelModel", name := "loadV", desc := "(I)V" } : Jvm.MethodName) prog_8_method_41_code (3 : Nat) (Option.none : Option Jvm.ClassFile.FieldType)) ∈ tb := tb_4 11 rfl rfl
theorem m_l_RX6_219 : (Jvm.Cond.methodLink "LimbKernelModel" (219 : Nat) ({ cls := "LimbKernelModel", name := "divide", desc := "()V" } : Jvm.MethodName)) ∈ tb := tb_4 12 rfl rfl
theorem m_i_yX6_divide : (Jvm.Cond.instanceMethod ({ cls := "LimbKernelModel", name := "divide", desc := "()V" } : Jvm.MethodName)) ∈ tb := tb_4 14 rfl rfl
theorem m_c_yX6_divide : (Jvm.Cond.code ({ cls := "LimbKernelModel", name := "divide", desc := "()V" } : Jvm.MethodName) prog_8_method_43_code (5 : Nat) (Option.none : Option Jvm.ClassFile.FieldType)) ∈ tb := tb_4 15 rfl rfl
theorem m_l_RX6_186 : (Jvm.Cond.methodLink "LimbKernelModel" (186 : Nat) ({ cls := "LimbKernelModel", name := "shiftOfV", desc := "()I" } : Jvm.MethodName)) ∈ tb := tb_4 16 rfl rfl
theorem m_i_yX6_shiftOfV : (Jvm.Cond.instanceMethod ({ cls := "LimbKernelModel", name := "shiftOfV", desc := "()I" } : Jvm.MethodName)) ∈ tb := tb_4 18 rfl rfl
theorem m_c_yX6_shiftOfV : (Jvm.Cond.code ({ cls := "LimbKernelModel", name := "shiftOfV", desc := "()I" } : Jvm.MethodName) prog_8_method_42_code (2 : Nat) (Option.some Jvm.ClassFile.FieldType.int)) ∈ tb := tb_4 19 rfl rfl
theorem m_k_RX6_185 : (Jvm.Cond.constant "LimbKernelModel" (185 : Nat) (1073741824 : Int32)) ∈ tb := tb_4 20 rfl rfl
theorem m_l_RX6_191 : (Jvm.Cond.methodLink "LimbKernelModel" (191 : Nat) ({ cls := "LimbKernelModel", name := "digit", desc := "(II)J" } : Jvm.MethodName)) ∈ tb := tb_4 21 rfl rfl
theorem m_i_yX6_digit : (Jvm.Cond.instanceMethod ({ cls := "LimbKernelModel", name := "digit", desc := "(II)J" } : Jvm.MethodName)) ∈ tb := tb_4 23 rfl rfl
theorem m_c_yX6_digit : (Jvm.Cond.code ({ cls := "LimbKernelModel", name := "digit", desc := "(II)J" } : Jvm.MethodName) prog_8_method_44_code (21 : Nat) (Option.some Jvm.ClassFile.FieldType.long)) ∈ tb := tb_4 24 rfl rfl
theorem m_k_RX6_195 : (Jvm.Cond.constantLong "LimbKernelModel" (195 : Nat) (2147483648 : Int64)) ∈ tb := tb_4 25 rfl rfl
theorem m_l_RX6_222 : (Jvm.Cond.methodLink "LimbKernelModel" (222 : Nat) ({ cls := "LimbKernelModel", name := "common", desc := "(I)V" } : Jvm.MethodName)) ∈ tb := tb_4 26 rfl rfl
theorem m_i_yX6_common : (Jvm.Cond.instanceMethod ({ cls := "LimbKernelModel", name := "common", desc := "(I)V" } : Jvm.MethodName)) ∈ tb := tb_4 28 rfl rfl
theorem m_c_yX6_common : (Jvm.Cond.code ({ cls := "LimbKernelModel", name := "common", desc := "(I)V" } : Jvm.MethodName) prog_8_method_49_code (5 : Nat) (Option.none : Option Jvm.ClassFile.FieldType)) ∈ tb := tb_4 29 rfl rfl
theorem m_l_RX6_225 : (Jvm.Cond.methodLink "LimbKernelModel" (225 : Nat) ({ cls := "LimbKernelModel", name := "power", desc := "(I)V" } : Jvm.MethodName)) ∈ tb := tb_4 30 rfl rfl
theorem m_i_yX6_power : (Jvm.Cond.instanceMethod ({ cls := "LimbKernelModel", name := "power", desc := "(I)V" } : Jvm.MethodName)) ∈ tb := tb_4 32 rfl rfl
theorem m_c_yX6_power : (Jvm.Cond.code ({ cls := "LimbKernelModel", name := "power", desc := "(I)V" } : Jvm.MethodName) prog_8_method_50_code (4 : Nat) (Option.none : Option Jvm.ClassFile.FieldType)) ∈ tb := tb_4 33 rfl rfl
theorem m_l_RX6_168 : (Jvm.Cond.methodLink "LimbKernelModel" (168 : Nat) ({ cls := "LimbKernelModel", name := "leave", desc := "(I)V" } : Jvm.MethodName)) ∈ tb := tb_4 34 rfl rfl
theorem m_i_yX6_leave : (Jvm.Cond.instanceMethod ({ cls := "LimbKernelModel", name := "leave", desc := "(I)V" } : Jvm.MethodName)) ∈ tb := tb_4 36 rfl rfl
theorem m_c_yX6_leave : (Jvm.Cond.code ({ cls := "LimbKernelModel", name := "leave", desc := "(I)V" } : Jvm.MethodName) prog_8_method_27_code (4 : Nat) (Option.none : Option Jvm.ClassFile.FieldType)) ∈ tb := tb_4 37 rfl rfl
theorem m_l_RX6_159 : (Jvm.Cond.methodLink "LimbKernelModel" (159 : Nat) ({ cls := "LimbKernelModel", name := "unpin", desc := "(I)V" } : Jvm.MethodName)) ∈ tb := tb_4 38 rfl rfl
theorem m_i_yX6_unpin : (Jvm.Cond.instanceMethod ({ cls := "LimbKernelModel", name := "unpin", desc := "(I)V" } : Jvm.MethodName)) ∈ tb := tb_4 40 rfl rfl
theorem m_c_yX6_unpin : (Jvm.Cond.code ({ cls := "LimbKernelModel", name := "unpin", desc := "(I)V" } : Jvm.MethodName) prog_8_method_26_code (2 : Nat) (Option.none : Option Jvm.ClassFile.FieldType)) ∈ tb := tb_4 41 rfl rfl
theorem m_l_RL_62 : (Jvm.Cond.methodLink "LimbKernelLaw" (62 : Nat) ({ cls := "LimbKernelModel", name := "run", desc := "(I)I" } : Jvm.MethodName)) ∈ tb := tb_4 42 rfl rfl
theorem m_i_yX6_run : (Jvm.Cond.instanceMethod ({ cls := "LimbKernelModel", name := "run", desc := "(I)I" } : Jvm.MethodName)) ∈ tb := tb_4 43 rfl rfl
theorem m_e_yX6_run : (Jvm.Cond.selects "LimbKernelModel" ({ cls := "LimbKernelModel", name := "run", desc := "(I)I" } : Jvm.MethodName) ({ cls := "LimbKernelModel", name := "run", desc := "(I)I" } : Jvm.MethodName)) ∈ tb := tb_4 44 rfl rfl
theorem m_c_yX6_run : (Jvm.Cond.code ({ cls := "LimbKernelModel", name := "run", desc := "(I)I" } : Jvm.MethodName) prog_8_method_29_code (4 : Nat) (Option.some Jvm.ClassFile.FieldType.int)) ∈ tb := tb_4 45 rfl rfl
theorem m_l_RX6_171 : (Jvm.Cond.methodLink "LimbKernelModel" (171 : Nat) ({ cls := "LimbKernelModel", name := "tick", desc := "()I" } : Jvm.MethodName)) ∈ tb := tb_4 46 rfl rfl
theorem m_l_RL_66 : (Jvm.Cond.methodLink "LimbKernelLaw" (66 : Nat) ({ cls := "LimbKernelModel", name := "jobState", desc := "(I)I" } : Jvm.MethodName)) ∈ tb := tb_4 47 rfl rfl
theorem m_i_yX6_jobState : (Jvm.Cond.instanceMethod ({ cls := "LimbKernelModel", name := "jobState", desc := "(I)I" } : Jvm.MethodName)) ∈ tb := tb_4 48 rfl rfl
theorem m_e_yX6_jobState : (Jvm.Cond.selects "LimbKernelModel" ({ cls := "LimbKernelModel", name := "jobState", desc := "(I)I" } : Jvm.MethodName) ({ cls := "LimbKernelModel", name := "jobState", desc := "(I)I" } : Jvm.MethodName)) ∈ tb := tb_4 49 rfl rfl
theorem m_c_yX6_jobState : (Jvm.Cond.code ({ cls := "LimbKernelModel", name := "jobState", desc := "(I)I" } : Jvm.MethodName) prog_8_method_31_code (2 : Nat) (Option.some Jvm.ClassFile.FieldType.int)) ∈ tb := tb_4 50 rfl rfl
theorem m_l_RX6_174 : (Jvm.Cond.methodLink "LimbKernelModel" (174 : Nat) ({ cls := "LimbKernelModel", name := "isJob", desc := "(I)Z" } : Jvm.MethodName)) ∈ tb := tb_4 51 rfl rfl
theorem m_i_yX6_isJob : (Jvm.Cond.instanceMethod ({ cls := "LimbKernelModel", name := "isJob", desc := "(I)Z" } : Jvm.MethodName)) ∈ tb := tb_4 53 rfl rfl
theorem m_c_yX6_isJob : (Jvm.Cond.code ({ cls := "LimbKernelModel", name := "isJob", desc := "(I)Z" } : Jvm.MethodName) prog_8_method_30_code (2 : Nat) (Option.some Jvm.ClassFile.FieldType.boolean)) ∈ tb := tb_4 54 rfl rfl
theorem m_l_RL_70 : (Jvm.Cond.methodLink "LimbKernelLaw" (70 : Nat) ({ cls := "LimbKernelModel", name := "jobResult", desc := "(I)I" } : Jvm.MethodName)) ∈ tb := tb_4 55 rfl rfl
theorem m_i_yX6_jobResult : (Jvm.Cond.instanceMethod ({ cls := "LimbKernelModel", name := "jobResult", desc := "(I)I" } : Jvm.MethodName)) ∈ tb := tb_4 56 rfl rfl
theorem m_e_yX6_jobResult : (Jvm.Cond.selects "LimbKernelModel" ({ cls := "LimbKernelModel", name := "jobResult", desc := "(I)I" } : Jvm.MethodName) ({ cls := "LimbKernelModel", name := "jobResult", desc := "(I)I" } : Jvm.MethodName)) ∈ tb := tb_4 57 rfl rfl
theorem m_c_yX6_jobResult : (Jvm.Cond.code ({ cls := "LimbKernelModel", name := "jobResult", desc := "(I)I" } : Jvm.MethodName) prog_8_method_32_code (2 : Nat) (Option.some Jvm.ClassFile.FieldType.int)) ∈ tb := tb_4 58 rfl rfl
theorem m_l_RL_75 : (Jvm.Cond.methodLink "LimbKernelLaw" (75 : Nat) ({ cls := "LimbKernelModel", name := "workLeft", desc := "(I)J" } : Jvm.MethodName)) ∈ tb := tb_4 59 rfl rfl
theorem m_i_yX6_workLeft : (Jvm.Cond.instanceMethod ({ cls := "LimbKernelModel", name := "workLeft", desc := "(I)J" } : Jvm.MethodName)) ∈ tb := tb_4 60 rfl rfl
theorem m_e_yX6_workLeft : (Jvm.Cond.selects "LimbKernelModel" ({ cls := "LimbKernelModel", name := "workLeft", desc := "(I)J" } : Jvm.MethodName) ({ cls := "LimbKernelModel", name := "workLeft", desc := "(I)J" } : Jvm.MethodName)) ∈ tb := tb_4 61 rfl rfl
theorem m_c_yX6_workLeft : (Jvm.Cond.code ({ cls := "LimbKernelModel", name := "workLeft", desc := "(I)J" } : Jvm.MethodName) prog_8_method_33_code (2 : Nat) (Option.some Jvm.ClassFile.FieldType.long)) ∈ tb := tb_4 62 rfl rfl
theorem m_k_RX6_177 : (Jvm.Cond.constantLong "LimbKernelModel" (177 : Nat) (-1 : Int64)) ∈ tb := tb_4 63 rfl rfl
theorem m_l_RL_79 : (Jvm.Cond.methodLink "LimbKernelLaw" (79 : Nat) ({ cls := "LimbKernelModel", name := "cancel", desc := "(I)Z" } : Jvm.MethodName)) ∈ tb := tb_4 64 rfl rfl
theorem m_i_yX6_cancel : (Jvm.Cond.instanceMethod ({ cls := "LimbKernelModel", name := "cancel", desc := "(I)Z" } : Jvm.MethodName)) ∈ tb := tb_4 65 rfl rfl
theorem m_e_yX6_cancel : (Jvm.Cond.selects "LimbKernelModel" ({ cls := "LimbKernelModel", name := "cancel", desc := "(I)Z" } : Jvm.MethodName) ({ cls := "LimbKernelModel", name := "cancel", desc := "(I)Z" } : Jvm.MethodName)) ∈ tb := tb_4 66 rfl rfl
theorem m_c_yX6_cancel : (Jvm.Cond.code ({ cls := "LimbKernelModel", name := "cancel", desc := "(I)Z" } : Jvm.MethodName) prog_8_method_34_code (3 : Nat) (Option.some Jvm.ClassFile.FieldType.boolean)) ∈ tb := tb_4 67 rfl rfl
theorem m_l_RL_83 : (Jvm.Cond.methodLink "LimbKernelLaw" (83 : Nat) ({ cls := "LimbKernelModel", name := "forget", desc := "(I)Z" } : Jvm.MethodName)) ∈ tb := tb_4 68 rfl rfl
theorem m_i_yX6_forget : (Jvm.Cond.instanceMethod ({ cls := "LimbKernelModel", name := "forget", desc := "(I)Z" } : Jvm.MethodName)) ∈ tb := tb_4 69 rfl rfl
theorem m_e_yX6_forget : (Jvm.Cond.selects "LimbKernelModel" ({ cls := "LimbKernelModel", name := "forget", desc := "(I)Z" } : Jvm.MethodName) ({ cls := "LimbKernelModel", name := "forget", desc := "(I)Z" } : Jvm.MethodName)) ∈ tb := tb_4 70 rfl rfl
theorem m_c_yX6_forget : (Jvm.Cond.code ({ cls := "LimbKernelModel", name := "forget", desc := "(I)Z" } : Jvm.MethodName) prog_8_method_35_code (2 : Nat) (Option.some Jvm.ClassFile.FieldType.boolean)) ∈ tb := tb_4 71 rfl rfl
theorem m_l_RL_87 : (Jvm.Cond.methodLink "LimbKernelLaw" (87 : Nat) ({ cls := "LimbKernelModel", name := "freeCells", desc := "()I" } : Jvm.MethodName)) ∈ tb := tb_4 72 rfl rfl
theorem m_i_yX6_freeCells : (Jvm.Cond.instanceMethod ({ cls := "LimbKernelModel", name := "freeCells", desc := "()I" } : Jvm.MethodName)) ∈ tb := tb_4 73 rfl rfl
theorem m_e_yX6_freeCells : (Jvm.Cond.selects "LimbKernelModel" ({ cls := "LimbKernelModel", name := "freeCells", desc := "()I" } : Jvm.MethodName) ({ cls := "LimbKernelModel", name := "freeCells", desc := "()I" } : Jvm.MethodName)) ∈ tb := tb_4 74 rfl rfl
theorem m_c_yX6_freeCells : (Jvm.Cond.code ({ cls := "LimbKernelModel", name := "freeCells", desc := "()I" } : Jvm.MethodName) prog_8_method_36_code (3 : Nat) (Option.some Jvm.ClassFile.FieldType.int)) ∈ tb := tb_4 75 rfl rfl
theorem m_l_RL_91 : (Jvm.Cond.methodLink "LimbKernelLaw" (91 : Nat) ({ cls := "LimbKernelModel", name := "freeBlock", desc := "(II)I" } : Jvm.MethodName)) ∈ tb := tb_4 76 rfl rfl
theorem m_i_yX6_freeBlock : (Jvm.Cond.instanceMethod ({ cls := "LimbKernelModel", name := "freeBlock", desc := "(II)I" } : Jvm.MethodName)) ∈ tb := tb_4 77 rfl rfl
theorem m_e_yX6_freeBlock : (Jvm.Cond.selects "LimbKernelModel" ({ cls := "LimbKernelModel", name := "freeBlock", desc := "(II)I" } : Jvm.MethodName) ({ cls := "LimbKernelModel", name := "freeBlock", desc := "(II)I" } : Jvm.MethodName)) ∈ tb := tb_4 78 rfl rfl
theorem m_c_yX6_freeBlock : (Jvm.Cond.code ({ cls := "LimbKernelModel", name := "freeBlock", desc := "(II)I" } : Jvm.MethodName) prog_8_method_37_code (5 : Nat) (Option.some Jvm.ClassFile.FieldType.int)) ∈ tb := tb_4 79 rfl rfl
theorem m_l_RL_95 : (Jvm.Cond.methodLink "LimbKernelLaw" (95 : Nat) ({ cls := "LimbKernelModel", name := "number", desc := "(II)I" } : Jvm.MethodName)) ∈ tb := tb_4 80 rfl rfl
theorem m_i_yX6_number : (Jvm.Cond.instanceMethod ({ cls := "LimbKernelModel", name := "number", desc := "(II)I" } : Jvm.MethodName)) ∈ tb := tb_4 81 rfl rfl
theorem m_e_yX6_number : (Jvm.Cond.selects "LimbKernelModel" ({ cls := "LimbKernelModel", name := "number", desc := "(II)I" } : Jvm.MethodName) ({ cls := "LimbKernelModel", name := "number", desc := "(II)I" } : Jvm.MethodName)) ∈ tb := tb_4 82 rfl rfl
theorem m_c_yX6_number : (Jvm.Cond.code ({ cls := "LimbKernelModel", name := "number", desc := "(II)I" } : Jvm.MethodName) prog_8_method_38_code (3 : Nat) (Option.some Jvm.ClassFile.FieldType.int)) ∈ tb := tb_4 83 rfl rfl
theorem m_l_RL_99 : (Jvm.Cond.methodLink "LimbKernelLaw" (99 : Nat) ({ cls := "LimbKernelModel", name := "count", desc := "(II)I" } : Jvm.MethodName)) ∈ tb := tb_4 84 rfl rfl
theorem m_i_yX6_count : (Jvm.Cond.instanceMethod ({ cls := "LimbKernelModel", name := "count", desc := "(II)I" } : Jvm.MethodName)) ∈ tb := tb_4 85 rfl rfl
theorem m_e_yX6_count : (Jvm.Cond.selects "LimbKernelModel" ({ cls := "LimbKernelModel", name := "count", desc := "(II)I" } : Jvm.MethodName) ({ cls := "LimbKernelModel", name := "count", desc := "(II)I" } : Jvm.MethodName)) ∈ tb := tb_4 86 rfl rfl
theorem m_c_yX6_count : (Jvm.Cond.code ({ cls := "LimbKernelModel", name := "count", desc := "(II)I" } : Jvm.MethodName) prog_8_method_39_code (3 : Nat) (Option.some Jvm.ClassFile.FieldType.int)) ∈ tb := tb_4 87 rfl rfl
theorem m_e_yX1_addFree : Cond.selects "LimbKernel$Memory" ⟨"LimbKernel$Memory", "addFree", "(II)V"⟩ ⟨"LimbKernel$Memory", "addFree", "(II)V"⟩ ∈ tb := tb_s (q := (⟨"LimbKernel$Memory", "addFree", "(II)V"⟩, 4)) (List.mem_append_left _ (List.mem_of_getElem? (i := 0) rfl))
theorem m_e_yX5_leastFreeHandle : Cond.selects "LimbKernel" ⟨"LimbKernel", "leastFreeHandle", "()I"⟩ ⟨"LimbKernel", "leastFreeHandle", "()I"⟩ ∈ tb := tb_s (q := (⟨"LimbKernel", "leastFreeHandle", "()I"⟩, 9)) (List.mem_append_left _ (List.mem_of_getElem? (i := 1) rfl))
theorem m_e_yX1_leastFreeOrder : Cond.selects "LimbKernel$Memory" ⟨"LimbKernel$Memory", "leastFreeOrder", "(I)I"⟩ ⟨"LimbKernel$Memory", "leastFreeOrder", "(I)I"⟩ ∈ tb := tb_s (q := (⟨"LimbKernel$Memory", "leastFreeOrder", "(I)I"⟩, 4)) (List.mem_append_left _ (List.mem_of_getElem? (i := 2) rfl))
theorem m_e_yX1_removeFree : Cond.selects "LimbKernel$Memory" ⟨"LimbKernel$Memory", "removeFree", "(II)V"⟩ ⟨"LimbKernel$Memory", "removeFree", "(II)V"⟩ ∈ tb := tb_s (q := (⟨"LimbKernel$Memory", "removeFree", "(II)V"⟩, 4)) (List.mem_append_left _ (List.mem_of_getElem? (i := 3) rfl))
theorem m_e_yX5_occupy : Cond.selects "LimbKernel" ⟨"LimbKernel", "occupy", "(IIII)V"⟩ ⟨"LimbKernel", "occupy", "(IIII)V"⟩ ∈ tb := tb_s (q := (⟨"LimbKernel", "occupy", "(IIII)V"⟩, 9)) (List.mem_append_left _ (List.mem_of_getElem? (i := 4) rfl))
theorem m_e_yX5_isNumber : Cond.selects "LimbKernel" ⟨"LimbKernel", "isNumber", "(I)Z"⟩ ⟨"LimbKernel", "isNumber", "(I)Z"⟩ ∈ tb := tb_s (q := (⟨"LimbKernel", "isNumber", "(I)Z"⟩, 9)) (List.mem_append_left _ (List.mem_of_getElem? (i := 5) rfl))
theorem m_e_yX5_isFinished : Cond.selects "LimbKernel" ⟨"LimbKernel", "isFinished", "(I)Z"⟩ ⟨"LimbKernel", "isFinished", "(I)Z"⟩ ∈ tb := tb_s (q := (⟨"LimbKernel", "isFinished", "(I)Z"⟩, 9)) (List.mem_append_left _ (List.mem_of_getElem? (i := 6) rfl))
theorem m_e_yX5_vacate : Cond.selects "LimbKernel" ⟨"LimbKernel", "vacate", "(I)V"⟩ ⟨"LimbKernel", "vacate", "(I)V"⟩ ∈ tb := tb_s (q := (⟨"LimbKernel", "vacate", "(I)V"⟩, 9)) (List.mem_append_left _ (List.mem_of_getElem? (i := 7) rfl))
theorem m_e_yX5_isZero : Cond.selects "LimbKernel" ⟨"LimbKernel", "isZero", "(I)Z"⟩ ⟨"LimbKernel", "isZero", "(I)Z"⟩ ∈ tb := tb_s (q := (⟨"LimbKernel", "isZero", "(I)Z"⟩, 9)) (List.mem_append_left _ (List.mem_of_getElem? (i := 8) rfl))
theorem m_e_yX5_leastFreeJob : Cond.selects "LimbKernel" ⟨"LimbKernel", "leastFreeJob", "()I"⟩ ⟨"LimbKernel", "leastFreeJob", "()I"⟩ ∈ tb := tb_s (q := (⟨"LimbKernel", "leastFreeJob", "()I"⟩, 9)) (List.mem_append_left _ (List.mem_of_getElem? (i := 9) rfl))
theorem m_e_yX0_need : Cond.selects "LimbKernel$Job" ⟨"LimbKernel$Job", "need", "(JJJ)V"⟩ ⟨"LimbKernel$Job", "need", "(JJJ)V"⟩ ∈ tb := tb_s (q := (⟨"LimbKernel$Job", "need", "(JJJ)V"⟩, 11)) (List.mem_append_left _ (List.mem_of_getElem? (i := 10) rfl))
theorem m_e_yX5_changePins : Cond.selects "LimbKernel" ⟨"LimbKernel", "changePins", "(LLimbKernel$Job;I)V"⟩ ⟨"LimbKernel", "changePins", "(LLimbKernel$Job;I)V"⟩ ∈ tb := tb_s (q := (⟨"LimbKernel", "changePins", "(LLimbKernel$Job;I)V"⟩, 9)) (List.mem_append_left _ (List.mem_of_getElem? (i := 11) rfl))
theorem m_e_yX3_slot : Cond.selects "LimbKernel$Queue" ⟨"LimbKernel$Queue", "slot", "(I)I"⟩ ⟨"LimbKernel$Queue", "slot", "(I)I"⟩ ∈ tb := tb_s (q := (⟨"LimbKernel$Queue", "slot", "(I)I"⟩, 3)) (List.mem_append_left _ (List.mem_of_getElem? (i := 12) rfl))
theorem m_e_yX5_takeTurn : Cond.selects "LimbKernel" ⟨"LimbKernel", "takeTurn", "()I"⟩ ⟨"LimbKernel", "takeTurn", "()I"⟩ ∈ tb := tb_s (q := (⟨"LimbKernel", "takeTurn", "()I"⟩, 9)) (List.mem_append_left _ (List.mem_of_getElem? (i := 13) rfl))
theorem m_e_yX5_start : Cond.selects "LimbKernel" ⟨"LimbKernel", "start", "(LLimbKernel$Job;)V"⟩ ⟨"LimbKernel", "start", "(LLimbKernel$Job;)V"⟩ ∈ tb := tb_s (q := (⟨"LimbKernel", "start", "(LLimbKernel$Job;)V"⟩, 9)) (List.mem_append_left _ (List.mem_of_getElem? (i := 14) rfl))
theorem m_e_yX5_reckon : Cond.selects "LimbKernel" ⟨"LimbKernel", "reckon", "(LLimbKernel$Job;)V"⟩ ⟨"LimbKernel", "reckon", "(LLimbKernel$Job;)V"⟩ ∈ tb := tb_s (q := (⟨"LimbKernel", "reckon", "(LLimbKernel$Job;)V"⟩, 9)) (List.mem_append_left _ (List.mem_of_getElem? (i := 15) rfl))
theorem m_e_yX4_chooseDivisor : Cond.selects "LimbKernel$Reckoner" ⟨"LimbKernel$Reckoner", "chooseDivisor", "(II)Z"⟩ ⟨"LimbKernel$Reckoner", "chooseDivisor", "(II)Z"⟩ ∈ tb := tb_s (q := (⟨"LimbKernel$Reckoner", "chooseDivisor", "(II)Z"⟩, 6)) (List.mem_append_right _ (List.mem_append_left _ (List.mem_of_getElem? (i := 0) rfl)))
theorem m_e_yX4_load : Cond.selects "LimbKernel$Reckoner" ⟨"LimbKernel$Reckoner", "load", "(LLimbKernel$Numeral;I)V"⟩ ⟨"LimbKernel$Reckoner", "load", "(LLimbKernel$Numeral;I)V"⟩ ∈ tb := tb_s (q := (⟨"LimbKernel$Reckoner", "load", "(LLimbKernel$Numeral;I)V"⟩, 6)) (List.mem_append_right _ (List.mem_append_left _ (List.mem_of_getElem? (i := 1) rfl)))
theorem m_e_yX4_reduce : Cond.selects "LimbKernel$Reckoner" ⟨"LimbKernel$Reckoner", "reduce", "(III)V"⟩ ⟨"LimbKernel$Reckoner", "reduce", "(III)V"⟩ ∈ tb := tb_s (q := (⟨"LimbKernel$Reckoner", "reduce", "(III)V"⟩, 6)) (List.mem_append_right _ (List.mem_append_left _ (List.mem_of_getElem? (i := 2) rfl)))
theorem m_e_yX4_guessDigit : Cond.selects "LimbKernel$Reckoner" ⟨"LimbKernel$Reckoner", "guessDigit", "(I)J"⟩ ⟨"LimbKernel$Reckoner", "guessDigit", "(I)J"⟩ ∈ tb := tb_s (q := (⟨"LimbKernel$Reckoner", "guessDigit", "(I)J"⟩, 6)) (List.mem_append_right _ (List.mem_append_left _ (List.mem_of_getElem? (i := 3) rfl)))
theorem m_e_yX4_subtractTimes : Cond.selects "LimbKernel$Reckoner" ⟨"LimbKernel$Reckoner", "subtractTimes", "(IJ)I"⟩ ⟨"LimbKernel$Reckoner", "subtractTimes", "(IJ)I"⟩ ∈ tb := tb_s (q := (⟨"LimbKernel$Reckoner", "subtractTimes", "(IJ)I"⟩, 6)) (List.mem_append_right _ (List.mem_append_left _ (List.mem_of_getElem? (i := 4) rfl)))
theorem m_e_yX4_isOne : Cond.selects "LimbKernel$Reckoner" ⟨"LimbKernel$Reckoner", "isOne", "(II)Z"⟩ ⟨"LimbKernel$Reckoner", "isOne", "(II)Z"⟩ ∈ tb := tb_s (q := (⟨"LimbKernel$Reckoner", "isOne", "(II)Z"⟩, 6)) (List.mem_append_right _ (List.mem_append_left _ (List.mem_of_getElem? (i := 5) rfl)))
theorem m_e_yX4_reduceToBase : Cond.selects "LimbKernel$Reckoner" ⟨"LimbKernel$Reckoner", "reduceToBase", "(LLimbKernel$Numeral;II)V"⟩ ⟨"LimbKernel$Reckoner", "reduceToBase", "(LLimbKernel$Numeral;II)V"⟩ ∈ tb := tb_s (q := (⟨"LimbKernel$Reckoner", "reduceToBase", "(LLimbKernel$Numeral;II)V"⟩, 6)) (List.mem_append_right _ (List.mem_append_left _ (List.mem_of_getElem? (i := 6) rfl)))
theorem m_e_yX4_multiplyModulo : Cond.selects "LimbKernel$Reckoner" ⟨"LimbKernel$Reckoner", "multiplyModulo", "(III)V"⟩ ⟨"LimbKernel$Reckoner", "multiplyModulo", "(III)V"⟩ ∈ tb := tb_s (q := (⟨"LimbKernel$Reckoner", "multiplyModulo", "(III)V"⟩, 6)) (List.mem_append_right _ (List.mem_append_left _ (List.mem_of_getElem? (i := 7) rfl)))
theorem m_e_yX4_hasBit : Cond.selects "LimbKernel$Reckoner" ⟨"LimbKernel$Reckoner", "hasBit", "(II)Z"⟩ ⟨"LimbKernel$Reckoner", "hasBit", "(II)Z"⟩ ∈ tb := tb_s (q := (⟨"LimbKernel$Reckoner", "hasBit", "(II)Z"⟩, 6)) (List.mem_append_right _ (List.mem_append_left _ (List.mem_of_getElem? (i := 8) rfl)))
theorem m_e_yX5_settle : Cond.selects "LimbKernel" ⟨"LimbKernel", "settle", "(LLimbKernel$Job;)V"⟩ ⟨"LimbKernel", "settle", "(LLimbKernel$Job;)V"⟩ ∈ tb := tb_s (q := (⟨"LimbKernel", "settle", "(LLimbKernel$Job;)V"⟩, 9)) (List.mem_append_right _ (List.mem_append_left _ (List.mem_of_getElem? (i := 9) rfl)))
theorem m_e_yX5_giveUpRoom : Cond.selects "LimbKernel" ⟨"LimbKernel", "giveUpRoom", "(LLimbKernel$Job;)V"⟩ ⟨"LimbKernel", "giveUpRoom", "(LLimbKernel$Job;)V"⟩ ∈ tb := tb_s (q := (⟨"LimbKernel", "giveUpRoom", "(LLimbKernel$Job;)V"⟩, 9)) (List.mem_append_right _ (List.mem_append_left _ (List.mem_of_getElem? (i := 10) rfl)))
theorem m_e_yX5_isJob : Cond.selects "LimbKernel" ⟨"LimbKernel", "isJob", "(I)Z"⟩ ⟨"LimbKernel", "isJob", "(I)Z"⟩ ∈ tb := tb_s (q := (⟨"LimbKernel", "isJob", "(I)Z"⟩, 9)) (List.mem_append_right _ (List.mem_append_left _ (List.mem_of_getElem? (i := 11) rfl)))
theorem m_e_yX6_begin : Cond.selects "LimbKernelModel" ⟨"LimbKernelModel", "begin", "()V"⟩ ⟨"LimbKernelModel", "begin", "()V"⟩ ∈ tb := tb_s (q := (⟨"LimbKernelModel", "begin", "()V"⟩, 33)) (List.mem_append_right _ (List.mem_append_left _ (List.mem_of_getElem? (i := 12) rfl)))
theorem m_e_yX6_handlesInUse : Cond.selects "LimbKernelModel" ⟨"LimbKernelModel", "handlesInUse", "()I"⟩ ⟨"LimbKernelModel", "handlesInUse", "()I"⟩ ∈ tb := tb_s (q := (⟨"LimbKernelModel", "handlesInUse", "()I"⟩, 33)) (List.mem_append_right _ (List.mem_append_left _ (List.mem_of_getElem? (i := 13) rfl)))
theorem m_e_yX6_jobsThere : Cond.selects "LimbKernelModel" ⟨"LimbKernelModel", "jobsThere", "()I"⟩ ⟨"LimbKernelModel", "jobsThere", "()I"⟩ ∈ tb := tb_s (q := (⟨"LimbKernelModel", "jobsThere", "()I"⟩, 33)) (List.mem_append_right _ (List.mem_append_left _ (List.mem_of_getElem? (i := 14) rfl)))
theorem m_e_yX6_pool : Cond.selects "LimbKernelModel" ⟨"LimbKernelModel", "pool", "()I"⟩ ⟨"LimbKernelModel", "pool", "()I"⟩ ∈ tb := tb_s (q := (⟨"LimbKernelModel", "pool", "()I"⟩, 33)) (List.mem_append_right _ (List.mem_append_left _ (List.mem_of_getElem? (i := 15) rfl)))
theorem m_e_yX6_freeHandle : Cond.selects "LimbKernelModel" ⟨"LimbKernelModel", "freeHandle", "()I"⟩ ⟨"LimbKernelModel", "freeHandle", "()I"⟩ ∈ tb := tb_s (q := (⟨"LimbKernelModel", "freeHandle", "()I"⟩, 33)) (List.mem_append_right _ (List.mem_append_right _ (List.mem_append_left _ (List.mem_of_getElem? (i := 0) rfl))))
theorem m_e_yX6_give : Cond.selects "LimbKernelModel" ⟨"LimbKernelModel", "give", "(I)I"⟩ ⟨"LimbKernelModel", "give", "(I)I"⟩ ∈ tb := tb_s (q := (⟨"LimbKernelModel", "give", "(I)I"⟩, 33)) (List.mem_append_right _ (List.mem_append_right _ (List.mem_append_left _ (List.mem_of_getElem? (i := 1) rfl))))
theorem m_e_yX6_make : Cond.selects "LimbKernelModel" ⟨"LimbKernelModel", "make", "(III)V"⟩ ⟨"LimbKernelModel", "make", "(III)V"⟩ ∈ tb := tb_s (q := (⟨"LimbKernelModel", "make", "(III)V"⟩, 33)) (List.mem_append_right _ (List.mem_append_right _ (List.mem_append_left _ (List.mem_of_getElem? (i := 2) rfl))))
theorem m_e_yX6_isThere : Cond.selects "LimbKernelModel" ⟨"LimbKernelModel", "isThere", "(I)Z"⟩ ⟨"LimbKernelModel", "isThere", "(I)Z"⟩ ∈ tb := tb_s (q := (⟨"LimbKernelModel", "isThere", "(I)Z"⟩, 33)) (List.mem_append_right _ (List.mem_append_right _ (List.mem_append_left _ (List.mem_of_getElem? (i := 3) rfl))))
theorem m_e_yX6_go : Cond.selects "LimbKernelModel" ⟨"LimbKernelModel", "go", "(I)V"⟩ ⟨"LimbKernelModel", "go", "(I)V"⟩ ∈ tb := tb_s (q := (⟨"LimbKernelModel", "go", "(I)V"⟩, 33)) (List.mem_append_right _ (List.mem_append_right _ (List.mem_append_left _ (List.mem_of_getElem? (i := 4) rfl))))
theorem m_e_yX6_free : Cond.selects "LimbKernelModel" ⟨"LimbKernelModel", "free", "(II)V"⟩ ⟨"LimbKernelModel", "free", "(II)V"⟩ ∈ tb := tb_s (q := (⟨"LimbKernelModel", "free", "(II)V"⟩, 33)) (List.mem_append_right _ (List.mem_append_right _ (List.mem_append_left _ (List.mem_of_getElem? (i := 5) rfl))))
theorem m_e_yX6_isOperand : Cond.selects "LimbKernelModel" ⟨"LimbKernelModel", "isOperand", "(I)Z"⟩ ⟨"LimbKernelModel", "isOperand", "(I)Z"⟩ ∈ tb := tb_s (q := (⟨"LimbKernelModel", "isOperand", "(I)Z"⟩, 33)) (List.mem_append_right _ (List.mem_append_right _ (List.mem_append_left _ (List.mem_of_getElem? (i := 6) rfl))))
theorem m_e_yX6_length : Cond.selects "LimbKernelModel" ⟨"LimbKernelModel", "length", "(I)I"⟩ ⟨"LimbKernelModel", "length", "(I)I"⟩ ∈ tb := tb_s (q := (⟨"LimbKernelModel", "length", "(I)I"⟩, 33)) (List.mem_append_right _ (List.mem_append_right _ (List.mem_append_left _ (List.mem_of_getElem? (i := 7) rfl))))
theorem m_e_yX6_start : Cond.selects "LimbKernelModel" ⟨"LimbKernelModel", "start", "(I)V"⟩ ⟨"LimbKernelModel", "start", "(I)V"⟩ ∈ tb := tb_s (q := (⟨"LimbKernelModel", "start", "(I)V"⟩, 33)) (List.mem_append_right _ (List.mem_append_right _ (List.mem_append_left _ (List.mem_of_getElem? (i := 8) rfl))))
theorem m_e_yX6_resultSize : Cond.selects "LimbKernelModel" ⟨"LimbKernelModel", "resultSize", "(I)I"⟩ ⟨"LimbKernelModel", "resultSize", "(I)I"⟩ ∈ tb := tb_s (q := (⟨"LimbKernelModel", "resultSize", "(I)I"⟩, 33)) (List.mem_append_right _ (List.mem_append_right _ (List.mem_append_left _ (List.mem_of_getElem? (i := 9) rfl))))
theorem m_e_yX6_roomSize : Cond.selects "LimbKernelModel" ⟨"LimbKernelModel", "roomSize", "(I)I"⟩ ⟨"LimbKernelModel", "roomSize", "(I)I"⟩ ∈ tb := tb_s (q := (⟨"LimbKernelModel", "roomSize", "(I)I"⟩, 33)) (List.mem_append_right _ (List.mem_append_right _ (List.mem_append_left _ (List.mem_of_getElem? (i := 10) rfl))))
theorem m_e_yX6_reckon : Cond.selects "LimbKernelModel" ⟨"LimbKernelModel", "reckon", "(I)V"⟩ ⟨"LimbKernelModel", "reckon", "(I)V"⟩ ∈ tb := tb_s (q := (⟨"LimbKernelModel", "reckon", "(I)V"⟩, 33)) (List.mem_append_right _ (List.mem_append_right _ (List.mem_append_left _ (List.mem_of_getElem? (i := 11) rfl))))
theorem m_e_yX6_loadU : Cond.selects "LimbKernelModel" ⟨"LimbKernelModel", "loadU", "(I)V"⟩ ⟨"LimbKernelModel", "loadU", "(I)V"⟩ ∈ tb := tb_s (q := (⟨"LimbKernelModel", "loadU", "(I)V"⟩, 33)) (List.mem_append_right _ (List.mem_append_right _ (List.mem_append_left _ (List.mem_of_getElem? (i := 12) rfl))))
theorem m_e_yX6_uToR : Cond.selects "LimbKernelModel" ⟨"LimbKernelModel", "uToR", "()V"⟩ ⟨"LimbKernelModel", "uToR", "()V"⟩ ∈ tb := tb_s (q := (⟨"LimbKernelModel", "uToR", "()V"⟩, 33)) (List.mem_append_right _ (List.mem_append_right _ (List.mem_append_left _ (List.mem_of_getElem? (i := 13) rfl))))
theorem m_e_yX6_times : Cond.selects "LimbKernelModel" ⟨"LimbKernelModel", "times", "(Z)V"⟩ ⟨"LimbKernelModel", "times", "(Z)V"⟩ ∈ tb := tb_s (q := (⟨"LimbKernelModel", "times", "(Z)V"⟩, 33)) (List.mem_append_right _ (List.mem_append_right _ (List.mem_append_left _ (List.mem_of_getElem? (i := 14) rfl))))
theorem m_e_yX6_putU : Cond.selects "LimbKernelModel" ⟨"LimbKernelModel", "putU", "(I)V"⟩ ⟨"LimbKernelModel", "putU", "(I)V"⟩ ∈ tb := tb_s (q := (⟨"LimbKernelModel", "putU", "(I)V"⟩, 33)) (List.mem_append_right _ (List.mem_append_right _ (List.mem_append_left _ (List.mem_of_getElem? (i := 15) rfl))))
theorem m_e_yX6_loadV : Cond.selects "LimbKernelModel" ⟨"LimbKernelModel", "loadV", "(I)V"⟩ ⟨"LimbKernelModel", "loadV", "(I)V"⟩ ∈ tb := tb_s (q := (⟨"LimbKernelModel", "loadV", "(I)V"⟩, 33)) (List.mem_append_right _ (List.mem_append_right _ (List.mem_append_right _ (List.mem_of_getElem? (i := 0) rfl))))
theorem m_e_yX6_divide : Cond.selects "LimbKernelModel" ⟨"LimbKernelModel", "divide", "()V"⟩ ⟨"LimbKernelModel", "divide", "()V"⟩ ∈ tb := tb_s (q := (⟨"LimbKernelModel", "divide", "()V"⟩, 33)) (List.mem_append_right _ (List.mem_append_right _ (List.mem_append_right _ (List.mem_of_getElem? (i := 1) rfl))))
theorem m_e_yX6_shiftOfV : Cond.selects "LimbKernelModel" ⟨"LimbKernelModel", "shiftOfV", "()I"⟩ ⟨"LimbKernelModel", "shiftOfV", "()I"⟩ ∈ tb := tb_s (q := (⟨"LimbKernelModel", "shiftOfV", "()I"⟩, 33)) (List.mem_append_right _ (List.mem_append_right _ (List.mem_append_right _ (List.mem_of_getElem? (i := 2) rfl))))
theorem m_e_yX6_digit : Cond.selects "LimbKernelModel" ⟨"LimbKernelModel", "digit", "(II)J"⟩ ⟨"LimbKernelModel", "digit", "(II)J"⟩ ∈ tb := tb_s (q := (⟨"LimbKernelModel", "digit", "(II)J"⟩, 33)) (List.mem_append_right _ (List.mem_append_right _ (List.mem_append_right _ (List.mem_of_getElem? (i := 3) rfl))))
theorem m_e_yX6_common : Cond.selects "LimbKernelModel" ⟨"LimbKernelModel", "common", "(I)V"⟩ ⟨"LimbKernelModel", "common", "(I)V"⟩ ∈ tb := tb_s (q := (⟨"LimbKernelModel", "common", "(I)V"⟩, 33)) (List.mem_append_right _ (List.mem_append_right _ (List.mem_append_right _ (List.mem_of_getElem? (i := 4) rfl))))
theorem m_e_yX6_power : Cond.selects "LimbKernelModel" ⟨"LimbKernelModel", "power", "(I)V"⟩ ⟨"LimbKernelModel", "power", "(I)V"⟩ ∈ tb := tb_s (q := (⟨"LimbKernelModel", "power", "(I)V"⟩, 33)) (List.mem_append_right _ (List.mem_append_right _ (List.mem_append_right _ (List.mem_of_getElem? (i := 5) rfl))))
theorem m_e_yX6_leave : Cond.selects "LimbKernelModel" ⟨"LimbKernelModel", "leave", "(I)V"⟩ ⟨"LimbKernelModel", "leave", "(I)V"⟩ ∈ tb := tb_s (q := (⟨"LimbKernelModel", "leave", "(I)V"⟩, 33)) (List.mem_append_right _ (List.mem_append_right _ (List.mem_append_right _ (List.mem_of_getElem? (i := 6) rfl))))
theorem m_e_yX6_unpin : Cond.selects "LimbKernelModel" ⟨"LimbKernelModel", "unpin", "(I)V"⟩ ⟨"LimbKernelModel", "unpin", "(I)V"⟩ ∈ tb := tb_s (q := (⟨"LimbKernelModel", "unpin", "(I)V"⟩, 33)) (List.mem_append_right _ (List.mem_append_right _ (List.mem_append_right _ (List.mem_of_getElem? (i := 7) rfl))))
theorem m_e_yX6_isJob : Cond.selects "LimbKernelModel" ⟨"LimbKernelModel", "isJob", "(I)Z"⟩ ⟨"LimbKernelModel", "isJob", "(I)Z"⟩ ∈ tb := tb_s (q := (⟨"LimbKernelModel", "isJob", "(I)Z"⟩, 33)) (List.mem_append_right _ (List.mem_append_right _ (List.mem_append_right _ (List.mem_of_getElem? (i := 8) rfl))))
theorem m_w_0 : ∀ w ∈ u_ws RX0 TX0 11, w ∈ tb := by
  have h : (u_ws RX0 TX0 11).all (fun w => decide (w ∈ tables_1) && goodWord w) = true := by decide +kernel
  intro w hw
  have h1 := List.all_eq_true.mp h w hw
  rw [Bool.and_eq_true] at h1
  exact tb_t (of_decide_eq_true h1.1) h1.2
theorem m_w_1 : ∀ w ∈ u_ws RX1 TX1 4, w ∈ tb := by
  have h : (u_ws RX1 TX1 4).all (fun w => decide (w ∈ tables_1) && goodWord w) = true := by decide +kernel
  intro w hw
  have h1 := List.all_eq_true.mp h w hw
  rw [Bool.and_eq_true] at h1
  exact tb_t (of_decide_eq_true h1.1) h1.2
theorem m_w_2 : ∀ w ∈ u_ws RX2 TX2 6, w ∈ tb := by
  have h : (u_ws RX2 TX2 6).all (fun w => decide (w ∈ tables_1) && goodWord w) = true := by decide +kernel
  intro w hw
  have h1 := List.all_eq_true.mp h w hw
  rw [Bool.and_eq_true] at h1
  exact tb_t (of_decide_eq_true h1.1) h1.2
theorem m_w_3 : ∀ w ∈ u_ws RX3 TX3 3, w ∈ tb := by
  have h : (u_ws RX3 TX3 3).all (fun w => decide (w ∈ tables_1) && goodWord w) = true := by decide +kernel
  intro w hw
  have h1 := List.all_eq_true.mp h w hw
  rw [Bool.and_eq_true] at h1
  exact tb_t (of_decide_eq_true h1.1) h1.2
theorem m_w_4 : ∀ w ∈ u_ws RX4 TX4 6, w ∈ tb := by
  have h : (u_ws RX4 TX4 6).all (fun w => decide (w ∈ tables_1) && goodWord w) = true := by decide +kernel
  intro w hw
  have h1 := List.all_eq_true.mp h w hw
  rw [Bool.and_eq_true] at h1
  exact tb_t (of_decide_eq_true h1.1) h1.2
theorem m_w_5 : ∀ w ∈ u_ws RX5 TX5 9, w ∈ tb := by
  have h : (u_ws RX5 TX5 9).all (fun w => decide (w ∈ tables_1) && goodWord w) = true := by decide +kernel
  intro w hw
  have h1 := List.all_eq_true.mp h w hw
  rw [Bool.and_eq_true] at h1
  exact tb_t (of_decide_eq_true h1.1) h1.2
theorem m_w_6 : ∀ w ∈ u_ws RX6 TX6 33, w ∈ tb := by
  have h : (u_ws RX6 TX6 33).all (fun w => decide (w ∈ tables_1) && goodWord w) = true := by decide +kernel
  intro w hw
  have h1 := List.all_eq_true.mp h w hw
  rw [Bool.and_eq_true] at h1
  exact tb_t (of_decide_eq_true h1.1) h1.2
theorem g_RL_15 : GoodIn tb (Cond.code yX5_init cX5_init 6 none :: tb) := gi m_c_yX5_init
theorem g_RX5_9 : GoodIn tb (va_wsS RX5 9 yX5_within (Cond.code yX5_within cX5_within 3 (Option.some Jvm.ClassFile.FieldType.int) :: tb)) := gs m_l_RX5_9 m_s_yX5_within m_n_RX5 m_c_yX5_within
theorem g_RX5_196 : GoodIn tb (va_wsS RX5 196 yJ9_min_7cf53 (Cond.code yJ9_min_7cf53 cJ9_min_7cf53 2 (Option.some Jvm.ClassFile.FieldType.int) :: tb)) := gs m_l_RX5_196 m_s_yJ9_min_7cf53 m_n_RJ9 m_c_yJ9_min_7cf53
theorem g_RX5_201 : GoodIn tb (va_wsS RX5 201 yJ9_max_7cf53 (Cond.code yJ9_max_7cf53 cJ9_max_7cf53 2 (Option.some Jvm.ClassFile.FieldType.int) :: tb)) := gs m_l_RX5_201 m_s_yJ9_max_7cf53 m_n_RJ9 m_c_yJ9_max_7cf53
theorem g_RX5_15 : GoodIn tb (Cond.code yX1_init cX1_init 2 none :: tb) := gi m_c_yX1_init
theorem g_RX1_25 : GoodIn tb (wsV RX1 25 RX1 yX1_clear (Cond.code yX1_clear cX1_clear 1 none :: tb)) := gv m_l_RX1_25 m_i_yX1_clear m_e_yX1_clear m_n_RX1 m_c_yX1_clear
theorem g_RX1_28 : GoodIn tb (va_wsS RX1 28 yJ7_fill_53178 (Cond.code yJ7_fill_53178 cJ7_fill_53178 4 none :: tb)) := gs m_l_RX1_28 m_s_yJ7_fill_53178 m_n_RJ7 m_c_yJ7_fill_53178
theorem g_RX1_34 : GoodIn tb (wsV RX1 34 RX1 yX1_addFree (Cond.code yX1_addFree cX1_addFree 3 none :: tb)) := gv m_l_RX1_34 m_i_yX1_addFree m_e_yX1_addFree m_n_RX1 m_c_yX1_addFree
theorem g_RX5_28 : GoodIn tb (Cond.code yX4_init cX4_init 2 none :: tb) := gi m_c_yX4_init
theorem g_RX5_51 : GoodIn tb (Cond.code yX3_init cX3_init 2 none :: tb) := gi m_c_yX3_init
theorem g_RL_21 : GoodIn tb (wsV RL 21 RX5 yX5_init_ (Cond.code yX5_init_ cX5_init_ 3 (Option.some Jvm.ClassFile.FieldType.int) :: tb)) := gv m_l_RL_21 m_i_yX5_init_ m_e_yX5_init_ m_n_RX5 m_c_yX5_init_
theorem g_RX5_66 : GoodIn tb (wsV RX5 66 RX1 yX1_clear (Cond.code yX1_clear cX1_clear 1 none :: tb)) := gv m_l_RX5_66 m_i_yX1_clear m_e_yX1_clear m_n_RX1 m_c_yX1_clear
theorem g_RX5_69 : GoodIn tb (wsV RX5 69 RX3 yX3_clear (Cond.code yX3_clear cX3_clear 1 none :: tb)) := gv m_l_RX5_69 m_i_yX3_clear m_e_yX3_clear m_n_RX3 m_c_yX3_clear
theorem g_RX5_74 : GoodIn tb (wsV RX5 74 RX0 yX0_clear (Cond.code yX0_clear cX0_clear 1 none :: tb)) := gv m_l_RX5_74 m_i_yX0_clear m_e_yX0_clear m_n_RX0 m_c_yX0_clear
theorem g_RL_26 : GoodIn tb (wsV RL 26 RX5 yX5_newNumber (Cond.code yX5_newNumber cX5_newNumber 5 (Option.some Jvm.ClassFile.FieldType.int) :: tb)) := gv m_l_RL_26 m_i_yX5_newNumber m_e_yX5_newNumber m_n_RX5 m_c_yX5_newNumber
theorem g_RX5_78 : GoodIn tb (wsV RX5 78 RX5 yX5_leastFreeHandle (Cond.code yX5_leastFreeHandle cX5_leastFreeHandle 2 (Option.some Jvm.ClassFile.FieldType.int) :: tb)) := gv m_l_RX5_78 m_i_yX5_leastFreeHandle m_e_yX5_leastFreeHandle m_n_RX5 m_c_yX5_leastFreeHandle
theorem g_RX5_82 : GoodIn tb (va_wsS RX5 82 yX1_orderFor (Cond.code yX1_orderFor cX1_orderFor 3 (Option.some Jvm.ClassFile.FieldType.int) :: tb)) := gs m_l_RX5_82 m_s_yX1_orderFor m_n_RX1 m_c_yX1_orderFor
theorem g_RX5_86 : GoodIn tb (wsV RX5 86 RX1 yX1_give (Cond.code yX1_give cX1_give 5 (Option.some Jvm.ClassFile.FieldType.int) :: tb)) := gv m_l_RX5_86 m_i_yX1_give m_e_yX1_give m_n_RX1 m_c_yX1_give
theorem g_RX1_38 : GoodIn tb (wsV RX1 38 RX1 yX1_leastFreeOrder (Cond.code yX1_leastFreeOrder cX1_leastFreeOrder 3 (Option.some Jvm.ClassFile.FieldType.int) :: tb)) := gv m_l_RX1_38 m_i_yX1_leastFreeOrder m_e_yX1_leastFreeOrder m_n_RX1 m_c_yX1_leastFreeOrder
theorem g_RX1_42 : GoodIn tb (wsV RX1 42 RX1 yX1_addressOfFree (Cond.code yX1_addressOfFree cX1_addressOfFree 5 (Option.some Jvm.ClassFile.FieldType.int) :: tb)) := gv m_l_RX1_42 m_i_yX1_addressOfFree m_e_yX1_addressOfFree m_n_RX1 m_c_yX1_addressOfFree
theorem g_RX1_46 : GoodIn tb (wsV RX1 46 RX1 yX1_removeFree (Cond.code yX1_removeFree cX1_removeFree 3 none :: tb)) := gv m_l_RX1_46 m_i_yX1_removeFree m_e_yX1_removeFree m_n_RX1 m_c_yX1_removeFree
theorem g_RX5_90 : GoodIn tb (wsV RX5 90 RX5 yX5_occupy (Cond.code yX5_occupy cX5_occupy 6 none :: tb)) := gv m_l_RX5_90 m_i_yX5_occupy m_e_yX5_occupy m_n_RX5 m_c_yX5_occupy
theorem g_RX5_210 : GoodIn tb (va_wsS RX5 210 yJ7_fill_fda19 (Cond.code yJ7_fill_fda19 cJ7_fill_fda19 5 none :: tb)) := gs m_l_RX5_210 m_s_yJ7_fill_fda19 m_n_RJ7 m_c_yJ7_fill_fda19
theorem g_RJ7_13 : GoodIn tb (va_wsS RJ7 13 yJ7_rangeCheck_23922 (Cond.code yJ7_rangeCheck_23922 cJ7_rangeCheck_23922 3 none :: tb)) := gs m_l_RJ7_13 m_s_yJ7_rangeCheck_23922 m_n_RJ7 m_c_yJ7_rangeCheck_23922
theorem g_RL_31 : GoodIn tb (wsV RL 31 RX5 yX5_setLimb (Cond.code yX5_setLimb cX5_setLimb 4 (Option.some Jvm.ClassFile.FieldType.boolean) :: tb)) := gv m_l_RL_31 m_i_yX5_setLimb m_e_yX5_setLimb m_n_RX5 m_c_yX5_setLimb
theorem g_RX5_94 : GoodIn tb (wsV RX5 94 RX5 yX5_isNumber (Cond.code yX5_isNumber cX5_isNumber 2 (Option.some Jvm.ClassFile.FieldType.boolean) :: tb)) := gv m_l_RX5_94 m_i_yX5_isNumber m_e_yX5_isNumber m_n_RX5 m_c_yX5_isNumber
theorem g_RX5_101 : GoodIn tb (wsV RX5 101 RX2 yX2_hasLimb (Cond.code yX2_hasLimb cX2_hasLimb 2 (Option.some Jvm.ClassFile.FieldType.boolean) :: tb)) := gv m_l_RX5_101 m_i_yX2_hasLimb m_e_yX2_hasLimb m_n_RX2 m_c_yX2_hasLimb
theorem g_RL_36 : GoodIn tb (wsV RL 36 RX5 yX5_getLimb (Cond.code yX5_getLimb cX5_getLimb 3 (Option.some Jvm.ClassFile.FieldType.int) :: tb)) := gv m_l_RL_36 m_i_yX5_getLimb m_e_yX5_getLimb m_n_RX5 m_c_yX5_getLimb
theorem g_RX5_107 : GoodIn tb (wsV RX5 107 RX5 yX5_isFinished (Cond.code yX5_isFinished cX5_isFinished 2 (Option.some Jvm.ClassFile.FieldType.boolean) :: tb)) := gv m_l_RX5_107 m_i_yX5_isFinished m_e_yX5_isFinished m_n_RX5 m_c_yX5_isFinished
theorem g_RL_41 : GoodIn tb (wsV RL 41 RX5 yX5_sizeOf (Cond.code yX5_sizeOf cX5_sizeOf 2 (Option.some Jvm.ClassFile.FieldType.int) :: tb)) := gv m_l_RL_41 m_i_yX5_sizeOf m_e_yX5_sizeOf m_n_RX5 m_c_yX5_sizeOf
theorem g_RL_45 : GoodIn tb (wsV RL 45 RX5 yX5_release (Cond.code yX5_release cX5_release 3 (Option.some Jvm.ClassFile.FieldType.boolean) :: tb)) := gv m_l_RL_45 m_i_yX5_release m_e_yX5_release m_n_RX5 m_c_yX5_release
theorem g_RX5_116 : GoodIn tb (wsV RX5 116 RX5 yX5_vacate (Cond.code yX5_vacate cX5_vacate 2 none :: tb)) := gv m_l_RX5_116 m_i_yX5_vacate m_e_yX5_vacate m_n_RX5 m_c_yX5_vacate
theorem g_RX5_216 : GoodIn tb (wsV RX5 216 RX1 yX1_takeBack (Cond.code yX1_takeBack cX1_takeBack 5 none :: tb)) := gv m_l_RX5_216 m_i_yX1_takeBack m_e_yX1_takeBack m_n_RX1 m_c_yX1_takeBack
theorem g_RL_50 : GoodIn tb (wsV RL 50 RX5 yX5_submit (Cond.code yX5_submit cX5_submit 7 (Option.some Jvm.ClassFile.FieldType.int) :: tb)) := gv m_l_RL_50 m_i_yX5_submit m_e_yX5_submit m_n_RX5 m_c_yX5_submit
theorem g_RX5_119 : GoodIn tb (wsV RX5 119 RX5 yX5_isZero (Cond.code yX5_isZero cX5_isZero 2 (Option.some Jvm.ClassFile.FieldType.boolean) :: tb)) := gv m_l_RX5_119 m_i_yX5_isZero m_e_yX5_isZero m_n_RX5 m_c_yX5_isZero
theorem g_RX5_207 : GoodIn tb (wsV RX5 207 RX4 yX4_significant (Cond.code yX4_significant cX4_significant 4 (Option.some Jvm.ClassFile.FieldType.int) :: tb)) := gv m_l_RX5_207 m_i_yX4_significant m_e_yX4_significant m_n_RX4 m_c_yX4_significant
theorem g_RX5_122 : GoodIn tb (wsV RX5 122 RX5 yX5_leastFreeJob (Cond.code yX5_leastFreeJob cX5_leastFreeJob 2 (Option.some Jvm.ClassFile.FieldType.int) :: tb)) := gv m_l_RX5_122 m_i_yX5_leastFreeJob m_e_yX5_leastFreeJob m_n_RX5 m_c_yX5_leastFreeJob
theorem g_RX5_137 : GoodIn tb (wsV RX5 137 RX0 yX0_plan (Cond.code yX0_plan cX0_plan 7 none :: tb)) := gv m_l_RX5_137 m_i_yX0_plan m_e_yX0_plan m_n_RX0 m_c_yX0_plan
theorem g_RX0_27 : GoodIn tb (wsV RX0 27 RX0 yX0_need (Cond.code yX0_need cX0_need 7 none :: tb)) := gv m_l_RX0_27 m_i_yX0_need m_e_yX0_need m_n_RX0 m_c_yX0_need
theorem g_RX0_48 : GoodIn tb (va_wsS RX0 48 yX1_orderFor (Cond.code yX1_orderFor cX1_orderFor 3 (Option.some Jvm.ClassFile.FieldType.int) :: tb)) := gs m_l_RX0_48 m_s_yX1_orderFor m_n_RX1 m_c_yX1_orderFor
theorem g_RX0_33 : GoodIn tb (va_wsS RX0 33 yJ9_max_f86c9 (Cond.code yJ9_max_f86c9 cJ9_max_f86c9 4 (Option.some Jvm.ClassFile.FieldType.long) :: tb)) := gs m_l_RX0_33 m_s_yJ9_max_f86c9 m_n_RJ9 m_c_yJ9_max_f86c9
theorem g_RX5_144 : GoodIn tb (wsV RX5 144 RX5 yX5_changePins (Cond.code yX5_changePins cX5_changePins 3 none :: tb)) := gv m_l_RX5_144 m_i_yX5_changePins m_e_yX5_changePins m_n_RX5 m_c_yX5_changePins
theorem g_RX5_148 : GoodIn tb (wsV RX5 148 RX3 yX3_append (Cond.code yX3_append cX3_append 2 none :: tb)) := gv m_l_RX5_148 m_i_yX3_append m_e_yX3_append m_n_RX3 m_c_yX3_append
theorem g_RX3_19 : GoodIn tb (wsV RX3 19 RX3 yX3_slot (Cond.code yX3_slot cX3_slot 3 (Option.some Jvm.ClassFile.FieldType.int) :: tb)) := gv m_l_RX3_19 m_i_yX3_slot m_e_yX3_slot m_n_RX3 m_c_yX3_slot
theorem g_RL_55 : GoodIn tb (wsV RL 55 RX5 yX5_tick (Cond.code yX5_tick cX5_tick 1 (Option.some Jvm.ClassFile.FieldType.int) :: tb)) := gv m_l_RL_55 m_i_yX5_tick m_e_yX5_tick m_n_RX5 m_c_yX5_tick
theorem g_RX5_151 : GoodIn tb (wsV RX5 151 RX5 yX5_takeTurn (Cond.code yX5_takeTurn cX5_takeTurn 3 (Option.some Jvm.ClassFile.FieldType.int) :: tb)) := gv m_l_RX5_151 m_i_yX5_takeTurn m_e_yX5_takeTurn m_n_RX5 m_c_yX5_takeTurn
theorem g_RX5_220 : GoodIn tb (wsV RX5 220 RX3 yX3_takeFirst (Cond.code yX3_takeFirst cX3_takeFirst 2 (Option.some Jvm.ClassFile.FieldType.int) :: tb)) := gv m_l_RX5_220 m_i_yX3_takeFirst m_e_yX3_takeFirst m_n_RX3 m_c_yX3_takeFirst
theorem g_RX5_223 : GoodIn tb (wsV RX5 223 RX5 yX5_start (Cond.code yX5_start cX5_start 3 none :: tb)) := gv m_l_RX5_223 m_i_yX5_start m_e_yX5_start m_n_RX5 m_c_yX5_start
theorem g_RX5_238 : GoodIn tb (wsV RX5 238 RX1 yX1_canGive (Cond.code yX1_canGive cX1_canGive 6 (Option.some Jvm.ClassFile.FieldType.boolean) :: tb)) := gv m_l_RX5_238 m_i_yX1_canGive m_e_yX1_canGive m_n_RX1 m_c_yX1_canGive
theorem g_RX5_226 : GoodIn tb (wsV RX5 226 RX5 yX5_reckon (Cond.code yX5_reckon cX5_reckon 5 none :: tb)) := gv m_l_RX5_226 m_i_yX5_reckon m_e_yX5_reckon m_n_RX5 m_c_yX5_reckon
theorem g_RX5_248 : GoodIn tb (wsV RX5 248 RX4 yX4_addProduct (Cond.code yX4_addProduct cX4_addProduct 15 none :: tb)) := gv m_l_RX5_248 m_i_yX4_addProduct m_e_yX4_addProduct m_n_RX4 m_c_yX4_addProduct
theorem g_RX5_252 : GoodIn tb (wsV RX5 252 RX4 yX4_quotient (Cond.code yX4_quotient cX4_quotient 5 none :: tb)) := gv m_l_RX5_252 m_i_yX4_quotient m_e_yX4_quotient m_n_RX4 m_c_yX4_quotient
theorem g_RX4_26 : GoodIn tb (wsV RX4 26 RX4 yX4_chooseDivisor (Cond.code yX4_chooseDivisor cX4_chooseDivisor 8 (Option.some Jvm.ClassFile.FieldType.boolean) :: tb)) := gv m_l_RX4_26 m_i_yX4_chooseDivisor m_e_yX4_chooseDivisor m_n_RX4 m_c_yX4_chooseDivisor
theorem g_RX4_87 : GoodIn tb (wsV RX4 87 RX4 yX4_significant (Cond.code yX4_significant cX4_significant 4 (Option.some Jvm.ClassFile.FieldType.int) :: tb)) := gv m_l_RX4_87 m_i_yX4_significant m_e_yX4_significant m_n_RX4 m_c_yX4_significant
theorem g_RX4_30 : GoodIn tb (wsV RX4 30 RX4 yX4_load (Cond.code yX4_load cX4_load 3 none :: tb)) := gv m_l_RX4_30 m_i_yX4_load m_e_yX4_load m_n_RX4 m_c_yX4_load
theorem g_RX4_34 : GoodIn tb (wsV RX4 34 RX4 yX4_reduce (Cond.code yX4_reduce cX4_reduce 6 none :: tb)) := gv m_l_RX4_34 m_i_yX4_reduce m_e_yX4_reduce m_n_RX4 m_c_yX4_reduce
theorem g_RX4_75 : GoodIn tb (wsV RX4 75 RX4 yX4_guessDigit (Cond.code yX4_guessDigit cX4_guessDigit 14 (Option.some Jvm.ClassFile.FieldType.long) :: tb)) := gv m_l_RX4_75 m_i_yX4_guessDigit m_e_yX4_guessDigit m_n_RX4 m_c_yX4_guessDigit
theorem g_RX4_79 : GoodIn tb (wsV RX4 79 RX4 yX4_subtractTimes (Cond.code yX4_subtractTimes cX4_subtractTimes 11 (Option.some Jvm.ClassFile.FieldType.int) :: tb)) := gv m_l_RX4_79 m_i_yX4_subtractTimes m_e_yX4_subtractTimes m_n_RX4 m_c_yX4_subtractTimes
theorem g_RX5_256 : GoodIn tb (wsV RX5 256 RX4 yX4_greatestDivisor (Cond.code yX4_greatestDivisor cX4_greatestDivisor 13 none :: tb)) := gv m_l_RX5_256 m_i_yX4_greatestDivisor m_e_yX4_greatestDivisor m_n_RX4 m_c_yX4_greatestDivisor
theorem g_RX4_41 : GoodIn tb (va_wsS RX4 41 yJ9_min_7cf53 (Cond.code yJ9_min_7cf53 cJ9_min_7cf53 2 (Option.some Jvm.ClassFile.FieldType.int) :: tb)) := gs m_l_RX4_41 m_s_yJ9_min_7cf53 m_n_RJ9 m_c_yJ9_min_7cf53
theorem g_RX5_259 : GoodIn tb (wsV RX5 259 RX4 yX4_powerModulo (Cond.code yX4_powerModulo cX4_powerModulo 11 none :: tb)) := gv m_l_RX5_259 m_i_yX4_powerModulo m_e_yX4_powerModulo m_n_RX4 m_c_yX4_powerModulo
theorem g_RX4_56 : GoodIn tb (wsV RX4 56 RX4 yX4_isOne (Cond.code yX4_isOne cX4_isOne 3 (Option.some Jvm.ClassFile.FieldType.boolean) :: tb)) := gv m_l_RX4_56 m_i_yX4_isOne m_e_yX4_isOne m_n_RX4 m_c_yX4_isOne
theorem g_RX4_59 : GoodIn tb (wsV RX4 59 RX4 yX4_reduceToBase (Cond.code yX4_reduceToBase cX4_reduceToBase 5 none :: tb)) := gv m_l_RX4_59 m_i_yX4_reduceToBase m_e_yX4_reduceToBase m_n_RX4 m_c_yX4_reduceToBase
theorem g_RX4_69 : GoodIn tb (va_wsS RX4 69 yJ7_fill_fda19 (Cond.code yJ7_fill_fda19 cJ7_fill_fda19 5 none :: tb)) := gs m_l_RX4_69 m_s_yJ7_fill_fda19 m_n_RJ7 m_c_yJ7_fill_fda19
theorem g_RX4_63 : GoodIn tb (wsV RX4 63 RX4 yX4_multiplyModulo (Cond.code yX4_multiplyModulo cX4_multiplyModulo 5 none :: tb)) := gv m_l_RX4_63 m_i_yX4_multiplyModulo m_e_yX4_multiplyModulo m_n_RX4 m_c_yX4_multiplyModulo
theorem g_RX4_83 : GoodIn tb (wsV RX4 83 RX4 yX4_addProduct (Cond.code yX4_addProduct cX4_addProduct 15 none :: tb)) := gv m_l_RX4_83 m_i_yX4_addProduct m_e_yX4_addProduct m_n_RX4 m_c_yX4_addProduct
theorem g_RX4_66 : GoodIn tb (wsV RX4 66 RX4 yX4_hasBit (Cond.code yX4_hasBit cX4_hasBit 3 (Option.some Jvm.ClassFile.FieldType.boolean) :: tb)) := gv m_l_RX4_66 m_i_yX4_hasBit m_e_yX4_hasBit m_n_RX4 m_c_yX4_hasBit
theorem g_RX5_229 : GoodIn tb (wsV RX5 229 RX5 yX5_settle (Cond.code yX5_settle cX5_settle 2 none :: tb)) := gv m_l_RX5_229 m_i_yX5_settle m_e_yX5_settle m_n_RX5 m_c_yX5_settle
theorem g_RX5_170 : GoodIn tb (wsV RX5 170 RX5 yX5_giveUpRoom (Cond.code yX5_giveUpRoom cX5_giveUpRoom 2 none :: tb)) := gv m_l_RX5_170 m_i_yX5_giveUpRoom m_e_yX5_giveUpRoom m_n_RX5 m_c_yX5_giveUpRoom
theorem g_RX5_163 : GoodIn tb (wsV RX5 163 RX0 yX0_isQueued (Cond.code yX0_isQueued cX0_isQueued 1 (Option.some Jvm.ClassFile.FieldType.boolean) :: tb)) := gv m_l_RX5_163 m_i_yX0_isQueued m_e_yX0_isQueued m_n_RX0 m_c_yX0_isQueued
theorem g_RL_59 : GoodIn tb (wsV RL 59 RX5 yX5_run (Cond.code yX5_run cX5_run 3 (Option.some Jvm.ClassFile.FieldType.int) :: tb)) := gv m_l_RL_59 m_i_yX5_run m_e_yX5_run m_n_RX5 m_c_yX5_run
theorem g_RL_63 : GoodIn tb (wsV RL 63 RX5 yX5_jobState (Cond.code yX5_jobState cX5_jobState 2 (Option.some Jvm.ClassFile.FieldType.int) :: tb)) := gv m_l_RL_63 m_i_yX5_jobState m_e_yX5_jobState m_n_RX5 m_c_yX5_jobState
theorem g_RX5_154 : GoodIn tb (wsV RX5 154 RX5 yX5_isJob (Cond.code yX5_isJob cX5_isJob 2 (Option.some Jvm.ClassFile.FieldType.boolean) :: tb)) := gv m_l_RX5_154 m_i_yX5_isJob m_e_yX5_isJob m_n_RX5 m_c_yX5_isJob
theorem g_RL_67 : GoodIn tb (wsV RL 67 RX5 yX5_jobResult (Cond.code yX5_jobResult cX5_jobResult 2 (Option.some Jvm.ClassFile.FieldType.int) :: tb)) := gv m_l_RL_67 m_i_yX5_jobResult m_e_yX5_jobResult m_n_RX5 m_c_yX5_jobResult
theorem g_RL_71 : GoodIn tb (wsV RL 71 RX5 yX5_workLeft (Cond.code yX5_workLeft cX5_workLeft 2 (Option.some Jvm.ClassFile.FieldType.long) :: tb)) := gv m_l_RL_71 m_i_yX5_workLeft m_e_yX5_workLeft m_n_RX5 m_c_yX5_workLeft
theorem g_RL_76 : GoodIn tb (wsV RL 76 RX5 yX5_cancel (Cond.code yX5_cancel cX5_cancel 3 (Option.some Jvm.ClassFile.FieldType.boolean) :: tb)) := gv m_l_RL_76 m_i_yX5_cancel m_e_yX5_cancel m_n_RX5 m_c_yX5_cancel
theorem g_RX5_167 : GoodIn tb (wsV RX5 167 RX3 yX3_drop (Cond.code yX3_drop cX3_drop 5 none :: tb)) := gv m_l_RX5_167 m_i_yX3_drop m_e_yX3_drop m_n_RX3 m_c_yX3_drop
theorem g_RX3_26 : GoodIn tb (wsV RX3 26 RX3 yX3_takeFirst (Cond.code yX3_takeFirst cX3_takeFirst 2 (Option.some Jvm.ClassFile.FieldType.int) :: tb)) := gv m_l_RX3_26 m_i_yX3_takeFirst m_e_yX3_takeFirst m_n_RX3 m_c_yX3_takeFirst
theorem g_RX3_30 : GoodIn tb (wsV RX3 30 RX3 yX3_append (Cond.code yX3_append cX3_append 2 none :: tb)) := gv m_l_RX3_30 m_i_yX3_append m_e_yX3_append m_n_RX3 m_c_yX3_append
theorem g_RL_80 : GoodIn tb (wsV RL 80 RX5 yX5_forget (Cond.code yX5_forget cX5_forget 2 (Option.some Jvm.ClassFile.FieldType.boolean) :: tb)) := gv m_l_RL_80 m_i_yX5_forget m_e_yX5_forget m_n_RX5 m_c_yX5_forget
theorem g_RL_84 : GoodIn tb (wsV RL 84 RX5 yX5_freeCells (Cond.code yX5_freeCells cX5_freeCells 1 (Option.some Jvm.ClassFile.FieldType.int) :: tb)) := gv m_l_RL_84 m_i_yX5_freeCells m_e_yX5_freeCells m_n_RX5 m_c_yX5_freeCells
theorem g_RX5_174 : GoodIn tb (wsV RX5 174 RX1 yX1_freeLimbs (Cond.code yX1_freeLimbs cX1_freeLimbs 3 (Option.some Jvm.ClassFile.FieldType.int) :: tb)) := gv m_l_RX5_174 m_i_yX1_freeLimbs m_e_yX1_freeLimbs m_n_RX1 m_c_yX1_freeLimbs
theorem g_RL_88 : GoodIn tb (wsV RL 88 RX5 yX5_freeBlock (Cond.code yX5_freeBlock cX5_freeBlock 3 (Option.some Jvm.ClassFile.FieldType.int) :: tb)) := gv m_l_RL_88 m_i_yX5_freeBlock m_e_yX5_freeBlock m_n_RX5 m_c_yX5_freeBlock
theorem g_RX5_183 : GoodIn tb (wsV RX5 183 RX1 yX1_addressOfFree (Cond.code yX1_addressOfFree cX1_addressOfFree 5 (Option.some Jvm.ClassFile.FieldType.int) :: tb)) := gv m_l_RX5_183 m_i_yX1_addressOfFree m_e_yX1_addressOfFree m_n_RX1 m_c_yX1_addressOfFree
theorem g_RL_92 : GoodIn tb (wsV RL 92 RX5 yX5_number (Cond.code yX5_number cX5_number 3 (Option.some Jvm.ClassFile.FieldType.int) :: tb)) := gv m_l_RL_92 m_i_yX5_number m_e_yX5_number m_n_RX5 m_c_yX5_number
theorem g_RL_96 : GoodIn tb (wsV RL 96 RX5 yX5_count (Cond.code yX5_count cX5_count 3 (Option.some Jvm.ClassFile.FieldType.int) :: tb)) := gv m_l_RL_96 m_i_yX5_count m_e_yX5_count m_n_RX5 m_c_yX5_count
theorem g_RX5_193 : GoodIn tb (wsV RX5 193 RX3 yX3_at (Cond.code yX3_at cX3_at 2 (Option.some Jvm.ClassFile.FieldType.int) :: tb)) := gv m_l_RX5_193 m_i_yX3_at m_e_yX3_at m_n_RX3 m_c_yX3_at
theorem g_RL_9 : GoodIn tb (va_wsS RL 9 yL_cell (Cond.code yL_cell cL_cell 2 (Option.some Jvm.ClassFile.FieldType.int) :: tb)) := gs m_l_RL_9 m_s_yL_cell m_n_RL m_c_yL_cell
theorem g_RL_20 : GoodIn tb (Cond.code yX6_init cX6_init 5 none :: tb) := gi m_c_yX6_init
theorem g_RX6_81 : GoodIn tb (va_wsS RX6 81 yX6_within (Cond.code yX6_within cX6_within 3 (Option.some Jvm.ClassFile.FieldType.int) :: tb)) := gs m_l_RX6_81 m_s_yX6_within m_n_RX6 m_c_yX6_within
theorem g_RX6_98 : GoodIn tb (wsV RX6 98 RX6 yX6_begin (Cond.code yX6_begin cX6_begin 2 none :: tb)) := gv m_l_RX6_98 m_i_yX6_begin m_e_yX6_begin m_n_RX6 m_c_yX6_begin
theorem g_RL_25 : GoodIn tb (wsV RL 25 RX6 yX6_init_ (Cond.code yX6_init_ cX6_init_ 2 (Option.some Jvm.ClassFile.FieldType.int) :: tb)) := gv m_l_RL_25 m_i_yX6_init_ m_e_yX6_init_ m_n_RX6 m_c_yX6_init_
theorem g_RX6_107 : GoodIn tb (wsV RX6 107 RX6 yX6_handlesInUse (Cond.code yX6_handlesInUse cX6_handlesInUse 3 (Option.some Jvm.ClassFile.FieldType.int) :: tb)) := gv m_l_RX6_107 m_i_yX6_handlesInUse m_e_yX6_handlesInUse m_n_RX6 m_c_yX6_handlesInUse
theorem g_RX6_111 : GoodIn tb (wsV RX6 111 RX6 yX6_jobsThere (Cond.code yX6_jobsThere cX6_jobsThere 3 (Option.some Jvm.ClassFile.FieldType.int) :: tb)) := gv m_l_RX6_111 m_i_yX6_jobsThere m_e_yX6_jobsThere m_n_RX6 m_c_yX6_jobsThere
theorem g_RL_30 : GoodIn tb (wsV RL 30 RX6 yX6_newNumber (Cond.code yX6_newNumber cX6_newNumber 4 (Option.some Jvm.ClassFile.FieldType.int) :: tb)) := gv m_l_RL_30 m_i_yX6_newNumber m_e_yX6_newNumber m_n_RX6 m_c_yX6_newNumber
theorem g_RX6_114 : GoodIn tb (wsV RX6 114 RX6 yX6_pool (Cond.code yX6_pool cX6_pool 1 (Option.some Jvm.ClassFile.FieldType.int) :: tb)) := gv m_l_RX6_114 m_i_yX6_pool m_e_yX6_pool m_n_RX6 m_c_yX6_pool
theorem g_RX6_121 : GoodIn tb (wsV RX6 121 RX6 yX6_freeHandle (Cond.code yX6_freeHandle cX6_freeHandle 2 (Option.some Jvm.ClassFile.FieldType.int) :: tb)) := gv m_l_RX6_121 m_i_yX6_freeHandle m_e_yX6_freeHandle m_n_RX6 m_c_yX6_freeHandle
theorem g_RX6_117 : GoodIn tb (va_wsS RX6 117 yX6_orderFor (Cond.code yX6_orderFor cX6_orderFor 2 (Option.some Jvm.ClassFile.FieldType.int) :: tb)) := gs m_l_RX6_117 m_s_yX6_orderFor m_n_RX6 m_c_yX6_orderFor
theorem g_RX6_124 : GoodIn tb (wsV RX6 124 RX6 yX6_give (Cond.code yX6_give cX6_give 4 (Option.some Jvm.ClassFile.FieldType.int) :: tb)) := gv m_l_RX6_124 m_i_yX6_give m_e_yX6_give m_n_RX6 m_c_yX6_give
theorem g_RX6_127 : GoodIn tb (wsV RX6 127 RX6 yX6_make (Cond.code yX6_make cX6_make 5 none :: tb)) := gv m_l_RX6_127 m_i_yX6_make m_e_yX6_make m_n_RX6 m_c_yX6_make
theorem g_RL_35 : GoodIn tb (wsV RL 35 RX6 yX6_setLimb (Cond.code yX6_setLimb cX6_setLimb 5 (Option.some Jvm.ClassFile.FieldType.boolean) :: tb)) := gv m_l_RL_35 m_i_yX6_setLimb m_e_yX6_setLimb m_n_RX6 m_c_yX6_setLimb
theorem g_RX6_131 : GoodIn tb (wsV RX6 131 RX6 yX6_isThere (Cond.code yX6_isThere cX6_isThere 2 (Option.some Jvm.ClassFile.FieldType.boolean) :: tb)) := gv m_l_RX6_131 m_i_yX6_isThere m_e_yX6_isThere m_n_RX6 m_c_yX6_isThere
theorem g_RL_40 : GoodIn tb (wsV RL 40 RX6 yX6_getLimb (Cond.code yX6_getLimb cX6_getLimb 3 (Option.some Jvm.ClassFile.FieldType.int) :: tb)) := gv m_l_RL_40 m_i_yX6_getLimb m_e_yX6_getLimb m_n_RX6 m_c_yX6_getLimb
theorem g_RL_44 : GoodIn tb (wsV RL 44 RX6 yX6_sizeOf (Cond.code yX6_sizeOf cX6_sizeOf 2 (Option.some Jvm.ClassFile.FieldType.int) :: tb)) := gv m_l_RL_44 m_i_yX6_sizeOf m_e_yX6_sizeOf m_n_RX6 m_c_yX6_sizeOf
theorem g_RL_49 : GoodIn tb (wsV RL 49 RX6 yX6_release (Cond.code yX6_release cX6_release 2 (Option.some Jvm.ClassFile.FieldType.boolean) :: tb)) := gv m_l_RL_49 m_i_yX6_release m_e_yX6_release m_n_RX6 m_c_yX6_release
theorem g_RX6_139 : GoodIn tb (wsV RX6 139 RX6 yX6_go (Cond.code yX6_go cX6_go 3 none :: tb)) := gv m_l_RX6_139 m_i_yX6_go m_e_yX6_go m_n_RX6 m_c_yX6_go
theorem g_RX6_135 : GoodIn tb (wsV RX6 135 RX6 yX6_free (Cond.code yX6_free cX6_free 7 none :: tb)) := gv m_l_RX6_135 m_i_yX6_free m_e_yX6_free m_n_RX6 m_c_yX6_free
theorem g_RL_54 : GoodIn tb (wsV RL 54 RX6 yX6_submit (Cond.code yX6_submit cX6_submit 13 (Option.some Jvm.ClassFile.FieldType.int) :: tb)) := gv m_l_RL_54 m_i_yX6_submit m_e_yX6_submit m_n_RX6 m_c_yX6_submit
theorem g_RX6_143 : GoodIn tb (wsV RX6 143 RX6 yX6_isOperand (Cond.code yX6_isOperand cX6_isOperand 2 (Option.some Jvm.ClassFile.FieldType.boolean) :: tb)) := gv m_l_RX6_143 m_i_yX6_isOperand m_e_yX6_isOperand m_n_RX6 m_c_yX6_isOperand
theorem g_RX6_146 : GoodIn tb (wsV RX6 146 RX6 yX6_length (Cond.code yX6_length cX6_length 3 (Option.some Jvm.ClassFile.FieldType.int) :: tb)) := gv m_l_RX6_146 m_i_yX6_length m_e_yX6_length m_n_RX6 m_c_yX6_length
theorem g_RL_58 : GoodIn tb (wsV RL 58 RX6 yX6_tick (Cond.code yX6_tick cX6_tick 3 (Option.some Jvm.ClassFile.FieldType.int) :: tb)) := gv m_l_RL_58 m_i_yX6_tick m_e_yX6_tick m_n_RX6 m_c_yX6_tick
theorem g_RX6_162 : GoodIn tb (wsV RX6 162 RX6 yX6_start (Cond.code yX6_start cX6_start 7 none :: tb)) := gv m_l_RX6_162 m_i_yX6_start m_e_yX6_start m_n_RX6 m_c_yX6_start
theorem g_RX6_153 : GoodIn tb (wsV RX6 153 RX6 yX6_resultSize (Cond.code yX6_resultSize cX6_resultSize 4 (Option.some Jvm.ClassFile.FieldType.int) :: tb)) := gv m_l_RX6_153 m_i_yX6_resultSize m_e_yX6_resultSize m_n_RX6 m_c_yX6_resultSize
theorem g_RX6_156 : GoodIn tb (wsV RX6 156 RX6 yX6_roomSize (Cond.code yX6_roomSize cX6_roomSize 4 (Option.some Jvm.ClassFile.FieldType.int) :: tb)) := gv m_l_RX6_156 m_i_yX6_roomSize m_e_yX6_roomSize m_n_RX6 m_c_yX6_roomSize
theorem g_RX6_165 : GoodIn tb (wsV RX6 165 RX6 yX6_reckon (Cond.code yX6_reckon cX6_reckon 5 none :: tb)) := gv m_l_RX6_165 m_i_yX6_reckon m_e_yX6_reckon m_n_RX6 m_c_yX6_reckon
theorem g_RX6_203 : GoodIn tb (wsV RX6 203 RX6 yX6_loadU (Cond.code yX6_loadU cX6_loadU 3 none :: tb)) := gv m_l_RX6_203 m_i_yX6_loadU m_e_yX6_loadU m_n_RX6 m_c_yX6_loadU
theorem g_RX6_206 : GoodIn tb (wsV RX6 206 RX6 yX6_uToR (Cond.code yX6_uToR cX6_uToR 2 none :: tb)) := gv m_l_RX6_206 m_i_yX6_uToR m_e_yX6_uToR m_n_RX6 m_c_yX6_uToR
theorem g_RX6_209 : GoodIn tb (wsV RX6 209 RX6 yX6_times (Cond.code yX6_times cX6_times 9 none :: tb)) := gv m_l_RX6_209 m_i_yX6_times m_e_yX6_times m_n_RX6 m_c_yX6_times
theorem g_RX6_213 : GoodIn tb (wsV RX6 213 RX6 yX6_putU (Cond.code yX6_putU cX6_putU 3 none :: tb)) := gv m_l_RX6_213 m_i_yX6_putU m_e_yX6_putU m_n_RX6 m_c_yX6_putU
theorem g_RX6_216 : GoodIn tb (wsV RX6 216 RX6 yX6_loadV (Cond.code yX6_loadV cX6_loadV 3 none :: tb)) := gv m_l_RX6_216 m_i_yX6_loadV m_e_yX6_loadV m_n_RX6 m_c_yX6_loadV
theorem g_RX6_219 : GoodIn tb (wsV RX6 219 RX6 yX6_divide (Cond.code yX6_divide cX6_divide 5 none :: tb)) := gv m_l_RX6_219 m_i_yX6_divide m_e_yX6_divide m_n_RX6 m_c_yX6_divide
theorem g_RX6_186 : GoodIn tb (wsV RX6 186 RX6 yX6_shiftOfV (Cond.code yX6_shiftOfV cX6_shiftOfV 2 (Option.some Jvm.ClassFile.FieldType.int) :: tb)) := gv m_l_RX6_186 m_i_yX6_shiftOfV m_e_yX6_shiftOfV m_n_RX6 m_c_yX6_shiftOfV
theorem g_RX6_191 : GoodIn tb (wsV RX6 191 RX6 yX6_digit (Cond.code yX6_digit cX6_digit 21 (Option.some Jvm.ClassFile.FieldType.long) :: tb)) := gv m_l_RX6_191 m_i_yX6_digit m_e_yX6_digit m_n_RX6 m_c_yX6_digit
theorem g_RX6_222 : GoodIn tb (wsV RX6 222 RX6 yX6_common (Cond.code yX6_common cX6_common 5 none :: tb)) := gv m_l_RX6_222 m_i_yX6_common m_e_yX6_common m_n_RX6 m_c_yX6_common
theorem g_RX6_225 : GoodIn tb (wsV RX6 225 RX6 yX6_power (Cond.code yX6_power cX6_power 4 none :: tb)) := gv m_l_RX6_225 m_i_yX6_power m_e_yX6_power m_n_RX6 m_c_yX6_power
theorem g_RX6_168 : GoodIn tb (wsV RX6 168 RX6 yX6_leave (Cond.code yX6_leave cX6_leave 4 none :: tb)) := gv m_l_RX6_168 m_i_yX6_leave m_e_yX6_leave m_n_RX6 m_c_yX6_leave
theorem g_RX6_159 : GoodIn tb (wsV RX6 159 RX6 yX6_unpin (Cond.code yX6_unpin cX6_unpin 2 none :: tb)) := gv m_l_RX6_159 m_i_yX6_unpin m_e_yX6_unpin m_n_RX6 m_c_yX6_unpin
theorem g_RL_62 : GoodIn tb (wsV RL 62 RX6 yX6_run (Cond.code yX6_run cX6_run 4 (Option.some Jvm.ClassFile.FieldType.int) :: tb)) := gv m_l_RL_62 m_i_yX6_run m_e_yX6_run m_n_RX6 m_c_yX6_run
theorem g_RX6_171 : GoodIn tb (wsV RX6 171 RX6 yX6_tick (Cond.code yX6_tick cX6_tick 3 (Option.some Jvm.ClassFile.FieldType.int) :: tb)) := gv m_l_RX6_171 m_i_yX6_tick m_e_yX6_tick m_n_RX6 m_c_yX6_tick
theorem g_RL_66 : GoodIn tb (wsV RL 66 RX6 yX6_jobState (Cond.code yX6_jobState cX6_jobState 2 (Option.some Jvm.ClassFile.FieldType.int) :: tb)) := gv m_l_RL_66 m_i_yX6_jobState m_e_yX6_jobState m_n_RX6 m_c_yX6_jobState
theorem g_RX6_174 : GoodIn tb (wsV RX6 174 RX6 yX6_isJob (Cond.code yX6_isJob cX6_isJob 2 (Option.some Jvm.ClassFile.FieldType.boolean) :: tb)) := gv m_l_RX6_174 m_i_yX6_isJob m_e_yX6_isJob m_n_RX6 m_c_yX6_isJob
theorem g_RL_70 : GoodIn tb (wsV RL 70 RX6 yX6_jobResult (Cond.code yX6_jobResult cX6_jobResult 2 (Option.some Jvm.ClassFile.FieldType.int) :: tb)) := gv m_l_RL_70 m_i_yX6_jobResult m_e_yX6_jobResult m_n_RX6 m_c_yX6_jobResult
theorem g_RL_75 : GoodIn tb (wsV RL 75 RX6 yX6_workLeft (Cond.code yX6_workLeft cX6_workLeft 2 (Option.some Jvm.ClassFile.FieldType.long) :: tb)) := gv m_l_RL_75 m_i_yX6_workLeft m_e_yX6_workLeft m_n_RX6 m_c_yX6_workLeft
theorem g_RL_79 : GoodIn tb (wsV RL 79 RX6 yX6_cancel (Cond.code yX6_cancel cX6_cancel 3 (Option.some Jvm.ClassFile.FieldType.boolean) :: tb)) := gv m_l_RL_79 m_i_yX6_cancel m_e_yX6_cancel m_n_RX6 m_c_yX6_cancel
theorem g_RL_83 : GoodIn tb (wsV RL 83 RX6 yX6_forget (Cond.code yX6_forget cX6_forget 2 (Option.some Jvm.ClassFile.FieldType.boolean) :: tb)) := gv m_l_RL_83 m_i_yX6_forget m_e_yX6_forget m_n_RX6 m_c_yX6_forget
theorem g_RL_87 : GoodIn tb (wsV RL 87 RX6 yX6_freeCells (Cond.code yX6_freeCells cX6_freeCells 3 (Option.some Jvm.ClassFile.FieldType.int) :: tb)) := gv m_l_RL_87 m_i_yX6_freeCells m_e_yX6_freeCells m_n_RX6 m_c_yX6_freeCells
theorem g_RL_91 : GoodIn tb (wsV RL 91 RX6 yX6_freeBlock (Cond.code yX6_freeBlock cX6_freeBlock 5 (Option.some Jvm.ClassFile.FieldType.int) :: tb)) := gv m_l_RL_91 m_i_yX6_freeBlock m_e_yX6_freeBlock m_n_RX6 m_c_yX6_freeBlock
theorem g_RL_95 : GoodIn tb (wsV RL 95 RX6 yX6_number (Cond.code yX6_number cX6_number 3 (Option.some Jvm.ClassFile.FieldType.int) :: tb)) := gv m_l_RL_95 m_i_yX6_number m_e_yX6_number m_n_RX6 m_c_yX6_number
theorem g_RL_99 : GoodIn tb (wsV RL 99 RX6 yX6_count (Cond.code yX6_count cX6_count 3 (Option.some Jvm.ClassFile.FieldType.int) :: tb)) := gv m_l_RL_99 m_i_yX6_count m_e_yX6_count m_n_RX6 m_c_yX6_count
end
section
/-! INTEGERS. Every int of the machine is written iI z, every long lI z, with z a whole number: + - * need no premise. -/
def iI (z : Int) : Int32 := Int32.ofInt z
def lI (z : Int) : Int64 := Int64.ofInt z
theorem iI_add (a b : Int) : iI a + iI b = iI (a + b) := (Int32.ofInt_add a b).symm
theorem iI_sub (a b : Int) : iI a - iI b = iI (a - b) := (Int32.ofInt_sub a b).symm
theorem iI_mul (a b : Int) : iI a * iI b = iI (a * b) := (Int32.ofInt_mul a b).symm
theorem lI_add (a b : Int) : lI a + lI b = lI (a + b) := (Int64.ofInt_add a b).symm
theorem lI_sub (a b : Int) : lI a - lI b = lI (a - b) := (Int64.ofInt_sub a b).symm
theorem lI_mul (a b : Int) : lI a * lI b = lI (a * b) := (Int64.ofInt_mul a b).symm
theorem iI_t {z : Int} (h : -2147483648 ≤ z ∧ z < 2147483648) : (iI z).toInt = z := Int32.toInt_ofInt_of_le (by omega) (by omega)
theorem lI_t {z : Int} (h : -9223372036854775808 ≤ z ∧ z < 9223372036854775808) : (lI z).toInt = z := Int64.toInt_ofInt_of_le (by omega) (by omega)
theorem iI_of (x : Int32) : ∃ z : Int, x = iI z ∧ -2147483648 ≤ z ∧ z < 2147483648 := ⟨x.toInt, (Int32.ofInt_toInt x).symm, by have := x.le_toInt; omega, by have := x.toInt_lt; omega⟩
theorem iI_lt {a b : Int} (ha : -2147483648 ≤ a ∧ a < 2147483648) (hb : -2147483648 ≤ b ∧ b < 2147483648) : iI a < iI b ↔ a < b := by rw [Int32.lt_iff_toInt_lt, iI_t ha, iI_t hb]
theorem iI_le {a b : Int} (ha : -2147483648 ≤ a ∧ a < 2147483648) (hb : -2147483648 ≤ b ∧ b < 2147483648) : iI a ≤ iI b ↔ a ≤ b := by rw [Int32.le_iff_toInt_le, iI_t ha, iI_t hb]
theorem iI_eq {a b : Int} (ha : -2147483648 ≤ a ∧ a < 2147483648) (hb : -2147483648 ≤ b ∧ b < 2147483648) : iI a = iI b ↔ a = b := by rw [← Int32.toInt_inj, iI_t ha, iI_t hb]
theorem lI_lt {a b : Int} (ha : -9223372036854775808 ≤ a ∧ a < 9223372036854775808) (hb : -9223372036854775808 ≤ b ∧ b < 9223372036854775808) : lI a < lI b ↔ a < b := by rw [Int64.lt_iff_toInt_lt, lI_t ha, lI_t hb]
theorem lI_le {a b : Int} (ha : -9223372036854775808 ≤ a ∧ a < 9223372036854775808) (hb : -9223372036854775808 ≤ b ∧ b < 9223372036854775808) : lI a ≤ lI b ↔ a ≤ b := by rw [Int64.le_iff_toInt_le, lI_t ha, lI_t hb]
theorem lI_eq {a b : Int} (ha : -9223372036854775808 ≤ a ∧ a < 9223372036854775808) (hb : -9223372036854775808 ≤ b ∧ b < 9223372036854775808) : lI a = lI b ↔ a = b := by rw [← Int64.toInt_inj, lI_t ha, lI_t hb]
theorem iI_cl {z : Int} (h : 0 ≤ z ∧ z < 2147483648) : (iI z).toNatClampNeg = z.toNat := by
  show (iI z).toInt.toNat = _
  rw [iI_t (by omega)]
theorem iI_in {z : Int} {n : Nat} (h : 0 ≤ z ∧ z < n) (hn : n ≤ 2147483647) : vp_in (iI z) n := vp_in_iff.mpr (by rw [iI_t (by omega)]; exact h)
theorem iI_l {z : Int} (h : -2147483648 ≤ z ∧ z < 2147483648) : (iI z).toInt64 = lI z := by
  rw [← Int64.ofInt_int32ToInt, iI_t h]; rfl
theorem lI_i (z : Int) : (lI z).toInt32 = iI z := Int64.toInt32_ofInt
theorem nI_iI (n : Nat) : nI n = iI n := (Int32.ofInt_eq_ofNat).symm
theorem lN_lI (n : Nat) : lN n = lI n := (Int64.ofInt_eq_ofNat).symm
-- shifts
theorem sh32 : ∀ n : Fin 32, ((iI (n.val : Int) &&& 31).toBitVec.smod 32).toNat = n.val := by decide +kernel
theorem sh64 : ∀ n : Fin 64, (((iI (n.val : Int)).toInt64 &&& 63).toBitVec.smod 64).toNat = n.val := by decide +kernel
theorem tp32 : ∀ n : Fin 32, BitVec.twoPow 32 n.val = BitVec.ofInt 32 ((2 : Int) ^ n.val) := by decide +kernel
theorem tp64 : ∀ n : Fin 64, BitVec.twoPow 64 n.val = BitVec.ofInt 64 ((2 : Int) ^ n.val) := by decide +kernel
theorem iI_shl (z : Int) (n : Nat) (hn : n < 32) : iI z <<< (iI (n : Int) &&& 31) = iI (z * 2 ^ n) := by
  apply Int32.toBitVec_inj.mp
  show (iI z).toBitVec <<< ((iI (n : Int) &&& 31).toBitVec.smod 32).toNat = BitVec.ofInt 32 (z * 2 ^ n)
  rw [sh32 ⟨n, hn⟩, BitVec.shiftLeft_eq_mul_twoPow, BitVec.ofInt_mul, tp32 ⟨n, hn⟩]; rfl
theorem lI_shl (z : Int) (n : Nat) (hn : n < 64) : lI z <<< ((iI (n : Int)).toInt64 &&& 63) = lI (z * 2 ^ n) := by
  apply Int64.toBitVec_inj.mp
  show (lI z).toBitVec <<< (((iI (n : Int)).toInt64 &&& 63).toBitVec.smod 64).toNat = BitVec.ofInt 64 (z * 2 ^ n)
  rw [sh64 ⟨n, hn⟩, BitVec.shiftLeft_eq_mul_twoPow, BitVec.ofInt_mul, tp64 ⟨n, hn⟩]; rfl
theorem zdiv_le {z : Int} (n : Nat) {lo hi : Int} (h : lo ≤ z ∧ z < hi) (h0 : lo ≤ 0) (h1 : 0 < hi) : lo ≤ z / 2 ^ n ∧ z / 2 ^ n < hi := by
  have hp : (0 : Int) < 2 ^ n := Int.pow_pos (by decide)
  rcases Int.le_total 0 z with hz | hz
  · have := Int.ediv_le_self (2 ^ n) hz
    have h2 := Int.ediv_nonneg hz (Int.le_of_lt hp)
    omega
  · have h1 : z / 2 ^ n ≤ 0 := by
      have h3 : z / 2 ^ n < 1 := Int.ediv_lt_of_lt_mul hp (by omega)
      omega
    have h2 : z ≤ z / 2 ^ n := by
      apply (Int.le_ediv_iff_mul_le hp).mpr
      have : z * 2 ^ n ≤ z * 1 := Int.mul_le_mul_of_nonpos_left hz (by omega)
      omega
    omega
theorem iI_shr {z : Int} (h : -2147483648 ≤ z ∧ z < 2147483648) (n : Nat) (hn : n < 32) : iI z >>> (iI (n : Int) &&& 31) = iI (z / 2 ^ n) := by
  apply Int32.toInt_inj.mp
  rw [pk_shr _ _ n (sh32 ⟨n, hn⟩), iI_t h, Int.shiftRight_eq_div_pow, iI_t (by have := zdiv_le n h (by omega) (by omega); simpa using this)]
  simp
theorem lI_shr {z : Int} (h : -9223372036854775808 ≤ z ∧ z < 9223372036854775808) (n : Nat) (hn : n < 64) : lI z >>> ((iI (n : Int)).toInt64 &&& 63) = lI (z / 2 ^ n) := by
  apply Int64.toInt_inj.mp
  have e : (lI z >>> ((iI (n : Int)).toInt64 &&& 63)).toInt = (lI z).toInt >>> n := by
    show ((lI z).toBitVec.sshiftRight (((iI (n : Int)).toInt64 &&& 63).toBitVec.smod 64).toNat).toInt = _
    rw [sh64 ⟨n, hn⟩, BitVec.toInt_sshiftRight]; rfl
  rw [e, lI_t h, Int.shiftRight_eq_div_pow, lI_t (by have := zdiv_le n h (by omega) (by omega); simpa using this)]
  simp
-- masks
theorem lI_mask (z : Int) : lI z &&& lI 2147483647 = lI (z % 2147483648) := by
  apply Int64.toBitVec_inj.mp
  apply BitVec.eq_of_toNat_eq
  rw [Int64.toBitVec_and, BitVec.toNat_and]
  show (BitVec.ofInt 64 z).toNat &&& (BitVec.ofInt 64 2147483647).toNat = (BitVec.ofInt 64 (z % 2147483648)).toNat
  rw [BitVec.toNat_ofInt, BitVec.toNat_ofInt, BitVec.toNat_ofInt, show ((2147483647 : Int) % ((2 ^ 64 : Nat) : Int)).toNat = 2 ^ 31 - 1 from by decide, Nat.and_two_pow_sub_one_eq_mod]
  omega
theorem iI_one (z : Int) : iI z &&& iI 1 = iI (z % 2) := by
  apply Int32.toBitVec_inj.mp
  apply BitVec.eq_of_toNat_eq
  rw [Int32.toBitVec_and, BitVec.toNat_and]
  show (BitVec.ofInt 32 z).toNat &&& (BitVec.ofInt 32 1).toNat = (BitVec.ofInt 32 (z % 2)).toNat
  rw [BitVec.toNat_ofInt, BitVec.toNat_ofInt, BitVec.toNat_ofInt, show ((1 : Int) % ((2 ^ 32 : Nat) : Int)).toNat = 2 ^ 1 - 1 from by decide, Nat.and_two_pow_sub_one_eq_mod]
  omega
/-- or of a multiple of 2^k and a number below 2^k -/
theorem lI_or {a b : Int} (k : Nat) (hk : k < 63) {c : Int} (ha : a = c * 2 ^ k) (hc : 0 ≤ c) (hb : 0 ≤ b ∧ b < 2 ^ k) (h : a + b < 9223372036854775808) : lI a ||| lI b = lI (a + b) := by
  obtain ⟨cn, rfl⟩ := Int.eq_ofNat_of_zero_le hc
  obtain ⟨bn, rfl⟩ := Int.eq_ofNat_of_zero_le hb.1
  have hbn : bn < 2 ^ k := by have := hb.2; exact_mod_cast this
  have hcast : a = ((cn * 2 ^ k : Nat) : Int) := by rw [ha]; push_cast; rfl
  subst hcast
  have h' : cn * 2 ^ k + bn < 2 ^ 63 := by
    generalize cn * 2 ^ k = y at *
    omega
  apply Int64.toBitVec_inj.mp
  apply BitVec.eq_of_toNat_eq
  rw [Int64.toBitVec_or, BitVec.toNat_or]
  show (BitVec.ofInt 64 ((cn * 2 ^ k : Nat) : Int)).toNat ||| (BitVec.ofInt 64 (bn : Int)).toNat = (BitVec.ofInt 64 (((cn * 2 ^ k : Nat) : Int) + (bn : Int))).toNat
  rw [BitVec.toNat_ofInt, BitVec.toNat_ofInt, BitVec.toNat_ofInt]
  have e1 : (((cn * 2 ^ k : Nat) : Int) % ((2 ^ 64 : Nat) : Int)).toNat = cn * 2 ^ k := by omega
  have e2 : ((bn : Int) % ((2 ^ 64 : Nat) : Int)).toNat = bn := by omega
  have e3 : ((((cn * 2 ^ k : Nat) : Int) + (bn : Int)) % ((2 ^ 64 : Nat) : Int)).toNat = cn * 2 ^ k + bn := by omega
  rw [e1, e2, e3, Nat.mul_comm cn, ← Nat.two_pow_add_eq_or_of_lt hbn]
theorem iI_xor (a b : Nat) : iI (a : Int) ^^^ iI (b : Int) = iI ((a ^^^ b : Nat) : Int) := by
  rw [← nI_iI, ← nI_iI, ← nI_iI]
  apply Int32.toBitVec_inj.mp
  apply BitVec.eq_of_toNat_eq
  rw [Int32.toBitVec_xor, BitVec.toNat_xor]
  show (BitVec.ofNat 32 a).toNat ^^^ (BitVec.ofNat 32 b).toNat = (BitVec.ofNat 32 (a ^^^ b)).toNat
  rw [BitVec.toNat_ofNat, BitVec.toNat_ofNat, BitVec.toNat_ofNat, Nat.xor_mod_two_pow]
theorem lI_div {a b : Int} (ha : 0 ≤ a ∧ a < 9223372036854775808) (hb : 0 < b ∧ b < 9223372036854775808) : lI a / lI b = lI (a / b) := by
  have := Int64.ofInt_tdiv (a := a) (b := b) (by show (-9223372036854775808 : Int) ≤ a; omega) (by show a ≤ (9223372036854775807 : Int); omega) (by show (-9223372036854775808 : Int) ≤ b; omega) (by show b ≤ (9223372036854775807 : Int); omega)
  rw [Int.tdiv_eq_ediv_of_nonneg ha.1] at this
  exact this.symm
theorem iI_div {a b : Int} (ha : 0 ≤ a ∧ a < 2147483648) (hb : 0 < b ∧ b < 2147483648) : iI a / iI b = iI (a / b) := by
  have := Int32.ofInt_tdiv (a := a) (b := b) (by show (-2147483648 : Int) ≤ a; omega) (by show a ≤ (2147483647 : Int); omega) (by show (-2147483648 : Int) ≤ b; omega) (by show b ≤ (2147483647 : Int); omega)
  rw [Int.tdiv_eq_ediv_of_nonneg ha.1] at this
  exact this.symm
end
section
/-! NUMBERS OF LIMBS: nv f a n is the number that the n limbs of f from a on stand for; lim f a n: they are limbs. -/
def nv (f : Nat → Int) (a : Nat) : Nat → Int
  | 0 => 0
  | n + 1 => nv f a n + f (a + n) * 2147483648 ^ n
def lim (f : Nat → Int) (a n : Nat) : Prop := ∀ i, i < n → 0 ≤ f (a + i) ∧ f (a + i) < 2147483648
theorem bp_pos (n : Nat) : (0 : Int) < 2147483648 ^ n := Int.pow_pos (by decide)
theorem bp_s (n : Nat) : (2147483648 : Int) ^ (n + 1) = 2147483648 ^ n * 2147483648 := Int.pow_succ _ _
theorem nv_0 (f : Nat → Int) (a : Nat) : nv f a 0 = 0 := rfl
theorem nv_s (f : Nat → Int) (a n : Nat) : nv f a (n + 1) = nv f a n + f (a + n) * 2147483648 ^ n := rfl
theorem lim.mono {f : Nat → Int} {a n m : Nat} (h : lim f a n) (hm : m ≤ n) : lim f a m := fun i hi => h i (by omega)
theorem lim.sub {f : Nat → Int} {a n b m : Nat} (h : lim f a n) (h1 : a ≤ b) (h2 : b + m ≤ a + n) : lim f b m := fun i hi => by
  have := h (b - a + i) (by omega)
  rwa [show a + (b - a + i) = b + i by omega] at this
theorem nv_ge {f : Nat → Int} {a : Nat} : ∀ {n : Nat}, lim f a n → 0 ≤ nv f a n
  | 0, _ => Int.le_refl 0
  | n + 1, h => by
    have h1 := nv_ge (h.mono (Nat.le_succ n))
    have h2 := Int.mul_nonneg (h n (Nat.lt_succ_self n)).1 (Int.le_of_lt (bp_pos n))
    rw [nv_s]; omega
theorem nv_lt {f : Nat → Int} {a : Nat} : ∀ {n : Nat}, lim f a n → nv f a n < 2147483648 ^ n
  | 0, _ => by show (0 : Int) < 1; decide
  | n + 1, h => by
    have h1 := nv_lt (h.mono (Nat.le_succ n))
    have h2 : f (a + n) * 2147483648 ^ n ≤ 2147483647 * 2147483648 ^ n := Int.mul_le_mul_of_nonneg_right (by have := (h n (Nat.lt_succ_self n)).2; omega) (Int.le_of_lt (bp_pos n))
    rw [nv_s, bp_s]; omega
theorem nv_ext {f g : Nat → Int} {a b : Nat} : ∀ {n : Nat}, (∀ i, i < n → f (a + i) = g (b + i)) → nv f a n = nv g b n
  | 0, _ => rfl
  | n + 1, h => by rw [nv_s, nv_s, nv_ext (fun i hi => h i (by omega)), h n (by omega)]
theorem nv_zero {f : Nat → Int} {a : Nat} : ∀ {n : Nat}, (∀ i, i < n → f (a + i) = 0) → nv f a n = 0
  | 0, _ => rfl
  | n + 1, h => by rw [nv_s, nv_zero (fun i hi => h i (by omega)), h n (by omega)]; omega
theorem nv_add (f : Nat → Int) (a n : Nat) : ∀ m : Nat, nv f a (n + m) = nv f a n + 2147483648 ^ n * nv f (a + n) m
  | 0 => by simp [nv_0]
  | m + 1 => by
    rw [← Nat.add_assoc, nv_s, nv_s, nv_add f a n m, Int.mul_add, show a + (n + m) = a + n + m by omega, Int.pow_add, Int.add_assoc]
    congr 2
    rw [← Int.mul_assoc, ← Int.mul_assoc, Int.mul_comm (f (a + n + m))]
theorem nv_1 (f : Nat → Int) (a : Nat) : nv f a 1 = f a := by simp [nv]
theorem nv_inj {f g : Nat → Int} {a b : Nat} : ∀ {n : Nat}, lim f a n → lim g b n → nv f a n = nv g b n → ∀ i, i < n → f (a + i) = g (b + i)
  | 0, _, _, _ => fun i hi => absurd hi (by omega)
  | n + 1, hf, hg, h => by
    have f1 := nv_lt (hf.mono (Nat.le_succ n)); have f0 := nv_ge (hf.mono (Nat.le_succ n))
    have g1 := nv_lt (hg.mono (Nat.le_succ n)); have g0 := nv_ge (hg.mono (Nat.le_succ n))
    rw [nv_s, nv_s] at h
    have key : f (a + n) = g (b + n) := by
      rcases Int.lt_trichotomy (f (a + n)) (g (b + n)) with q | q | q
      · have := Int.mul_le_mul_of_nonneg_right (show f (a + n) + 1 ≤ g (b + n) by omega) (Int.le_of_lt (bp_pos n))
        rw [Int.add_mul] at this; omega
      · exact q
      · have := Int.mul_le_mul_of_nonneg_right (show g (b + n) + 1 ≤ f (a + n) by omega) (Int.le_of_lt (bp_pos n))
        rw [Int.add_mul] at this; omega
    have ih := nv_inj (hf.mono (Nat.le_succ n)) (hg.mono (Nat.le_succ n)) (by rw [key] at h; omega)
    intro i hi
    rcases Nat.lt_succ_iff_lt_or_eq.mp hi with q | q
    · exact ih i q
    · rw [q]; exact key
/-- zeros at the top add nothing -/
theorem nv_top {f : Nat → Int} {a n m : Nat} (hm : m ≤ n) (h : ∀ i, m ≤ i → i < n → f (a + i) = 0) : nv f a n = nv f a m := by
  obtain ⟨d, rfl⟩ : ∃ d, n = m + d := ⟨n - m, by omega⟩
  rw [nv_add, nv_zero (n := d) (f := f) (a := a + m) (fun i hi => by rw [show a + m + i = a + (m + i) by omega]; exact h (m + i) (by omega) (by omega))]; simp
/-! the guess of a digit -/
theorem knuth {v1 v2 v0 h l w0 P q : Int} (hv1 : 2147483648 ≤ 2 * v1) (hv2 : 0 ≤ v2 ∧ v2 < 2147483648) (hv0 : 0 ≤ v0 ∧ v0 < P) (hh : 0 ≤ h) (hl : 0 ≤ l ∧ l < 2147483648) (hw : 0 ≤ w0 ∧ w0 < P)
    (hq : 0 ≤ q ∧ q < 2147483648) (h1 : q * ((v1 * 2147483648 + v2) * P + v0) ≤ (h * 2147483648 + l) * P + w0) (h2 : (h * 2147483648 + l) * P + w0 < (q + 1) * ((v1 * 2147483648 + v2) * P + v0)) :
    q ≤ h / v1 ∧ h / v1 ≤ q + 2 ∧ (h / v1 * v2 > h % v1 * 2147483648 + l → q ≤ h / v1 - 1) ∧ (¬ h / v1 * v2 > h % v1 * 2147483648 + l → h / v1 < 2147483648 → h / v1 ≤ q + 1) := by
  have hP : 0 < P := by omega
  have hv : 0 < v1 := by omega
  have hdm : v1 * (h / v1) + h % v1 = h := Int.mul_ediv_add_emod h v1
  have hr0 := Int.emod_nonneg h (show v1 ≠ 0 by omega)
  have hr1 := Int.emod_lt_of_pos h hv
  have hd0 : 0 ≤ h / v1 := Int.ediv_nonneg hh (by omega)
  generalize h / v1 = d at *
  generalize h % v1 = r at *
  -- cancel P
  have a1 : q * (v1 * 2147483648 + v2) < h * 2147483648 + l + 1 := by
    have e1 : q * ((v1 * 2147483648 + v2) * P + v0) = q * (v1 * 2147483648 + v2) * P + q * v0 := by rw [Int.mul_add, Int.mul_assoc]
    have e2 : 0 ≤ q * v0 := Int.mul_nonneg hq.1 hv0.1
    have e3 : (h * 2147483648 + l + 1) * P = (h * 2147483648 + l) * P + P := by rw [Int.add_mul, Int.one_mul]
    have e4 : q * (v1 * 2147483648 + v2) * P < (h * 2147483648 + l + 1) * P := by omega
    exact Int.lt_of_mul_lt_mul_right e4 (by omega)
  have a2 : h * 2147483648 + l < (q + 1) * (v1 * 2147483648 + v2 + 1) := by
    have e1 : (q + 1) * ((v1 * 2147483648 + v2) * P + v0) ≤ (q + 1) * ((v1 * 2147483648 + v2 + 1) * P) := by
      apply Int.mul_le_mul_of_nonneg_left _ (by omega)
      rw [Int.add_mul (v1 * 2147483648 + v2) 1 P, Int.one_mul]; omega
    have e4 : (h * 2147483648 + l) * P < (q + 1) * (v1 * 2147483648 + v2 + 1) * P := by rw [Int.mul_assoc]; omega
    exact Int.lt_of_mul_lt_mul_right e4 (by omega)
  have b1 : q ≤ d := by
    have e1 : q * (v1 * 2147483648 + v2) = q * v1 * 2147483648 + q * v2 := by rw [Int.mul_add, Int.mul_assoc]
    have e2 : 0 ≤ q * v2 := Int.mul_nonneg hq.1 hv2.1
    have e3 : q * v1 ≤ h := by omega
    rcases Int.lt_or_le d q with c | c
    · have := Int.mul_le_mul_of_nonneg_right (show d + 1 ≤ q by omega) (show 0 ≤ v1 by omega)
      rw [Int.add_mul, Int.mul_comm d v1] at this; omega
    · exact c
  have b2 : d ≤ q + 2 := by
    rcases Int.lt_or_le (q + 2) d with c | c
    · have e1 := Int.mul_le_mul_of_nonneg_right (show q + 3 ≤ d by omega) (show 0 ≤ v1 by omega)
      have e2 : (q + 1) * (v1 * 2147483648 + v2 + 1) ≤ (q + 1) * ((v1 + 1) * 2147483648) := Int.mul_le_mul_of_nonneg_left (by omega) (by omega)
      rw [← Int.mul_assoc] at e2
      have e3 : (q + 1) * (v1 + 1) = q * v1 + v1 + q + 1 := by rw [Int.mul_add, Int.add_mul, Int.add_mul]; omega
      rw [Int.add_mul, Int.mul_comm d v1] at e1
      omega
    · exact c
  refine ⟨b1, b2, fun c => ?_, fun c c2 => ?_⟩
  · -- d (v1 B + v2) > h B + l, so d > q
    rcases Int.lt_or_le q d with g | g
    · omega
    · have e : q = d := by omega
      subst e
      have e1 : q * (v1 * 2147483648 + v2) = v1 * q * 2147483648 + q * v2 := by rw [Int.mul_add, ← Int.mul_assoc, Int.mul_comm q v1]
      omega
  · rcases Int.lt_or_le (q + 1) d with g | g
    · exfalso
      have e : d = q + 2 := by omega
      have e1 : d * ((v1 * 2147483648 + v2) * P + v0) = (v1 * d * 2147483648 + d * v2) * P + d * v0 := by
        rw [Int.mul_add, ← Int.mul_assoc, Int.mul_add, ← Int.mul_assoc, Int.mul_comm d v1]
      have e2 : (v1 * d * 2147483648 + d * v2) * P ≤ (h * 2147483648 + l) * P := Int.mul_le_mul_of_nonneg_right (by omega) (by omega)
      have e3 : d * v0 ≤ 2147483647 * v0 := Int.mul_le_mul_of_nonneg_right (by omega) hv0.1
      have e4 : (q + 1) * ((v1 * 2147483648 + v2) * P + v0) = d * ((v1 * 2147483648 + v2) * P + v0) - ((v1 * 2147483648 + v2) * P + v0) := by
        rw [show q + 1 = d - 1 by omega, Int.sub_mul, Int.one_mul]
      have e5 : 2147483648 * P ≤ (v1 * 2147483648 + v2) * P := Int.mul_le_mul_of_nonneg_right (by omega) (by omega)
      omega
    · exact g
end
section
/-! THE WALK. A world is a map from logical names to cells (HM); ad gives each name its address. X: W over every heap that holds the map. -/
abbrev HM : Type := Nat → Option va_E
abbrev vi (z : Int) : Value := .int (iI z)
abbrev vl (z : Int) : Value := .long (lI z)
def hset (h : HM) (n : Nat) (x : va_E) : HM := fun q => if q = n then some x else h q
theorem hset_s (h : HM) (n : Nat) (x : va_E) : hset h n x n = some x := by simp [hset]
theorem hset_n {h : HM} {n q : Nat} {x : va_E} (hq : q ≠ n) : hset h n x q = h q := by simp [hset, hq]
def hw (D : va_G) (ad : Nat → Nat) (h : HM) (H : Heap) : Prop := ∀ (n : Nat) (x : va_E), h n = some x → n < 64 ∧ va_at D vwCl (ad n, x) H
def inj (ad : Nat → Nat) : Prop := ∀ i j : Nat, i < 64 → j < 64 → ad i = ad j → i = j
def aA (ad : Nat → Nat) : Nat → Prop := fun q => ∃ n, n < 64 ∧ q = ad n
theorem hw.set {D : va_G} {ad : Nat → Nat} {h : HM} {H H1 : Heap} {n : Nat} {x0 x : va_E} (hi : inj ad) (hh : hw D ad h H) (hn : h n = some x0) (hx : va_at D vwCl (ad n, x) H1) (oq : ∀ q : Nat, q ≠ ad n → H1[q]? = H[q]?) : hw D ad (hset h n x) H1 := by
  intro k y hk
  have hn' := (hh n x0 hn).1
  by_cases hkn : k = n
  · subst hkn
    rw [hset_s] at hk
    cases hk
    exact ⟨hn', hx⟩
  · rw [hset_n hkn] at hk
    obtain ⟨h1, h2⟩ := hh k y hk
    exact ⟨h1, h2.kept (oq _ (fun e => hkn (hi k n h1 hn' e)))⟩
/-- the classes of arrays stand in D too: 10 int, 11 long, 12 boolean, 13 Job, 14 Numeral -/
abbrev tysL (D : va_G) : List (ClassId × FieldType) := [(D.1 10, .int), (D.1 11, .long), (D.1 12, .boolean), (D.1 13, .object "LimbKernel$Job"), (D.1 14, .object "LimbKernel$Numeral")]
def lk (i : Nat) : List (Nat × Value) → Option Value
  | [] => none
  | q :: r => bif Nat.beq q.1 i then some q.2 else lk i r
theorem lk_at {ls : Array Slot} {nL : Nat} : ∀ {lv : List (Nat × Value)} {i : Nat} {v : Value}, lv_has ls nL lv → lk i lv = some v → ls[i]? = some (.val v)
  | [], _, _, _, h => by cases h
  | q :: r, i, v, hl, h => by
    unfold lk at h
    cases hb : Nat.beq q.1 i with
    | true =>
      rw [hb] at h
      have e1 := Nat.eq_of_beq_eq_true hb
      have e2 : q.2 = v := Option.some.inj h
      have := hl.2.2 q List.mem_cons_self
      rw [e1, e2] at this
      exact this
    | false =>
      rw [hb] at h
      exact lk_at ⟨hl.1, hl.2.1, fun z hz => hl.2.2 z (List.mem_cons_of_mem _ hz)⟩ h
/-- what stays fixed in a walk -/
def Fx (p : Program) (s : State) (m : MethodId) (args : Array Value) (meth : Method) (c : Code) (D : va_G) (ad : Nat → Nat) (cc : ByteArray) (nL : Nat) (ret : Option FieldType) (own : String) (Ts : List Cond) : Prop :=
  p.tables.exec = Jvm.exec ∧ c.code = cc ∧ c.maxLocals = nL ∧ s.vm.findClass own = some m.cls ∧ (∀ w ∈ Ts, w.before args s = true) ∧ meth.sig.returnType = ret ∧ meth.locks = false ∧ va_K D vwCl (tysL D) s ∧ inj ad
def X (p : Program) (l : Launch) (e : Env) (R : Room) (s : State) (m : MethodId) (args : Array Value) (below : List Frame) (meth : Method) (c : Code) (D : va_G) (ad : Nat → Nat) (nL : Nat) (Q : State → Prop) (h : HM) (pc : Nat) (lv : List (Nat × Value)) (st : List Value) : Prop :=
  ∀ (H : Heap) (locs : List Loc) (ls : Array Slot), hw D ad h H → va_S (aA ad) s.heap H locs → lv_has ls nL lv → W p l e R s m args below meth c H locs 0 0 Q (F0 m pc ls st)
/-- the world of a state -/
def WO (D : va_G) (ad : Nat → Nat) (h : HM) (U : State) : Prop := hw D ad h U.heap ∧ va_K D vwCl (tysL D) U ∧ inj ad
def Qx (D : va_G) (ad : Nat → Nat) (post : Option Value → HM → Prop) : Array Value → State → Outcome → State → Prop := fun _ st oc t => (∃ (v : Option Value) (h1 : HM), oc = .returned v ∧ post v h1 ∧ WO D ad h1 t) ∧ va_F (aA ad) st t
/-- a method's contract that makes no cell: from the map h, with these arguments -/
def Ct (l : Launch) (y : MethodName) (ws : List Cond) (fr lo : Nat) (D : va_G) (ad : Nat → Nat) (av : List Value) (h : HM) (post : Option Value → HM → Prop) : Prop :=
  Met l y ws { frames := fr, cells := 0, slots := 0, locals := lo } (va_Pc av (WO D ad h)) (Qx D ad post) 0 0 (aA ad)
theorem Ct.weaken {l : Launch} {y : MethodName} {ws : List Cond} {fr lo : Nat} {D : va_G} {ad : Nat → Nat} {av : List Value} {h : HM} {post post' : Option Value → HM → Prop} (hc : Ct l y ws fr lo D ad av h post) (hp : ∀ v h1, post v h1 → post' v h1) : Ct l y ws fr lo D ad av h post' := by
  intro p e ha hcx hk s m args below hf hap hPc hT
  obtain ⟨t, o, h1, h2, h3, ⟨⟨⟨v, h4, h5, h6, h7⟩, h8⟩, h9⟩⟩ := hc p e ha hcx hk s m args below hf hap hPc hT
  exact ⟨t, o, h1, h2, h3, ⟨⟨⟨v, h4, h5, hp _ _ h6, h7⟩, h8⟩, h9⟩⟩

theorem i0R : -2147483648 ≤ (0 : Int) ∧ (0 : Int) < 2147483648 := by decide
section WK
variable {p : Program} {l : Launch} {e : Env} {R : Room} {s : State} {m : MethodId} {args : Array Value} {below : List Frame} {meth : Method} {c : Code} {D : va_G} {ad : Nat → Nat} {cc : ByteArray} {nL : Nat} {ret : Option FieldType} {own : String} {Ts : List Cond} {Q : State → Prop} {h : HM} {pc : Nat} {lv : List (Nat × Value)} {st : List Value}
theorem x_iconst (C : Fx p s m args meth c D ad cc nL ret own Ts) {n : Int} (hd : decode cc pc = .ok (.iconst n, 1))  (k : X p l e R s m args below meth c D ad nL Q h (pc + 1) lv (vi n :: st)) : X p l e R s m args below meth c D ad nL Q h pc lv st :=
  fun H locs ls hh hs hl => lv_iconst C.1 C.2.1 hd rfl (k H locs ls hh hs hl)
theorem x_bipush (C : Fx p s m args meth c D ad cc nL ret own Ts) {n : Int} {z : Int} (hd : decode cc pc = .ok (.bipush n, 2)) (hz : (Int8.ofInt n).toInt32 = iI z) (k : X p l e R s m args below meth c D ad nL Q h (pc + 2) lv (vi z :: st)) : X p l e R s m args below meth c D ad nL Q h pc lv st :=
  fun H locs ls hh hs hl => lv_bipush C.1 C.2.1 hd hz (k H locs ls hh hs hl)
theorem x_sipush (C : Fx p s m args meth c D ad cc nL ret own Ts) {n : Int} {z : Int} (hd : decode cc pc = .ok (.sipush n, 3)) (hz : (Int16.ofInt n).toInt32 = iI z) (k : X p l e R s m args below meth c D ad nL Q h (pc + 3) lv (vi z :: st)) : X p l e R s m args below meth c D ad nL Q h pc lv st :=
  fun H locs ls hh hs hl => lv_sipush C.1 C.2.1 hd hz (k H locs ls hh hs hl)
theorem x_lconst0 (C : Fx p s m args meth c D ad cc nL ret own Ts)  (hd : decode cc pc = .ok (.lconst 0, 1))  (k : X p l e R s m args below meth c D ad nL Q h (pc + 1) lv (vl 0 :: st)) : X p l e R s m args below meth c D ad nL Q h pc lv st :=
  fun H locs ls hh hs hl => lv_lconst C.1 C.2.1 hd rfl (k H locs ls hh hs hl)
theorem x_lconst1 (C : Fx p s m args meth c D ad cc nL ret own Ts)  (hd : decode cc pc = .ok (.lconst 1, 1))  (k : X p l e R s m args below meth c D ad nL Q h (pc + 1) lv (vl 1 :: st)) : X p l e R s m args below meth c D ad nL Q h pc lv st :=
  fun H locs ls hh hs hl => lv_lconst C.1 C.2.1 hd rfl (k H locs ls hh hs hl)
theorem x_ldc (C : Fx p s m args meth c D ad cc nL ret own Ts) {index : Nat} {v : Int32} {z : Int} (hd : decode cc pc = .ok (.ldc index, 2)) (hc : (Cond.constant own index v).before args s = true) (hz : v = iI z) (k : X p l e R s m args below meth c D ad nL Q h (pc + 2) lv (vi z :: st)) : X p l e R s m args below meth c D ad nL Q h pc lv st :=
  fun H locs ls hh hs hl => lv_ldc C.1 C.2.1 C.2.2.2.1 hc hd (hz ▸ k H locs ls hh hs hl)
theorem x_ldc2 (C : Fx p s m args meth c D ad cc nL ret own Ts) {index : Nat} {v : Int64} {z : Int} (hd : decode cc pc = .ok (.ldc2_w index, 3)) (hc : (Cond.constantLong own index v).before args s = true) (hz : v = lI z) (k : X p l e R s m args below meth c D ad nL Q h (pc + 3) lv (vl z :: st)) : X p l e R s m args below meth c D ad nL Q h pc lv st :=
  fun H locs ls hh hs hl => lv_ldc2 C.1 C.2.1 C.2.2.2.1 hc hd (hz ▸ k H locs ls hh hs hl)
theorem x_iload_n (C : Fx p s m args meth c D ad cc nL ret own Ts) {k0 : Fin 4} {i : Nat} {x : Int32} (hd : decode cc pc = .ok (.iload_n k0, 1)) (hi : (k0 : Nat) = i) (hx : lk i lv = some (.int x)) (k : X p l e R s m args below meth c D ad nL Q h (pc + 1) lv (.int x :: st)) : X p l e R s m args below meth c D ad nL Q h pc lv st :=
  fun H locs ls hh hs hl => lv_iload_n C.1 C.2.1 hd hi (lk_at hl hx) (k H locs ls hh hs hl)
theorem x_iload (C : Fx p s m args meth c D ad cc nL ret own Ts) {i : Nat} {x : Int32} (hd : decode cc pc = .ok (.iload i, 2)) (hx : lk i lv = some (.int x)) (k : X p l e R s m args below meth c D ad nL Q h (pc + 2) lv (.int x :: st)) : X p l e R s m args below meth c D ad nL Q h pc lv st :=
  fun H locs ls hh hs hl => lv_iload C.1 C.2.1 hd (lk_at hl hx) (k H locs ls hh hs hl)
theorem x_istore_n (C : Fx p s m args meth c D ad cc nL ret own Ts) {k0 : Fin 4} {i : Nat} {x : Int32} {lv' : List (Nat × Value)} (hd : decode cc pc = .ok (.istore_n k0, 1)) (hi : (k0 : Nat) = i) (hn : i < nL) (hx : (i, Value.int x) :: lv.filter (fun q => !(q.1 == i) && !(q.1 + 1 == i && q.2.category == 2)) = lv') (k : X p l e R s m args below meth c D ad nL Q h (pc + 1) lv' st) : X p l e R s m args below meth c D ad nL Q h pc lv (.int x :: st) :=
  fun H locs ls hh hs hl => lv_istore_n C.1 C.2.1 hd hi hl hn hx (fun ls hl => k H locs ls hh hs hl)
theorem x_istore (C : Fx p s m args meth c D ad cc nL ret own Ts) {i : Nat} {x : Int32} {lv' : List (Nat × Value)} (hd : decode cc pc = .ok (.istore i, 2)) (hn : i < nL) (hx : (i, Value.int x) :: lv.filter (fun q => !(q.1 == i) && !(q.1 + 1 == i && q.2.category == 2)) = lv') (k : X p l e R s m args below meth c D ad nL Q h (pc + 2) lv' st) : X p l e R s m args below meth c D ad nL Q h pc lv (.int x :: st) :=
  fun H locs ls hh hs hl => lv_istore C.1 C.2.1 hd hl hn hx (fun ls hl => k H locs ls hh hs hl)
theorem x_lload_n (C : Fx p s m args meth c D ad cc nL ret own Ts) {k0 : Fin 4} {i : Nat} {x : Int64} (hd : decode cc pc = .ok (.lload_n k0, 1)) (hi : (k0 : Nat) = i) (hx : lk i lv = some (.long x)) (k : X p l e R s m args below meth c D ad nL Q h (pc + 1) lv (.long x :: st)) : X p l e R s m args below meth c D ad nL Q h pc lv st :=
  fun H locs ls hh hs hl => lv_lload_n C.1 C.2.1 hd hi (lk_at hl hx) (k H locs ls hh hs hl)
theorem x_lload (C : Fx p s m args meth c D ad cc nL ret own Ts) {i : Nat} {x : Int64} (hd : decode cc pc = .ok (.lload i, 2)) (hx : lk i lv = some (.long x)) (k : X p l e R s m args below meth c D ad nL Q h (pc + 2) lv (.long x :: st)) : X p l e R s m args below meth c D ad nL Q h pc lv st :=
  fun H locs ls hh hs hl => lv_lload C.1 C.2.1 hd (lk_at hl hx) (k H locs ls hh hs hl)
theorem x_lstore_n (C : Fx p s m args meth c D ad cc nL ret own Ts) {k0 : Fin 4} {i : Nat} {x : Int64} {lv' : List (Nat × Value)} (hd : decode cc pc = .ok (.lstore_n k0, 1)) (hi : (k0 : Nat) = i) (hn : i + 1 < nL) (hx : (i, Value.long x) :: lv.filter (fun q => !(q.1 == i) && (!(q.1 == i + 1) && !(q.1 + 1 == i && q.2.category == 2))) = lv') (k : X p l e R s m args below meth c D ad nL Q h (pc + 1) lv' st) : X p l e R s m args below meth c D ad nL Q h pc lv (.long x :: st) :=
  fun H locs ls hh hs hl => lv_lstore_n C.1 C.2.1 hd hi hl hn hx (fun ls hl => k H locs ls hh hs hl)
theorem x_lstore (C : Fx p s m args meth c D ad cc nL ret own Ts) {i : Nat} {x : Int64} {lv' : List (Nat × Value)} (hd : decode cc pc = .ok (.lstore i, 2)) (hn : i + 1 < nL) (hx : (i, Value.long x) :: lv.filter (fun q => !(q.1 == i) && (!(q.1 == i + 1) && !(q.1 + 1 == i && q.2.category == 2))) = lv') (k : X p l e R s m args below meth c D ad nL Q h (pc + 2) lv' st) : X p l e R s m args below meth c D ad nL Q h pc lv (.long x :: st) :=
  fun H locs ls hh hs hl => lv_lstore C.1 C.2.1 hd hl hn hx (fun ls hl => k H locs ls hh hs hl)
theorem x_aload_n (C : Fx p s m args meth c D ad cc nL ret own Ts) {k0 : Fin 4} {i : Nat} {x : Nat} (hd : decode cc pc = .ok (.aload_n k0, 1)) (hi : (k0 : Nat) = i) (hx : lk i lv = some (.ref x)) (k : X p l e R s m args below meth c D ad nL Q h (pc + 1) lv (.ref x :: st)) : X p l e R s m args below meth c D ad nL Q h pc lv st :=
  fun H locs ls hh hs hl => lv_aload_n C.1 C.2.1 hd hi (lk_at hl hx) (k H locs ls hh hs hl)
theorem x_aload (C : Fx p s m args meth c D ad cc nL ret own Ts) {i : Nat} {x : Nat} (hd : decode cc pc = .ok (.aload i, 2)) (hx : lk i lv = some (.ref x)) (k : X p l e R s m args below meth c D ad nL Q h (pc + 2) lv (.ref x :: st)) : X p l e R s m args below meth c D ad nL Q h pc lv st :=
  fun H locs ls hh hs hl => lv_aload C.1 C.2.1 hd (lk_at hl hx) (k H locs ls hh hs hl)
theorem x_astore_n (C : Fx p s m args meth c D ad cc nL ret own Ts) {k0 : Fin 4} {i : Nat} {x : Nat} {lv' : List (Nat × Value)} (hd : decode cc pc = .ok (.astore_n k0, 1)) (hi : (k0 : Nat) = i) (hn : i < nL) (hx : (i, Value.ref x) :: lv.filter (fun q => !(q.1 == i) && !(q.1 + 1 == i && q.2.category == 2)) = lv') (k : X p l e R s m args below meth c D ad nL Q h (pc + 1) lv' st) : X p l e R s m args below meth c D ad nL Q h pc lv (.ref x :: st) :=
  fun H locs ls hh hs hl => lv_astore_n C.1 C.2.1 hd hi hl hn hx (fun ls hl => k H locs ls hh hs hl)
theorem x_astore (C : Fx p s m args meth c D ad cc nL ret own Ts) {i : Nat} {x : Nat} {lv' : List (Nat × Value)} (hd : decode cc pc = .ok (.astore i, 2)) (hn : i < nL) (hx : (i, Value.ref x) :: lv.filter (fun q => !(q.1 == i) && !(q.1 + 1 == i && q.2.category == 2)) = lv') (k : X p l e R s m args below meth c D ad nL Q h (pc + 2) lv' st) : X p l e R s m args below meth c D ad nL Q h pc lv (.ref x :: st) :=
  fun H locs ls hh hs hl => lv_astore C.1 C.2.1 hd hl hn hx (fun ls hl => k H locs ls hh hs hl)
theorem lk_ix : ∀ {lv : List (Nat × Value)} {i : Nat} {v : Value}, lk i lv = some v → ∃ k : Nat, lv[k]? = some (i, v)
  | [], _, _, h => by cases h
  | q :: r, i, v, h => by
    unfold lk at h
    cases hb : Nat.beq q.1 i with
    | true =>
      rw [hb] at h
      have e1 := Nat.eq_of_beq_eq_true hb
      have e2 : q.2 = v := Option.some.inj h
      exact ⟨0, by rw [← e1, ← e2]; rfl⟩
    | false =>
      rw [hb] at h
      obtain ⟨k, hk⟩ := lk_ix h
      exact ⟨k + 1, hk⟩
theorem x_iinc (C : Fx p s m args meth c D ad cc nL ret own Ts) {i : Nat} {n z : Int} {lv' : List (Nat × Value)} (hd : decode cc pc = .ok (.iinc i n, 3)) (hz : lk i lv = some (vi z)) (hn : i < nL) (hx : (i, vi (z + n)) :: lv.filter (fun q => !(q.1 == i) && !(q.1 + 1 == i && q.2.category == 2)) = lv') (k : X p l e R s m args below meth c D ad nL Q h (pc + 3) lv' st) : X p l e R s m args below meth c D ad nL Q h pc lv st := by
  intro H locs ls hh hs hl
  obtain ⟨kk, hk⟩ := lk_ix hz
  exact lv_iinc C.1 C.2.1 hd hl hk (iI_add z n) hn hx (fun ls hl => k H locs ls hh hs hl)
theorem x_iadd (C : Fx p s m args meth c D ad cc nL ret own Ts) {a b : Int} (hd : decode cc pc = .ok (.iadd, 1)) (k : X p l e R s m args below meth c D ad nL Q h (pc + 1) lv (vi (a + b) :: st)) : X p l e R s m args below meth c D ad nL Q h pc lv (vi b :: vi a :: st) :=
  fun H locs ls hh hs hl => lv_iadd C.1 C.2.1 hd (by rw [iI_add]; exact k H locs ls hh hs hl)
theorem x_isub (C : Fx p s m args meth c D ad cc nL ret own Ts) {a b : Int} (hd : decode cc pc = .ok (.isub, 1)) (k : X p l e R s m args below meth c D ad nL Q h (pc + 1) lv (vi (a - b) :: st)) : X p l e R s m args below meth c D ad nL Q h pc lv (vi b :: vi a :: st) :=
  fun H locs ls hh hs hl => lv_isub C.1 C.2.1 hd (by rw [iI_sub]; exact k H locs ls hh hs hl)
theorem x_imul (C : Fx p s m args meth c D ad cc nL ret own Ts) {a b : Int} (hd : decode cc pc = .ok (.imul, 1)) (k : X p l e R s m args below meth c D ad nL Q h (pc + 1) lv (vi (a * b) :: st)) : X p l e R s m args below meth c D ad nL Q h pc lv (vi b :: vi a :: st) :=
  fun H locs ls hh hs hl => lv_imul C.1 C.2.1 hd (by rw [iI_mul]; exact k H locs ls hh hs hl)
theorem x_iand (C : Fx p s m args meth c D ad cc nL ret own Ts) {x y : Int32} {z : Int} (hd : decode cc pc = .ok (.iand, 1)) (hz : x &&& y = iI z) (k : X p l e R s m args below meth c D ad nL Q h (pc + 1) lv (vi z :: st)) : X p l e R s m args below meth c D ad nL Q h pc lv (.int y :: .int x :: st) :=
  fun H locs ls hh hs hl => lv_iand C.1 C.2.1 hd (by rw [hz]; exact k H locs ls hh hs hl)
theorem x_ior (C : Fx p s m args meth c D ad cc nL ret own Ts) {x y : Int32} {z : Int} (hd : decode cc pc = .ok (.ior, 1)) (hz : x ||| y = iI z) (k : X p l e R s m args below meth c D ad nL Q h (pc + 1) lv (vi z :: st)) : X p l e R s m args below meth c D ad nL Q h pc lv (.int y :: .int x :: st) :=
  fun H locs ls hh hs hl => lv_ior C.1 C.2.1 hd (by rw [hz]; exact k H locs ls hh hs hl)
theorem x_ixor (C : Fx p s m args meth c D ad cc nL ret own Ts) {x y : Int32} {z : Int} (hd : decode cc pc = .ok (.ixor, 1)) (hz : x ^^^ y = iI z) (k : X p l e R s m args below meth c D ad nL Q h (pc + 1) lv (vi z :: st)) : X p l e R s m args below meth c D ad nL Q h pc lv (.int y :: .int x :: st) :=
  fun H locs ls hh hs hl => lv_ixor C.1 C.2.1 hd (by rw [hz]; exact k H locs ls hh hs hl)
theorem x_idiv (C : Fx p s m args meth c D ad cc nL ret own Ts) {a b : Int} {z : Int} (hd : decode cc pc = .ok (.idiv, 1)) (hne : ¬ iI b = 0) (hz : iI a / iI b = iI z) (k : X p l e R s m args below meth c D ad nL Q h (pc + 1) lv (vi z :: st)) : X p l e R s m args below meth c D ad nL Q h pc lv (vi b :: vi a :: st) :=
  fun H locs ls hh hs hl => lv_idiv C.1 C.2.1 hd hne (by rw [hz]; exact k H locs ls hh hs hl)
theorem x_ladd (C : Fx p s m args meth c D ad cc nL ret own Ts) {a b : Int} (hd : decode cc pc = .ok (.ladd, 1)) (k : X p l e R s m args below meth c D ad nL Q h (pc + 1) lv (vl (a + b) :: st)) : X p l e R s m args below meth c D ad nL Q h pc lv (vl b :: vl a :: st) :=
  fun H locs ls hh hs hl => lv_ladd C.1 C.2.1 hd (by rw [lI_add]; exact k H locs ls hh hs hl)
theorem x_lsub (C : Fx p s m args meth c D ad cc nL ret own Ts) {a b : Int} (hd : decode cc pc = .ok (.lsub, 1)) (k : X p l e R s m args below meth c D ad nL Q h (pc + 1) lv (vl (a - b) :: st)) : X p l e R s m args below meth c D ad nL Q h pc lv (vl b :: vl a :: st) :=
  fun H locs ls hh hs hl => lv_lsub C.1 C.2.1 hd (by rw [lI_sub]; exact k H locs ls hh hs hl)
theorem x_lmul (C : Fx p s m args meth c D ad cc nL ret own Ts) {a b : Int} (hd : decode cc pc = .ok (.lmul, 1)) (k : X p l e R s m args below meth c D ad nL Q h (pc + 1) lv (vl (a * b) :: st)) : X p l e R s m args below meth c D ad nL Q h pc lv (vl b :: vl a :: st) :=
  fun H locs ls hh hs hl => lv_lmul C.1 C.2.1 hd (by rw [lI_mul]; exact k H locs ls hh hs hl)
theorem x_land (C : Fx p s m args meth c D ad cc nL ret own Ts) {x y : Int64} {z : Int} (hd : decode cc pc = .ok (.land, 1)) (hz : x &&& y = lI z) (k : X p l e R s m args below meth c D ad nL Q h (pc + 1) lv (vl z :: st)) : X p l e R s m args below meth c D ad nL Q h pc lv (.long y :: .long x :: st) :=
  fun H locs ls hh hs hl => lv_land C.1 C.2.1 hd (by rw [hz]; exact k H locs ls hh hs hl)
theorem x_lor (C : Fx p s m args meth c D ad cc nL ret own Ts) {x y : Int64} {z : Int} (hd : decode cc pc = .ok (.lor, 1)) (hz : x ||| y = lI z) (k : X p l e R s m args below meth c D ad nL Q h (pc + 1) lv (vl z :: st)) : X p l e R s m args below meth c D ad nL Q h pc lv (.long y :: .long x :: st) :=
  fun H locs ls hh hs hl => lv_lor C.1 C.2.1 hd (by rw [hz]; exact k H locs ls hh hs hl)
theorem x_lxor (C : Fx p s m args meth c D ad cc nL ret own Ts) {x y : Int64} {z : Int} (hd : decode cc pc = .ok (.lxor, 1)) (hz : x ^^^ y = lI z) (k : X p l e R s m args below meth c D ad nL Q h (pc + 1) lv (vl z :: st)) : X p l e R s m args below meth c D ad nL Q h pc lv (.long y :: .long x :: st) :=
  fun H locs ls hh hs hl => lv_lxor C.1 C.2.1 hd (by rw [hz]; exact k H locs ls hh hs hl)
theorem x_ldiv (C : Fx p s m args meth c D ad cc nL ret own Ts) {a b : Int} {z : Int} (hd : decode cc pc = .ok (.ldiv, 1)) (hne : ¬ lI b = 0) (hz : lI a / lI b = lI z) (k : X p l e R s m args below meth c D ad nL Q h (pc + 1) lv (vl z :: st)) : X p l e R s m args below meth c D ad nL Q h pc lv (vl b :: vl a :: st) :=
  fun H locs ls hh hs hl => lv_ldiv C.1 C.2.1 hd hne (by rw [hz]; exact k H locs ls hh hs hl)
theorem x_ishl (C : Fx p s m args meth c D ad cc nL ret own Ts) {a n : Int} (hd : decode cc pc = .ok (.ishl, 1)) (hn : 0 ≤ n ∧ n < 32) (k : X p l e R s m args below meth c D ad nL Q h (pc + 1) lv (vi (a * 2 ^ n.toNat) :: st)) : X p l e R s m args below meth c D ad nL Q h pc lv (vi n :: vi a :: st) :=
  fun H locs ls hh hs hl => lv_ishl C.1 C.2.1 hd (by rw [show n = ((n.toNat : Nat) : Int) by omega, iI_shl a n.toNat (by omega)]; exact k H locs ls hh hs hl)
theorem x_ishr (C : Fx p s m args meth c D ad cc nL ret own Ts) {a n : Int} (hd : decode cc pc = .ok (.ishr, 1)) (hn : 0 ≤ n ∧ n < 32) (ha : -2147483648 ≤ a ∧ a < 2147483648) (k : X p l e R s m args below meth c D ad nL Q h (pc + 1) lv (vi (a / 2 ^ n.toNat) :: st)) : X p l e R s m args below meth c D ad nL Q h pc lv (vi n :: vi a :: st) :=
  fun H locs ls hh hs hl => lv_ishr C.1 C.2.1 hd (by rw [show n = ((n.toNat : Nat) : Int) by omega, iI_shr ha n.toNat (by omega)]; exact k H locs ls hh hs hl)
theorem x_lshl (C : Fx p s m args meth c D ad cc nL ret own Ts) {a n : Int} (hd : decode cc pc = .ok (.lshl, 1)) (hn : 0 ≤ n ∧ n < 64) (k : X p l e R s m args below meth c D ad nL Q h (pc + 1) lv (vl (a * 2 ^ n.toNat) :: st)) : X p l e R s m args below meth c D ad nL Q h pc lv (vi n :: vl a :: st) :=
  fun H locs ls hh hs hl => lv_lshl C.1 C.2.1 hd (by rw [show n = ((n.toNat : Nat) : Int) by omega]; exact lI_shl a n.toNat (by omega)) (k H locs ls hh hs hl)
theorem x_lshr (C : Fx p s m args meth c D ad cc nL ret own Ts) {a n : Int} (hd : decode cc pc = .ok (.lshr, 1)) (hn : 0 ≤ n ∧ n < 64) (ha : -9223372036854775808 ≤ a ∧ a < 9223372036854775808) (k : X p l e R s m args below meth c D ad nL Q h (pc + 1) lv (vl (a / 2 ^ n.toNat) :: st)) : X p l e R s m args below meth c D ad nL Q h pc lv (vi n :: vl a :: st) :=
  fun H locs ls hh hs hl => lv_lshr C.1 C.2.1 hd (by rw [show n = ((n.toNat : Nat) : Int) by omega]; exact lI_shr ha n.toNat (by omega)) (k H locs ls hh hs hl)
theorem x_i2l (C : Fx p s m args meth c D ad cc nL ret own Ts) {a : Int} (hd : decode cc pc = .ok (.i2l, 1)) (ha : -2147483648 ≤ a ∧ a < 2147483648) (k : X p l e R s m args below meth c D ad nL Q h (pc + 1) lv (vl a :: st)) : X p l e R s m args below meth c D ad nL Q h pc lv (vi a :: st) :=
  fun H locs ls hh hs hl => lv_i2l C.1 C.2.1 hd (iI_l ha) (k H locs ls hh hs hl)
theorem x_l2i (C : Fx p s m args meth c D ad cc nL ret own Ts) {a : Int} (hd : decode cc pc = .ok (.l2i, 1)) (k : X p l e R s m args below meth c D ad nL Q h (pc + 1) lv (vi a :: st)) : X p l e R s m args below meth c D ad nL Q h pc lv (vl a :: st) :=
  fun H locs ls hh hs hl => lv_l2i C.1 C.2.1 hd (lI_i a) (k H locs ls hh hs hl)
theorem x_dup (C : Fx p s m args meth c D ad cc nL ret own Ts) {va : Value} (hd : decode cc pc = .ok (.dup, 1)) (hv : va.category = 1) (k : X p l e R s m args below meth c D ad nL Q h (pc + 1) lv (va :: va :: st)) : X p l e R s m args below meth c D ad nL Q h pc lv (va :: st) :=
  fun H locs ls hh hs hl => lv_dup C.1 C.2.1 hd hv (k H locs ls hh hs hl)
theorem x_pop (C : Fx p s m args meth c D ad cc nL ret own Ts) {va : Value} (hd : decode cc pc = .ok (.pop, 1)) (hv : va.category = 1) (k : X p l e R s m args below meth c D ad nL Q h (pc + 1) lv st) : X p l e R s m args below meth c D ad nL Q h pc lv (va :: st) :=
  fun H locs ls hh hs hl => lv_pop C.1 C.2.1 hd hv (k H locs ls hh hs hl)
theorem x_dup2 (C : Fx p s m args meth c D ad cc nL ret own Ts) {va vb : Value} (hd : decode cc pc = .ok (.dup2, 1)) (hv : va.category = 1) (hb : vb.category = 1) (k : X p l e R s m args below meth c D ad nL Q h (pc + 1) lv (va :: vb :: va :: vb :: st)) : X p l e R s m args below meth c D ad nL Q h pc lv (va :: vb :: st) :=
  fun H locs ls hh hs hl => lv_dup2_11 C.1 C.2.1 hd hv hb (k H locs ls hh hs hl)
theorem x_icmp_lt (C : Fx p s m args meth c D ad cc nL ret own Ts) {a b : Int} {off : Int} {tgt : Nat} (hd : decode cc pc = .ok (.if_icmp .lt off, 3)) (ht : (pc : Int) + off = (tgt : Int)) (ha : -2147483648 ≤ a ∧ a < 2147483648) (hb : -2147483648 ≤ b ∧ b < 2147483648) (k1 : a < b → X p l e R s m args below meth c D ad nL Q h tgt lv st) (k2 : ¬ (a < b) → X p l e R s m args below meth c D ad nL Q h (pc + 3) lv st) : X p l e R s m args below meth c D ad nL Q h pc lv (vi b :: vi a :: st) :=
  fun H locs ls hh hs hl => lv_icmp_lt C.1 C.2.1 hd ht (fun q => k1 ((iI_lt ha hb).mp q) H locs ls hh hs hl) (fun q => k2 (fun z => q ((iI_lt ha hb).mpr z)) H locs ls hh hs hl)
theorem x_if_lt (C : Fx p s m args meth c D ad cc nL ret own Ts) {a : Int} {off : Int} {tgt : Nat} (hd : decode cc pc = .ok (.ifCond .lt off, 3)) (ht : (pc : Int) + off = (tgt : Int)) (ha : -2147483648 ≤ a ∧ a < 2147483648) (k1 : a < 0 → X p l e R s m args below meth c D ad nL Q h tgt lv st) (k2 : ¬ (a < 0) → X p l e R s m args below meth c D ad nL Q h (pc + 3) lv st) : X p l e R s m args below meth c D ad nL Q h pc lv (vi a :: st) :=
  fun H locs ls hh hs hl => lv_if_lt C.1 C.2.1 hd ht (fun q => k1 ((iI_lt ha i0R).mp q) H locs ls hh hs hl) (fun q => k2 (fun z => q ((iI_lt ha i0R).mpr z)) H locs ls hh hs hl)
theorem x_icmp_le (C : Fx p s m args meth c D ad cc nL ret own Ts) {a b : Int} {off : Int} {tgt : Nat} (hd : decode cc pc = .ok (.if_icmp .le off, 3)) (ht : (pc : Int) + off = (tgt : Int)) (ha : -2147483648 ≤ a ∧ a < 2147483648) (hb : -2147483648 ≤ b ∧ b < 2147483648) (k1 : a ≤ b → X p l e R s m args below meth c D ad nL Q h tgt lv st) (k2 : ¬ (a ≤ b) → X p l e R s m args below meth c D ad nL Q h (pc + 3) lv st) : X p l e R s m args below meth c D ad nL Q h pc lv (vi b :: vi a :: st) :=
  fun H locs ls hh hs hl => lv_icmp_le C.1 C.2.1 hd ht (fun q => k1 ((iI_le ha hb).mp q) H locs ls hh hs hl) (fun q => k2 (fun z => q ((iI_le ha hb).mpr z)) H locs ls hh hs hl)
theorem x_if_le (C : Fx p s m args meth c D ad cc nL ret own Ts) {a : Int} {off : Int} {tgt : Nat} (hd : decode cc pc = .ok (.ifCond .le off, 3)) (ht : (pc : Int) + off = (tgt : Int)) (ha : -2147483648 ≤ a ∧ a < 2147483648) (k1 : a ≤ 0 → X p l e R s m args below meth c D ad nL Q h tgt lv st) (k2 : ¬ (a ≤ 0) → X p l e R s m args below meth c D ad nL Q h (pc + 3) lv st) : X p l e R s m args below meth c D ad nL Q h pc lv (vi a :: st) :=
  fun H locs ls hh hs hl => lv_if_le C.1 C.2.1 hd ht (fun q => k1 ((iI_le ha i0R).mp q) H locs ls hh hs hl) (fun q => k2 (fun z => q ((iI_le ha i0R).mpr z)) H locs ls hh hs hl)
theorem x_icmp_gt (C : Fx p s m args meth c D ad cc nL ret own Ts) {a b : Int} {off : Int} {tgt : Nat} (hd : decode cc pc = .ok (.if_icmp .gt off, 3)) (ht : (pc : Int) + off = (tgt : Int)) (ha : -2147483648 ≤ a ∧ a < 2147483648) (hb : -2147483648 ≤ b ∧ b < 2147483648) (k1 : b < a → X p l e R s m args below meth c D ad nL Q h tgt lv st) (k2 : ¬ (b < a) → X p l e R s m args below meth c D ad nL Q h (pc + 3) lv st) : X p l e R s m args below meth c D ad nL Q h pc lv (vi b :: vi a :: st) :=
  fun H locs ls hh hs hl => lv_icmp_gt C.1 C.2.1 hd ht (fun q => k1 ((iI_lt hb ha).mp q) H locs ls hh hs hl) (fun q => k2 (fun z => q ((iI_lt hb ha).mpr z)) H locs ls hh hs hl)
theorem x_if_gt (C : Fx p s m args meth c D ad cc nL ret own Ts) {a : Int} {off : Int} {tgt : Nat} (hd : decode cc pc = .ok (.ifCond .gt off, 3)) (ht : (pc : Int) + off = (tgt : Int)) (ha : -2147483648 ≤ a ∧ a < 2147483648) (k1 : 0 < a → X p l e R s m args below meth c D ad nL Q h tgt lv st) (k2 : ¬ (0 < a) → X p l e R s m args below meth c D ad nL Q h (pc + 3) lv st) : X p l e R s m args below meth c D ad nL Q h pc lv (vi a :: st) :=
  fun H locs ls hh hs hl => lv_if_gt C.1 C.2.1 hd ht (fun q => k1 ((iI_lt i0R ha).mp q) H locs ls hh hs hl) (fun q => k2 (fun z => q ((iI_lt i0R ha).mpr z)) H locs ls hh hs hl)
theorem x_icmp_ge (C : Fx p s m args meth c D ad cc nL ret own Ts) {a b : Int} {off : Int} {tgt : Nat} (hd : decode cc pc = .ok (.if_icmp .ge off, 3)) (ht : (pc : Int) + off = (tgt : Int)) (ha : -2147483648 ≤ a ∧ a < 2147483648) (hb : -2147483648 ≤ b ∧ b < 2147483648) (k1 : b ≤ a → X p l e R s m args below meth c D ad nL Q h tgt lv st) (k2 : ¬ (b ≤ a) → X p l e R s m args below meth c D ad nL Q h (pc + 3) lv st) : X p l e R s m args below meth c D ad nL Q h pc lv (vi b :: vi a :: st) :=
  fun H locs ls hh hs hl => lv_icmp_ge C.1 C.2.1 hd ht (fun q => k1 ((iI_le hb ha).mp q) H locs ls hh hs hl) (fun q => k2 (fun z => q ((iI_le hb ha).mpr z)) H locs ls hh hs hl)
theorem x_if_ge (C : Fx p s m args meth c D ad cc nL ret own Ts) {a : Int} {off : Int} {tgt : Nat} (hd : decode cc pc = .ok (.ifCond .ge off, 3)) (ht : (pc : Int) + off = (tgt : Int)) (ha : -2147483648 ≤ a ∧ a < 2147483648) (k1 : 0 ≤ a → X p l e R s m args below meth c D ad nL Q h tgt lv st) (k2 : ¬ (0 ≤ a) → X p l e R s m args below meth c D ad nL Q h (pc + 3) lv st) : X p l e R s m args below meth c D ad nL Q h pc lv (vi a :: st) :=
  fun H locs ls hh hs hl => lv_if_ge C.1 C.2.1 hd ht (fun q => k1 ((iI_le i0R ha).mp q) H locs ls hh hs hl) (fun q => k2 (fun z => q ((iI_le i0R ha).mpr z)) H locs ls hh hs hl)
theorem x_icmp_eq (C : Fx p s m args meth c D ad cc nL ret own Ts) {a b : Int} {off : Int} {tgt : Nat} (hd : decode cc pc = .ok (.if_icmp .eq off, 3)) (ht : (pc : Int) + off = (tgt : Int)) (ha : -2147483648 ≤ a ∧ a < 2147483648) (hb : -2147483648 ≤ b ∧ b < 2147483648) (k1 : a = b → X p l e R s m args below meth c D ad nL Q h tgt lv st) (k2 : ¬ (a = b) → X p l e R s m args below meth c D ad nL Q h (pc + 3) lv st) : X p l e R s m args below meth c D ad nL Q h pc lv (vi b :: vi a :: st) :=
  fun H locs ls hh hs hl => lv_icmp_eq C.1 C.2.1 hd ht (fun q => k1 ((iI_eq ha hb).mp q) H locs ls hh hs hl) (fun q => k2 (fun z => q ((iI_eq ha hb).mpr z)) H locs ls hh hs hl)
theorem x_if_eq (C : Fx p s m args meth c D ad cc nL ret own Ts) {a : Int} {off : Int} {tgt : Nat} (hd : decode cc pc = .ok (.ifCond .eq off, 3)) (ht : (pc : Int) + off = (tgt : Int)) (ha : -2147483648 ≤ a ∧ a < 2147483648) (k1 : a = 0 → X p l e R s m args below meth c D ad nL Q h tgt lv st) (k2 : ¬ (a = 0) → X p l e R s m args below meth c D ad nL Q h (pc + 3) lv st) : X p l e R s m args below meth c D ad nL Q h pc lv (vi a :: st) :=
  fun H locs ls hh hs hl => lv_if_eq C.1 C.2.1 hd ht (fun q => k1 ((iI_eq ha i0R).mp q) H locs ls hh hs hl) (fun q => k2 (fun z => q ((iI_eq ha i0R).mpr z)) H locs ls hh hs hl)
theorem x_icmp_ne (C : Fx p s m args meth c D ad cc nL ret own Ts) {a b : Int} {off : Int} {tgt : Nat} (hd : decode cc pc = .ok (.if_icmp .ne off, 3)) (ht : (pc : Int) + off = (tgt : Int)) (ha : -2147483648 ≤ a ∧ a < 2147483648) (hb : -2147483648 ≤ b ∧ b < 2147483648) (k1 : a ≠ b → X p l e R s m args below meth c D ad nL Q h tgt lv st) (k2 : a = b → X p l e R s m args below meth c D ad nL Q h (pc + 3) lv st) : X p l e R s m args below meth c D ad nL Q h pc lv (vi b :: vi a :: st) :=
  fun H locs ls hh hs hl => lv_icmp_ne C.1 C.2.1 hd ht (fun q => k1 ((not_congr (iI_eq ha hb)).mp q) H locs ls hh hs hl) (fun q => k2 ((iI_eq ha hb).mp q) H locs ls hh hs hl)
theorem x_if_ne (C : Fx p s m args meth c D ad cc nL ret own Ts) {a : Int} {off : Int} {tgt : Nat} (hd : decode cc pc = .ok (.ifCond .ne off, 3)) (ht : (pc : Int) + off = (tgt : Int)) (ha : -2147483648 ≤ a ∧ a < 2147483648) (k1 : a ≠ 0 → X p l e R s m args below meth c D ad nL Q h tgt lv st) (k2 : a = 0 → X p l e R s m args below meth c D ad nL Q h (pc + 3) lv st) : X p l e R s m args below meth c D ad nL Q h pc lv (vi a :: st) :=
  fun H locs ls hh hs hl => lv_if_ne C.1 C.2.1 hd ht (fun q => k1 ((not_congr (iI_eq ha i0R)).mp q) H locs ls hh hs hl) (fun q => k2 ((iI_eq ha i0R).mp q) H locs ls hh hs hl)
theorem x_goto (C : Fx p s m args meth c D ad cc nL ret own Ts) {off : Int} {tgt : Nat} (hd : decode cc pc = .ok (.goto off, 3)) (ht : (pc : Int) + off = (tgt : Int)) (k : X p l e R s m args below meth c D ad nL Q h tgt lv st) : X p l e R s m args below meth c D ad nL Q h pc lv st :=
  fun H locs ls hh hs hl => lv_goto C.1 C.2.1 hd ht (k H locs ls hh hs hl)
theorem lg_cmpI {a b : Int} (ha : -9223372036854775808 ≤ a ∧ a < 9223372036854775808) (hb : -9223372036854775808 ≤ b ∧ b < 9223372036854775808) : lg_cmp (lI a) (lI b) = iI (if b < a then 1 else if a = b then 0 else -1) := by
  unfold lg_cmp
  by_cases h1 : b < a
  · simp [(lI_lt hb ha).mpr h1, h1]; rfl
  · by_cases h2 : a = b
    · subst h2; simp; rfl
    · have h3 : ¬ lI b < lI a := fun q => h1 ((lI_lt hb ha).mp q)
      have h4 : ¬ lI a = lI b := fun q => h2 ((lI_eq ha hb).mp q)
      simp [h1, h2, h3, h4]; rfl
theorem x_lcmp (C : Fx p s m args meth c D ad cc nL ret own Ts) {a b : Int} (hd : decode cc pc = .ok (.lcmp, 1)) (ha : -9223372036854775808 ≤ a ∧ a < 9223372036854775808) (hb : -9223372036854775808 ≤ b ∧ b < 9223372036854775808) (k : X p l e R s m args below meth c D ad nL Q h (pc + 1) lv (vi (if b < a then 1 else if a = b then 0 else -1) :: st)) : X p l e R s m args below meth c D ad nL Q h pc lv (vl b :: vl a :: st) :=
  fun H locs ls hh hs hl => W.lcmp C.1 C.2.1 hd (by rw [lg_cmpI ha hb]; exact k H locs ls hh hs hl)
theorem x_lif_lt (C : Fx p s m args meth c D ad cc nL ret own Ts) {a b : Int} {off : Int} {tgt : Nat} (hd : decode cc pc = .ok (.lcmp, 1)) (hd2 : decode cc (pc + 1) = .ok (.ifCond .lt off, 3)) (ht : ((pc + 1 : Nat) : Int) + off = (tgt : Int)) (ha : -9223372036854775808 ≤ a ∧ a < 9223372036854775808) (hb : -9223372036854775808 ≤ b ∧ b < 9223372036854775808) (k1 : a < b → X p l e R s m args below meth c D ad nL Q h tgt lv st) (k2 : ¬ (a < b) → X p l e R s m args below meth c D ad nL Q h (pc + 1 + 3) lv st) : X p l e R s m args below meth c D ad nL Q h pc lv (vl b :: vl a :: st) :=
  x_lcmp C hd ha hb (x_if_lt C hd2 ht (by split <;> first | omega | (split <;> omega)) (fun q => k1 (by split at q <;> first | omega | (split at q <;> omega))) (fun q => k2 (by split at q <;> first | omega | (split at q <;> omega))))
theorem x_lif_ge (C : Fx p s m args meth c D ad cc nL ret own Ts) {a b : Int} {off : Int} {tgt : Nat} (hd : decode cc pc = .ok (.lcmp, 1)) (hd2 : decode cc (pc + 1) = .ok (.ifCond .ge off, 3)) (ht : ((pc + 1 : Nat) : Int) + off = (tgt : Int)) (ha : -9223372036854775808 ≤ a ∧ a < 9223372036854775808) (hb : -9223372036854775808 ≤ b ∧ b < 9223372036854775808) (k1 : b ≤ a → X p l e R s m args below meth c D ad nL Q h tgt lv st) (k2 : ¬ (b ≤ a) → X p l e R s m args below meth c D ad nL Q h (pc + 1 + 3) lv st) : X p l e R s m args below meth c D ad nL Q h pc lv (vl b :: vl a :: st) :=
  x_lcmp C hd ha hb (x_if_ge C hd2 ht (by split <;> first | omega | (split <;> omega)) (fun q => k1 (by split at q <;> first | omega | (split at q <;> omega))) (fun q => k2 (by split at q <;> first | omega | (split at q <;> omega))))
theorem x_lif_gt (C : Fx p s m args meth c D ad cc nL ret own Ts) {a b : Int} {off : Int} {tgt : Nat} (hd : decode cc pc = .ok (.lcmp, 1)) (hd2 : decode cc (pc + 1) = .ok (.ifCond .gt off, 3)) (ht : ((pc + 1 : Nat) : Int) + off = (tgt : Int)) (ha : -9223372036854775808 ≤ a ∧ a < 9223372036854775808) (hb : -9223372036854775808 ≤ b ∧ b < 9223372036854775808) (k1 : b < a → X p l e R s m args below meth c D ad nL Q h tgt lv st) (k2 : ¬ (b < a) → X p l e R s m args below meth c D ad nL Q h (pc + 1 + 3) lv st) : X p l e R s m args below meth c D ad nL Q h pc lv (vl b :: vl a :: st) :=
  x_lcmp C hd ha hb (x_if_gt C hd2 ht (by split <;> first | omega | (split <;> omega)) (fun q => k1 (by split at q <;> first | omega | (split at q <;> omega))) (fun q => k2 (by split at q <;> first | omega | (split at q <;> omega))))
theorem x_lif_le (C : Fx p s m args meth c D ad cc nL ret own Ts) {a b : Int} {off : Int} {tgt : Nat} (hd : decode cc pc = .ok (.lcmp, 1)) (hd2 : decode cc (pc + 1) = .ok (.ifCond .le off, 3)) (ht : ((pc + 1 : Nat) : Int) + off = (tgt : Int)) (ha : -9223372036854775808 ≤ a ∧ a < 9223372036854775808) (hb : -9223372036854775808 ≤ b ∧ b < 9223372036854775808) (k1 : a ≤ b → X p l e R s m args below meth c D ad nL Q h tgt lv st) (k2 : ¬ (a ≤ b) → X p l e R s m args below meth c D ad nL Q h (pc + 1 + 3) lv st) : X p l e R s m args below meth c D ad nL Q h pc lv (vl b :: vl a :: st) :=
  x_lcmp C hd ha hb (x_if_le C hd2 ht (by split <;> first | omega | (split <;> omega)) (fun q => k1 (by split at q <;> first | omega | (split at q <;> omega))) (fun q => k2 (by split at q <;> first | omega | (split at q <;> omega))))
theorem x_lif_eq (C : Fx p s m args meth c D ad cc nL ret own Ts) {a b : Int} {off : Int} {tgt : Nat} (hd : decode cc pc = .ok (.lcmp, 1)) (hd2 : decode cc (pc + 1) = .ok (.ifCond .eq off, 3)) (ht : ((pc + 1 : Nat) : Int) + off = (tgt : Int)) (ha : -9223372036854775808 ≤ a ∧ a < 9223372036854775808) (hb : -9223372036854775808 ≤ b ∧ b < 9223372036854775808) (k1 : a = b → X p l e R s m args below meth c D ad nL Q h tgt lv st) (k2 : ¬ (a = b) → X p l e R s m args below meth c D ad nL Q h (pc + 1 + 3) lv st) : X p l e R s m args below meth c D ad nL Q h pc lv (vl b :: vl a :: st) :=
  x_lcmp C hd ha hb (x_if_eq C hd2 ht (by split <;> first | omega | (split <;> omega)) (fun q => k1 (by split at q <;> first | omega | (split at q <;> omega))) (fun q => k2 (by split at q <;> first | omega | (split at q <;> omega))))
theorem x_lif_ne (C : Fx p s m args meth c D ad cc nL ret own Ts) {a b : Int} {off : Int} {tgt : Nat} (hd : decode cc pc = .ok (.lcmp, 1)) (hd2 : decode cc (pc + 1) = .ok (.ifCond .ne off, 3)) (ht : ((pc + 1 : Nat) : Int) + off = (tgt : Int)) (ha : -9223372036854775808 ≤ a ∧ a < 9223372036854775808) (hb : -9223372036854775808 ≤ b ∧ b < 9223372036854775808) (k1 : a ≠ b → X p l e R s m args below meth c D ad nL Q h tgt lv st) (k2 : a = b → X p l e R s m args below meth c D ad nL Q h (pc + 1 + 3) lv st) : X p l e R s m args below meth c D ad nL Q h pc lv (vl b :: vl a :: st) :=
  x_lcmp C hd ha hb (x_if_ne C hd2 ht (by split <;> first | omega | (split <;> omega)) (fun q => k1 (by split at q <;> first | omega | (split at q <;> omega))) (fun q => k2 (by split at q <;> first | omega | (split at q <;> omega))))
theorem x_tableOut (C : Fx p s m args meth c D ad cc nL ret own Ts) {dflt lo hi : Int} {offs : Array Int} {len : Nat} {a : Int} {tgt : Nat} (hd : decode cc pc = .ok (.tableswitch dflt lo hi offs, len)) (ha : -2147483648 ≤ a ∧ a < 2147483648) (hq : a < lo ∨ hi < a) (ht : (pc : Int) + dflt = (tgt : Int)) (k : X p l e R s m args below meth c D ad nL Q h tgt lv st) : X p l e R s m args below meth c D ad nL Q h pc lv (vi a :: st) :=
  fun H locs ls hh hs hl => lv_tableOut C.1 C.2.1 hd (by rw [iI_t ha]; exact hq) ht (k H locs ls hh hs hl)
theorem x_tableIn (C : Fx p s m args meth c D ad cc nL ret own Ts) {dflt lo hi : Int} {offs : Array Int} {len : Nat} {a off : Int} {tgt : Nat} (hd : decode cc pc = .ok (.tableswitch dflt lo hi offs, len)) (ha : -2147483648 ≤ a ∧ a < 2147483648) (h1 : ¬ a < lo) (h2 : ¬ hi < a) (ho : offs[(a - lo).toNat]? = some off) (ht : (pc : Int) + off = (tgt : Int)) (k : X p l e R s m args below meth c D ad nL Q h tgt lv st) : X p l e R s m args below meth c D ad nL Q h pc lv (vi a :: st) :=
  fun H locs ls hh hs hl => lv_tableIn C.1 C.2.1 hd (by rw [iI_t ha]; exact h1) (by rw [iI_t ha]; exact h2) (by rw [iI_t ha]; exact ho) ht (k H locs ls hh hs hl)
theorem x_get (C : Fx p s m args meth c D ad cc nL ret own Ts) {Cn : String} {T : u_T} {N ci index n : Nat} {fs : List Value} {v : Value} (kf : Nat) (hd : decode cc pc = .ok (.getfield index, 3)) (hin : ∀ w ∈ u_ws Cn T N, w ∈ Ts) (hlink : Cond.fieldLink own index (T kf).1 (T kf).2.1 (T kf).2.2.1 ∈ Ts) (hc : vwCl[ci]? = some (Cn, T, N)) (hk : kf < N) (he : h n = some (.inr (ci, fs))) (hv : fs[kf]? = some v) (k : X p l e R s m args below meth c D ad nL Q h (pc + 3) lv (v :: st)) : X p l e R s m args below meth c D ad nL Q h pc lv (.ref (ad n) :: st) :=
  fun H locs ls hh hs hl => va_get (D := D) (cl := vwCl) (ws := [(ad n, .inr (ci, fs))]) C.1 C.2.1 C.2.2.2.2.1 hin C.2.2.2.1 C.2.2.2.2.2.2.2.1 (fun j q hq => by
    have hj : j = 0 := by have := (List.getElem?_eq_some_iff.mp hq).1; simp at this; exact this
    subst hj; cases hq; exact (hh n _ he).2) 0 rfl hc kf hk (C.2.2.2.2.1 _ hlink) (fun _ z => z) hv hd (k H locs ls hh hs hl)
theorem x_put (C : Fx p s m args meth c D ad cc nL ret own Ts) {Cn : String} {T : u_T} {N ci index n : Nat} {fs : List Value} {v : Value} {ty : FieldType} (kf : Nat) (hd : decode cc pc = .ok (.putfield index, 3)) (hin : ∀ w ∈ u_ws Cn T N, w ∈ Ts) (hlink : Cond.fieldLink own index (T kf).1 (T kf).2.1 (T kf).2.2.1 ∈ Ts) (hc : vwCl[ci]? = some (Cn, T, N)) (hk : kf < N) (ty0 : Nat → FieldType) (hty : ∀ k, k < N → parseFieldDescriptor (T k).2.2.1 = some (ty0 k)) (hnm : ∀ a, a < N → ∀ b, b < N → a ≠ b → (T a).2.1 ≠ (T b).2.1) (hfin : (T kf).2.2.2 = false) (hdt : parseFieldDescriptor (T kf).2.2.1 = some ty) (hn : narrow ty v = v) (hfit : fits ty v = true) (hlen : kf < fs.length) (he : h n = some (.inr (ci, fs))) (k : X p l e R s m args below meth c D ad nL Q (hset h n (.inr (ci, fs.set kf v))) (pc + 3) lv st) : X p l e R s m args below meth c D ad nL Q h pc lv (v :: .ref (ad n) :: st) := by
  intro H locs ls hh hs hl
  obtain ⟨hx, hb, -, hown, hts, -, -, hK, hi⟩ := C
  have hap := va_apart (own := own) hts hin ty0 hty hnm hK hc
  have hn0 := hh n _ he
  obtain ⟨r, h1, cell, q1, q2, q3, q4⟩ := hn0.2
  have hr : r = (Cn, T, N) := Option.some.inj (h1.symm.trans hc)
  subst hr
  obtain ⟨hS, hfc, kC, hkC, hkind⟩ := hK.1 ci _ hc
  obtain ⟨cf, kff, fi, f, hif, hsl⟩ := hS kf hk
  have hlay := hts _ (hin _ (u_in_lay hk))
  unfold u_lay at hlay
  rw [if_neg (by rw [hfin]; decide)] at hlay
  have hst := (u_facts hfc hkC (u_lays hts hin hk) hif).1
  have h6 := u_store hfc hkC hkind hlay hif hdt hn hfit
  refine W.putK hx hb (f := f) ⟨hown, hts _ hlink, ⟨_, _, _, hif⟩, hst⟩ (by rw [q2]; exact h6) q1 q3 (by rw [hsl]; exact k2_hasslot (q4 kf hk)) rfl rfl hd fun H' e1 e2 e3 => ?_
  rw [hsl] at e1 ⊢
  exact k H' _ ls (hh.set hi he ⟨_, hc, t_OB.to (V := updV (vp_V fs) kf v) ⟨_, e1, q2, q3, t_set q4 hap hk v⟩ (fun j _ => vp_updV_set hlen v j)⟩ e3) (hs.put e2 e3 ⟨n, hn0.1, rfl⟩) hl
theorem x_iald (C : Fx p s m args meth c D ad cc nL ret own Ts) {n N : Nat} {f : Nat → Int} {z : Int} (hd : decode cc pc = .ok (.iaload, 1)) (he : h n = some (.inl (D.1 10, N, .inl (fun j => iI (f j))))) (hz : 0 ≤ z ∧ z < N) (hN : N ≤ 2147483647) (k : X p l e R s m args below meth c D ad nL Q h (pc + 1) lv (vi (f z.toNat) :: st)) : X p l e R s m args below meth c D ad nL Q h pc lv (vi z :: .ref (ad n) :: st) :=
  fun H locs ls hh hs hl => va_iald (D := D) (cl := vwCl) (tys := tysL D) (ws := [(ad n, .inl (D.1 10, N, .inl (fun j => iI (f j))))]) C.1 C.2.1 C.2.2.2.2.2.2.2.1 (fun j q hq => by
    have hj : j = 0 := by have := (List.getElem?_eq_some_iff.mp hq).1; simp at this; exact this
    subst hj; cases hq; exact (hh n _ he).2) 0 0 rfl rfl (iI_in hz hN) hd (by rw [iI_cl ⟨hz.1, by omega⟩]; exact k H locs ls hh hs hl)
theorem x_lald (C : Fx p s m args meth c D ad cc nL ret own Ts) {n N : Nat} {f : Nat → Int} {z : Int} (hd : decode cc pc = .ok (.laload, 1)) (he : h n = some (.inl (D.1 11, N, .inr (.inl (fun j => lI (f j)))))) (hz : 0 ≤ z ∧ z < N) (hN : N ≤ 2147483647) (k : X p l e R s m args below meth c D ad nL Q h (pc + 1) lv (vl (f z.toNat) :: st)) : X p l e R s m args below meth c D ad nL Q h pc lv (vi z :: .ref (ad n) :: st) :=
  fun H locs ls hh hs hl => va_lald (D := D) (cl := vwCl) (tys := tysL D) (ws := [(ad n, .inl (D.1 11, N, .inr (.inl (fun j => lI (f j)))))]) C.1 C.2.1 C.2.2.2.2.2.2.2.1 (fun j q hq => by
    have hj : j = 0 := by have := (List.getElem?_eq_some_iff.mp hq).1; simp at this; exact this
    subst hj; cases hq; exact (hh n _ he).2) 0 1 rfl rfl (iI_in hz hN) hd (by rw [iI_cl ⟨hz.1, by omega⟩]; exact k H locs ls hh hs hl)
theorem x_zald (C : Fx p s m args meth c D ad cc nL ret own Ts) {n N : Nat} {f : Nat → Int} {z : Int} (hd : decode cc pc = .ok (.baload, 1)) (he : h n = some (.inl (D.1 12, N, .inl (fun j => iI (f j))))) (hz : 0 ≤ z ∧ z < N) (hN : N ≤ 2147483647) (k : X p l e R s m args below meth c D ad nL Q h (pc + 1) lv (vi (f z.toNat) :: st)) : X p l e R s m args below meth c D ad nL Q h pc lv (vi z :: .ref (ad n) :: st) :=
  fun H locs ls hh hs hl => va_zald (D := D) (cl := vwCl) (tys := tysL D) (ws := [(ad n, .inl (D.1 12, N, .inl (fun j => iI (f j))))]) C.1 C.2.1 C.2.2.2.2.2.2.2.1 (fun j q hq => by
    have hj : j = 0 := by have := (List.getElem?_eq_some_iff.mp hq).1; simp at this; exact this
    subst hj; cases hq; exact (hh n _ he).2) 0 2 rfl rfl (iI_in hz hN) hd (by rw [iI_cl ⟨hz.1, by omega⟩]; exact k H locs ls hh hs hl)
theorem x_aald (C : Fx p s m args meth c D ad cc nL ret own Ts) (ti : Nat) {n N : Nat} {Cn : String} {f : Nat → Option Nat} {z : Int} {b : Nat} (hd : decode cc pc = .ok (.aaload, 1)) (he : h n = some (.inl (D.1 (10 + ti), N, .inr (.inr (.inr (.inr f)))))) (ht : (tysL D)[ti]? = some (D.1 (10 + ti), .object Cn)) (hz : 0 ≤ z ∧ z < N) (hN : N ≤ 2147483647) (hb : f z.toNat = some b) (k : X p l e R s m args below meth c D ad nL Q h (pc + 1) lv (.ref b :: st)) : X p l e R s m args below meth c D ad nL Q h pc lv (vi z :: .ref (ad n) :: st) :=
  fun H locs ls hh hs hl => va_aldq (D := D) (cl := vwCl) (tys := tysL D) (ws := [(ad n, .inl (D.1 (10 + ti), N, .inr (.inr (.inr (.inr f)))))]) C.1 C.2.1 C.2.2.2.2.2.2.2.1 (fun j q hq => by
    have hj : j = 0 := by have := (List.getElem?_eq_some_iff.mp hq).1; simp at this; exact this
    subst hj; cases hq; exact (hh n _ he).2) 0 ti rfl ht (iI_in hz hN) hd (by rw [iI_cl ⟨hz.1, by omega⟩, hb]; exact k H locs ls hh hs hl)
theorem x_alen (C : Fx p s m args meth c D ad cc nL ret own Ts) (ti : Nat) {n N : Nat} {ty : FieldType} {x : (Nat → Int32) ⊕ (Nat → Int64) ⊕ (Nat → UInt32) ⊕ (Nat → UInt64) ⊕ (Nat → Option Nat)} (hd : decode cc pc = .ok (.arraylength, 1)) (he : h n = some (.inl (D.1 (10 + ti), N, x))) (ht : (tysL D)[ti]? = some (D.1 (10 + ti), ty)) (k : X p l e R s m args below meth c D ad nL Q h (pc + 1) lv (vi (N : Int) :: st)) : X p l e R s m args below meth c D ad nL Q h pc lv (.ref (ad n) :: st) :=
  fun H locs ls hh hs hl => va_alen (D := D) (cl := vwCl) (tys := tysL D) (ws := [(ad n, .inl (D.1 (10 + ti), N, x))]) C.1 C.2.1 C.2.2.2.2.2.2.2.1 (fun j q hq => by
    have hj : j = 0 := by have := (List.getElem?_eq_some_iff.mp hq).1; simp at this; exact this
    subst hj; cases hq; exact (hh n _ he).2) 0 ti rfl ht (Int32.ofInt_eq_ofNat).symm hd (k H locs ls hh hs hl)
def zup (f : Nat → Int) (k : Nat) (x : Int) : Nat → Int := fun j => if j = k then x else f j
theorem zup_s (f : Nat → Int) (k : Nat) (x : Int) : zup f k x k = x := by simp [zup]
theorem zup_n {f : Nat → Int} {k j : Nat} {x : Int} (hj : j ≠ k) : zup f k x j = f j := by simp [zup, hj]
theorem x_iast (C : Fx p s m args meth c D ad cc nL ret own Ts) {n N : Nat} {f : Nat → Int} {z w : Int} (hd : decode cc pc = .ok (.iastore, 1)) (he : h n = some (.inl (D.1 10, N, .inl (fun j => iI (f j))))) (hz : 0 ≤ z ∧ z < N) (hN : N ≤ 2147483647) (k : X p l e R s m args below meth c D ad nL Q (hset h n (.inl (D.1 10, N, .inl (fun j => iI (zup f z.toNat w j))))) (pc + 1) lv st) : X p l e R s m args below meth c D ad nL Q h pc lv (vi w :: vi z :: .ref (ad n) :: st) := by
  intro H locs ls hh hs hl
  have hn0 := hh n _ he
  have hin : vp_in (iI z) N := iI_in hz hN
  have hc : H[ad n]? = some (vp_cell (D.1 10) (N, .inl (fun j => iI (f j)))) := hn0.2
  refine W.iast C.1 C.2.1 hc ((C.2.2.2.2.2.2.2.1.2 0 (D.1 10, .int) rfl).1 N (fun j => .int (iI (f j)))) (fun q => by cases q) (by show ¬ (iI z < 0 ∨ (arrV _ _ _).slots.size ≤ _); rw [arrV_size]; exact hin) rfl rfl hd fun H1 e1 z1 oq => ?_
  refine k H1 _ ls (hh.set C.2.2.2.2.2.2.2.2 he ?_ oq) (hs.put z1 oq ⟨n, hn0.1, rfl⟩) hl
  show H1[ad n]? = some (vp_cell _ _)
  rw [e1, vp_cell_i, vp_cell_i, arrV_store, iI_cl ⟨hz.1, by omega⟩]
  congr 2
  funext q
  by_cases hq : q = z.toNat
  · subst hq; simp [updV, zup]
  · simp [updV, zup, hq]
theorem x_last (C : Fx p s m args meth c D ad cc nL ret own Ts) {n N : Nat} {f : Nat → Int} {z w : Int} (hd : decode cc pc = .ok (.lastore, 1)) (he : h n = some (.inl (D.1 11, N, .inr (.inl (fun j => lI (f j)))))) (hz : 0 ≤ z ∧ z < N) (hN : N ≤ 2147483647) (k : X p l e R s m args below meth c D ad nL Q (hset h n (.inl (D.1 11, N, .inr (.inl (fun j => lI (zup f z.toNat w j)))))) (pc + 1) lv st) : X p l e R s m args below meth c D ad nL Q h pc lv (vl w :: vi z :: .ref (ad n) :: st) := by
  intro H locs ls hh hs hl
  have hn0 := hh n _ he
  have hin : vp_in (iI z) N := iI_in hz hN
  have hc : H[ad n]? = some (vp_cell (D.1 11) (N, .inr (.inl (fun j => lI (f j))))) := hn0.2
  refine W.last C.1 C.2.1 hc ((C.2.2.2.2.2.2.2.1.2 1 (D.1 11, .long) rfl).1 N (fun j => .long (lI (f j)))) (fun q => by cases q) (by show ¬ (iI z < 0 ∨ (arrV _ _ _).slots.size ≤ _); rw [arrV_size]; exact hin) rfl rfl hd fun H1 e1 z1 oq => ?_
  refine k H1 _ ls (hh.set C.2.2.2.2.2.2.2.2 he ?_ oq) (hs.put z1 oq ⟨n, hn0.1, rfl⟩) hl
  show H1[ad n]? = some (vp_cell _ _)
  rw [e1, vp_cell_l, vp_cell_l, arrV_store, iI_cl ⟨hz.1, by omega⟩]
  congr 2
  funext q
  by_cases hq : q = z.toNat
  · subst hq; simp [updV, zup]
  · simp [updV, zup, hq]
theorem x_iret (C : Fx p s m args meth c D ad cc nL (some .int) own Ts) {post : Option Value → HM → Prop} {z : Int} (hd : decode cc pc = .ok (.ireturn, 1)) (hp : post (some (vi z)) h) : X p l e R s m args below meth c D ad nL (MQ below (Qx D ad post) args s 0 0 (aA ad)) h pc lv [vi z] :=
  fun H locs ls hh hs hl => W.iret C.1 C.2.1 C.2.2.2.2.2.1 (fun t ht hW => ⟨⟨_, h, rfl, hp, by rw [ht]; exact hh, va_K.moved hW.alike C.2.2.2.2.2.2.2.1, C.2.2.2.2.2.2.2.2⟩, hs.F ht⟩) hs.2.2 hd C.2.2.2.2.2.2.1
theorem x_zret (C : Fx p s m args meth c D ad cc nL (some .boolean) own Ts) {post : Option Value → HM → Prop} {z : Int} (hd : decode cc pc = .ok (.ireturn, 1)) (hz : z = 0 ∨ z = 1) (hp : post (some (vi z)) h) : X p l e R s m args below meth c D ad nL (MQ below (Qx D ad post) args s 0 0 (aA ad)) h pc lv [vi z] :=
  fun H locs ls hh hs hl => W.zret C.1 C.2.1 C.2.2.2.2.2.1 (by rcases hz with rfl | rfl <;> decide) (fun t ht hW => ⟨⟨_, h, rfl, hp, by rw [ht]; exact hh, va_K.moved hW.alike C.2.2.2.2.2.2.2.1, C.2.2.2.2.2.2.2.2⟩, hs.F ht⟩) hs.2.2 hd C.2.2.2.2.2.2.1
theorem x_lret (C : Fx p s m args meth c D ad cc nL (some .long) own Ts) {post : Option Value → HM → Prop} {z : Int} (hd : decode cc pc = .ok (.lreturn, 1)) (hp : post (some (vl z)) h) : X p l e R s m args below meth c D ad nL (MQ below (Qx D ad post) args s 0 0 (aA ad)) h pc lv [vl z] :=
  fun H locs ls hh hs hl => W.lret C.1 C.2.1 C.2.2.2.2.2.1 (fun t ht hW => ⟨⟨_, h, rfl, hp, by rw [ht]; exact hh, va_K.moved hW.alike C.2.2.2.2.2.2.2.1, C.2.2.2.2.2.2.2.2⟩, hs.F ht⟩) hs.2.2 hd C.2.2.2.2.2.2.1
theorem x_vret (C : Fx p s m args meth c D ad cc nL none own Ts) {post : Option Value → HM → Prop} (hd : decode cc pc = .ok (.return_, 1)) (hp : post none h) : X p l e R s m args below meth c D ad nL (MQ below (Qx D ad post) args s 0 0 (aA ad)) h pc lv [] :=
  fun H locs ls hh hs hl => W.vret C.1 C.2.1 C.2.2.2.2.2.1 (fun t ht hW => ⟨⟨_, h, rfl, hp, by rw [ht]; exact hh, va_K.moved hW.alike C.2.2.2.2.2.2.2.1, C.2.2.2.2.2.2.2.2⟩, hs.F ht⟩) hs.2.2 hd C.2.2.2.2.2.2.1
theorem X.eqh {h' : HM} (he : h = h') (k : X p l e R s m args below meth c D ad nL Q h' pc lv st) : X p l e R s m args below meth c D ad nL Q h pc lv st := he ▸ k
theorem X.sub {lv' : List (Nat × Value)} (is : List Nat) (he : lv_pick lv is = lv') (k : X p l e R s m args below meth c D ad nL Q h pc lv' st) : X p l e R s m args below meth c D ad nL Q h pc lv st := fun H locs ls hh hs hl => k H locs ls hh hs (lv_sub hl is he)
end WK
theorem ct_of {l : Launch} {y : MethodName} {ws : List Cond} {fr lo : Nat} {D : va_G} {ad : Nat → Nat} {av : List Value} {h : HM} {post : Option Value → HM → Prop} {cc : ByteArray} {maxL : Nat} {ret : Option FieldType} (hy : plainName y.cls = true) (hw : ws = Cond.code y cc maxL ret :: tb) (hlen : (lg_sl av).length ≤ maxL)
    (body : ∀ p e s m below meth c, Fx p s m av.toArray meth c D ad cc maxL ret y.cls tb → X p l e { frames := fr, cells := 0, slots := 0, locals := lo } s m av.toArray below meth c D ad maxL (MQ below (Qx D ad post) av.toArray s 0 0 (aA ad)) h 0 (lv_args 0 av) []) : Ct l y ws fr lo D ad av h post := by
  refine Met.ofW (cc := cc) (maxL := maxL) (ret := ret) hy hw ?_
  intro p e s m args below meth c s₁ B hml hv
  obtain ⟨rfl, hh, hK, hi⟩ := hv
  have C : Fx p s m av.toArray meth c D ad cc maxL ret y.cls tb := ⟨B.exec, B.bytes, hml, findClass_of_methodNamed B.named, fun w hw' => atoms_spec (ws := ws) B.pre w (by rw [hw]; exact List.mem_cons_of_mem _ hw'), B.returns, B.notSynchronized, hK, hi⟩
  have hl := lv_entry av (n := maxL) hlen
  rw [lg_entry_eq]
  exact body p e s m below meth c C s.heap [] _ hh va_S.rf hl
theorem WO.blind {D : va_G} {ad : Nat → Nat} {h : HM} {av : List Value} : FrameBlind (va_Pc av (WO D ad h)) := fun a U g mk q => ⟨q.1, q.2.1, va_K.moved (u := U) (U := U.calling g mk a) (Vm.Alike.refl U.vm) q.2.2.1, q.2.2.2⟩
theorem aA_any {ad : Nat → Nat} (q : Nat) (h : aA ad q) : aA ad q := h
section WC
variable {p : Program} {l : Launch} {e : Env} {R : Room} {s : State} {m : MethodId} {args : Array Value} {below : List Frame} {meth : Method} {c : Code} {D : va_G} {ad : Nat → Nat} {cc : ByteArray} {nL : Nat} {ret : Option FieldType} {own : String} {Ts : List Cond} {Q : State → Prop} {h : HM} {pc : Nat} {lv : List (Nat × Value)} {st : List Value} {y : MethodName} {ws : List Cond} {fr lo : Nat} {post : Option Value → HM → Prop} {As : List Value} {st0 : List Value} {av : List Value}
theorem x_run {ls : Array Slot} {H : Heap} {locs : List Loc} (hK : va_K D vwCl (tysL D) s) (hs : va_S (aA ad) s.heap H locs) (hl : lv_has ls nL lv) {a : Array Value} (hr : va_Run p l e R s m args below meth c H locs 0 0 0 0 (F0 m pc ls st0) st (Qx D ad post a) (aA ad)) (k : ∀ (v : Option Value) (h1 : HM), post v h1 → X p l e R s m args below meth c D ad nL Q h1 (pc + 3) lv (v.toList ++ st)) : W p l e R s m args below meth c H locs 0 0 Q (F0 m pc ls st0) := by
  intro T hT Xx
  obtain ⟨v, st₀, t, T', L, h0, X', hL, e1, e2, ⟨⟨v', h1, hv, hp, hwo⟩, hz, hk⟩, stp⟩ := hr T hT Xx
  cases hv
  rw [h0] at hz hk
  obtain ⟨t2, a1, b1⟩ := k v h1 hp T'.heap (locs ++ L) ls (by rw [e1]; exact hwo.1) ⟨Nat.le_trans hs.1 (by rw [e1]; exact hz), fun q g1 g2 => by rw [e1, hk q (Nat.lt_of_lt_of_le g1 hs.1) g2]; exact hs.2.1 q g1 g2, fun q hq => by
      rcases List.mem_append.mp hq with g | g
      · exact hs.2.2 q g
      · exact hL q g⟩ hl T' rfl X'
  exact ⟨t2, stp t2 a1, b1⟩
theorem WO.at (C : Fx p s m args meth c D ad cc nL ret own Ts) {H : Heap} (hh : hw D ad h H) : ∀ U : State, U.heap = H → s.WarmedH U.vm → WO D ad h U := fun U hU hW => ⟨by rw [hU]; exact hh, va_K.moved hW.alike C.2.2.2.2.2.2.2.1, C.2.2.2.2.2.2.2.2⟩
/-- invokevirtual of a method of the world's object n -/
theorem x_callV (C : Fx p s m args meth c D ad cc nL ret own Ts) {index n ci nn : Nat} {r : vw_C} {fs : List Value} {bytes : ByteArray} {maxL : Nat} {rt : Option FieldType} {ws' : List Cond} (hc : Ct l y ws fr lo D ad (.ref (ad n) :: As) h post) (hG : GoodIn Ts (wsV own index y.cls y ws)) (hw : ws = Cond.code y bytes maxL rt :: ws') (hd2 : y.cls ≠ "java/lang/invoke/MethodHandle" ∧ y.cls ≠ "java/lang/invoke/VarHandle" ∧ (parseMethodDescriptor y.desc).map (fun d => d.parameters.length) = some nn) (hR : fr + 1 ≤ R.frames ∧ 8 + (maxL + 11) + lo ≤ R.locals)
    (hcl : vwCl[ci]? = some r) (hr1 : r.1 = y.cls) (he : h n = some (.inr (ci, fs))) (hn : As.length = nn) (hst : st0 = As.reverse ++ .ref (ad n) :: st) (hW : (st.map fun v => v.category).sum ≤ 8) (hd : decode cc pc = .ok (.invokevirtual index, 3))
    (k : ∀ (v : Option Value) (h1 : HM), post v h1 → X p l e R s m args below meth c D ad nL Q h1 (pc + 3) lv (v.toList ++ st)) : X p l e R s m args below meth c D ad nL Q h pc lv st0 := by
  intro H locs ls hh hs hl
  subst hst
  have hrv := va_recv (D := D) (cl := vwCl) (ws := [(ad n, .inr (ci, fs))]) C.2.2.2.2.2.2.2.1 (fun j q hq => by
    have hj : j = 0 := by have := (List.getElem?_eq_some_iff.mp hq).1; simp at this; exact this
    subst hj; cases hq; exact (hh n _ he).2) hcl (q0 := 0) rfl
  rw [hr1] at hrv
  exact x_run C.2.2.2.2.2.2.2.1 hs hl (va_runV (As := As) (rest := st) ⟨C.1, C.2.1, C.2.2.1, C.2.2.2.1, C.2.2.2.2.1⟩ hc (cwV nn C.2.2.2.2.1 hG hw rfl rfl ⟨rfl, hd2⟩ hR) ⟨WO.blind, hrv, fun U hU hWm => ⟨rfl, WO.at C hh U hU hWm⟩⟩ rfl hn hl.1 rfl (by show 2 * 0 + _ ≤ 8; omega) hd ⟨by omega, by omega⟩) k
theorem x_callS (C : Fx p s m args meth c D ad cc nL ret own Ts) {index nn : Nat} {bytes : ByteArray} {maxL : Nat} {rt : Option FieldType} {ws' : List Cond} (hc : Ct l y ws fr lo D ad As h post) (hG : GoodIn Ts (va_wsS own index y ws)) (hw : ws = Cond.code y bytes maxL rt :: ws') (hd2 : y.cls ≠ "java/lang/invoke/MethodHandle" ∧ y.cls ≠ "java/lang/invoke/VarHandle" ∧ (parseMethodDescriptor y.desc).map (fun d => d.parameters.length) = some nn) (hR : fr + 1 ≤ R.frames ∧ 8 + (maxL + 11) + lo ≤ R.locals)
    (hn : As.length = nn) (hst : st0 = As.reverse ++ st) (hW : (st.map fun v => v.category).sum ≤ 8) (hd : decode cc pc = .ok (.invokestatic index, 3))
    (k : ∀ (v : Option Value) (h1 : HM), post v h1 → X p l e R s m args below meth c D ad nL Q h1 (pc + 3) lv (v.toList ++ st)) : X p l e R s m args below meth c D ad nL Q h pc lv st0 := by
  intro H locs ls hh hs hl
  subst hst
  exact x_run C.2.2.2.2.2.2.2.1 hs hl (va_runS (As := As) (rest := st) ⟨C.1, C.2.1, C.2.2.1, C.2.2.2.1, C.2.2.2.2.1⟩ hc (va_cwS nn C.2.2.2.2.1 hG hw rfl rfl hd2 hR) ⟨WO.blind, fun U hU hWm => ⟨rfl, WO.at C hh U hU hWm⟩⟩ rfl hn hl.1 rfl (by show 2 * 0 + _ ≤ 8; omega) hd ⟨by omega, by omega⟩) k
end WC
end
section
/-! THE CLASS'S CELLS, by names: 0 kernel, 1 memory, 2 limbs, 3 freeOf, 4 freeAt, 5 reckoner, 6 numerals, 7 jobs, 8 queue, 9 ring, 10 + h numeral h, 40 + j job j. σ n k: field or element k of cell n. -/
abbrev St : Type := Nat → Nat → Int
def up (σ : St) (n k : Nat) (z : Int) : St := fun a => if a = n then zup (σ n) k z else σ a
theorem up_s (σ : St) (n k : Nat) (z : Int) : up σ n k z n = zup (σ n) k z := by simp [up]
theorem up_n {σ : St} {n k q : Nat} {z : Int} (h : q ≠ n) : up σ n k z q = σ q := by simp [up, h]
abbrev numF (f : Nat → Int) : List Value := [vi (f 0), vi (f 1), vi (f 2), vi (f 3), vi (f 4), vi (f 5)]
abbrev jobF (f : Nat → Int) : List Value := [vi (f 0), vi (f 1), vi (f 2), vi (f 3), vi (f 4), vi (f 5), vi (f 6), vi (f 7), vi (f 8), vi (f 9), vl (f 10)]
/-- g has the sizes: g.1 poolLog, g.2.1 pool, g.2.2.1 most handles, g.2.2.2 most jobs -/
def kc (D : va_G) (ad : Nat → Nat) (g : Nat × Nat × Nat × Nat) (σ : St) : HM := fun n => match n with
  | 0 => some (.inr (5, [.ref (ad 1), .ref (ad 5), .ref (ad 6), .ref (ad 7), .ref (ad 8), vi (σ 0 5), vi (σ 0 6), vi (σ 0 7), vi (σ 0 8)]))
  | 1 => some (.inr (1, [vi (g.1 : Int), .ref (ad 2), .ref (ad 3), .ref (ad 4)]))
  | 2 => some (.inl (D.1 10, g.2.1, .inl (fun j => iI (σ 2 j))))
  | 3 => some (.inl (D.1 10, g.1 + 1, .inl (fun j => iI (σ 3 j))))
  | 4 => some (.inl (D.1 10, g.2.1, .inl (fun j => iI (σ 4 j))))
  | 5 => some (.inr (4, [.ref (ad 2), vi (σ 5 1), vi (σ 5 2), vi (σ 5 3), vl (σ 5 4), vl (σ 5 5)]))
  | 6 => some (.inl (D.1 14, g.2.2.1, .inr (.inr (.inr (.inr (fun j => some (ad (10 + j))))))))
  | 7 => some (.inl (D.1 13, g.2.2.2, .inr (.inr (.inr (.inr (fun j => some (ad (40 + j))))))))
  | 8 => some (.inr (3, [.ref (ad 9), vi (σ 8 1), vi (σ 8 2)]))
  | 9 => some (.inl (D.1 10, g.2.2.2, .inl (fun j => iI (σ 9 j))))
  | n => if 10 ≤ n ∧ n < 10 + g.2.2.1 then some (.inr (2, numF (σ n))) else if 40 ≤ n ∧ n < 40 + g.2.2.2 then some (.inr (0, jobF (σ n))) else none
section KC
variable {D : va_G} {ad : Nat → Nat} {g : Nat × Nat × Nat × Nat} {σ σ' : St}
theorem kc_hi {n : Nat} (h : 10 ≤ n) : kc D ad g σ n = if 10 ≤ n ∧ n < 10 + g.2.2.1 then some (.inr (2, numF (σ n))) else if 40 ≤ n ∧ n < 40 + g.2.2.2 then some (.inr (0, jobF (σ n))) else none := by
  unfold kc
  split <;> first | omega | rfl
theorem kc_num {i : Nat} (h : i < g.2.2.1) : kc D ad g σ (10 + i) = some (.inr (2, numF (σ (10 + i)))) := by
  rw [kc_hi (by omega), if_pos (by omega)]
theorem kc_job {j : Nat} (hH : g.2.2.1 ≤ 24) (h : j < g.2.2.2) : kc D ad g σ (40 + j) = some (.inr (0, jobF (σ (40 + j)))) := by
  rw [kc_hi (by omega), if_neg (by omega), if_pos (by omega)]
theorem kc_ext {n : Nat} (h : σ' n = σ n) : kc D ad g σ' n = kc D ad g σ n := by
  by_cases hn : 10 ≤ n
  · rw [kc_hi hn, kc_hi hn, h]
  · rcases (show n = 0 ∨ n = 1 ∨ n = 2 ∨ n = 3 ∨ n = 4 ∨ n = 5 ∨ n = 6 ∨ n = 7 ∨ n = 8 ∨ n = 9 by omega) with rfl | rfl | rfl | rfl | rfl | rfl | rfl | rfl | rfl | rfl <;> simp [kc, h]
theorem kset {n : Nat} {x : va_E} (h1 : ∀ q, q ≠ n → σ' q = σ q) (h2 : kc D ad g σ' n = some x) : hset (kc D ad g σ) n x = kc D ad g σ' := by
  funext q
  by_cases hq : q = n
  · subst hq; rw [hset_s, h2]
  · rw [hset_n hq, kc_ext (h1 q hq)]
theorem numF_set (f : Nat → Int) {k : Nat} (hk : k < 6) (z : Int) : (numF f).set k (vi z) = numF (zup f k z) := by
  rcases (show k = 0 ∨ k = 1 ∨ k = 2 ∨ k = 3 ∨ k = 4 ∨ k = 5 by omega) with rfl | rfl | rfl | rfl | rfl | rfl <;> simp [zup]
theorem jobF_set (f : Nat → Int) {k : Nat} (hk : k < 10) (z : Int) : (jobF f).set k (vi z) = jobF (zup f k z) := by
  rcases (show k = 0 ∨ k = 1 ∨ k = 2 ∨ k = 3 ∨ k = 4 ∨ k = 5 ∨ k = 6 ∨ k = 7 ∨ k = 8 ∨ k = 9 by omega) with rfl | rfl | rfl | rfl | rfl | rfl | rfl | rfl | rfl | rfl <;> simp [zup]
theorem jobF_setl (f : Nat → Int) (z : Int) : (jobF f).set 10 (vl z) = jobF (zup f 10 z) := by simp [zup]
end KC
section KR
variable {p : Program} {l : Launch} {e : Env} {R : Room} {s : State} {m : MethodId} {args : Array Value} {below : List Frame} {meth : Method} {c : Code} {D : va_G} {ad : Nat → Nat} {cc : ByteArray} {nL : Nat} {ret : Option FieldType} {own : String} {Q : State → Prop} {pc : Nat} {lv : List (Nat × Value)} {st : List Value} {g : Nat × Nat × Nat × Nat} {σ : St}
/-- a field of a numeral is written (0, 1: booleans) -/
theorem k_putN (C : Fx p s m args meth c D ad cc nL ret own tb) {index i : Nat} {z : Int} {ty : FieldType} (kf : Nat) (hk : kf < 6) (hd : decode cc pc = .ok (.putfield index, 3)) (hlink : Cond.fieldLink own index (TX2 kf).1 (TX2 kf).2.1 (TX2 kf).2.2.1 ∈ tb) (hfin : (TX2 kf).2.2.2 = false) (hdt : parseFieldDescriptor (TX2 kf).2.2.1 = some ty) (hn : narrow ty (vi z) = vi z) (hfit : fits ty (vi z) = true) (hi : i < g.2.2.1) (k : X p l e R s m args below meth c D ad nL Q (kc D ad g (up σ (10 + i) kf z)) (pc + 3) lv st) : X p l e R s m args below meth c D ad nL Q (kc D ad g σ) pc lv (vi z :: .ref (ad (10 + i)) :: st) :=
  x_put C (Cn := RX2) (T := TX2) (N := 6) (ci := 2) kf hd m_w_2 hlink rfl hk tyX2 tyX2_ok nmX2 hfin hdt hn hfit (by simpa using hk) (kc_num hi) (X.eqh (kset (σ' := up σ (10 + i) kf z) (fun q hq => up_n hq) (by rw [kc_num hi, up_s, numF_set _ hk])) k)
theorem k_putJ (C : Fx p s m args meth c D ad cc nL ret own tb) {index j : Nat} {z : Int} (kf : Nat) (hk : kf < 10) (hd : decode cc pc = .ok (.putfield index, 3)) (hlink : Cond.fieldLink own index (TX0 kf).1 (TX0 kf).2.1 (TX0 kf).2.2.1 ∈ tb) (hfin : (TX0 kf).2.2.2 = false) (hdt : parseFieldDescriptor (TX0 kf).2.2.1 = some .int) (hH : g.2.2.1 ≤ 24) (hj : j < g.2.2.2) (k : X p l e R s m args below meth c D ad nL Q (kc D ad g (up σ (40 + j) kf z)) (pc + 3) lv st) : X p l e R s m args below meth c D ad nL Q (kc D ad g σ) pc lv (vi z :: .ref (ad (40 + j)) :: st) :=
  x_put C (Cn := RX0) (T := TX0) (N := 11) (ci := 0) kf hd m_w_0 hlink rfl (by omega) tyX0 tyX0_ok nmX0 hfin hdt rfl rfl (by simp; omega) (kc_job hH hj) (X.eqh (kset (σ' := up σ (40 + j) kf z) (fun q hq => up_n hq) (by rw [kc_job hH hj, up_s, jobF_set _ hk])) k)
theorem k_putJl (C : Fx p s m args meth c D ad cc nL ret own tb) {index j : Nat} {z : Int} (hd : decode cc pc = .ok (.putfield index, 3)) (hlink : Cond.fieldLink own index (TX0 10).1 (TX0 10).2.1 (TX0 10).2.2.1 ∈ tb) (hH : g.2.2.1 ≤ 24) (hj : j < g.2.2.2) (k : X p l e R s m args below meth c D ad nL Q (kc D ad g (up σ (40 + j) 10 z)) (pc + 3) lv st) : X p l e R s m args below meth c D ad nL Q (kc D ad g σ) pc lv (vl z :: .ref (ad (40 + j)) :: st) :=
  x_put C (Cn := RX0) (T := TX0) (N := 11) (ci := 0) 10 hd m_w_0 hlink rfl (by omega) tyX0 tyX0_ok nmX0 rfl (ty := .long) (by decide +kernel) rfl rfl (by simp) (kc_job hH hj) (X.eqh (kset (σ' := up σ (40 + j) 10 z) (fun q hq => up_n hq) (by rw [kc_job hH hj, up_s, jobF_setl])) k)
/-- a field of a cell 0, 5, 8 -/
theorem k_putS (C : Fx p s m args meth c D ad cc nL ret own tb) {Cn : String} {T : u_T} {N ci index n : Nat} {fs : List Value} {z : Int} {ty : FieldType} (kf : Nat) (hd : decode cc pc = .ok (.putfield index, 3)) (hin : ∀ w ∈ u_ws Cn T N, w ∈ tb) (hlink : Cond.fieldLink own index (T kf).1 (T kf).2.1 (T kf).2.2.1 ∈ tb) (hc : vwCl[ci]? = some (Cn, T, N)) (hk : kf < N) (ty0 : Nat → FieldType) (hty : ∀ k, k < N → parseFieldDescriptor (T k).2.2.1 = some (ty0 k)) (hnm : ∀ a, a < N → ∀ b, b < N → a ≠ b → (T a).2.1 ≠ (T b).2.1) (hfin : (T kf).2.2.2 = false) (hdt : parseFieldDescriptor (T kf).2.2.1 = some ty) (hn : narrow ty (vi z) = vi z) (hfit : fits ty (vi z) = true) (he : kc D ad g σ n = some (.inr (ci, fs))) (hlen : kf < fs.length) (he' : kc D ad g (up σ n kf z) n = some (.inr (ci, fs.set kf (vi z)))) (k : X p l e R s m args below meth c D ad nL Q (kc D ad g (up σ n kf z)) (pc + 3) lv st) : X p l e R s m args below meth c D ad nL Q (kc D ad g σ) pc lv (vi z :: .ref (ad n) :: st) :=
  x_put C kf hd hin hlink hc hk ty0 hty hnm hfin hdt hn hfit hlen he (X.eqh (kset (σ' := up σ n kf z) (fun q hq => up_n hq) he') k)
theorem k_putSl (C : Fx p s m args meth c D ad cc nL ret own tb) {Cn : String} {T : u_T} {N ci index n : Nat} {fs : List Value} {z : Int} {ty : FieldType} (kf : Nat) (hd : decode cc pc = .ok (.putfield index, 3)) (hin : ∀ w ∈ u_ws Cn T N, w ∈ tb) (hlink : Cond.fieldLink own index (T kf).1 (T kf).2.1 (T kf).2.2.1 ∈ tb) (hc : vwCl[ci]? = some (Cn, T, N)) (hk : kf < N) (ty0 : Nat → FieldType) (hty : ∀ k, k < N → parseFieldDescriptor (T k).2.2.1 = some (ty0 k)) (hnm : ∀ a, a < N → ∀ b, b < N → a ≠ b → (T a).2.1 ≠ (T b).2.1) (hfin : (T kf).2.2.2 = false) (hdt : parseFieldDescriptor (T kf).2.2.1 = some ty) (hn : narrow ty (vl z) = vl z) (hfit : fits ty (vl z) = true) (he : kc D ad g σ n = some (.inr (ci, fs))) (hlen : kf < fs.length) (he' : kc D ad g (up σ n kf z) n = some (.inr (ci, fs.set kf (vl z)))) (k : X p l e R s m args below meth c D ad nL Q (kc D ad g (up σ n kf z)) (pc + 3) lv st) : X p l e R s m args below meth c D ad nL Q (kc D ad g σ) pc lv (vl z :: .ref (ad n) :: st) :=
  x_put C kf hd hin hlink hc hk ty0 hty hnm hfin hdt hn hfit hlen he (X.eqh (kset (σ' := up σ n kf z) (fun q hq => up_n hq) he') k)
/-- an element of an int array 2, 3, 4, 9 -/
theorem k_ast (C : Fx p s m args meth c D ad cc nL ret own tb) {n N : Nat} {z w : Int} (hd : decode cc pc = .ok (.iastore, 1)) (he : ∀ σ : St, kc D ad g σ n = some (.inl (D.1 10, N, .inl (fun j => iI (σ n j))))) (hz : 0 ≤ z ∧ z < N) (hN : N ≤ 2147483647) (k : X p l e R s m args below meth c D ad nL Q (kc D ad g (up σ n z.toNat w)) (pc + 1) lv st) : X p l e R s m args below meth c D ad nL Q (kc D ad g σ) pc lv (vi w :: vi z :: .ref (ad n) :: st) :=
  x_iast C hd (he σ) hz hN (X.eqh (kset (σ' := up σ n z.toNat w) (fun q hq => up_n hq) (by rw [he, up_s])) k)
end KR
/-- the contract of a method of the class: from the state σ with these arguments -/
def Kt (l : Launch) (D : va_G) (ad : Nat → Nat) (g : Nat × Nat × Nat × Nat) (y : MethodName) (ws : List Cond) (fr lo : Nat) (av : List Value) (σ : St) (post : Option Value → St → Prop) : Prop :=
  Ct l y ws fr lo D ad av (kc D ad g σ) (fun v h1 => ∃ σ' : St, h1 = kc D ad g σ' ∧ post v σ')
end
section
/-! MEMBERS of the library that the kit knows: Math.max, Math.min, System.arraycopy (within one int array) -/
section LB
variable {p : Program} {l : Launch} {e : Env} {R : Room} {s : State} {m : MethodId} {args : Array Value} {below : List Frame} {meth : Method} {c : Code} {D : va_G} {ad : Nat → Nat} {cc : ByteArray} {nL : Nat} {ret : Option FieldType} {own : String} {Q : State → Prop} {h : HM} {pc : Nat} {lv : List (Nat × Value)} {st : List Value}
theorem x_mmax (C : Fx p s m args meth c D ad cc nL ret own tb) {index : Nat} {a b : Int} (hd : decode cc pc = .ok (.invokestatic index, 3)) (hlink : Cond.methodLink own index Lib.Math.max.name ∈ tb) (ha : -2147483648 ≤ a ∧ a < 2147483648) (hb : -2147483648 ≤ b ∧ b < 2147483648) (hfr : 1 ≤ R.frames) (hlo : (st.map fun v => v.category).sum + 13 ≤ R.locals) (k : X p l e R s m args below meth c D ad nL Q h (pc + 3) lv (vi (max a b) :: st)) : X p l e R s m args below meth c D ad nL Q h pc lv (vi b :: vi a :: st) :=
  fun H locs ls hh hs hl => va_mmax C.1 C.2.1 (by rw [C.2.2.1, hl.1]) C.2.2.2.1 (C.2.2.2.2.1 _ hlink) (C.2.2.2.2.1 _ m_s_yJ9_max_7cf53) (C.2.2.2.2.1 _ m_n_RJ9) (C.2.2.2.2.1 _ m_c_yJ9_max_7cf53) hfr hlo (Nat.zero_le _) (Nat.zero_le _) hd (by
    have e1 : (if iI a < iI b then iI b else iI a) = iI (max a b) := by
      by_cases q : a < b
      · rw [if_pos ((iI_lt ha hb).mpr q), show max a b = b by omega]
      · rw [if_neg (fun z => q ((iI_lt ha hb).mp z)), show max a b = a by omega]
    rw [e1]; exact k H locs ls hh hs hl)
theorem x_mmin (C : Fx p s m args meth c D ad cc nL ret own tb) {index : Nat} {a b : Int} (hd : decode cc pc = .ok (.invokestatic index, 3)) (hlink : Cond.methodLink own index Lib.Math.min.name ∈ tb) (ha : -2147483648 ≤ a ∧ a < 2147483648) (hb : -2147483648 ≤ b ∧ b < 2147483648) (hfr : 1 ≤ R.frames) (hlo : (st.map fun v => v.category).sum + 13 ≤ R.locals) (k : X p l e R s m args below meth c D ad nL Q h (pc + 3) lv (vi (min a b) :: st)) : X p l e R s m args below meth c D ad nL Q h pc lv (vi b :: vi a :: st) :=
  fun H locs ls hh hs hl => va_mmin C.1 C.2.1 (by rw [C.2.2.1, hl.1]) C.2.2.2.1 (C.2.2.2.2.1 _ hlink) (C.2.2.2.2.1 _ m_s_yJ9_min_7cf53) (C.2.2.2.2.1 _ m_n_RJ9) (C.2.2.2.2.1 _ m_c_yJ9_min_7cf53) hfr hlo (Nat.zero_le _) (Nat.zero_le _) hd (by
    have e1 : (if iI b < iI a then iI b else iI a) = iI (min a b) := by
      by_cases q : b < a
      · rw [if_pos ((iI_lt hb ha).mpr q), show min a b = b by omega]
      · rw [if_neg (fun z => q ((iI_lt hb ha).mp z)), show min a b = a by omega]
    rw [e1]; exact k H locs ls hh hs hl)
theorem x_mmaxl (C : Fx p s m args meth c D ad cc nL ret own tb) {index : Nat} {a b : Int} (hd : decode cc pc = .ok (.invokestatic index, 3)) (hlink : Cond.methodLink own index Lib.MathLoose.max_long.x ∈ tb) (ha : -9223372036854775808 ≤ a ∧ a < 9223372036854775808) (hb : -9223372036854775808 ≤ b ∧ b < 9223372036854775808) (hfr : 1 ≤ R.frames) (hlo : (st.map fun v => v.category).sum + 15 ≤ R.locals) (k : X p l e R s m args below meth c D ad nL Q h (pc + 3) lv (vl (max a b) :: st)) : X p l e R s m args below meth c D ad nL Q h pc lv (vl b :: vl a :: st) :=
  fun H locs ls hh hs hl => va_mmax_long C.1 C.2.1 (by rw [C.2.2.1, hl.1]) C.2.2.2.1 (C.2.2.2.2.1 _ hlink) (C.2.2.2.2.1 _ m_s_yJ9_max_f86c9) (C.2.2.2.2.1 _ m_n_RJ9) (C.2.2.2.2.1 _ m_c_yJ9_max_f86c9) hfr hlo (Nat.zero_le _) (Nat.zero_le _) hd (by
    have e1 : (if lI b < lI a then lI a else lI b) = lI (max a b) := by
      by_cases q : b < a
      · rw [if_pos ((lI_lt hb ha).mpr q), show max a b = a by omega]
      · rw [if_neg (fun z => q ((lI_lt hb ha).mp z)), show max a b = b by omega]
    rw [e1]; exact k H locs ls hh hs hl)
/-- what a copy within one row makes of it -/
def cpF (f : Nat → Int) (sp dp n : Nat) : Nat → Int := fun k => if dp ≤ k ∧ k < dp + n then f (sp + (k - dp)) else f k
theorem x_copy (C : Fx p s m args meth c D ad cc nL ret own tb) {index na N : Nat} {f : Nat → Int} {sp dp n : Int} (hd : decode cc pc = .ok (.invokestatic index, 3)) (hlink : Cond.methodLink own index arraycopyName ∈ tb) (hnat : Cond.native arraycopyName ∈ tb) (hstat : Cond.static arraycopyName ∈ tb) (he : h na = some (.inl (D.1 10, N, .inl (fun j => iI (f j))))) (hN : N ≤ 65536) (h1 : 0 ≤ sp) (h2 : 0 ≤ dp) (h3 : 0 ≤ n) (h4 : sp + n ≤ N) (h5 : dp + n ≤ N) (hfr : 1 ≤ R.frames) (hlo : (st.map fun v => v.category).sum + (nativeFrameWords "java/lang/System" "arraycopy" 5 + 11) ≤ R.locals)
    (k : X p l e R s m args below meth c D ad nL Q (hset h na (.inl (D.1 10, N, .inl (fun j => iI (cpF f sp.toNat dp.toNat n.toNat j))))) (pc + 3) lv st) : X p l e R s m args below meth c D ad nL Q h pc lv (vi n :: vi dp :: .ref (ad na) :: vi sp :: .ref (ad na) :: st) := by
  intro H locs ls hh hs hl T hT Xx
  have hn0 := hh na _ he
  have hc0 : H[ad na]? = some (vp_cell (D.1 10) (N, .inl (fun j => iI (f j)))) := hn0.2
  have hK := C.2.2.2.2.2.2.2.1
  obtain ⟨-, k0, hk0, cm0, hkk0⟩ := (hK.2 0 (D.1 10, .int) rfl).1 N (fun j => .int (iI (f j)))
  have q1 : ¬ iI sp < 0 := fun z => by have := (iI_lt (show -2147483648 ≤ sp ∧ sp < 2147483648 by omega) i0R).mp z; omega
  have q2 : ¬ iI dp < 0 := fun z => by have := (iI_lt (show -2147483648 ≤ dp ∧ dp < 2147483648 by omega) i0R).mp z; omega
  have q3 : ¬ iI n < 0 := fun z => by have := (iI_lt (show -2147483648 ≤ n ∧ n < 2147483648 by omega) i0R).mp z; omega
  have c1 : (iI sp).toNatClampNeg = sp.toNat := iI_cl (by omega)
  have c2 : (iI dp).toNatClampNeg = dp.toNat := iI_cl (by omega)
  have c3 : (iI n).toNatClampNeg = n.toNat := iI_cl (by omega)
  obtain ⟨vm', X', step⟩ := Xx.arraycopy C.1 C.2.2.2.1 (C.2.2.2.2.1 _ hlink) (C.2.2.2.2.1 _ hnat) (C.2.2.2.2.1 _ hstat) (C.2.2.2.2.1 _ m_n_RJ10) (src := ad na) (dst := ad na) (cs := vp_cell (D.1 10) (N, .inl (fun j => iI (f j)))) (cd := vp_cell (D.1 10) (N, .inl (fun j => iI (f j)))) (srcPos := iI sp) (destPos := iI dp) (n := iI n) (by rw [hT]; exact hc0) (by rw [hT]; exact hc0)
    (fun _ h => by cases h) (fun _ h => by cases h) (fun h => by cases h) (fun h => by cases h) hk0 hk0 hkk0 hkk0 (by simp [refKind]) q1 q2 q3
    (by rw [iI_t (by omega), iI_t (by omega)]; show ¬ _ > ((arrV (D.1 10) N (fun j => .int (iI (f j)))).slots.size : Int); rw [arrV_size]; omega)
    (by rw [iI_t (by omega), iI_t (by omega)]; show ¬ _ > ((arrV (D.1 10) N (fun j => .int (iI (f j)))).slots.size : Int); rw [arrV_size]; omega)
    (fun vm₁ _ i hi => by
      rw [c3] at hi
      have ee : (vp_cell (D.1 10) (N, .inl (fun j => iI (f j)))).slots.getD ((iI sp).toNatClampNeg + i) .null = .int (iI (f ((iI sp).toNatClampNeg + i))) := by
        show (arrV (D.1 10) N (fun j => .int (iI (f j)))).slots.getD _ _ = _
        rw [Array.getD_eq_getD_getElem?, arrV_read _ _ (by rw [c1]; omega)]
        rfl
      refine ⟨?_, ?_⟩
      · rw [ee]; rfl
      · rw [ee]; exact trivial)
    (g := F0 m pc ls (.int (iI n) :: .int (iI dp) :: .ref (ad na) :: .int (iI sp) :: .ref (ad na) :: st)) rfl (by rw [C.2.2.1]; exact hl.1) (rest := st) rfl (by rw [C.2.1]; exact hd) hfr (by show 2 * 0 + _ + _ ≤ _; omega)
  have e1 : copied (vp_cell (D.1 10) (N, .inl (fun j => iI (f j)))) (vp_cell (D.1 10) (N, .inl (fun j => iI (f j)))) (iI sp) (iI dp) (iI n) = vp_cell (D.1 10) (N, .inl (fun j => iI (cpF f sp.toNat dp.toNat n.toNat j))) := by
    have : copied (vp_cell (D.1 10) (N, .inl (fun j => iI (f j)))) (vp_cell (D.1 10) (N, .inl (fun j => iI (f j)))) (iI sp) (iI dp) (iI n) = vp_cell (D.1 10) (N, .inl (va_cpy (fun j => iI (f j)) (fun j => iI (f j)) (iI sp).toNatClampNeg (iI dp).toNatClampNeg (iI n).toNatClampNeg)) := va_copied (fun z => .int z) (D.1 10) (D.1 10) (fun j => iI (f j)) (fun j => iI (f j)) (by rw [c1, c3]; omega)
    refine this.trans ?_
    rw [c1, c2, c3]
    have e2 : va_cpy (fun j => iI (f j)) (fun j => iI (f j)) sp.toNat dp.toNat n.toNat = fun j => iI (cpF f sp.toNat dp.toNat n.toNat j) := by
      funext j
      unfold va_cpy cpF
      split <;> rfl
    rw [e2]
  rw [e1] at X' step
  have hl' : ad na < H.size := (Array.getElem?_eq_some_iff.mp hc0).1
  have hheap : ((T.setVm vm').setCell (ad na) (vp_cell (D.1 10) (N, .inl (fun j => iI (cpF f sp.toNat dp.toNat n.toNat j))))).heap = H.setIfInBounds (ad na) (vp_cell (D.1 10) (N, .inl (fun j => iI (cpF f sp.toNat dp.toNat n.toNat j)))) := by rw [← hT]; rfl
  have oq : ∀ q : Nat, q ≠ ad na → (H.setIfInBounds (ad na) (vp_cell (D.1 10) (N, .inl (fun j => iI (cpF f sp.toNat dp.toNat n.toNat j)))))[q]? = H[q]? := fun q hq => by simp [Array.getElem?_setIfInBounds, Ne.symm hq]
  obtain ⟨t, a1, b1⟩ := k _ _ ls (hh.set C.2.2.2.2.2.2.2.2 he (show (H.setIfInBounds (ad na) _)[ad na]? = some _ by simp [Array.getElem?_setIfInBounds, hl']) oq) ⟨by simp; exact hs.1, fun q g1 g2 => by
      rw [oq q (fun e => g2 ⟨na, hn0.1, e⟩)]
      exact hs.2.1 q g1 g2, fun q hq => by
      rcases List.mem_append.mp hq with h | h
      · exact hs.2.2 q h
      · obtain ⟨z, -, hz⟩ := List.mem_map.mp h
        rw [← hz]
        exact ⟨na, hn0.1, rfl⟩⟩ hl _ hheap X'
  exact ⟨t, step t a1, b1⟩
end LB
end
section
/-! LEAVES of the class: memory, numeral, job -/
set_option maxHeartbeats 4000000 in
set_option maxRecDepth 100000 in
theorem c_addFree {l : Launch} {D : va_G} {ad : Nat → Nat} {g : Nat × Nat × Nat × Nat} (hg : 3 ≤ g.1 ∧ g.1 ≤ 11 ∧ 8 ≤ g.2.1 ∧ g.2.1 ≤ 2048 ∧ 1 ≤ g.2.2.1 ∧ g.2.2.1 ≤ 24 ∧ 1 ≤ g.2.2.2 ∧ g.2.2.2 ≤ 12) (σ : St) (a k : Int) (ha : 0 ≤ a ∧ a < g.2.1) (hk : 0 ≤ k ∧ k ≤ g.1) : Kt l D ad g yX1_addFree (Cond.code yX1_addFree cX1_addFree 3 none :: tb) 0 0 [.ref (ad 1), vi a, vi k] σ (fun v σ' => v = none ∧ σ' = up (up σ 4 a.toNat k) 3 k.toNat (σ 3 k.toNat + 1)) := by
  refine ct_of (by decide) rfl (Nat.le_of_ble_eq_true rfl) ?_
  intro p e s m below meth c C
  change X _ _ _ _ _ _ _ _ _ _ _ _ _ _ _ _ [(0, .ref (ad 1)), (1, vi a), (2, vi k)] _
  refine x_aload_n C dX1_addFree_0 rfl rfl ?_
  refine x_get C (Cn := RX1) (T := TX1) (N := 4) (ci := 1) 3 dX1_addFree_1 m_w_1 m_f_RX1_22 rfl (by decide) rfl rfl ?_
  refine x_iload_n C dX1_addFree_4 rfl rfl ?_
  refine x_iload_n C dX1_addFree_5 rfl rfl ?_
  refine k_ast C dX1_addFree_6 (fun _ => rfl) (by omega) (by omega) ?_
  refine x_aload_n C dX1_addFree_7 rfl rfl ?_
  refine x_get C (Cn := RX1) (T := TX1) (N := 4) (ci := 1) 2 dX1_addFree_8 m_w_1 m_f_RX1_19 rfl (by decide) rfl rfl ?_
  refine x_iload_n C dX1_addFree_11 rfl rfl ?_
  refine x_dup2 C dX1_addFree_12 rfl rfl ?_
  refine x_iald C dX1_addFree_13 rfl (by omega) (by omega) ?_
  refine x_iconst C dX1_addFree_14 ?_
  refine x_iadd C dX1_addFree_15 ?_
  refine k_ast C dX1_addFree_16 (fun _ => rfl) (by omega) (by omega) ?_
  exact x_vret C dX1_addFree_17 ⟨_, rfl, rfl, rfl⟩
set_option maxHeartbeats 4000000 in
set_option maxRecDepth 100000 in
theorem c_removeFree {l : Launch} {D : va_G} {ad : Nat → Nat} {g : Nat × Nat × Nat × Nat} (hg : 3 ≤ g.1 ∧ g.1 ≤ 11 ∧ 8 ≤ g.2.1 ∧ g.2.1 ≤ 2048 ∧ 1 ≤ g.2.2.1 ∧ g.2.2.1 ≤ 24 ∧ 1 ≤ g.2.2.2 ∧ g.2.2.2 ≤ 12) (σ : St) (a k : Int) (ha : 0 ≤ a ∧ a < g.2.1) (hk : 0 ≤ k ∧ k ≤ g.1) : Kt l D ad g yX1_removeFree (Cond.code yX1_removeFree cX1_removeFree 3 none :: tb) 0 0 [.ref (ad 1), vi a, vi k] σ (fun v σ' => v = none ∧ σ' = up (up σ 4 a.toNat (-1)) 3 k.toNat (σ 3 k.toNat - 1)) := by
  refine ct_of (by decide) rfl (Nat.le_of_ble_eq_true rfl) ?_
  intro p e s m below meth c C
  change X _ _ _ _ _ _ _ _ _ _ _ _ _ _ _ _ [(0, .ref (ad 1)), (1, vi a), (2, vi k)] _
  refine x_aload_n C dX1_removeFree_0 rfl rfl ?_
  refine x_get C (Cn := RX1) (T := TX1) (N := 4) (ci := 1) 3 dX1_removeFree_1 m_w_1 m_f_RX1_22 rfl (by decide) rfl rfl ?_
  refine x_iload_n C dX1_removeFree_4 rfl rfl ?_
  refine x_iconst C dX1_removeFree_5 ?_
  refine k_ast C dX1_removeFree_6 (fun _ => rfl) (by omega) (by omega) ?_
  refine x_aload_n C dX1_removeFree_7 rfl rfl ?_
  refine x_get C (Cn := RX1) (T := TX1) (N := 4) (ci := 1) 2 dX1_removeFree_8 m_w_1 m_f_RX1_19 rfl (by decide) rfl rfl ?_
  refine x_iload_n C dX1_removeFree_11 rfl rfl ?_
  refine x_dup2 C dX1_removeFree_12 rfl rfl ?_
  refine x_iald C dX1_removeFree_13 rfl (by omega) (by omega) ?_
  refine x_iconst C dX1_removeFree_14 ?_
  refine x_isub C dX1_removeFree_15 ?_
  refine k_ast C dX1_removeFree_16 (fun _ => rfl) (by omega) (by omega) ?_
  exact x_vret C dX1_removeFree_17 ⟨_, rfl, rfl, rfl⟩
def lfo (σ : St) (pl : Nat) (a r : Int) : Prop := (r = -1 ∧ ∀ k : Int, a ≤ k → k ≤ pl → ¬ 0 < σ 3 k.toNat) ∨ (a ≤ r ∧ r ≤ pl ∧ 0 < σ 3 r.toNat ∧ ∀ k : Int, a ≤ k → k < r → ¬ 0 < σ 3 k.toNat)
set_option maxHeartbeats 4000000 in
set_option maxRecDepth 100000 in
theorem lp_leastFreeOrder {p : Program} {l : Launch} {e : Env} {R : Room} {s : State} {m : MethodId} {args : Array Value} {below : List Frame} {meth : Method} {c : Code} {D : va_G} {ad : Nat → Nat} {g : Nat × Nat × Nat × Nat} {Q : State → Prop} (C : Fx p s m args meth c D ad cX1_leastFreeOrder 3 (some .int) yX1_leastFreeOrder.cls tb) (hg : 3 ≤ g.1 ∧ g.1 ≤ 11 ∧ 8 ≤ g.2.1 ∧ g.2.1 ≤ 2048 ∧ 1 ≤ g.2.2.1 ∧ g.2.2.1 ≤ 24 ∧ 1 ≤ g.2.2.2 ∧ g.2.2.2 ≤ 12) (σ : St) (hF : ∀ k : Nat, k ≤ g.1 → 0 ≤ σ 3 k ∧ σ 3 k ≤ 2048) (a : Int) (ha : 0 ≤ a ∧ a ≤ 64) (K : ∀ r : Int, lfo σ g.1 a r → ∀ pc lv, (pc = 20 ∨ pc = 28) → X p l e R s m args below meth c D ad 3 Q (kc D ad g σ) pc lv [vi r]) (n : Nat) (z : Int) (hz : a ≤ z ∧ z ≤ 65) (hn : 66 - z ≤ n) (hb : ∀ k : Int, a ≤ k → k < z → ¬ 0 < σ 3 k.toNat) : X p l e R s m args below meth c D ad 3 Q (kc D ad g σ) 2 [(2, vi z), (0, .ref (ad 1)), (1, vi a)] [] := by
  induction n generalizing z with
  | zero => omega
  | succ n ih =>
  refine x_iload_n C dX1_leastFreeOrder_2 rfl rfl ?_
  refine x_aload_n C dX1_leastFreeOrder_3 rfl rfl ?_
  refine x_get C (Cn := RX1) (T := TX1) (N := 4) (ci := 1) 0 dX1_leastFreeOrder_4 m_w_1 m_f_RX1_9 rfl (by decide) rfl rfl ?_
  refine x_icmp_gt (tgt := 27) C dX1_leastFreeOrder_7 (by decide) (by omega) (by omega) (fun c_7 => ?_) (fun c_7 => ?_)
  · refine x_iconst C dX1_leastFreeOrder_27 ?_
    exact K _ (Or.inl ⟨rfl, fun k h1 h2 => hb k h1 (by omega)⟩) _ _ (Or.inr rfl)
  · refine x_aload_n C dX1_leastFreeOrder_10 rfl rfl ?_
    refine x_get C (Cn := RX1) (T := TX1) (N := 4) (ci := 1) 2 dX1_leastFreeOrder_11 m_w_1 m_f_RX1_19 rfl (by decide) rfl rfl ?_
    refine x_iload_n C dX1_leastFreeOrder_14 rfl rfl ?_
    refine x_iald C dX1_leastFreeOrder_15 rfl (by omega) (by omega) ?_
    have hFz := hF z.toNat (by omega)
    refine x_if_le (tgt := 21) C dX1_leastFreeOrder_16 (by decide) (by omega) (fun c_16 => ?_) (fun c_16 => ?_)
    · refine x_iinc C (lv' := [(2, _), (0, _), (1, _)]) dX1_leastFreeOrder_21 rfl (by decide) rfl ?_
      refine x_goto (tgt := 2) C dX1_leastFreeOrder_24 (by decide) ?_
      exact ih _ (by omega) (by omega) (fun k h1 h2 => if q : k < z then hb k h1 q else by rw [show k = z by omega]; omega)
    · refine x_iload_n C dX1_leastFreeOrder_19 rfl rfl ?_
      exact K _ (Or.inr ⟨by omega, by omega, by omega, hb⟩) _ _ (Or.inl rfl)
set_option maxHeartbeats 4000000 in
set_option maxRecDepth 100000 in
theorem c_leastFreeOrder {l : Launch} {D : va_G} {ad : Nat → Nat} {g : Nat × Nat × Nat × Nat} (hg : 3 ≤ g.1 ∧ g.1 ≤ 11 ∧ 8 ≤ g.2.1 ∧ g.2.1 ≤ 2048 ∧ 1 ≤ g.2.2.1 ∧ g.2.2.1 ≤ 24 ∧ 1 ≤ g.2.2.2 ∧ g.2.2.2 ≤ 12) (σ : St) (hF : ∀ k : Nat, k ≤ g.1 → 0 ≤ σ 3 k ∧ σ 3 k ≤ 2048) (a : Int) (ha : 0 ≤ a ∧ a ≤ 64) : Kt l D ad g yX1_leastFreeOrder (Cond.code yX1_leastFreeOrder cX1_leastFreeOrder 3 (some .int) :: tb) 0 0 [.ref (ad 1), vi a] σ (fun v σ' => σ = σ' ∧ ∃ r : Int, v = some (vi r) ∧ lfo σ g.1 a r) := by
  refine ct_of (by decide) rfl (Nat.le_of_ble_eq_true rfl) ?_
  intro p e s m below meth c C
  change X _ _ _ _ _ _ _ _ _ _ _ _ _ _ _ _ [(0, .ref (ad 1)), (1, vi a)] _
  refine x_iload_n C dX1_leastFreeOrder_0 rfl rfl ?_
  refine x_istore_n C (lv' := [(2, _), (0, _), (1, _)]) dX1_leastFreeOrder_1 rfl (by decide) rfl ?_
  refine lp_leastFreeOrder C hg σ hF a ha ?_ 66 a (by omega) (by omega) (fun k h1 h2 => by omega)
  intro r hr pc lv hpc
  rcases hpc with rfl | rfl
  · exact x_iret C dX1_leastFreeOrder_20 ⟨_, rfl, rfl, _, rfl, hr⟩
  · exact x_iret C dX1_leastFreeOrder_28 ⟨_, rfl, rfl, _, rfl, hr⟩
set_option maxHeartbeats 4000000 in
set_option maxRecDepth 100000 in
theorem c_hasLimb {l : Launch} {D : va_G} {ad : Nat → Nat} {g : Nat × Nat × Nat × Nat} (hg : 3 ≤ g.1 ∧ g.1 ≤ 11 ∧ 8 ≤ g.2.1 ∧ g.2.1 ≤ 2048 ∧ 1 ≤ g.2.2.1 ∧ g.2.2.1 ≤ 24 ∧ 1 ≤ g.2.2.2 ∧ g.2.2.2 ≤ 12) (σ : St) (h : Nat) (hh : h < g.2.2.1) (i : Int) (hi : -2147483648 ≤ i ∧ i < 2147483648) (hs : 0 ≤ σ (10 + h) 2 ∧ σ (10 + h) 2 ≤ 2048) : Kt l D ad g yX2_hasLimb (Cond.code yX2_hasLimb cX2_hasLimb 2 (some .boolean) :: tb) 0 0 [.ref (ad (10 + h)), vi i] σ (fun v σ' => σ = σ' ∧ v = some (vi (if 0 ≤ i ∧ i < σ (10 + h) 2 then 1 else 0))) := by
  refine ct_of (by decide) rfl (Nat.le_of_ble_eq_true rfl) ?_
  intro p e s m below meth c C
  change X _ _ _ _ _ _ _ _ _ _ _ _ _ _ _ _ [(0, .ref (ad (10 + h))), (1, vi i)] _
  refine x_iload_n C dX2_hasLimb_0 rfl rfl ?_
  refine x_if_lt (tgt := 16) C dX2_hasLimb_1 (by decide) (by omega) (fun c_1 => ?_) (fun c_1 => ?_)
  · refine x_iconst C dX2_hasLimb_16 ?_
    exact x_zret C dX2_hasLimb_17 (by decide) ⟨_, rfl, rfl, by first | rw [if_pos (by omega)] | rw [if_neg (by omega)]⟩
  · refine x_iload_n C dX2_hasLimb_4 rfl rfl ?_
    refine x_aload_n C dX2_hasLimb_5 rfl rfl ?_
    refine x_get C (Cn := RX2) (T := TX2) (N := 6) (ci := 2) 2 dX2_hasLimb_6 m_w_2 m_f_RX2_7 rfl (by decide) (kc_num (by omega)) rfl ?_
    refine x_icmp_ge (tgt := 16) C dX2_hasLimb_9 (by decide) (by omega) (by omega) (fun c_9 => ?_) (fun c_9 => ?_)
    · refine x_iconst C dX2_hasLimb_16 ?_
      exact x_zret C dX2_hasLimb_17 (by decide) ⟨_, rfl, rfl, by first | rw [if_pos (by omega)] | rw [if_neg (by omega)]⟩
    · refine x_iconst C dX2_hasLimb_12 ?_
      refine x_goto (tgt := 17) C dX2_hasLimb_13 (by decide) ?_
      exact x_zret C dX2_hasLimb_17 (by decide) ⟨_, rfl, rfl, by first | rw [if_pos (by omega)] | rw [if_neg (by omega)]⟩
set_option maxHeartbeats 4000000 in
set_option maxRecDepth 100000 in
theorem c_isQueued {l : Launch} {D : va_G} {ad : Nat → Nat} {g : Nat × Nat × Nat × Nat} (hg : 3 ≤ g.1 ∧ g.1 ≤ 11 ∧ 8 ≤ g.2.1 ∧ g.2.1 ≤ 2048 ∧ 1 ≤ g.2.2.1 ∧ g.2.2.1 ≤ 24 ∧ 1 ≤ g.2.2.2 ∧ g.2.2.2 ≤ 12) (σ : St) (j : Nat) (hj : j < g.2.2.2) (hs : -1 ≤ σ (40 + j) 0 ∧ σ (40 + j) 0 ≤ 3) : Kt l D ad g yX0_isQueued (Cond.code yX0_isQueued cX0_isQueued 1 (some .boolean) :: tb) 0 0 [.ref (ad (40 + j))] σ (fun v σ' => σ = σ' ∧ v = some (vi (if σ (40 + j) 0 = 0 ∨ σ (40 + j) 0 = 1 then 1 else 0))) := by
  refine ct_of (by decide) rfl (Nat.le_of_ble_eq_true rfl) ?_
  intro p e s m below meth c C
  change X _ _ _ _ _ _ _ _ _ _ _ _ _ _ _ _ [(0, .ref (ad (40 + j)))] _
  refine x_aload_n C dX0_isQueued_0 rfl rfl ?_
  refine x_get C (Cn := RX0) (T := TX0) (N := 11) (ci := 0) 0 dX0_isQueued_1 m_w_0 m_f_RX0_9 rfl (by decide) (kc_job (by omega) (by omega)) rfl ?_
  refine x_if_eq (tgt := 15) C dX0_isQueued_4 (by decide) (by omega) (fun c_4 => ?_) (fun c_4 => ?_)
  · refine x_iconst C dX0_isQueued_15 ?_
    refine x_goto (tgt := 20) C dX0_isQueued_16 (by decide) ?_
    exact x_zret C dX0_isQueued_20 (by decide) ⟨_, rfl, rfl, by first | rw [if_pos (by omega)] | rw [if_neg (by omega)]⟩
  · refine x_aload_n C dX0_isQueued_7 rfl rfl ?_
    refine x_get C (Cn := RX0) (T := TX0) (N := 11) (ci := 0) 0 dX0_isQueued_8 m_w_0 m_f_RX0_9 rfl (by decide) (kc_job (by omega) (by omega)) rfl ?_
    refine x_iconst C dX0_isQueued_11 ?_
    refine x_icmp_ne (tgt := 19) C dX0_isQueued_12 (by decide) (by omega) (by omega) (fun c_12 => ?_) (fun c_12 => ?_)
    · refine x_iconst C dX0_isQueued_19 ?_
      exact x_zret C dX0_isQueued_20 (by decide) ⟨_, rfl, rfl, by first | rw [if_pos (by omega)] | rw [if_neg (by omega)]⟩
    · refine x_iconst C dX0_isQueued_15 ?_
      refine x_goto (tgt := 20) C dX0_isQueued_16 (by decide) ?_
      exact x_zret C dX0_isQueued_20 (by decide) ⟨_, rfl, rfl, by first | rw [if_pos (by omega)] | rw [if_neg (by omega)]⟩
set_option maxHeartbeats 4000000 in
set_option maxRecDepth 100000 in
theorem c_jobClear {l : Launch} {D : va_G} {ad : Nat → Nat} {g : Nat × Nat × Nat × Nat} (hg : 3 ≤ g.1 ∧ g.1 ≤ 11 ∧ 8 ≤ g.2.1 ∧ g.2.1 ≤ 2048 ∧ 1 ≤ g.2.2.1 ∧ g.2.2.1 ≤ 24 ∧ 1 ≤ g.2.2.2 ∧ g.2.2.2 ≤ 12) (σ : St) (j : Nat) (hj : j < g.2.2.2) : Kt l D ad g yX0_clear (Cond.code yX0_clear cX0_clear 1 none :: tb) 0 0 [.ref (ad (40 + j))] σ (fun v σ' => v = none ∧ σ' = up (up (up σ (40 + j) 0 (-1)) (40 + j) 5 (-1)) (40 + j) 8 (-1)) := by
  refine ct_of (by decide) rfl (Nat.le_of_ble_eq_true rfl) ?_
  intro p e s m below meth c C
  change X _ _ _ _ _ _ _ _ _ _ _ _ _ _ _ _ [(0, .ref (ad (40 + j)))] _
  refine x_aload_n C dX0_clear_0 rfl rfl ?_
  refine x_iconst C dX0_clear_1 ?_
  refine k_putJ C 0 (by decide) dX0_clear_2 m_f_RX0_9 rfl (by decide +kernel) (by omega) (by omega) ?_
  refine x_aload_n C dX0_clear_5 rfl rfl ?_
  refine x_iconst C dX0_clear_6 ?_
  refine k_putJ C 5 (by decide) dX0_clear_7 m_f_RX0_15 rfl (by decide +kernel) (by omega) (by omega) ?_
  refine x_aload_n C dX0_clear_10 rfl rfl ?_
  refine x_iconst C dX0_clear_11 ?_
  refine k_putJ C 8 (by decide) dX0_clear_12 m_f_RX0_18 rfl (by decide +kernel) (by omega) (by omega) ?_
  exact x_vret C dX0_clear_15 ⟨_, rfl, rfl, rfl⟩
set_option maxHeartbeats 4000000 in
set_option maxRecDepth 100000 in
theorem c_queueClear {l : Launch} {D : va_G} {ad : Nat → Nat} {g : Nat × Nat × Nat × Nat} (hg : 3 ≤ g.1 ∧ g.1 ≤ 11 ∧ 8 ≤ g.2.1 ∧ g.2.1 ≤ 2048 ∧ 1 ≤ g.2.2.1 ∧ g.2.2.1 ≤ 24 ∧ 1 ≤ g.2.2.2 ∧ g.2.2.2 ≤ 12) (σ : St) : Kt l D ad g yX3_clear (Cond.code yX3_clear cX3_clear 1 none :: tb) 0 0 [.ref (ad 8)] σ (fun v σ' => v = none ∧ σ' = up σ 8 2 0) := by
  refine ct_of (by decide) rfl (Nat.le_of_ble_eq_true rfl) ?_
  intro p e s m below meth c C
  change X _ _ _ _ _ _ _ _ _ _ _ _ _ _ _ _ [(0, .ref (ad 8))] _
  refine x_aload_n C dX3_clear_0 rfl rfl ?_
  refine x_iconst C dX3_clear_1 ?_
  refine k_putS C (Cn := RX3) (T := TX3) (N := 3) (ci := 3) (ty := .int) 2 dX3_clear_2 m_w_3 m_f_RX3_15 rfl (by decide) tyX3 tyX3_ok nmX3 rfl (by decide +kernel) rfl rfl rfl (Nat.le_of_ble_eq_true rfl) rfl ?_
  exact x_vret C dX3_clear_5 ⟨_, rfl, rfl, rfl⟩
def qx (g : Nat × Nat × Nat × Nat) (σ : St) (k : Int) : Int := if σ 8 1 + k < g.2.2.2 then σ 8 1 + k else σ 8 1 + k - g.2.2.2
theorem qx_def (g : Nat × Nat × Nat × Nat) (σ : St) (k : Int) : qx g σ k = if σ 8 1 + k < g.2.2.2 then σ 8 1 + k else σ 8 1 + k - g.2.2.2 := rfl
set_option maxHeartbeats 4000000 in
set_option maxRecDepth 100000 in
theorem c_slot {l : Launch} {D : va_G} {ad : Nat → Nat} {g : Nat × Nat × Nat × Nat} (hg : 3 ≤ g.1 ∧ g.1 ≤ 11 ∧ 8 ≤ g.2.1 ∧ g.2.1 ≤ 2048 ∧ 1 ≤ g.2.2.1 ∧ g.2.2.1 ≤ 24 ∧ 1 ≤ g.2.2.2 ∧ g.2.2.2 ≤ 12) (σ : St) (k : Int) (hk : 0 ≤ k ∧ k ≤ g.2.2.2) (hq : 0 ≤ σ 8 1 ∧ σ 8 1 < g.2.2.2) : Kt l D ad g yX3_slot (Cond.code yX3_slot cX3_slot 3 (some .int) :: tb) 0 0 [.ref (ad 8), vi k] σ (fun v σ' => σ = σ' ∧ v = some (vi (qx g σ k))) := by
  refine ct_of (by decide) rfl (Nat.le_of_ble_eq_true rfl) ?_
  intro p e s m below meth c C
  change X _ _ _ _ _ _ _ _ _ _ _ _ _ _ _ _ [(0, .ref (ad 8)), (1, vi k)] _
  refine x_aload_n C dX3_slot_0 rfl rfl ?_
  refine x_get C (Cn := RX3) (T := TX3) (N := 3) (ci := 3) 1 dX3_slot_1 m_w_3 m_f_RX3_23 rfl (by decide) rfl rfl ?_
  refine x_iload_n C dX3_slot_4 rfl rfl ?_
  refine x_iadd C dX3_slot_5 ?_
  refine x_istore_n C (lv' := [(2, _), (0, _), (1, _)]) dX3_slot_6 rfl (by decide) rfl ?_
  refine x_iload_n C dX3_slot_7 rfl rfl ?_
  refine x_aload_n C dX3_slot_8 rfl rfl ?_
  refine x_get C (Cn := RX3) (T := TX3) (N := 3) (ci := 3) 0 dX3_slot_9 m_w_3 m_f_RX3_9 rfl (by decide) rfl rfl ?_
  refine x_alen C 0 dX3_slot_12 rfl rfl ?_
  refine x_icmp_ge (tgt := 20) C dX3_slot_13 (by decide) (by omega) (by omega) (fun c_13 => ?_) (fun c_13 => ?_)
  · refine x_iload_n C dX3_slot_20 rfl rfl ?_
    refine x_aload_n C dX3_slot_21 rfl rfl ?_
    refine x_get C (Cn := RX3) (T := TX3) (N := 3) (ci := 3) 0 dX3_slot_22 m_w_3 m_f_RX3_9 rfl (by decide) rfl rfl ?_
    refine x_alen C 0 dX3_slot_25 rfl rfl ?_
    refine x_isub C dX3_slot_26 ?_
    exact x_iret C dX3_slot_27 ⟨_, rfl, rfl, by rw [qx_def]; first | rw [if_pos (by omega)] | rw [if_neg (by omega)]⟩
  · refine x_iload_n C dX3_slot_16 rfl rfl ?_
    refine x_goto (tgt := 27) C dX3_slot_17 (by decide) ?_
    exact x_iret C dX3_slot_27 ⟨_, rfl, rfl, by rw [qx_def]; first | rw [if_pos (by omega)] | rw [if_neg (by omega)]⟩
end
section
/-! THE QUEUE: Qs: the ring holds the list q -/
def Qs (g : Nat × Nat × Nat × Nat) (σ : St) (q : List Int) : Prop := (0 ≤ σ 8 1 ∧ σ 8 1 < g.2.2.2) ∧ σ 8 2 = q.length ∧ q.length ≤ g.2.2.2 ∧ ∀ k : Nat, k < q.length → q[k]? = some (σ 9 (qx g σ k).toNat)
theorem qx_in {g : Nat × Nat × Nat × Nat} {σ : St} {k : Int} (h : 0 ≤ σ 8 1 ∧ σ 8 1 < g.2.2.2) (hk : 0 ≤ k ∧ k ≤ g.2.2.2) : 0 ≤ qx g σ k ∧ qx g σ k < g.2.2.2 := by
  unfold qx; split <;> omega
theorem Qs.row {g : Nat × Nat × Nat × Nat} {σ σ' : St} {q : List Int} (h : Qs g σ q) (h8 : σ' 8 = σ 8) (h9 : σ' 9 = σ 9) : Qs g σ' q := by
  unfold Qs qx at *; rw [h8, h9]; exact h
theorem Qs.take {g : Nat × Nat × Nat × Nat} {σ : St} {j : Int} {q : List Int} (h : Qs g σ (j :: q)) : j = σ 9 (σ 8 1).toNat ∧ Qs g (up (up σ 8 1 (qx g σ 1)) 8 2 (σ 8 2 - 1)) q := by
  obtain ⟨h1, h2, h3, h4⟩ := h
  simp only [List.length_cons] at h2 h3 h4
  have h0 := h4 0 (by omega)
  refine ⟨by simp [qx, h1.2] at h0; exact h0, ?_⟩
  have hq := qx_in (g := g) (σ := σ) (k := 1) h1 (by omega)
  have e1 : up (up σ 8 1 (qx g σ 1)) 8 2 (σ 8 2 - 1) 8 1 = qx g σ 1 := by simp [up, zup]
  have e2 : up (up σ 8 1 (qx g σ 1)) 8 2 (σ 8 2 - 1) 8 2 = σ 8 2 - 1 := by simp [up, zup]
  have e3 : up (up σ 8 1 (qx g σ 1)) 8 2 (σ 8 2 - 1) 9 = σ 9 := by simp [up]
  refine ⟨by rw [e1]; exact hq, by rw [e2]; omega, by omega, fun k hk => ?_⟩
  have := h4 (k + 1) (by omega)
  rw [List.getElem?_cons_succ] at this
  rw [this, e3]
  have e4 : qx g σ ((k + 1 : Nat) : Int) = qx g (up (up σ 8 1 (qx g σ 1)) 8 2 (σ 8 2 - 1)) k := by
    rw [qx_def g σ ((k + 1 : Nat) : Int), qx_def g (up (up σ 8 1 (qx g σ 1)) 8 2 (σ 8 2 - 1)) k, e1, qx_def g σ 1]
    split <;> split <;> split <;> omega
  rw [e4]
theorem Qs.add {g : Nat × Nat × Nat × Nat} {σ : St} {j : Int} {q : List Int} (h : Qs g σ q) (hl : q.length < g.2.2.2) : Qs g (up (up σ 9 (qx g σ (σ 8 2)).toNat j) 8 2 (σ 8 2 + 1)) (q ++ [j]) := by
  obtain ⟨h1, h2, h3, h4⟩ := h
  have e1 : up (up σ 9 (qx g σ (σ 8 2)).toNat j) 8 2 (σ 8 2 + 1) 8 1 = σ 8 1 := by simp [up, zup]
  have e2 : up (up σ 9 (qx g σ (σ 8 2)).toNat j) 8 2 (σ 8 2 + 1) 8 2 = σ 8 2 + 1 := by simp [up, zup]
  have e3 : up (up σ 9 (qx g σ (σ 8 2)).toNat j) 8 2 (σ 8 2 + 1) 9 = zup (σ 9) (qx g σ (σ 8 2)).toNat j := by simp [up]
  have e4 : ∀ k : Int, qx g (up (up σ 9 (qx g σ (σ 8 2)).toNat j) 8 2 (σ 8 2 + 1)) k = qx g σ k := by intro k; rw [qx_def g (up (up σ 9 (qx g σ (σ 8 2)).toNat j) 8 2 (σ 8 2 + 1)) k, e1, ← qx_def]
  refine ⟨by rw [e1]; exact h1, by rw [e2]; simp; omega, by simp; omega, fun k hk => ?_⟩
  rw [e3, e4]
  simp at hk
  rcases Nat.lt_or_ge k q.length with c | c
  · rw [List.getElem?_append_left c, h4 k c, zup_n]
    have a1 := qx_in (g := g) (σ := σ) (k := (k : Int)) h1 (by omega)
    have a2 := qx_in (g := g) (σ := σ) (k := σ 8 2) h1 (by omega)
    have : qx g σ (k : Int) ≠ qx g σ (σ 8 2) := by unfold qx; split <;> split <;> omega
    omega
  · have e : k = q.length := by omega
    subst e
    rw [List.getElem?_append_right (Nat.le_refl _), ← h2, zup_s]
    simp
set_option maxHeartbeats 4000000 in
set_option maxRecDepth 100000 in
theorem c_takeFirst {l : Launch} {D : va_G} {ad : Nat → Nat} {g : Nat × Nat × Nat × Nat} (hg : 3 ≤ g.1 ∧ g.1 ≤ 11 ∧ 8 ≤ g.2.1 ∧ g.2.1 ≤ 2048 ∧ 1 ≤ g.2.2.1 ∧ g.2.2.1 ≤ 24 ∧ 1 ≤ g.2.2.2 ∧ g.2.2.2 ≤ 12) (σ : St) (q : List Int) (hq : Qs g σ q) : Kt l D ad g yX3_takeFirst (Cond.code yX3_takeFirst cX3_takeFirst 2 (some .int) :: tb) 1 40 [.ref (ad 8)] σ (fun v σ' => (q = [] ∧ v = some (vi (-1)) ∧ σ = σ') ∨ ∃ j q', q = j :: q' ∧ v = some (vi j) ∧ Qs g σ' q' ∧ ∀ n, n ≠ 8 → σ' n = σ n) := by
  refine ct_of (by decide) rfl (Nat.le_of_ble_eq_true rfl) ?_
  intro p e s m below meth c C
  change X _ _ _ _ _ _ _ _ _ _ _ _ _ _ _ _ [(0, .ref (ad 8))] _
  have hq0 := hq
  obtain ⟨h1, h2, h3, h4⟩ := hq0
  refine x_aload_n C dX3_takeFirst_0 rfl rfl ?_
  refine x_get C (Cn := RX3) (T := TX3) (N := 3) (ci := 3) 2 dX3_takeFirst_1 m_w_3 m_f_RX3_15 rfl (by decide) rfl rfl ?_
  refine x_if_ne (tgt := 9) C dX3_takeFirst_4 (by decide) (by omega) (fun c_4 => ?_) (fun c_4 => ?_)
  · obtain ⟨j, q', rfl⟩ : ∃ j q', q = j :: q' := by
      cases q with
      | nil => simp at h2; omega
      | cons j q' => exact ⟨j, q', rfl⟩
    obtain ⟨t1, t2⟩ := hq.take
    refine x_aload_n C dX3_takeFirst_9 rfl rfl ?_
    refine x_get C (Cn := RX3) (T := TX3) (N := 3) (ci := 3) 0 dX3_takeFirst_10 m_w_3 m_f_RX3_9 rfl (by decide) rfl rfl ?_
    refine x_aload_n C dX3_takeFirst_13 rfl rfl ?_
    refine x_get C (Cn := RX3) (T := TX3) (N := 3) (ci := 3) 1 dX3_takeFirst_14 m_w_3 m_f_RX3_23 rfl (by decide) rfl rfl ?_
    refine x_iald C dX3_takeFirst_17 rfl (by omega) (by omega) ?_
    refine x_istore_n C (lv' := [(1, _), (0, _)]) dX3_takeFirst_18 rfl (by decide) rfl ?_
    refine x_aload_n C dX3_takeFirst_19 rfl rfl ?_
    refine x_aload_n C dX3_takeFirst_20 rfl rfl ?_
    refine x_iconst C dX3_takeFirst_21 ?_
    refine x_callV C (ci := 3) (nn := 1) (c_slot hg σ 1 (by omega) h1) g_RX3_19 rfl (by decide +kernel) ⟨by first | decide | omega, by first | decide | omega⟩ rfl rfl rfl rfl rfl (Nat.le_of_ble_eq_true rfl) dX3_takeFirst_22 (fun v h1 hp => ?_)
    obtain ⟨σ1, rfl, rfl, rfl⟩ := hp
    try dsimp only [Option.toList, List.cons_append, List.nil_append]
    refine k_putS C (Cn := RX3) (T := TX3) (N := 3) (ci := 3) (ty := .int) 1 dX3_takeFirst_25 m_w_3 m_f_RX3_23 rfl (by decide) tyX3 tyX3_ok nmX3 rfl (by decide +kernel) rfl rfl rfl (Nat.le_of_ble_eq_true rfl) rfl ?_
    refine x_aload_n C dX3_takeFirst_28 rfl rfl ?_
    refine x_dup C dX3_takeFirst_29 rfl ?_
    refine x_get C (Cn := RX3) (T := TX3) (N := 3) (ci := 3) 2 dX3_takeFirst_30 m_w_3 m_f_RX3_15 rfl (by decide) rfl rfl ?_
    refine x_iconst C dX3_takeFirst_33 ?_
    refine x_isub C dX3_takeFirst_34 ?_
    refine k_putS C (Cn := RX3) (T := TX3) (N := 3) (ci := 3) (ty := .int) 2 dX3_takeFirst_35 m_w_3 m_f_RX3_15 rfl (by decide) tyX3 tyX3_ok nmX3 rfl (by decide +kernel) rfl rfl rfl (Nat.le_of_ble_eq_true rfl) rfl ?_
    refine x_iload_n C dX3_takeFirst_38 rfl rfl ?_
    exact x_iret C dX3_takeFirst_39 ⟨_, rfl, Or.inr ⟨_, _, rfl, by rw [t1], by exact t2, fun n hn => by rw [up_n hn, up_n hn]⟩⟩
  · refine x_iconst C dX3_takeFirst_7 ?_
    exact x_iret C dX3_takeFirst_8 ⟨_, rfl, Or.inl ⟨List.length_eq_zero_iff.mp (by omega), rfl, rfl⟩⟩
set_option maxHeartbeats 4000000 in
set_option maxRecDepth 100000 in
theorem c_append {l : Launch} {D : va_G} {ad : Nat → Nat} {g : Nat × Nat × Nat × Nat} (hg : 3 ≤ g.1 ∧ g.1 ≤ 11 ∧ 8 ≤ g.2.1 ∧ g.2.1 ≤ 2048 ∧ 1 ≤ g.2.2.1 ∧ g.2.2.1 ≤ 24 ∧ 1 ≤ g.2.2.2 ∧ g.2.2.2 ≤ 12) (σ : St) (q : List Int) (hq : Qs g σ q) (hl : q.length < g.2.2.2) (j : Int) : Kt l D ad g yX3_append (Cond.code yX3_append cX3_append 2 none :: tb) 1 40 [.ref (ad 8), vi j] σ (fun v σ' => v = none ∧ Qs g σ' (q ++ [j]) ∧ ∀ n, n ≠ 8 → n ≠ 9 → σ' n = σ n) := by
  refine ct_of (by decide) rfl (Nat.le_of_ble_eq_true rfl) ?_
  intro p e s m below meth c C
  change X _ _ _ _ _ _ _ _ _ _ _ _ _ _ _ _ [(0, .ref (ad 8)), (1, vi j)] _
  have hq0 := hq
  obtain ⟨h1, h2, h3, h4⟩ := hq0
  refine x_aload_n C dX3_append_0 rfl rfl ?_
  refine x_get C (Cn := RX3) (T := TX3) (N := 3) (ci := 3) 2 dX3_append_1 m_w_3 m_f_RX3_15 rfl (by decide) rfl rfl ?_
  refine x_aload_n C dX3_append_4 rfl rfl ?_
  refine x_get C (Cn := RX3) (T := TX3) (N := 3) (ci := 3) 0 dX3_append_5 m_w_3 m_f_RX3_9 rfl (by decide) rfl rfl ?_
  refine x_alen C 0 dX3_append_8 rfl rfl ?_
  refine x_icmp_ge (tgt := 36) C dX3_append_9 (by decide) (by omega) (by omega) (fun c_9 => ?_) (fun c_9 => ?_)
  · omega
  · refine x_aload_n C dX3_append_12 rfl rfl ?_
    refine x_get C (Cn := RX3) (T := TX3) (N := 3) (ci := 3) 0 dX3_append_13 m_w_3 m_f_RX3_9 rfl (by decide) rfl rfl ?_
    refine x_aload_n C dX3_append_16 rfl rfl ?_
    refine x_aload_n C dX3_append_17 rfl rfl ?_
    refine x_get C (Cn := RX3) (T := TX3) (N := 3) (ci := 3) 2 dX3_append_18 m_w_3 m_f_RX3_15 rfl (by decide) rfl rfl ?_
    refine x_callV C (ci := 3) (nn := 1) (c_slot hg σ (σ 8 2) (by omega) h1) g_RX3_19 rfl (by decide +kernel) ⟨by first | decide | omega, by first | decide | omega⟩ rfl rfl rfl rfl rfl (Nat.le_of_ble_eq_true rfl) dX3_append_21 (fun v h1 hp => ?_)
    obtain ⟨σ1, rfl, rfl, rfl⟩ := hp
    try dsimp only [Option.toList, List.cons_append, List.nil_append]
    have hx := qx_in (g := g) (σ := σ) (k := σ 8 2) h1 (by omega)
    refine x_iload_n C dX3_append_24 rfl rfl ?_
    refine k_ast C dX3_append_25 (fun _ => rfl) hx (by omega) ?_
    refine x_aload_n C dX3_append_26 rfl rfl ?_
    refine x_dup C dX3_append_27 rfl ?_
    refine x_get C (Cn := RX3) (T := TX3) (N := 3) (ci := 3) 2 dX3_append_28 m_w_3 m_f_RX3_15 rfl (by decide) rfl rfl ?_
    refine x_iconst C dX3_append_31 ?_
    refine x_iadd C dX3_append_32 ?_
    refine k_putS C (Cn := RX3) (T := TX3) (N := 3) (ci := 3) (ty := .int) 2 dX3_append_33 m_w_3 m_f_RX3_15 rfl (by decide) tyX3 tyX3_ok nmX3 rfl (by decide +kernel) rfl rfl rfl (Nat.le_of_ble_eq_true rfl) rfl ?_
    exact x_vret C dX3_append_36 ⟨_, rfl, rfl, by exact hq.add hl, fun n h8 h9 => by rw [up_n h8, up_n h9]⟩
set_option maxHeartbeats 4000000 in
set_option maxRecDepth 100000 in
theorem c_queueAt {l : Launch} {D : va_G} {ad : Nat → Nat} {g : Nat × Nat × Nat × Nat} (hg : 3 ≤ g.1 ∧ g.1 ≤ 11 ∧ 8 ≤ g.2.1 ∧ g.2.1 ≤ 2048 ∧ 1 ≤ g.2.2.1 ∧ g.2.2.1 ≤ 24 ∧ 1 ≤ g.2.2.2 ∧ g.2.2.2 ≤ 12) (σ : St) (q : List Int) (hq : Qs g σ q) (k : Int) (hk : -2147483648 ≤ k ∧ k < 2147483648) : Kt l D ad g yX3_at (Cond.code yX3_at cX3_at 2 (some .int) :: tb) 1 40 [.ref (ad 8), vi k] σ (fun v σ' => σ = σ' ∧ v = some (vi (if 0 ≤ k ∧ k < q.length then q.getD k.toNat 0 else -1))) := by
  refine ct_of (by decide) rfl (Nat.le_of_ble_eq_true rfl) ?_
  intro p e s m below meth c C
  change X _ _ _ _ _ _ _ _ _ _ _ _ _ _ _ _ [(0, .ref (ad 8)), (1, vi k)] _
  have hq0 := hq
  obtain ⟨h1, h2, h3, h4⟩ := hq0
  refine x_iload_n C dX3_at_0 rfl rfl ?_
  refine x_if_lt (tgt := 25) C dX3_at_1 (by decide) (by omega) (fun c_1 => ?_) (fun c_1 => ?_)
  · refine x_iconst C dX3_at_25 ?_
    exact x_iret C dX3_at_26 ⟨_, rfl, rfl, by first | (rw [if_pos (by omega), List.getD_eq_getElem?_getD, h5]; rfl) | rw [if_neg (by omega)]⟩
  · refine x_iload_n C dX3_at_4 rfl rfl ?_
    refine x_aload_n C dX3_at_5 rfl rfl ?_
    refine x_get C (Cn := RX3) (T := TX3) (N := 3) (ci := 3) 2 dX3_at_6 m_w_3 m_f_RX3_15 rfl (by decide) rfl rfl ?_
    refine x_icmp_ge (tgt := 25) C dX3_at_9 (by decide) (by omega) (by omega) (fun c_9 => ?_) (fun c_9 => ?_)
    · refine x_iconst C dX3_at_25 ?_
      exact x_iret C dX3_at_26 ⟨_, rfl, rfl, by first | (rw [if_pos (by omega), List.getD_eq_getElem?_getD, h5]; rfl) | rw [if_neg (by omega)]⟩
    · refine x_aload_n C dX3_at_12 rfl rfl ?_
      refine x_get C (Cn := RX3) (T := TX3) (N := 3) (ci := 3) 0 dX3_at_13 m_w_3 m_f_RX3_9 rfl (by decide) rfl rfl ?_
      refine x_aload_n C dX3_at_16 rfl rfl ?_
      refine x_iload_n C dX3_at_17 rfl rfl ?_
      refine x_callV C (ci := 3) (nn := 1) (c_slot hg σ k (by omega) h1) g_RX3_19 rfl (by decide +kernel) ⟨by first | decide | omega, by first | decide | omega⟩ rfl rfl rfl rfl rfl (Nat.le_of_ble_eq_true rfl) dX3_at_18 (fun v h1 hp => ?_)
      obtain ⟨σ1, rfl, rfl, rfl⟩ := hp
      try dsimp only [Option.toList, List.cons_append, List.nil_append]
      have hx := qx_in (g := g) (σ := σ) (k := k) h1 (by omega)
      have h5 := h4 k.toNat (by omega)
      rw [show ((k.toNat : Nat) : Int) = k by omega] at h5
      refine x_iald C dX3_at_21 rfl hx (by omega) ?_
      refine x_goto (tgt := 26) C dX3_at_22 (by decide) ?_
      exact x_iret C dX3_at_26 ⟨_, rfl, rfl, by first | (rw [if_pos (by omega), List.getD_eq_getElem?_getD, h5]; rfl) | rw [if_neg (by omega)]⟩
set_option maxHeartbeats 4000000 in
set_option maxRecDepth 100000 in
theorem lp_drop {p : Program} {l : Launch} {e : Env} {R : Room} {s : State} {m : MethodId} {args : Array Value} {below : List Frame} {meth : Method} {c : Code} {D : va_G} {ad : Nat → Nat} {g : Nat × Nat × Nat × Nat} {Q : State → Prop} (C : Fx p s m args meth c D ad cX3_drop 5 none yX3_drop.cls tb) (hg : 3 ≤ g.1 ∧ g.1 ≤ 11 ∧ 8 ≤ g.2.1 ∧ g.2.1 ≤ 2048 ∧ 1 ≤ g.2.2.1 ∧ g.2.2.1 ≤ 24 ∧ 1 ≤ g.2.2.2 ∧ g.2.2.2 ≤ 12) (σ : St) (hR : 2 ≤ R.frames ∧ 100 ≤ R.locals) (j : Int) (hj : -2147483648 ≤ j ∧ j < 2147483648) (q : List Int) (hqr : ∀ x ∈ q, 0 ≤ x ∧ x < 12) (hl : q.length ≤ 12) (K : ∀ (σ' : St) (lv : List (Nat × Value)), Qs g σ' (q.filter (fun x => !decide (x = j))) → (∀ n, n ≠ 8 → n ≠ 9 → σ' n = σ n) → X p l e R s m args below meth c D ad 5 Q (kc D ad g σ') 36 lv []) (n : Nat) (σ1 : St) (dn rs : List Int) (hdr : q = dn ++ rs) (hn : rs.length < n) (hq : Qs g σ1 (rs ++ dn.filter (fun x => !decide (x = j)))) (hrow : ∀ n, n ≠ 8 → n ≠ 9 → σ1 n = σ n) : X p l e R s m args below meth c D ad 5 Q (kc D ad g σ1) 7 [(3, vi (dn.length : Int)), (2, vi (q.length : Int)), (0, .ref (ad 8)), (1, vi j)] [] := by
  induction n generalizing σ1 dn rs with
  | zero => omega
  | succ n ih =>
  have hlen : q.length = dn.length + rs.length := by rw [hdr]; simp
  refine x_iload_n C dX3_drop_7 rfl rfl ?_
  refine x_iload_n C dX3_drop_8 rfl rfl ?_
  refine x_icmp_ge (tgt := 36) C dX3_drop_9 (by decide) (by omega) (by omega) (fun c_9 => ?_) (fun c_9 => ?_)
  · have hrs : rs = [] := List.length_eq_zero_iff.mp (by omega)
    subst hrs
    simp only [List.append_nil] at hdr
    subst hdr
    exact K σ1 _ (by simpa using hq) hrow
  · refine x_aload_n C dX3_drop_12 rfl rfl ?_
    obtain ⟨x, rs1, rfl⟩ : ∃ x rs1, rs = x :: rs1 := by
      cases rs with
      | nil => simp at hlen; omega
      | cons x r => exact ⟨x, r, rfl⟩
    have hxr := hqr x (by rw [hdr]; simp)
    have hfl := List.length_filter_le (fun x => !decide (x = j)) dn
    simp only [List.length_cons] at hlen hn
    have hl2 := hq.2.2.1
    simp only [List.cons_append, List.length_cons, List.length_append] at hl2
    refine x_callV C (ci := 3) (nn := 0) (c_takeFirst hg σ1 _ hq) g_RX3_26 rfl (by decide +kernel) ⟨by first | decide | omega, by first | decide | omega⟩ rfl rfl rfl rfl rfl (Nat.le_of_ble_eq_true rfl) dX3_drop_13 (fun v h1 hp => ?_)
    obtain ⟨σ2, rfl, hp⟩ := hp
    rcases hp with ⟨hp, -⟩ | ⟨j', q', hp, rfl, hq2, hr2⟩
    · simp at hp
    simp only [List.cons_append, List.cons.injEq] at hp
    obtain ⟨rfl, rfl⟩ := hp
    try dsimp only [Option.toList, List.cons_append, List.nil_append]
    refine x_istore C (lv' := [(4, _), (3, _), (2, _), (0, _), (1, _)]) dX3_drop_16 (by decide) rfl ?_
    refine x_iload C dX3_drop_18 rfl ?_
    refine x_iload_n C dX3_drop_20 rfl rfl ?_
    refine x_icmp_eq (tgt := 30) C dX3_drop_21 (by decide) (by omega) (by omega) (fun c_21 => ?_) (fun c_21 => ?_)
    · skip
      refine x_iinc C (lv' := [(3, _), (4, _), (2, _), (0, _), (1, _)]) dX3_drop_30 rfl (by decide) rfl ?_
      refine x_goto (tgt := 7) C dX3_drop_33 (by decide) ?_
      have e1 : (dn ++ [x]).filter (fun x => !decide (x = j)) = dn.filter (fun x => !decide (x = j)) := by simp [List.filter_append, c_21]
      have e2 : vi ((dn.length : Int) + 1) = vi (((dn ++ [x]).length : Nat) : Int) := by simp
      rw [e2]
      refine X.sub [0, 2, 3, 4] rfl ?_
      exact ih σ2 (dn ++ [x]) rs1 (by rw [hdr]; simp) (by omega) (by rw [e1]; exact hq2) (fun n h8 h9 => by rw [hr2 n h8]; exact hrow n h8 h9)
    · refine x_aload_n C dX3_drop_24 rfl rfl ?_
      refine x_iload C dX3_drop_25 rfl ?_
      refine x_callV C (ci := 3) (nn := 1) (c_append hg σ2 _ hq2 (by simp only [List.length_append]; omega) x) g_RX3_30 rfl (by decide +kernel) ⟨by first | decide | omega, by first | decide | omega⟩ rfl rfl rfl rfl rfl (Nat.le_of_ble_eq_true rfl) dX3_drop_27 (fun v h1 hp => ?_)
      obtain ⟨σ3, rfl, rfl, hq3, hr3⟩ := hp
      try dsimp only [Option.toList, List.cons_append, List.nil_append]
      skip
      refine x_iinc C (lv' := [(3, _), (4, _), (2, _), (0, _), (1, _)]) dX3_drop_30 rfl (by decide) rfl ?_
      refine x_goto (tgt := 7) C dX3_drop_33 (by decide) ?_
      have e1 : (dn ++ [x]).filter (fun x => !decide (x = j)) = dn.filter (fun x => !decide (x = j)) ++ [x] := by simp [List.filter_append, c_21]
      have e2 : vi ((dn.length : Int) + 1) = vi (((dn ++ [x]).length : Nat) : Int) := by simp
      rw [e2]
      refine X.sub [0, 2, 3, 4] rfl ?_
      exact ih σ3 (dn ++ [x]) rs1 (by rw [hdr]; simp) (by omega) (by rw [e1, ← List.append_assoc]; exact hq3) (fun n h8 h9 => by rw [hr3 n h8 h9, hr2 n h8]; exact hrow n h8 h9)
set_option maxHeartbeats 4000000 in
set_option maxRecDepth 100000 in
theorem c_drop {l : Launch} {D : va_G} {ad : Nat → Nat} {g : Nat × Nat × Nat × Nat} (hg : 3 ≤ g.1 ∧ g.1 ≤ 11 ∧ 8 ≤ g.2.1 ∧ g.2.1 ≤ 2048 ∧ 1 ≤ g.2.2.1 ∧ g.2.2.1 ≤ 24 ∧ 1 ≤ g.2.2.2 ∧ g.2.2.2 ≤ 12) (σ : St) (q : List Int) (hq : Qs g σ q) (hqr : ∀ x ∈ q, 0 ≤ x ∧ x < 12) (j : Int) (hj : -2147483648 ≤ j ∧ j < 2147483648) : Kt l D ad g yX3_drop (Cond.code yX3_drop cX3_drop 5 none :: tb) 2 100 [.ref (ad 8), vi j] σ (fun v σ' => v = none ∧ Qs g σ' (q.filter (fun x => !decide (x = j))) ∧ ∀ n, n ≠ 8 → n ≠ 9 → σ' n = σ n) := by
  refine ct_of (by decide) rfl (Nat.le_of_ble_eq_true rfl) ?_
  intro p e s m below meth c C
  change X _ _ _ _ _ _ _ _ _ _ _ _ _ _ _ _ [(0, .ref (ad 8)), (1, vi j)] _
  refine x_aload_n C dX3_drop_0 rfl rfl ?_
  refine x_get C (Cn := RX3) (T := TX3) (N := 3) (ci := 3) 2 dX3_drop_1 m_w_3 m_f_RX3_15 rfl (by decide) rfl rfl ?_
  refine x_istore_n C (lv' := [(2, _), (0, _), (1, _)]) dX3_drop_4 rfl (by decide) rfl ?_
  refine x_iconst C dX3_drop_5 ?_
  refine x_istore_n C (lv' := [(3, _), (2, _), (0, _), (1, _)]) dX3_drop_6 rfl (by decide) rfl ?_
  rw [hq.2.1]
  refine lp_drop C hg σ ⟨by decide, by decide⟩ j hj q hqr (by have := hq.2.2.1; omega) ?_ (q.length + 1) σ [] q rfl (by omega) (by simpa using hq) (fun _ _ _ => rfl)
  intro σ' lv h1 h2
  exact x_vret C dX3_drop_36 ⟨_, rfl, rfl, h1, h2⟩
end
section
/-! MEMORY, as numbers: f a is the order of the free block that begins at a, -1 where none begins. cnt: how many of an order begin below n. -/
def cnt (f : Nat → Int) (o : Int) : Nat → Int
  | 0 => 0
  | n + 1 => cnt f o n + (if f n = o then 1 else 0)
theorem cnt_s (f : Nat → Int) (o : Int) (n : Nat) : cnt f o (n + 1) = cnt f o n + (if f n = o then 1 else 0) := rfl
theorem cnt_ge (f : Nat → Int) (o : Int) : ∀ n, 0 ≤ cnt f o n
  | 0 => Int.le_refl 0
  | n + 1 => by have := cnt_ge f o n; rw [cnt_s]; split <;> omega
theorem cnt_le (f : Nat → Int) (o : Int) : ∀ n, cnt f o n ≤ n
  | 0 => by simp [cnt]
  | n + 1 => by have := cnt_le f o n; rw [cnt_s]; split <;> omega
theorem cnt_mono (f : Nat → Int) (o : Int) {m : Nat} : ∀ {n : Nat}, m ≤ n → cnt f o m ≤ cnt f o n
  | 0, h => by rw [Nat.le_zero.mp h]; exact Int.le_refl _
  | n + 1, h => by
    rcases Nat.lt_or_ge m (n + 1) with c | c
    · have := cnt_mono f o (show m ≤ n by omega); rw [cnt_s]; split <;> omega
    · rw [show m = n + 1 by omega]; exact Int.le_refl _
theorem cnt_gap (f : Nat → Int) (o : Int) {m : Nat} : ∀ {n : Nat}, m ≤ n → (∀ b, m ≤ b → b < n → f b ≠ o) → cnt f o n = cnt f o m
  | 0, h, _ => by rw [Nat.le_zero.mp h]
  | n + 1, h, hf => by
    rcases Nat.lt_or_ge m (n + 1) with c | c
    · rw [cnt_s, if_neg (hf n (by omega) (by omega)), cnt_gap f o (show m ≤ n by omega) (fun b h1 h2 => hf b h1 (by omega))]; omega
    · rw [show m = n + 1 by omega]
theorem cnt_ext {f f' : Nat → Int} (o : Int) : ∀ {n : Nat}, (∀ b, b < n → f' b = f b) → cnt f' o n = cnt f o n
  | 0, _ => rfl
  | n + 1, h => by rw [cnt_s, cnt_s, cnt_ext o (fun b hb => h b (by omega)), h n (by omega)]
theorem cnt_up (f : Nat → Int) (o : Int) (a : Nat) (x : Int) : ∀ {n : Nat}, a < n → cnt (zup f a x) o n = cnt f o n - (if f a = o then 1 else 0) + (if x = o then 1 else 0)
  | 0, h => by omega
  | n + 1, h => by
    rcases Nat.lt_or_ge a n with c | c
    · rw [cnt_s, cnt_s, cnt_up f o a x c, zup_n (by omega)]; omega
    · have e : a = n := by omega
      subst e
      rw [cnt_s, cnt_s, zup_s, cnt_ext o (f := f) (fun b hb => zup_n (by omega))]; omega
theorem cnt_pos {f : Nat → Int} {o : Int} : ∀ {n : Nat}, 0 < cnt f o n → ∃ a, a < n ∧ f a = o ∧ cnt f o a = 0
  | 0, h => by simp [cnt] at h
  | n + 1, h => by
    rcases Int.lt_or_le 0 (cnt f o n) with c | c
    · obtain ⟨a, h1, h2⟩ := cnt_pos c
      exact ⟨a, by omega, h2⟩
    · have h0 := cnt_ge f o n
      rw [cnt_s] at h
      by_cases q : f n = o
      · exact ⟨n, by omega, q, by omega⟩
      · rw [if_neg q] at h; omega
theorem cnt_no {f : Nat → Int} {o : Int} {n : Nat} (h : cnt f o n = 0) {a : Nat} (ha : a < n) : f a ≠ o := by
  intro e
  have h1 := cnt_mono f o (show a + 1 ≤ n by omega)
  have h2 := cnt_ge f o a
  rw [cnt_s, if_pos e] at h1
  omega
/-- halving: from a block of order k + d at a, whose upper halves come to be free -/
def splF (f : Nat → Int) (a k : Nat) : Nat → (Nat → Int)
  | 0 => f
  | d + 1 => splF (zup f (a + 2 ^ (k + d)) ((k + d : Nat) : Int)) a k d
/-- joining: a block of order o at a comes to be free -/
def jnF (pl : Nat) : Nat → (Nat → Int) → Nat → Nat → (Nat → Int)
  | 0, f, a, o => zup f a (o : Int)
  | n + 1, f, a, o => if o < pl ∧ f (a ^^^ 2 ^ o) = (o : Int) then jnF pl n (zup f (a ^^^ 2 ^ o) (-1)) (if a < a ^^^ 2 ^ o then a else a ^^^ 2 ^ o) (o + 1) else zup f a (o : Int)
/-- what a memory keeps: orders in range; blocks begin at multiples of their sizes, lie in the pool, hold no other's beginning; no two free buddies -/
def MI (pl : Nat) (f : Nat → Int) : Prop := (∀ a, a < 2 ^ pl → -1 ≤ f a ∧ f a ≤ pl) ∧ (∀ a o : Nat, a < 2 ^ pl → f a = (o : Int) → 2 ^ o ∣ a ∧ a + 2 ^ o ≤ 2 ^ pl ∧ ∀ b, a < b → b < a + 2 ^ o → f b = -1) ∧ ∀ a o : Nat, a < 2 ^ pl → o < pl → f a = (o : Int) → f (a ^^^ 2 ^ o) ≠ (o : Int)
def budT (k a : Nat) : Bool := bif Nat.beq (a / 2 ^ k % 2) 0 then Nat.beq (a ^^^ 2 ^ k) (a + 2 ^ k) else Nat.beq ((a ^^^ 2 ^ k) + 2 ^ k) a
def budA (k : Nat) : Nat → Bool
  | 0 => true
  | a + 1 => budT k a && budA k a
def budK : Nat → Bool
  | 0 => true
  | k + 1 => budA k 2048 && budK k
theorem budA_of {k : Nat} : ∀ {n a : Nat}, budA k n = true → a < n → budT k a = true
  | 0, _, _, h => absurd h (Nat.not_lt_zero _)
  | n + 1, a, h, hl => by
    simp only [budA, Bool.and_eq_true] at h
    rcases Nat.lt_succ_iff_lt_or_eq.mp hl with q | q
    · exact budA_of h.2 q
    · rw [q]; exact h.1
theorem budK_of : ∀ {n k : Nat}, budK n = true → k < n → budA k 2048 = true
  | 0, _, _, h => absurd h (Nat.not_lt_zero _)
  | n + 1, k, h, hl => by
    simp only [budK, Bool.and_eq_true] at h
    rcases Nat.lt_succ_iff_lt_or_eq.mp hl with q | q
    · exact budK_of h.2 q
    · rw [q]; exact h.1
set_option maxRecDepth 100000 in
theorem budAll : budK 11 = true := by decide +kernel
theorem bud {k a : Nat} (hk : k < 11) (ha : a < 2048) : (a / 2 ^ k % 2 = 0 ∧ a ^^^ 2 ^ k = a + 2 ^ k) ∨ (a / 2 ^ k % 2 = 1 ∧ (a ^^^ 2 ^ k) + 2 ^ k = a) := by
  have h := budA_of (budK_of budAll hk) ha
  unfold budT at h
  cases hb : Nat.beq (a / 2 ^ k % 2) 0 with
  | true =>
    rw [hb] at h
    exact Or.inl ⟨Nat.eq_of_beq_eq_true hb, Nat.eq_of_beq_eq_true h⟩
  | false =>
    rw [hb] at h
    have := Nat.ne_of_beq_eq_false hb
    exact Or.inr ⟨by omega, Nat.eq_of_beq_eq_true h⟩
theorem bud_lt {pl k a : Nat} (hk : k < pl) (ha : a < 2 ^ pl) : a ^^^ 2 ^ k < 2 ^ pl := Nat.xor_lt_two_pow ha (Nat.pow_lt_pow_right (by decide) hk)
end
section
/-! FILLING a row, and what the machine's library does -/
def upr (σ : St) (n : Nat) (f : Nat → Int) : St := fun a => if a = n then f else σ a
theorem upr_s (σ : St) (n : Nat) (f : Nat → Int) : upr σ n f n = f := by simp [upr]
theorem upr_n {σ : St} {n q : Nat} {f : Nat → Int} (h : q ≠ n) : upr σ n f q = σ q := by simp [upr, h]
def fl (f : Nat → Int) (a b : Nat) (z : Int) : Nat → Int := fun j => if a ≤ j ∧ j < b then z else f j
theorem fl_0 (σ : St) (n a : Nat) (z : Int) : upr σ n (fl (σ n) a a z) = σ := by
  funext q
  by_cases hq : q = n
  · subst hq; rw [upr_s]; funext j; simp [fl]; intro h1 h2; omega
  · rw [upr_n hq]
theorem fl_step (σ : St) (n a i : Nat) (z : Int) (h : a ≤ i) : up (upr σ n (fl (σ n) a i z)) n i z = upr σ n (fl (σ n) a (i + 1) z) := by
  funext q
  by_cases hq : q = n
  · subst hq; rw [up_s, upr_s, upr_s]; funext j
    unfold zup fl
    by_cases c : j = i
    · rw [if_pos c, if_pos (by omega)]
    · rw [if_neg c]; by_cases c2 : a ≤ j ∧ j < i
      · rw [if_pos c2, if_pos (by omega)]
      · rw [if_neg c2, if_neg (by omega)]
  · rw [up_n hq, upr_n hq, upr_n hq]
set_option maxHeartbeats 4000000 in
set_option maxRecDepth 100000 in
theorem lp_fill {p : Program} {l : Launch} {e : Env} {R : Room} {s : State} {m : MethodId} {args : Array Value} {below : List Frame} {meth : Method} {c : Code} {D : va_G} {ad : Nat → Nat} {g : Nat × Nat × Nat × Nat} {Q : State → Prop} (C : Fx p s m args meth c D ad cJ7_fill_53178 4 none yJ7_fill_53178.cls tb) (hg : 3 ≤ g.1 ∧ g.1 ≤ 11 ∧ 8 ≤ g.2.1 ∧ g.2.1 ≤ 2048 ∧ 1 ≤ g.2.2.1 ∧ g.2.2.1 ≤ 24 ∧ 1 ≤ g.2.2.2 ∧ g.2.2.2 ≤ 12) (σ : St) (na N : Nat) (hN : N ≤ 2048) (he : ∀ σ : St, kc D ad g σ na = some (.inl (D.1 10, N, .inl (fun j => iI (σ na j))))) (z : Int) (K : ∀ lv, X p l e R s m args below meth c D ad 4 Q (kc D ad g (upr σ na (fl (σ na) 0 N z))) 20 lv []) (n : Nat) (i : Nat) (hi : i ≤ N) (hn : N - i < n) : X p l e R s m args below meth c D ad 4 Q (kc D ad g (upr σ na (fl (σ na) 0 i z))) 5 [(2, vi (i : Int)), (3, vi (N : Int)), (0, .ref (ad na)), (1, vi z)] [] := by
  induction n generalizing i with
  | zero => omega
  | succ n ih =>
  refine x_iload_n C dJ7_fill_53178_5 rfl rfl ?_
  refine x_iload_n C dJ7_fill_53178_6 rfl rfl ?_
  refine x_icmp_ge (tgt := 20) C dJ7_fill_53178_7 (by decide) (by omega) (by omega) (fun c_7 => ?_) (fun c_7 => ?_)
  · rw [show i = N by omega]
    exact K _
  · refine x_aload_n C dJ7_fill_53178_10 rfl rfl ?_
    refine x_iload_n C dJ7_fill_53178_11 rfl rfl ?_
    refine x_iload_n C dJ7_fill_53178_12 rfl rfl ?_
    refine k_ast C dJ7_fill_53178_13 he (by omega) (by omega) ?_
    refine x_iinc C (lv' := [(2, _), (3, _), (0, _), (1, _)]) dJ7_fill_53178_14 rfl (by decide) rfl ?_
    refine x_goto (tgt := 5) C dJ7_fill_53178_17 (by decide) ?_
    refine X.eqh (by rw [show ((i : Int)).toNat = i by omega, fl_step _ _ _ _ _ (Nat.zero_le i)]) ?_
    rw [show (i : Int) + 1 = ((i + 1 : Nat) : Int) by omega]
    exact ih (i + 1) (by omega) (by omega)
set_option maxHeartbeats 4000000 in
set_option maxRecDepth 100000 in
theorem c_fill {l : Launch} {D : va_G} {ad : Nat → Nat} {g : Nat × Nat × Nat × Nat} (hg : 3 ≤ g.1 ∧ g.1 ≤ 11 ∧ 8 ≤ g.2.1 ∧ g.2.1 ≤ 2048 ∧ 1 ≤ g.2.2.1 ∧ g.2.2.1 ≤ 24 ∧ 1 ≤ g.2.2.2 ∧ g.2.2.2 ≤ 12) (σ : St) (na N : Nat) (hN : N ≤ 2048) (he : ∀ σ : St, kc D ad g σ na = some (.inl (D.1 10, N, .inl (fun j => iI (σ na j))))) (z : Int) : Kt l D ad g yJ7_fill_53178 (Cond.code yJ7_fill_53178 cJ7_fill_53178 4 none :: tb) 0 0 [.ref (ad na), vi z] σ (fun v σ' => v = none ∧ σ' = upr σ na (fl (σ na) 0 N z)) := by
  refine ct_of (by decide) rfl (Nat.le_of_ble_eq_true rfl) ?_
  intro p e s m below meth c C
  change X _ _ _ _ _ _ _ _ _ _ _ _ _ _ _ _ [(0, .ref (ad na)), (1, vi z)] _
  refine x_iconst C dJ7_fill_53178_0 ?_
  refine x_istore_n C (lv' := [(2, _), (0, _), (1, _)]) dJ7_fill_53178_1 rfl (by decide) rfl ?_
  refine x_aload_n C dJ7_fill_53178_2 rfl rfl ?_
  refine x_alen C 0 dJ7_fill_53178_3 (he σ) rfl ?_
  refine x_istore_n C (lv' := [(3, _), (2, _), (0, _), (1, _)]) dJ7_fill_53178_4 rfl (by decide) rfl ?_
  refine X.sub [1, 0, 2, 3] rfl ?_
  refine X.eqh (congrArg (kc D ad g) (fl_0 σ na 0 z).symm) ?_
  refine (lp_fill C hg σ na N hN he z ?_ (N + 1) 0 (by omega) (by omega))
  intro lv
  exact x_vret C dJ7_fill_53178_20 ⟨_, rfl, rfl, rfl⟩
set_option maxHeartbeats 4000000 in
set_option maxRecDepth 100000 in
theorem c_rangeCheck {l : Launch} {D : va_G} {ad : Nat → Nat} {g : Nat × Nat × Nat × Nat} (hg : 3 ≤ g.1 ∧ g.1 ≤ 11 ∧ 8 ≤ g.2.1 ∧ g.2.1 ≤ 2048 ∧ 1 ≤ g.2.2.1 ∧ g.2.2.1 ≤ 24 ∧ 1 ≤ g.2.2.2 ∧ g.2.2.2 ≤ 12) (σ : St) (N a b : Int) (h : 0 ≤ a ∧ a ≤ b ∧ b ≤ N ∧ N ≤ 2048) : Kt l D ad g yJ7_rangeCheck_23922 (Cond.code yJ7_rangeCheck_23922 cJ7_rangeCheck_23922 3 none :: tb) 0 0 [vi N, vi a, vi b] σ (fun v σ' => v = none ∧ σ = σ') := by
  refine ct_of (by decide) rfl (Nat.le_of_ble_eq_true rfl) ?_
  intro p e s m below meth c C
  change X _ _ _ _ _ _ _ _ _ _ _ _ _ _ _ _ [(0, vi N), (1, vi a), (2, vi b)] _
  refine x_iload_n C dJ7_rangeCheck_23922_0 rfl rfl ?_
  refine x_iload_n C dJ7_rangeCheck_23922_1 rfl rfl ?_
  refine x_icmp_le (tgt := 46) C dJ7_rangeCheck_23922_2 (by decide) (by omega) (by omega) (fun c_2 => ?_) (fun c_2 => ?_)
  · refine x_iload_n C dJ7_rangeCheck_23922_46 rfl rfl ?_
    refine x_if_ge (tgt := 59) C dJ7_rangeCheck_23922_47 (by decide) (by omega) (fun c_47 => ?_) (fun c_47 => ?_)
    · refine x_iload_n C dJ7_rangeCheck_23922_59 rfl rfl ?_
      refine x_iload_n C dJ7_rangeCheck_23922_60 rfl rfl ?_
      refine x_icmp_le (tgt := 73) C dJ7_rangeCheck_23922_61 (by decide) (by omega) (by omega) (fun c_61 => ?_) (fun c_61 => ?_)
      · exact x_vret C dJ7_rangeCheck_23922_73 ⟨_, rfl, rfl, rfl⟩
      · omega
    · omega
  · omega
set_option maxHeartbeats 4000000 in
set_option maxRecDepth 100000 in
theorem lp_fillR {p : Program} {l : Launch} {e : Env} {R : Room} {s : State} {m : MethodId} {args : Array Value} {below : List Frame} {meth : Method} {c : Code} {D : va_G} {ad : Nat → Nat} {g : Nat × Nat × Nat × Nat} {Q : State → Prop} (C : Fx p s m args meth c D ad cJ7_fill_fda19 5 none yJ7_fill_fda19.cls tb) (hg : 3 ≤ g.1 ∧ g.1 ≤ 11 ∧ 8 ≤ g.2.1 ∧ g.2.1 ≤ 2048 ∧ 1 ≤ g.2.2.1 ∧ g.2.2.1 ≤ 24 ∧ 1 ≤ g.2.2.2 ∧ g.2.2.2 ≤ 12) (σ : St) (na N a b : Nat) (hab : a ≤ b ∧ b ≤ N) (hN : N ≤ 2048) (he : ∀ σ : St, kc D ad g σ na = some (.inl (D.1 10, N, .inl (fun j => iI (σ na j))))) (z : Int) (K : ∀ lv, X p l e R s m args below meth c D ad 5 Q (kc D ad g (upr σ na (fl (σ na) a b z))) 27 lv []) (n : Nat) (i : Nat) (hi : a ≤ i ∧ i ≤ b) (hn : b - i < n) : X p l e R s m args below meth c D ad 5 Q (kc D ad g (upr σ na (fl (σ na) a i z))) 10 [(4, vi (i : Int)), (0, .ref (ad na)), (1, vi (a : Int)), (2, vi (b : Int)), (3, vi z)] [] := by
  induction n generalizing i with
  | zero => omega
  | succ n ih =>
  refine x_iload C dJ7_fill_fda19_10 rfl ?_
  refine x_iload_n C dJ7_fill_fda19_12 rfl rfl ?_
  refine x_icmp_ge (tgt := 27) C dJ7_fill_fda19_13 (by decide) (by omega) (by omega) (fun c_13 => ?_) (fun c_13 => ?_)
  · rw [show i = b by omega]
    exact K _
  · refine x_aload_n C dJ7_fill_fda19_16 rfl rfl ?_
    refine x_iload C dJ7_fill_fda19_17 rfl ?_
    refine x_iload_n C dJ7_fill_fda19_19 rfl rfl ?_
    refine k_ast C dJ7_fill_fda19_20 he (by omega) (by omega) ?_
    refine x_iinc C (lv' := [(4, _), (0, _), (1, _), (2, _), (3, _)]) dJ7_fill_fda19_21 rfl (by decide) rfl ?_
    refine x_goto (tgt := 10) C dJ7_fill_fda19_24 (by decide) ?_
    refine X.eqh (by rw [show ((i : Int)).toNat = i by omega, fl_step _ _ _ _ _ hi.1]) ?_
    rw [show (i : Int) + 1 = ((i + 1 : Nat) : Int) by omega]
    exact ih (i + 1) (by omega) (by omega)
set_option maxHeartbeats 4000000 in
set_option maxRecDepth 100000 in
theorem c_fillR {l : Launch} {D : va_G} {ad : Nat → Nat} {g : Nat × Nat × Nat × Nat} (hg : 3 ≤ g.1 ∧ g.1 ≤ 11 ∧ 8 ≤ g.2.1 ∧ g.2.1 ≤ 2048 ∧ 1 ≤ g.2.2.1 ∧ g.2.2.1 ≤ 24 ∧ 1 ≤ g.2.2.2 ∧ g.2.2.2 ≤ 12) (σ : St) (na N a b : Nat) (hab : a ≤ b ∧ b ≤ N) (hN : N ≤ 2048) (he : ∀ σ : St, kc D ad g σ na = some (.inl (D.1 10, N, .inl (fun j => iI (σ na j))))) (z : Int) : Kt l D ad g yJ7_fill_fda19 (Cond.code yJ7_fill_fda19 cJ7_fill_fda19 5 none :: tb) 1 40 [.ref (ad na), vi (a : Int), vi (b : Int), vi z] σ (fun v σ' => v = none ∧ σ' = upr σ na (fl (σ na) a b z)) := by
  refine ct_of (by decide) rfl (Nat.le_of_ble_eq_true rfl) ?_
  intro p e s m below meth c C
  change X _ _ _ _ _ _ _ _ _ _ _ _ _ _ _ _ [(0, .ref (ad na)), (1, vi (a : Int)), (2, vi (b : Int)), (3, vi z)] _
  refine x_aload_n C dJ7_fill_fda19_0 rfl rfl ?_
  refine x_alen C 0 dJ7_fill_fda19_1 (he σ) rfl ?_
  refine x_iload_n C dJ7_fill_fda19_2 rfl rfl ?_
  refine x_iload_n C dJ7_fill_fda19_3 rfl rfl ?_
  refine x_callS C (nn := 3) (c_rangeCheck hg σ (N : Int) (a : Int) (b : Int) (by omega)) g_RJ7_13 rfl (by decide +kernel) ⟨by first | decide | omega, by first | decide | omega⟩ rfl rfl (Nat.le_of_ble_eq_true rfl) dJ7_fill_fda19_4 (fun v h1 hp => ?_)
  obtain ⟨σ1, rfl, rfl, rfl⟩ := hp
  refine x_iload_n C dJ7_fill_fda19_7 rfl rfl ?_
  refine x_istore C (lv' := [(4, _), (0, _), (1, _), (2, _), (3, _)]) dJ7_fill_fda19_8 (by decide) rfl ?_
  refine X.eqh (congrArg (kc D ad g) (fl_0 σ na a z).symm) ?_
  refine (lp_fillR C hg σ na N a b hab hN he z ?_ (b + 1) a (by omega) (by omega))
  intro lv
  exact x_vret C dJ7_fill_fda19_27 ⟨_, rfl, rfl, rfl⟩
set_option maxHeartbeats 4000000 in
set_option maxRecDepth 100000 in
theorem c_within {l : Launch} {D : va_G} {ad : Nat → Nat} {g : Nat × Nat × Nat × Nat} (σ : St) (a b d : Int) (ha : -2147483648 ≤ a ∧ a < 2147483648) (hb : 0 ≤ b ∧ b < 4096) (hd : 0 ≤ d ∧ d < 4096) : Kt l D ad g yX5_within (Cond.code yX5_within cX5_within 3 (some .int) :: tb) 1 40 [vi a, vi b, vi d] σ (fun v σ' => σ = σ' ∧ v = some (vi (max b (min d a)))) := by
  refine ct_of (by decide) rfl (Nat.le_of_ble_eq_true rfl) ?_
  intro p e s m below meth c C
  change X _ _ _ _ _ _ _ _ _ _ _ _ _ _ _ _ [(0, vi a), (1, vi b), (2, vi d)] _
  refine x_iload_n C dX5_within_0 rfl rfl ?_
  refine x_iload_n C dX5_within_1 rfl rfl ?_
  refine x_iload_n C dX5_within_2 rfl rfl ?_
  refine x_mmin C dX5_within_3 m_l_RX5_196 (by omega) (by omega) (by decide) (Nat.le_of_ble_eq_true rfl) ?_
  refine x_mmax C dX5_within_6 m_l_RX5_201 (by omega) (by omega) (by decide) (Nat.le_of_ble_eq_true rfl) ?_
  exact x_iret C dX5_within_9 ⟨_, rfl, rfl, rfl⟩
set_option maxHeartbeats 4000000 in
set_option maxRecDepth 100000 in
theorem c_memClear {l : Launch} {D : va_G} {ad : Nat → Nat} {g : Nat × Nat × Nat × Nat} (hg : 3 ≤ g.1 ∧ g.1 ≤ 11 ∧ 8 ≤ g.2.1 ∧ g.2.1 ≤ 2048 ∧ 1 ≤ g.2.2.1 ∧ g.2.2.1 ≤ 24 ∧ 1 ≤ g.2.2.2 ∧ g.2.2.2 ≤ 12) (σ : St) : Kt l D ad g yX1_clear (Cond.code yX1_clear cX1_clear 1 none :: tb) 1 40 [.ref (ad 1)] σ (fun v σ' => v = none ∧ (∀ q, q ≠ 3 → q ≠ 4 → σ' q = σ q) ∧ (∀ a, a < g.2.1 → σ' 4 a = if a = 0 then (g.1 : Int) else -1) ∧ ∀ k, k ≤ g.1 → σ' 3 k = if k = g.1 then 1 else 0) := by
  refine ct_of (by decide) rfl (Nat.le_of_ble_eq_true rfl) ?_
  intro p e s m below meth c C
  change X _ _ _ _ _ _ _ _ _ _ _ _ _ _ _ _ [(0, .ref (ad 1))] _
  refine x_aload_n C dX1_clear_0 rfl rfl ?_
  refine x_get C (Cn := RX1) (T := TX1) (N := 4) (ci := 1) 3 dX1_clear_1 m_w_1 m_f_RX1_22 rfl (by decide) rfl rfl ?_
  refine x_iconst C dX1_clear_4 ?_
  refine x_callS C (nn := 2) (c_fill hg σ 4 g.2.1 (by omega) (fun _ => rfl) (-1)) g_RX1_28 rfl (by decide +kernel) ⟨by first | decide | omega, by first | decide | omega⟩ rfl rfl (Nat.le_of_ble_eq_true rfl) dX1_clear_5 (fun v h1 hp => ?_)
  obtain ⟨σ1, rfl, rfl, rfl⟩ := hp
  refine x_aload_n C dX1_clear_8 rfl rfl ?_
  refine x_get C (Cn := RX1) (T := TX1) (N := 4) (ci := 1) 2 dX1_clear_9 m_w_1 m_f_RX1_19 rfl (by decide) rfl rfl ?_
  refine x_iconst C dX1_clear_12 ?_
  refine x_callS C (nn := 2) (c_fill hg _ 3 (g.1 + 1) (by omega) (fun _ => rfl) 0) g_RX1_28 rfl (by decide +kernel) ⟨by first | decide | omega, by first | decide | omega⟩ rfl rfl (Nat.le_of_ble_eq_true rfl) dX1_clear_13 (fun v h1 hp => ?_)
  obtain ⟨σ1, rfl, rfl, rfl⟩ := hp
  refine x_aload_n C dX1_clear_16 rfl rfl ?_
  refine x_iconst C dX1_clear_17 ?_
  refine x_aload_n C dX1_clear_18 rfl rfl ?_
  refine x_get C (Cn := RX1) (T := TX1) (N := 4) (ci := 1) 0 dX1_clear_19 m_w_1 m_f_RX1_9 rfl (by decide) rfl rfl ?_
  refine x_callV C (ci := 1) (nn := 2) (c_addFree hg _ 0 (g.1 : Int) (by omega) (by omega)) g_RX1_34 rfl (by decide +kernel) ⟨by first | decide | omega, by first | decide | omega⟩ rfl rfl rfl rfl rfl (Nat.le_of_ble_eq_true rfl) dX1_clear_22 (fun v h1 hp => ?_)
  obtain ⟨σ1, rfl, rfl, rfl⟩ := hp
  exact x_vret C dX1_clear_25 ⟨_, rfl, rfl, fun q h3 h4 => by rw [up_n h3, up_n h4, upr_n h3, upr_n h4], fun a ha => by
      rw [up_n (by decide), up_s, upr_n (by decide), upr_s]
      unfold zup fl
      by_cases c : a = 0
      · simp [c]
      · simp [c, ha], fun k hk => by
      rw [up_s, upr_s]
      unfold zup fl
      by_cases c : k = g.1
      · simp [c]
      · rw [if_neg (by simpa using c), if_neg c, up_n (by decide), upr_s, if_pos (by omega)]⟩
end
section
/-! THE CLASS'S MEMORY. CN: freeOf counts; ME: what it keeps -/
def CN (g : Nat × Nat × Nat × Nat) (σ : St) : Prop := ∀ k : Nat, k ≤ g.1 → σ 3 k = cnt (σ 4) k g.2.1
theorem CN.add {g : Nat × Nat × Nat × Nat} {σ : St} {a o : Nat} (h : CN g σ) (ha : a < g.2.1) (hf : σ 4 a = -1) : CN g (up (up σ 4 a (o : Int)) 3 o (σ 3 o + 1)) := by
  intro k hk
  rw [up_s, up_n (show 4 ≠ 3 by decide), up_s, cnt_up _ _ _ _ ha, hf, up_n (show 3 ≠ 4 by decide), if_neg (by omega)]
  by_cases c : k = o
  · subst c; rw [zup_s, if_pos rfl, h k hk]; omega
  · rw [zup_n c, if_neg (by omega), h k hk]; omega
theorem CN.rem {g : Nat × Nat × Nat × Nat} {σ : St} {a o : Nat} (h : CN g σ) (ha : a < g.2.1) (hf : σ 4 a = (o : Int)) : CN g (up (up σ 4 a (-1)) 3 o (σ 3 o - 1)) := by
  intro k hk
  rw [up_s, up_n (show 4 ≠ 3 by decide), up_s, cnt_up _ _ _ _ ha, hf, up_n (show 3 ≠ 4 by decide)]
  by_cases c : k = o
  · subst c; rw [zup_s, if_pos rfl, if_neg (by omega), h k hk]; omega
  · rw [zup_n c, if_neg (by omega), if_neg (by omega), h k hk]; omega
theorem CN.rg {g : Nat × Nat × Nat × Nat} {σ : St} (h : CN g σ) (hn : g.2.1 ≤ 2048) : ∀ k : Nat, k ≤ g.1 → 0 ≤ σ 3 k ∧ σ 3 k ≤ 2048 := fun k hk => by
  rw [h k hk]; exact ⟨cnt_ge _ _ _, by have := cnt_le (σ 4) k g.2.1; omega⟩
def ordP (n : Int) (r : Nat) : Prop := n ≤ 2 ^ r ∧ ∀ k : Nat, k < r → (2 : Int) ^ k < n
def sumF (f : Nat → Int) : Nat → Int
  | 0 => 0
  | k + 1 => sumF f k + f k * 2 ^ k
theorem zp_le {a b : Nat} (h : a ≤ b) : (2 : Int) ^ a ≤ 2 ^ b := by have := Nat.pow_le_pow_right (n := 2) (by decide) h; exact_mod_cast this
theorem pw_c (k : Nat) : (1 : Int) * 2 ^ ((k : Int)).toNat = ((2 ^ k : Nat) : Int) := by rw [Int.toNat_natCast, Int.one_mul]; push_cast; rfl
theorem not32 : ∀ k : Fin 11, (iI ((2 ^ k.val : Nat) : Int) ^^^ iI (-1)) = iI (-((2 ^ k.val : Nat) : Int) - 1) := by decide +kernel
def clrT (k a : Nat) : Bool := Nat.beq (Nat.land a (2 ^ 32 - 1 - 2 ^ k)) (bif Nat.blt a (a ^^^ 2 ^ k) then a else a ^^^ 2 ^ k)
def clrA (k : Nat) : Nat → Bool
  | 0 => true
  | a + 1 => clrT k a && clrA k a
def clrK : Nat → Bool
  | 0 => true
  | k + 1 => clrA k 2048 && clrK k
theorem clrA_of {k : Nat} : ∀ {n a : Nat}, clrA k n = true → a < n → clrT k a = true
  | 0, _, _, h => absurd h (Nat.not_lt_zero _)
  | n + 1, a, h, hl => by
    simp only [clrA, Bool.and_eq_true] at h
    rcases Nat.lt_succ_iff_lt_or_eq.mp hl with q | q
    · exact clrA_of h.2 q
    · rw [q]; exact h.1
theorem clrK_of : ∀ {n k : Nat}, clrK n = true → k < n → clrA k 2048 = true
  | 0, _, _, h => absurd h (Nat.not_lt_zero _)
  | n + 1, k, h, hl => by
    simp only [clrK, Bool.and_eq_true] at h
    rcases Nat.lt_succ_iff_lt_or_eq.mp hl with q | q
    · exact clrK_of h.2 q
    · rw [q]; exact h.1
set_option maxRecDepth 100000 in
theorem clrAll : clrK 11 = true := by decide +kernel
theorem iI_clr {k a : Nat} (hk : k < 11) (ha : a < 2048) : iI (a : Int) &&& iI (-((2 ^ k : Nat) : Int) - 1) = iI ((if a < a ^^^ 2 ^ k then a else a ^^^ 2 ^ k : Nat) : Int) := by
  have h := clrA_of (clrK_of clrAll hk) ha
  unfold clrT at h
  have h := Nat.eq_of_beq_eq_true h
  have e1 : (bif Nat.blt a (a ^^^ 2 ^ k) then a else a ^^^ 2 ^ k) = (if a < a ^^^ 2 ^ k then a else a ^^^ 2 ^ k) := by
    by_cases c : a < a ^^^ 2 ^ k
    · rw [if_pos c, show Nat.blt a (a ^^^ 2 ^ k) = true from Nat.ble_eq.mpr c]; rfl
    · rw [if_neg c, show Nat.blt a (a ^^^ 2 ^ k) = false from by cases hb : Nat.blt a (a ^^^ 2 ^ k); rfl; exact absurd (Nat.le_of_ble_eq_true hb) c]; rfl
  rw [e1] at h
  rw [← h]
  have hp : 2 ^ k ≤ 1024 := Nat.le_trans (Nat.pow_le_pow_right (by decide) (show k ≤ 10 by omega)) (by decide)
  apply Int32.toBitVec_inj.mp
  apply BitVec.eq_of_toNat_eq
  rw [Int32.toBitVec_and, BitVec.toNat_and]
  show (BitVec.ofInt 32 (a : Int)).toNat &&& (BitVec.ofInt 32 (-((2 ^ k : Nat) : Int) - 1)).toNat = (BitVec.ofInt 32 ((Nat.land a (2 ^ 32 - 1 - 2 ^ k) : Nat) : Int)).toNat
  have hl : Nat.land a (2 ^ 32 - 1 - 2 ^ k) ≤ a := Nat.and_le_left
  generalize 2 ^ k = P at *
  rw [BitVec.toNat_ofInt, BitVec.toNat_ofInt, BitVec.toNat_ofInt, show ((a : Int) % ((2 ^ 32 : Nat) : Int)).toNat = a by omega, show ((-(P : Int) - 1) % ((2 ^ 32 : Nat) : Int)).toNat = 2 ^ 32 - 1 - P by omega, show (((Nat.land a (2 ^ 32 - 1 - P) : Nat) : Int) % ((2 ^ 32 : Nat) : Int)).toNat = Nat.land a (2 ^ 32 - 1 - P) by omega]
  rfl
set_option maxHeartbeats 4000000 in
set_option maxRecDepth 100000 in
theorem c_addFreeN {l : Launch} {D : va_G} {ad : Nat → Nat} {g : Nat × Nat × Nat × Nat} (hg : 3 ≤ g.1 ∧ g.1 ≤ 11 ∧ 8 ≤ g.2.1 ∧ g.2.1 ≤ 2048 ∧ 1 ≤ g.2.2.1 ∧ g.2.2.1 ≤ 24 ∧ 1 ≤ g.2.2.2 ∧ g.2.2.2 ≤ 12) (σ : St) (a k : Nat) (ha : a < g.2.1) (hk : k ≤ g.1) : Kt l D ad g yX1_addFree (Cond.code yX1_addFree cX1_addFree 3 none :: tb) 0 0 [.ref (ad 1), vi (a : Int), vi (k : Int)] σ (fun v σ' => v = none ∧ σ' = up (up σ 4 a ((k : Int))) 3 k (σ 3 k + 1)) := by
  refine ct_of (by decide) rfl (Nat.le_of_ble_eq_true rfl) ?_
  intro p e s m below meth c C
  change X _ _ _ _ _ _ _ _ _ _ _ _ _ _ _ _ [(0, .ref (ad 1)), (1, vi (a : Int)), (2, vi (k : Int))] _
  refine x_aload_n C dX1_addFree_0 rfl rfl ?_
  refine x_get C (Cn := RX1) (T := TX1) (N := 4) (ci := 1) 3 dX1_addFree_1 m_w_1 m_f_RX1_22 rfl (by decide) rfl rfl ?_
  refine x_iload_n C dX1_addFree_4 rfl rfl ?_
  refine x_iload_n C dX1_addFree_5 rfl rfl ?_
  refine k_ast C dX1_addFree_6 (fun _ => rfl) (by omega) (by omega) ?_
  refine x_aload_n C dX1_addFree_7 rfl rfl ?_
  refine x_get C (Cn := RX1) (T := TX1) (N := 4) (ci := 1) 2 dX1_addFree_8 m_w_1 m_f_RX1_19 rfl (by decide) rfl rfl ?_
  refine x_iload_n C dX1_addFree_11 rfl rfl ?_
  refine x_dup2 C dX1_addFree_12 rfl rfl ?_
  refine x_iald C dX1_addFree_13 rfl (by omega) (by omega) ?_
  refine x_iconst C dX1_addFree_14 ?_
  refine x_iadd C dX1_addFree_15 ?_
  refine k_ast C dX1_addFree_16 (fun _ => rfl) (by omega) (by omega) ?_
  exact x_vret C dX1_addFree_17 ⟨_, rfl, rfl, by simp only [Int.toNat_natCast]; rfl⟩
set_option maxHeartbeats 4000000 in
set_option maxRecDepth 100000 in
theorem c_removeFreeN {l : Launch} {D : va_G} {ad : Nat → Nat} {g : Nat × Nat × Nat × Nat} (hg : 3 ≤ g.1 ∧ g.1 ≤ 11 ∧ 8 ≤ g.2.1 ∧ g.2.1 ≤ 2048 ∧ 1 ≤ g.2.2.1 ∧ g.2.2.1 ≤ 24 ∧ 1 ≤ g.2.2.2 ∧ g.2.2.2 ≤ 12) (σ : St) (a k : Nat) (ha : a < g.2.1) (hk : k ≤ g.1) : Kt l D ad g yX1_removeFree (Cond.code yX1_removeFree cX1_removeFree 3 none :: tb) 0 0 [.ref (ad 1), vi (a : Int), vi (k : Int)] σ (fun v σ' => v = none ∧ σ' = up (up σ 4 a (-1)) 3 k (σ 3 k - 1)) := by
  refine ct_of (by decide) rfl (Nat.le_of_ble_eq_true rfl) ?_
  intro p e s m below meth c C
  change X _ _ _ _ _ _ _ _ _ _ _ _ _ _ _ _ [(0, .ref (ad 1)), (1, vi (a : Int)), (2, vi (k : Int))] _
  refine x_aload_n C dX1_removeFree_0 rfl rfl ?_
  refine x_get C (Cn := RX1) (T := TX1) (N := 4) (ci := 1) 3 dX1_removeFree_1 m_w_1 m_f_RX1_22 rfl (by decide) rfl rfl ?_
  refine x_iload_n C dX1_removeFree_4 rfl rfl ?_
  refine x_iconst C dX1_removeFree_5 ?_
  refine k_ast C dX1_removeFree_6 (fun _ => rfl) (by omega) (by omega) ?_
  refine x_aload_n C dX1_removeFree_7 rfl rfl ?_
  refine x_get C (Cn := RX1) (T := TX1) (N := 4) (ci := 1) 2 dX1_removeFree_8 m_w_1 m_f_RX1_19 rfl (by decide) rfl rfl ?_
  refine x_iload_n C dX1_removeFree_11 rfl rfl ?_
  refine x_dup2 C dX1_removeFree_12 rfl rfl ?_
  refine x_iald C dX1_removeFree_13 rfl (by omega) (by omega) ?_
  refine x_iconst C dX1_removeFree_14 ?_
  refine x_isub C dX1_removeFree_15 ?_
  refine k_ast C dX1_removeFree_16 (fun _ => rfl) (by omega) (by omega) ?_
  exact x_vret C dX1_removeFree_17 ⟨_, rfl, rfl, by simp only [Int.toNat_natCast]; rfl⟩
set_option maxHeartbeats 4000000 in
set_option maxRecDepth 100000 in
theorem lp_orderFor {p : Program} {l : Launch} {e : Env} {R : Room} {s : State} {m : MethodId} {args : Array Value} {below : List Frame} {meth : Method} {c : Code} {D : va_G} {ad : Nat → Nat} {g : Nat × Nat × Nat × Nat} {Q : State → Prop} (C : Fx p s m args meth c D ad cX1_orderFor 3 (some .int) yX1_orderFor.cls tb) (σ : St) (z : Int) (hz : 0 ≤ z ∧ z ≤ 65536) (K : ∀ (r : Nat), ordP z r → r ≤ 17 → X p l e R s m args below meth c D ad 3 Q (kc D ad g σ) 22 [(2, vi (r : Int)), (0, vl z)] []) (n r : Nat) (hn : 18 - r < n) (hr : r ≤ 17) (hb : ∀ k : Nat, k < r → (2 : Int) ^ k < z) : X p l e R s m args below meth c D ad 3 Q (kc D ad g σ) 2 [(2, vi (r : Int)), (0, vl z)] [] := by
  induction n generalizing r with
  | zero => omega
  | succ n ih =>
  refine x_iload_n C dX1_orderFor_2 rfl rfl ?_
  refine x_bipush C (z := 30) dX1_orderFor_3 (by decide) ?_
  refine x_icmp_ge (tgt := 22) C dX1_orderFor_5 (by decide) (by omega) (by omega) (fun c_5 => ?_) (fun c_5 => ?_)
  · omega
  · refine x_lconst1 C dX1_orderFor_8 ?_
    refine x_iload_n C dX1_orderFor_9 rfl rfl ?_
    refine x_lshl C dX1_orderFor_10 (by omega) ?_
    refine x_lload_n C dX1_orderFor_11 rfl rfl ?_
    rw [Int.toNat_natCast, Int.one_mul]
    have hp : (2 : Int) ^ r ≤ 2 ^ 17 := zp_le (by omega)
    have hp0 : (0 : Int) < 2 ^ r := Int.pow_pos (by decide)
    refine x_lif_ge (tgt := 22) C dX1_orderFor_12 dX1_orderFor_13 (by decide) (by omega) (by omega) (fun c_12 => ?_) (fun c_12 => ?_)
    · exact K r ⟨by omega, hb⟩ hr
    · have hr17 : r + 1 ≤ 17 := by
        rcases Nat.lt_or_ge r 17 with q | q
        · omega
        · have h17 : r = 17 := by omega
          subst h17; omega
      refine x_iinc C (lv' := [(2, _), (0, _)]) dX1_orderFor_16 rfl (by decide) rfl ?_
      refine x_goto (tgt := 2) C dX1_orderFor_19 (by decide) ?_
      rw [show (r : Int) + 1 = ((r + 1 : Nat) : Int) by omega]
      exact ih (r + 1) (by have := hb; omega) hr17 (fun k hk => if q : k < r then hb k q else by rw [show k = r by omega]; omega)
set_option maxHeartbeats 4000000 in
set_option maxRecDepth 100000 in
theorem c_orderFor {l : Launch} {D : va_G} {ad : Nat → Nat} {g : Nat × Nat × Nat × Nat} (σ : St) (z : Int) (hz : 0 ≤ z ∧ z ≤ 65536) : Kt l D ad g yX1_orderFor (Cond.code yX1_orderFor cX1_orderFor 3 (some .int) :: tb) 0 0 [vl z] σ (fun v σ' => σ = σ' ∧ ∃ r : Nat, v = some (vi (r : Int)) ∧ ordP z r ∧ r ≤ 17) := by
  refine ct_of (by decide) rfl (Nat.le_of_ble_eq_true rfl) ?_
  intro p e s m below meth c C
  change X _ _ _ _ _ _ _ _ _ _ _ _ _ _ _ _ [(0, vl z)] _
  refine x_iconst C dX1_orderFor_0 ?_
  refine x_istore_n C (lv' := [(2, _), (0, _)]) dX1_orderFor_1 rfl (by decide) rfl ?_
  refine lp_orderFor C σ z hz ?_ 19 0 (by omega) (by omega) (fun k hk => by omega)
  intro r h1 h2
  refine x_iload_n C dX1_orderFor_22 rfl rfl ?_
  exact x_iret C dX1_orderFor_23 ⟨_, rfl, rfl, r, rfl, h1, h2⟩
set_option maxHeartbeats 4000000 in
set_option maxRecDepth 100000 in
theorem lp_freeLimbs {p : Program} {l : Launch} {e : Env} {R : Room} {s : State} {m : MethodId} {args : Array Value} {below : List Frame} {meth : Method} {c : Code} {D : va_G} {ad : Nat → Nat} {g : Nat × Nat × Nat × Nat} {Q : State → Prop} (C : Fx p s m args meth c D ad cX1_freeLimbs 3 (some .int) yX1_freeLimbs.cls tb) (hg : 3 ≤ g.1 ∧ g.1 ≤ 11 ∧ 8 ≤ g.2.1 ∧ g.2.1 ≤ 2048 ∧ 1 ≤ g.2.2.1 ∧ g.2.2.1 ≤ 24 ∧ 1 ≤ g.2.2.2 ∧ g.2.2.2 ≤ 12) (σ : St) (K : X p l e R s m args below meth c D ad 3 Q (kc D ad g σ) 29 [(2, vi ((g.1 + 1 : Nat) : Int)), (1, vi (sumF (σ 3) (g.1 + 1))), (0, .ref (ad 1))] []) (n r : Nat) (hn : 20 - r < n) (hr : r ≤ g.1 + 1) : X p l e R s m args below meth c D ad 3 Q (kc D ad g σ) 4 [(2, vi (r : Int)), (1, vi (sumF (σ 3) r)), (0, .ref (ad 1))] [] := by
  induction n generalizing r with
  | zero => omega
  | succ n ih =>
  refine x_iload_n C dX1_freeLimbs_4 rfl rfl ?_
  refine x_aload_n C dX1_freeLimbs_5 rfl rfl ?_
  refine x_get C (Cn := RX1) (T := TX1) (N := 4) (ci := 1) 0 dX1_freeLimbs_6 m_w_1 m_f_RX1_9 rfl (by decide) rfl rfl ?_
  refine x_icmp_gt (tgt := 29) C dX1_freeLimbs_9 (by decide) (by omega) (by omega) (fun c_9 => ?_) (fun c_9 => ?_)
  · rw [show r = g.1 + 1 by omega]
    exact K
  · refine x_iload_n C dX1_freeLimbs_12 rfl rfl ?_
    refine x_aload_n C dX1_freeLimbs_13 rfl rfl ?_
    refine x_get C (Cn := RX1) (T := TX1) (N := 4) (ci := 1) 2 dX1_freeLimbs_14 m_w_1 m_f_RX1_19 rfl (by decide) rfl rfl ?_
    refine x_iload_n C dX1_freeLimbs_17 rfl rfl ?_
    refine x_iald C dX1_freeLimbs_18 rfl (by omega) (by omega) ?_
    refine x_iload_n C dX1_freeLimbs_19 rfl rfl ?_
    refine x_ishl C dX1_freeLimbs_20 (by omega) ?_
    refine x_iadd C dX1_freeLimbs_21 ?_
    refine x_istore_n C (lv' := [(1, _), (2, _), (0, _)]) dX1_freeLimbs_22 rfl (by decide) rfl ?_
    refine x_iinc C (lv' := [(2, _), (1, _), (0, _)]) dX1_freeLimbs_23 rfl (by decide) rfl ?_
    refine x_goto (tgt := 4) C dX1_freeLimbs_26 (by decide) ?_
    rw [show (r : Int) + 1 = ((r + 1 : Nat) : Int) by omega, Int.toNat_natCast]
    exact ih (r + 1) (by omega) (by omega)
set_option maxHeartbeats 4000000 in
set_option maxRecDepth 100000 in
theorem c_freeLimbs {l : Launch} {D : va_G} {ad : Nat → Nat} {g : Nat × Nat × Nat × Nat} (hg : 3 ≤ g.1 ∧ g.1 ≤ 11 ∧ 8 ≤ g.2.1 ∧ g.2.1 ≤ 2048 ∧ 1 ≤ g.2.2.1 ∧ g.2.2.1 ≤ 24 ∧ 1 ≤ g.2.2.2 ∧ g.2.2.2 ≤ 12) (σ : St) : Kt l D ad g yX1_freeLimbs (Cond.code yX1_freeLimbs cX1_freeLimbs 3 (some .int) :: tb) 0 0 [.ref (ad 1)] σ (fun v σ' => σ = σ' ∧ v = some (vi (sumF (σ 3) (g.1 + 1)))) := by
  refine ct_of (by decide) rfl (Nat.le_of_ble_eq_true rfl) ?_
  intro p e s m below meth c C
  change X _ _ _ _ _ _ _ _ _ _ _ _ _ _ _ _ [(0, .ref (ad 1))] _
  refine x_iconst C dX1_freeLimbs_0 ?_
  refine x_istore_n C (lv' := [(1, _), (0, _)]) dX1_freeLimbs_1 rfl (by decide) rfl ?_
  refine x_iconst C dX1_freeLimbs_2 ?_
  refine x_istore_n C (lv' := [(2, _), (1, _), (0, _)]) dX1_freeLimbs_3 rfl (by decide) rfl ?_
  refine lp_freeLimbs C hg σ ?_ 21 0 (by omega) (by omega)
  refine x_iload_n C dX1_freeLimbs_29 rfl rfl ?_
  exact x_iret C dX1_freeLimbs_30 ⟨_, rfl, rfl, rfl⟩
def adP (f : Nat → Int) (np : Nat) (o k r : Int) : Prop := (r = -1 ∧ ¬ (0 ≤ k ∧ k < cnt f o np)) ∨ (∃ a : Nat, r = a ∧ a < np ∧ f a = o ∧ cnt f o a = k)
theorem MI.step {pl : Nat} {f : Nat → Int} (h : MI pl f) {o a : Nat} (hd : 2 ^ o ∣ a) (hb : a + 2 ^ o ≤ 2 ^ pl) : cnt f o (a + 2 ^ o) = cnt f o (a + 1) := by
  have hp : 0 < 2 ^ o := Nat.two_pow_pos o
  refine cnt_gap f o (by omega) (fun b h1 h2 e => ?_)
  have h3 := (h.2.1 b o (by omega) e).1
  obtain ⟨x, rfl⟩ := hd
  obtain ⟨y, rfl⟩ := h3
  have h4 : x < y := Nat.lt_of_mul_lt_mul_left (show 2 ^ o * x < 2 ^ o * y by omega)
  have h5 := Nat.mul_le_mul_left (2 ^ o) (show x + 1 ≤ y by omega)
  rw [Nat.mul_add] at h5
  omega
theorem dv_le {a n p : Nat} (h1 : p ∣ a) (h2 : p ∣ n) (h : a < n) : a + p ≤ n := by
  obtain ⟨x, rfl⟩ := h1
  obtain ⟨y, rfl⟩ := h2
  have h4 : x < y := Nat.lt_of_mul_lt_mul_left h
  have h5 := Nat.mul_le_mul_left p (show x + 1 ≤ y by omega)
  rw [Nat.mul_add] at h5
  omega
set_option maxHeartbeats 4000000 in
set_option maxRecDepth 100000 in
theorem lp_addressOfFree {p : Program} {l : Launch} {e : Env} {R : Room} {s : State} {m : MethodId} {args : Array Value} {below : List Frame} {meth : Method} {c : Code} {D : va_G} {ad : Nat → Nat} {g : Nat × Nat × Nat × Nat} {Q : State → Prop} (C : Fx p s m args meth c D ad cX1_addressOfFree 5 (some .int) yX1_addressOfFree.cls tb) (hg : 3 ≤ g.1 ∧ g.1 ≤ 11 ∧ 8 ≤ g.2.1 ∧ g.2.1 ≤ 2048 ∧ 1 ≤ g.2.2.1 ∧ g.2.2.1 ≤ 24 ∧ 1 ≤ g.2.2.2 ∧ g.2.2.2 ≤ 12) (hnp : g.2.1 = 2 ^ g.1) (σ : St) (hM : MI g.1 (σ 4)) (o : Nat) (ho : o ≤ g.1) (k : Int) (hk : 0 ≤ k ∧ k < cnt (σ 4) o g.2.1) (K : ∀ (a : Nat) lv, a < g.2.1 → σ 4 a = o → cnt (σ 4) o a = k → X p l e R s m args below meth c D ad 5 Q (kc D ad g σ) 49 lv [vi (a : Int)]) (n a : Nat) (hn : g.2.1 - a < n) (hd : 2 ^ o ∣ a) (ha : a ≤ g.2.1) (hc : cnt (σ 4) o a ≤ k) : X p l e R s m args below meth c D ad 5 Q (kc D ad g σ) 21 [(4, vi (a : Int)), (3, vi (cnt (σ 4) o a)), (0, .ref (ad 1)), (1, vi (o : Int)), (2, vi k)] [] := by
  induction n generalizing a with
  | zero => omega
  | succ n ih =>
  refine x_iload C dX1_addressOfFree_21 rfl ?_
  refine x_aload_n C dX1_addressOfFree_23 rfl rfl ?_
  refine x_get C (Cn := RX1) (T := TX1) (N := 4) (ci := 1) 3 dX1_addressOfFree_24 m_w_1 m_f_RX1_22 rfl (by decide) rfl rfl ?_
  refine x_alen C 0 dX1_addressOfFree_27 rfl rfl ?_
  refine x_icmp_ge (tgt := 64) C dX1_addressOfFree_28 (by decide) (by omega) (by omega) (fun c_28 => ?_) (fun c_28 => ?_)
  · rw [show a = g.2.1 by omega] at hc
    omega
  · have hp : 0 < 2 ^ o := Nat.two_pow_pos o
    have hra := hM.1 a (by omega)
    have hle := cnt_le (σ 4) o a
    have hge := cnt_ge (σ 4) o a
    have hle2 := cnt_le (σ 4) o g.2.1
    have hst : a + 2 ^ o ≤ g.2.1 := by
      rw [hnp]; exact dv_le hd (Nat.pow_dvd_pow 2 ho) (by omega)
    have hstep := hM.step hd (by omega)
    rw [cnt_s] at hstep
    refine x_aload_n C dX1_addressOfFree_31 rfl rfl ?_
    refine x_get C (Cn := RX1) (T := TX1) (N := 4) (ci := 1) 3 dX1_addressOfFree_32 m_w_1 m_f_RX1_22 rfl (by decide) rfl rfl ?_
    refine x_iload C dX1_addressOfFree_35 rfl ?_
    refine x_iald C dX1_addressOfFree_37 rfl (by omega) (by omega) ?_
    refine x_iload_n C dX1_addressOfFree_38 rfl rfl ?_
    try rw [Int.toNat_natCast]
    refine x_icmp_ne (tgt := 53) C dX1_addressOfFree_39 (by decide) (by omega) (by omega) (fun c_39 => ?_) (fun c_39 => ?_)
    · refine x_iload C dX1_addressOfFree_53 rfl ?_
      refine x_iconst C dX1_addressOfFree_55 ?_
      refine x_iload_n C dX1_addressOfFree_56 rfl rfl ?_
      refine x_ishl C dX1_addressOfFree_57 (by omega) ?_
      refine x_iadd C dX1_addressOfFree_58 ?_
      refine x_istore C (lv' := [(4, _), (3, _), (0, _), (1, _), (2, _)]) dX1_addressOfFree_59 (by decide) rfl ?_
      refine x_goto (tgt := 21) C dX1_addressOfFree_61 (by decide) ?_
      rw [pw_c, show (a : Int) + ((2 ^ o : Nat) : Int) = ((a + 2 ^ o : Nat) : Int) by omega]
      rw [show cnt (σ 4) o a = cnt (σ 4) o (a + 2 ^ o) by rw [hstep, if_neg c_39]; omega]
      exact ih (a + 2 ^ o) (by omega) (Nat.dvd_add hd (Nat.dvd_refl _)) hst (by rw [hstep, if_neg c_39]; omega)
    · refine x_iload_n C dX1_addressOfFree_42 rfl rfl ?_
      refine x_iload_n C dX1_addressOfFree_43 rfl rfl ?_
      refine x_icmp_ne (tgt := 50) C dX1_addressOfFree_44 (by decide) (by omega) (by omega) (fun c_44 => ?_) (fun c_44 => ?_)
      · refine x_iinc C (lv' := [(3, _), (4, _), (0, _), (1, _), (2, _)]) dX1_addressOfFree_50 rfl (by decide) rfl ?_
        refine x_iload C dX1_addressOfFree_53 rfl ?_
        refine x_iconst C dX1_addressOfFree_55 ?_
        refine x_iload_n C dX1_addressOfFree_56 rfl rfl ?_
        refine x_ishl C dX1_addressOfFree_57 (by omega) ?_
        refine x_iadd C dX1_addressOfFree_58 ?_
        refine x_istore C (lv' := [(4, _), (3, _), (0, _), (1, _), (2, _)]) dX1_addressOfFree_59 (by decide) rfl ?_
        refine x_goto (tgt := 21) C dX1_addressOfFree_61 (by decide) ?_
        rw [pw_c, show (a : Int) + ((2 ^ o : Nat) : Int) = ((a + 2 ^ o : Nat) : Int) by omega]
        rw [show cnt (σ 4) o a + 1 = cnt (σ 4) o (a + 2 ^ o) by rw [hstep, if_pos c_39]]
        exact ih (a + 2 ^ o) (by omega) (Nat.dvd_add hd (Nat.dvd_refl _)) hst (by rw [hstep, if_pos c_39]; omega)
      · refine x_iload C dX1_addressOfFree_47 rfl ?_
        exact K a _ (by omega) c_39 c_44
set_option maxHeartbeats 4000000 in
set_option maxRecDepth 100000 in
theorem c_addressOfFree {l : Launch} {D : va_G} {ad : Nat → Nat} {g : Nat × Nat × Nat × Nat} (hg : 3 ≤ g.1 ∧ g.1 ≤ 11 ∧ 8 ≤ g.2.1 ∧ g.2.1 ≤ 2048 ∧ 1 ≤ g.2.2.1 ∧ g.2.2.1 ≤ 24 ∧ 1 ≤ g.2.2.2 ∧ g.2.2.2 ≤ 12) (hnp : g.2.1 = 2 ^ g.1) (σ : St) (hM : MI g.1 (σ 4)) (hC : CN g σ) (o : Nat) (ho : o ≤ g.1) (k : Int) (hk : -2147483648 ≤ k ∧ k < 2147483648) : Kt l D ad g yX1_addressOfFree (Cond.code yX1_addressOfFree cX1_addressOfFree 5 (some .int) :: tb) 0 0 [.ref (ad 1), vi (o : Int), vi k] σ (fun v σ' => σ = σ' ∧ ∃ r : Int, v = some (vi r) ∧ adP (σ 4) g.2.1 o k r) := by
  refine ct_of (by decide) rfl (Nat.le_of_ble_eq_true rfl) ?_
  intro p e s m below meth c C
  change X _ _ _ _ _ _ _ _ _ _ _ _ _ _ _ _ [(0, .ref (ad 1)), (1, vi (o : Int)), (2, vi k)] _
  have hr := hC.rg (by omega) o ho
  have hco := hC o ho
  refine x_iload_n C dX1_addressOfFree_0 rfl rfl ?_
  refine x_if_lt (tgt := 14) C dX1_addressOfFree_1 (by decide) (by omega) (fun c_1 => ?_) (fun c_1 => ?_)
  · refine x_iconst C dX1_addressOfFree_14 ?_
    exact x_iret C dX1_addressOfFree_15 ⟨_, rfl, rfl, _, rfl, Or.inl ⟨rfl, by omega⟩⟩
  · refine x_iload_n C dX1_addressOfFree_4 rfl rfl ?_
    refine x_aload_n C dX1_addressOfFree_5 rfl rfl ?_
    refine x_get C (Cn := RX1) (T := TX1) (N := 4) (ci := 1) 2 dX1_addressOfFree_6 m_w_1 m_f_RX1_19 rfl (by decide) rfl rfl ?_
    refine x_iload_n C dX1_addressOfFree_9 rfl rfl ?_
    refine x_iald C dX1_addressOfFree_10 rfl (by omega) (by omega) ?_
    rw [Int.toNat_natCast]
    refine x_icmp_lt (tgt := 16) C dX1_addressOfFree_11 (by decide) (by omega) (by omega) (fun c_11 => ?_) (fun c_11 => ?_)
    · refine x_iconst C dX1_addressOfFree_16 ?_
      refine x_istore_n C (lv' := [(3, _), (0, _), (1, _), (2, _)]) dX1_addressOfFree_17 rfl (by decide) rfl ?_
      refine x_iconst C dX1_addressOfFree_18 ?_
      refine x_istore C (lv' := [(4, _), (3, _), (0, _), (1, _), (2, _)]) dX1_addressOfFree_19 (by decide) rfl ?_
      refine lp_addressOfFree C hg hnp σ hM o ho k (by omega) ?_ (g.2.1 + 1) 0 (by omega) (Nat.dvd_zero _) (by omega) (by simp [cnt]; omega)
      intro a lv h1 h2 h3
      exact x_iret C dX1_addressOfFree_49 ⟨_, rfl, rfl, _, rfl, Or.inr ⟨a, rfl, h1, h2, h3⟩⟩
    · refine x_iconst C dX1_addressOfFree_14 ?_
      exact x_iret C dX1_addressOfFree_15 ⟨_, rfl, rfl, _, rfl, Or.inl ⟨rfl, by omega⟩⟩
end
section
/-! GIVING and TAKING BACK -/
def gvP (g : Nat × Nat × Nat × Nat) (σ σ' : St) (k : Nat) (r : Int) : Prop := (r = -1 ∧ σ = σ' ∧ ∀ a, a < g.2.1 → ¬ (k : Int) ≤ σ 4 a) ∨ (∃ a d : Nat, r = a ∧ a < g.2.1 ∧ σ 4 a = ((k + d : Nat) : Int) ∧ (∀ b, b < g.2.1 → (k : Int) ≤ σ 4 b → ((k + d : Nat) : Int) ≤ σ 4 b) ∧ (∀ b, b < a → σ 4 b ≠ ((k + d : Nat) : Int)) ∧ σ' 4 = splF (zup (σ 4) a (-1)) a k d ∧ CN g σ' ∧ ∀ q, q ≠ 3 → q ≠ 4 → σ' q = σ q)
theorem pw_lt {a b : Nat} (h : a < b) : 2 ^ a < 2 ^ b := Nat.pow_lt_pow_right (by decide) h
theorem CN.some {g : Nat × Nat × Nat × Nat} {σ : St} (h : CN g σ) (hM : MI g.1 (σ 4)) (hnp : g.2.1 = 2 ^ g.1) {a : Nat} (ha : a < g.2.1) (h0 : 0 ≤ σ 4 a) : σ 4 a ≤ g.1 ∧ 0 < σ 3 (σ 4 a).toNat := by
  have hr := hM.1 a (by omega)
  refine ⟨hr.2, ?_⟩
  rw [h _ (by omega), show (((σ 4 a).toNat : Nat) : Int) = σ 4 a by omega]
  have h1 := cnt_ge (σ 4) (σ 4 a) g.2.1
  rcases Int.lt_or_le 0 (cnt (σ 4) (σ 4 a) g.2.1) with q | q
  · exact q
  · exact absurd rfl (cnt_no (show cnt (σ 4) (σ 4 a) g.2.1 = 0 by omega) ha)
set_option maxHeartbeats 4000000 in
set_option maxRecDepth 100000 in
theorem lp_give {p : Program} {l : Launch} {e : Env} {R : Room} {s : State} {m : MethodId} {args : Array Value} {below : List Frame} {meth : Method} {c : Code} {D : va_G} {ad : Nat → Nat} {g : Nat × Nat × Nat × Nat} {Q : State → Prop} (C : Fx p s m args meth c D ad cX1_give 5 (some .int) yX1_give.cls tb) (hg : 3 ≤ g.1 ∧ g.1 ≤ 11 ∧ 8 ≤ g.2.1 ∧ g.2.1 ≤ 2048 ∧ 1 ≤ g.2.2.1 ∧ g.2.2.1 ≤ 24 ∧ 1 ≤ g.2.2.2 ∧ g.2.2.2 ≤ 12) (hR : 1 ≤ R.frames ∧ 40 ≤ R.locals) (σ : St) (a k : Nat) (F : Nat → Int) (K : ∀ (σ' : St) lv, σ' 4 = F → CN g σ' → (∀ q, q ≠ 3 → q ≠ 4 → σ' q = σ q) → lk 3 lv = some (vi (a : Int)) → X p l e R s m args below meth c D ad 5 Q (kc D ad g σ') 64 lv []) (n : Nat) (dd : Nat) (hdd : dd < n) (z : Int) (hz : z = (k : Int) + dd - 1) (f0 : Int) (hkd : k + dd ≤ g.1) (hb : a + 2 ^ (k + dd) ≤ g.2.1) (σ1 : St) (hF : splF (σ1 4) a k dd = F) (hC : CN g σ1) (hrow : ∀ q, q ≠ 3 → q ≠ 4 → σ1 q = σ q) (hno : ∀ j, j < k + dd → σ1 4 (a + 2 ^ j) = -1) : X p l e R s m args below meth c D ad 5 Q (kc D ad g σ1) 40 [(4, vi z), (3, vi (a : Int)), (2, vi f0), (0, .ref (ad 1)), (1, vi (k : Int))] [] := by
  induction n generalizing dd z σ1 with
  | zero => omega
  | succ n ih =>
  refine x_iload C dX1_give_40 rfl ?_
  refine x_iload_n C dX1_give_42 rfl rfl ?_
  refine x_icmp_lt (tgt := 64) C dX1_give_43 (by decide) (by omega) (by omega) (fun c_43 => ?_) (fun c_43 => ?_)
  · have hd0 : dd = 0 := by omega
    subst hd0
    exact K σ1 _ hF hC hrow rfl
  · obtain ⟨dd, rfl⟩ : ∃ d1, dd = d1 + 1 := ⟨dd - 1, by omega⟩
    obtain rfl : z = ((k + dd : Nat) : Int) := by omega
    have hp := pw_lt (show k + dd < k + (dd + 1) by omega)
    have hlt : a + 2 ^ (k + dd) < g.2.1 := by omega
    refine x_aload_n C dX1_give_46 rfl rfl ?_
    refine x_iload_n C dX1_give_47 rfl rfl ?_
    refine x_iconst C dX1_give_48 ?_
    refine x_iload C dX1_give_49 rfl ?_
    refine x_ishl C dX1_give_51 (by omega) ?_
    refine x_iadd C dX1_give_52 ?_
    refine x_iload C dX1_give_53 rfl ?_
    rw [pw_c, show (a : Int) + ((2 ^ (k + dd) : Nat) : Int) = ((a + 2 ^ (k + dd) : Nat) : Int) by omega]
    refine x_callV C (ci := 1) (nn := 2) (c_addFreeN hg σ1 (a + 2 ^ (k + dd)) (k + dd) hlt (by omega)) g_RX1_34 rfl (by decide +kernel) ⟨by first | decide | omega, by first | decide | omega⟩ rfl rfl rfl rfl rfl (Nat.le_of_ble_eq_true rfl) dX1_give_55 (fun v h1 hp => ?_)
    obtain ⟨σ2, rfl, rfl, rfl⟩ := hp
    refine x_iinc C (lv' := [(4, _), (3, _), (2, _), (0, _), (1, _)]) dX1_give_58 rfl (by decide) rfl ?_
    refine x_goto (tgt := 40) C dX1_give_61 (by decide) ?_
    refine ih dd (by omega) (((k + dd : Nat) : Int) + -1) (by omega) (by omega) (by have := pw_lt (show k + dd < k + (dd + 1) by omega); omega) _ ?_ ?_ ?_ ?_
    · rw [up_n (by decide), up_s]; exact hF
    · exact hC.add hlt (hno _ (by omega))
    · intro q h3 h4; rw [up_n h3, up_n h4]; exact hrow q h3 h4
    · intro j hj
      rw [up_n (by decide), up_s, zup_n (by have := pw_lt hj; omega)]
      exact hno j (by omega)
set_option maxHeartbeats 4000000 in
set_option maxRecDepth 100000 in
theorem c_give {l : Launch} {D : va_G} {ad : Nat → Nat} {g : Nat × Nat × Nat × Nat} (hg : 3 ≤ g.1 ∧ g.1 ≤ 11 ∧ 8 ≤ g.2.1 ∧ g.2.1 ≤ 2048 ∧ 1 ≤ g.2.2.1 ∧ g.2.2.1 ≤ 24 ∧ 1 ≤ g.2.2.2 ∧ g.2.2.2 ≤ 12) (hnp : g.2.1 = 2 ^ g.1) (σ : St) (hM : MI g.1 (σ 4)) (hC : CN g σ) (k : Nat) (hk : k ≤ 64) : Kt l D ad g yX1_give (Cond.code yX1_give cX1_give 5 (some .int) :: tb) 1 40 [.ref (ad 1), vi (k : Int)] σ (fun v σ' => ∃ r : Int, v = some (vi r) ∧ gvP g σ σ' k r) := by
  refine ct_of (by decide) rfl (Nat.le_of_ble_eq_true rfl) ?_
  intro p e s m below meth c C
  change X _ _ _ _ _ _ _ _ _ _ _ _ _ _ _ _ [(0, .ref (ad 1)), (1, vi (k : Int))] _
  refine x_aload_n C dX1_give_0 rfl rfl ?_
  refine x_iload_n C dX1_give_1 rfl rfl ?_
  refine x_callV C (ci := 1) (nn := 1) (c_leastFreeOrder hg σ (hC.rg (by omega)) (k : Int) (by omega)) g_RX1_38 rfl (by decide +kernel) ⟨by first | decide | omega, by first | decide | omega⟩ rfl rfl rfl rfl rfl (Nat.le_of_ble_eq_true rfl) dX1_give_2 (fun v h1 hp => ?_)
  obtain ⟨σ1, rfl, rfl, r, rfl, hr⟩ := hp
  have hrr : -1 ≤ r ∧ r ≤ 64 := by rcases hr with ⟨h1, -⟩ | ⟨h1, h2, -⟩ <;> omega
  refine x_istore_n C (lv' := [(2, _), (0, _), (1, _)]) dX1_give_5 rfl (by decide) rfl ?_
  refine x_iload_n C dX1_give_6 rfl rfl ?_
  refine x_iconst C dX1_give_7 ?_
  refine x_icmp_ne (tgt := 15) C dX1_give_8 (by decide) (by omega) (by omega) (fun c_8 => ?_) (fun c_8 => ?_)
  · rcases hr with ⟨hr, -⟩ | ⟨h1, h2, h3, h4⟩
    · exact absurd hr c_8
    obtain ⟨d, rfl⟩ : ∃ d : Nat, r = ((k + d : Nat) : Int) := ⟨(r - k).toNat, by omega⟩
    rw [Int.toNat_natCast] at h3
    have hco := hC (k + d) (by omega)
    refine x_aload_n C dX1_give_15 rfl rfl ?_
    refine x_iload_n C dX1_give_16 rfl rfl ?_
    refine x_iconst C dX1_give_17 ?_
    refine x_callV C (ci := 1) (nn := 2) (c_addressOfFree hg hnp σ hM hC (k + d) (by omega) 0 (by omega)) g_RX1_42 rfl (by decide +kernel) ⟨by first | decide | omega, by first | decide | omega⟩ rfl rfl rfl rfl rfl (Nat.le_of_ble_eq_true rfl) dX1_give_18 (fun v h1 hp => ?_)
    obtain ⟨σ1, rfl, rfl, r2, rfl, hr2⟩ := hp
    rcases hr2 with ⟨-, hr2⟩ | ⟨a, rfl, ha1, ha2, ha3⟩
    · exact absurd ⟨by omega, by omega⟩ hr2
    have hMa := hM.2.1 a (k + d) (by omega) ha2
    refine x_istore_n C (lv' := [(3, _), (2, _), (0, _), (1, _)]) dX1_give_21 rfl (by decide) rfl ?_
    refine x_iload_n C dX1_give_22 rfl rfl ?_
    refine x_iconst C dX1_give_23 ?_
    refine x_icmp_ne (tgt := 29) C dX1_give_24 (by decide) (by omega) (by omega) (fun c_24 => ?_) (fun c_24 => ?_)
    · refine x_aload_n C dX1_give_29 rfl rfl ?_
      refine x_iload_n C dX1_give_30 rfl rfl ?_
      refine x_iload_n C dX1_give_31 rfl rfl ?_
      refine x_callV C (ci := 1) (nn := 2) (c_removeFreeN hg σ a (k + d) ha1 (by omega)) g_RX1_46 rfl (by decide +kernel) ⟨by first | decide | omega, by first | decide | omega⟩ rfl rfl rfl rfl rfl (Nat.le_of_ble_eq_true rfl) dX1_give_32 (fun v h1 hp => ?_)
      obtain ⟨σ1, rfl, rfl, rfl⟩ := hp
      refine x_iload_n C dX1_give_35 rfl rfl ?_
      refine x_iconst C dX1_give_36 ?_
      refine x_isub C dX1_give_37 ?_
      refine x_istore C (lv' := [(4, _), (3, _), (2, _), (0, _), (1, _)]) dX1_give_38 (by decide) rfl ?_
      refine lp_give C hg ⟨by decide, by decide⟩ σ a k (splF (zup (σ 4) a (-1)) a k d) ?_ (d + 1) d (by omega) _ (by omega) _ (by omega) (by omega) _ ?_ ?_ ?_ ?_
      · intro σ' lv e1 e2 e3 e4
        refine x_iload_n C dX1_give_64 rfl e4 ?_
        refine x_iret C dX1_give_65 ⟨_, rfl, _, rfl, Or.inr ⟨a, d, rfl, ha1, ha2, fun b hb hkb => ?_, fun b hb => cnt_no ha3 hb, e1, e2, e3⟩⟩
        rcases Int.lt_or_le (σ 4 b) ((k + d : Nat) : Int) with q | q
        · have h5 := hC.some hM hnp hb (by omega)
          exact absurd h5.2 (h4 _ hkb q)
        · exact q
      · rw [up_n (by decide), up_s]
      · exact hC.rem ha1 ha2
      · intro q h3 h4; rw [up_n h3, up_n h4]
      · intro j hj
        have hp := pw_lt hj
        have hp0 := Nat.two_pow_pos j
        rw [up_n (by decide), up_s, zup_n (by omega)]
        exact hMa.2.2 _ (by omega) (by omega)
    · omega
  · refine x_iconst C dX1_give_11 ?_
    refine x_goto (tgt := 21) C dX1_give_12 (by decide) ?_
    refine x_istore_n C (lv' := [(3, _), (2, _), (0, _), (1, _)]) dX1_give_21 rfl (by decide) rfl ?_
    refine x_iload_n C dX1_give_22 rfl rfl ?_
    refine x_iconst C dX1_give_23 ?_
    refine x_icmp_ne (tgt := 29) C dX1_give_24 (by decide) (by omega) (by omega) (fun q => absurd rfl q) (fun q => ?_)
    refine x_iconst C dX1_give_27 ?_
    refine x_iret C dX1_give_28 ⟨_, rfl, _, rfl, Or.inl ⟨rfl, rfl, fun a ha hka => ?_⟩⟩
    rcases hr with ⟨-, hr⟩ | ⟨h1, -⟩
    · have h1 := hC.some hM hnp ha (by omega)
      exact hr (σ 4 a) hka h1.1 h1.2
    · omega
theorem jnF_s {pl n a o : Nat} {f : Nat → Int} (h : o < pl ∧ f (a ^^^ 2 ^ o) = (o : Int)) : jnF pl (n + 1) f a o = jnF pl n (zup f (a ^^^ 2 ^ o) (-1)) (if a < a ^^^ 2 ^ o then a else a ^^^ 2 ^ o) (o + 1) := by
  show (if o < pl ∧ f (a ^^^ 2 ^ o) = (o : Int) then _ else _) = _
  rw [if_pos h]
theorem MI.rem {pl : Nat} {f : Nat → Int} (h : MI pl f) {a : Nat} : MI pl (zup f a (-1)) := by
  obtain ⟨h1, h2, h3⟩ := h
  refine ⟨fun b hb => ?_, fun b o hb e => ?_, fun b o hb ho e => ?_⟩
  · by_cases c : b = a
    · rw [c, zup_s]; omega
    · rw [zup_n c]; exact h1 b hb
  · by_cases c : b = a
    · rw [c, zup_s] at e; omega
    · rw [zup_n c] at e
      obtain ⟨q1, q2, q3⟩ := h2 b o hb e
      refine ⟨q1, q2, fun b1 e1 e2 => ?_⟩
      by_cases c1 : b1 = a
      · rw [c1, zup_s]
      · rw [zup_n c1]; exact q3 b1 e1 e2
  · by_cases c : b = a
    · rw [c, zup_s] at e; omega
    · rw [zup_n c] at e
      by_cases c1 : b ^^^ 2 ^ o = a
      · rw [c1, zup_s]; omega
      · rw [zup_n c1]; exact h3 b o hb ho e
/-- the block that a buddy's and one's own are together -/
theorem jn_blk {pl a o : Nat} {f : Nat → Int} (hpl : pl ≤ 11) (hM : MI pl f) (ho : o < pl) (hd : 2 ^ o ∣ a) (ha : a + 2 ^ o ≤ 2 ^ pl) (hf : f (a ^^^ 2 ^ o) = (o : Int)) (hno : ∀ b, a ≤ b → b < a + 2 ^ o → f b = -1) :
    2 ^ (o + 1) ∣ (if a < a ^^^ 2 ^ o then a else a ^^^ 2 ^ o) ∧ (if a < a ^^^ 2 ^ o then a else a ^^^ 2 ^ o) + 2 ^ (o + 1) ≤ 2 ^ pl ∧ ∀ b, (if a < a ^^^ 2 ^ o then a else a ^^^ 2 ^ o) ≤ b → b < (if a < a ^^^ 2 ^ o then a else a ^^^ 2 ^ o) + 2 ^ (o + 1) → zup f (a ^^^ 2 ^ o) (-1) b = -1 := by
  have h11 : 2 ^ pl ≤ 2048 := Nat.le_trans (Nat.pow_le_pow_right (by decide) hpl) (by decide)
  have hp0 := Nat.two_pow_pos o
  have hps : 2 ^ (o + 1) = 2 * 2 ^ o := by rw [Nat.pow_succ]; omega
  have hbl := bud_lt ho (show a < 2 ^ pl by omega)
  obtain ⟨m1, m2, m3⟩ := hM.2.1 _ o hbl hf
  obtain ⟨x, hx⟩ := hd
  have hdiv : a / 2 ^ o = x := by rw [hx]; exact Nat.mul_div_cancel_left x hp0
  have hself : ∀ b, zup f (a ^^^ 2 ^ o) (-1) b = -1 ↔ (b = a ^^^ 2 ^ o ∨ f b = -1) := by
    intro b
    by_cases c : b = a ^^^ 2 ^ o
    · rw [c, zup_s]; simp
    · rw [zup_n c]; simp [c]
  rcases bud (show o < 11 by omega) (show a < 2048 by omega) with ⟨e1, e2⟩ | ⟨e1, e2⟩
  · rw [hdiv] at e1
    rw [if_pos (by omega)]
    obtain ⟨y, rfl⟩ : ∃ y, x = 2 * y := ⟨x / 2, by omega⟩
    refine ⟨⟨y, by rw [hx, hps, Nat.mul_comm 2 (2 ^ o), Nat.mul_assoc]⟩, by omega, fun b h1 h2 => (hself b).mpr ?_⟩
    rcases Nat.lt_or_ge b (a + 2 ^ o) with q | q
    · exact Or.inr (hno b h1 q)
    · rcases Nat.lt_or_ge (a ^^^ 2 ^ o) b with q2 | q2
      · exact Or.inr (m3 b q2 (by omega))
      · exact Or.inl (by omega)
  · rw [hdiv] at e1
    rw [if_neg (by omega)]
    obtain ⟨y, rfl⟩ : ∃ y, x = 2 * y + 1 := ⟨x / 2, by omega⟩
    have e3 : a ^^^ 2 ^ o = 2 ^ (o + 1) * y := by
      rw [Nat.mul_add, Nat.mul_one, ← Nat.mul_assoc, Nat.mul_comm (2 ^ o) 2, ← hps] at hx
      omega
    refine ⟨⟨y, e3⟩, by omega, fun b h1 h2 => (hself b).mpr ?_⟩
    rcases Nat.lt_or_ge b a with q | q
    · rcases Nat.lt_or_ge (a ^^^ 2 ^ o) b with q2 | q2
      · exact Or.inr (m3 b q2 (by omega))
      · exact Or.inl (by omega)
    · exact Or.inr (hno b q (by omega))
set_option maxHeartbeats 4000000 in
set_option maxRecDepth 100000 in
theorem lp_takeBack {p : Program} {l : Launch} {e : Env} {R : Room} {s : State} {m : MethodId} {args : Array Value} {below : List Frame} {meth : Method} {c : Code} {D : va_G} {ad : Nat → Nat} {g : Nat × Nat × Nat × Nat} {Q : State → Prop} (C : Fx p s m args meth c D ad cX1_takeBack 5 none yX1_takeBack.cls tb) (hg : 3 ≤ g.1 ∧ g.1 ≤ 11 ∧ 8 ≤ g.2.1 ∧ g.2.1 ≤ 2048 ∧ 1 ≤ g.2.2.1 ∧ g.2.2.1 ≤ 24 ∧ 1 ≤ g.2.2.2 ∧ g.2.2.2 ≤ 12) (hnp : g.2.1 = 2 ^ g.1) (hR : 1 ≤ R.frames ∧ 40 ≤ R.locals) (σ : St) (F : Nat → Int) (K : ∀ (σ' : St) lv, σ' 4 = F → CN g σ' → (∀ q, q ≠ 3 → q ≠ 4 → σ' q = σ q) → X p l e R s m args below meth c D ad 5 Q (kc D ad g σ') 64 lv []) (a0 o0 : Int) (n : Nat) (a o : Nat) (hn : g.1 - o < n) (ho : o ≤ g.1) (hd : 2 ^ o ∣ a) (ha : a + 2 ^ o ≤ 2 ^ g.1) (σ1 : St) (hM : MI g.1 (σ1 4)) (hno : ∀ b, a ≤ b → b < a + 2 ^ o → σ1 4 b = -1) (hF : jnF g.1 n (σ1 4) a o = F) (hC : CN g σ1) (hrow : ∀ q, q ≠ 3 → q ≠ 4 → σ1 q = σ q) : X p l e R s m args below meth c D ad 5 Q (kc D ad g σ1) 5 [(4, vi (o : Int)), (3, vi (a : Int)), (0, .ref (ad 1)), (1, vi a0), (2, vi o0)] [] := by
  induction n generalizing a o σ1 with
  | zero => omega
  | succ n ih =>
  skip
  refine x_iload C dX1_takeBack_5 rfl ?_
  refine x_aload_n C dX1_takeBack_7 rfl rfl ?_
  refine x_get C (Cn := RX1) (T := TX1) (N := 4) (ci := 1) 0 dX1_takeBack_8 m_w_1 m_f_RX1_9 rfl (by decide) rfl rfl ?_
  have hp0 := Nat.two_pow_pos o
  refine x_icmp_ge (tgt := 57) C dX1_takeBack_11 (by decide) (by omega) (by omega) (fun c_11 => ?_) (fun c_11 => ?_)
  · have hFe : zup (σ1 4) a (o : Int) = F := by
      rw [← hF, jnF, if_neg (fun q => by first | omega | exact absurd q.2 c_27)]
    have hp0 := Nat.two_pow_pos o
    refine x_aload_n C dX1_takeBack_57 rfl rfl ?_
    refine x_iload_n C dX1_takeBack_58 rfl rfl ?_
    refine x_iload C dX1_takeBack_59 rfl ?_
    refine x_callV C (ci := 1) (nn := 2) (c_addFreeN hg σ1 a o (by omega) ho) g_RX1_34 rfl (by decide +kernel) ⟨by first | decide | omega, by first | decide | omega⟩ rfl rfl rfl rfl rfl (Nat.le_of_ble_eq_true rfl) dX1_takeBack_61 (fun v h1 hp => ?_)
    obtain ⟨σ2, rfl, rfl, rfl⟩ := hp
    exact K _ _ (by rw [up_n (by decide), up_s]; exact hFe) (hC.add (by omega) (hno a (by omega) (by omega))) (fun q h3 h4 => by rw [up_n h3, up_n h4]; exact hrow q h3 h4)
  · have hop : o < g.1 := by omega
    have hbl := bud_lt hop (show a < 2 ^ g.1 by omega)
    have hrb := hM.1 _ hbl
    refine x_aload_n C dX1_takeBack_14 rfl rfl ?_
    refine x_get C (Cn := RX1) (T := TX1) (N := 4) (ci := 1) 3 dX1_takeBack_15 m_w_1 m_f_RX1_22 rfl (by decide) rfl rfl ?_
    refine x_iload_n C dX1_takeBack_18 rfl rfl ?_
    refine x_iconst C dX1_takeBack_19 ?_
    refine x_iload C dX1_takeBack_20 rfl ?_
    refine x_ishl C dX1_takeBack_22 (by omega) ?_
    refine x_ixor C (z := ((a ^^^ 2 ^ o : Nat) : Int)) dX1_takeBack_23 (by rw [pw_c, iI_xor]) ?_
    refine x_iald C dX1_takeBack_24 rfl (by omega) (by omega) ?_
    refine x_iload C dX1_takeBack_25 rfl ?_
    rw [Int.toNat_natCast]
    refine x_icmp_ne (tgt := 57) C dX1_takeBack_27 (by decide) (by omega) (by omega) (fun c_27 => ?_) (fun c_27 => ?_)
    · have hFe : zup (σ1 4) a (o : Int) = F := by
        rw [← hF, jnF, if_neg (fun q => by first | omega | exact absurd q.2 c_27)]
      have hp0 := Nat.two_pow_pos o
      refine x_aload_n C dX1_takeBack_57 rfl rfl ?_
      refine x_iload_n C dX1_takeBack_58 rfl rfl ?_
      refine x_iload C dX1_takeBack_59 rfl ?_
      refine x_callV C (ci := 1) (nn := 2) (c_addFreeN hg σ1 a o (by omega) ho) g_RX1_34 rfl (by decide +kernel) ⟨by first | decide | omega, by first | decide | omega⟩ rfl rfl rfl rfl rfl (Nat.le_of_ble_eq_true rfl) dX1_takeBack_61 (fun v h1 hp => ?_)
      obtain ⟨σ2, rfl, rfl, rfl⟩ := hp
      exact K _ _ (by rw [up_n (by decide), up_s]; exact hFe) (hC.add (by omega) (hno a (by omega) (by omega))) (fun q h3 h4 => by rw [up_n h3, up_n h4]; exact hrow q h3 h4)
    · refine x_aload_n C dX1_takeBack_30 rfl rfl ?_
      refine x_iload_n C dX1_takeBack_31 rfl rfl ?_
      refine x_iconst C dX1_takeBack_32 ?_
      refine x_iload C dX1_takeBack_33 rfl ?_
      refine x_ishl C dX1_takeBack_35 (by omega) ?_
      refine x_ixor C (z := ((a ^^^ 2 ^ o : Nat) : Int)) dX1_takeBack_36 (by rw [pw_c, iI_xor]) ?_
      refine x_iload C dX1_takeBack_37 rfl ?_
      refine x_callV C (ci := 1) (nn := 2) (c_removeFreeN hg σ1 (a ^^^ 2 ^ o) o (by omega) (by omega)) g_RX1_46 rfl (by decide +kernel) ⟨by first | decide | omega, by first | decide | omega⟩ rfl rfl rfl rfl rfl (Nat.le_of_ble_eq_true rfl) dX1_takeBack_39 (fun v h1 hp => ?_)
      obtain ⟨σ2, rfl, rfl, rfl⟩ := hp
      refine x_iload_n C dX1_takeBack_42 rfl rfl ?_
      refine x_iconst C dX1_takeBack_43 ?_
      refine x_iload C dX1_takeBack_44 rfl ?_
      refine x_ishl C dX1_takeBack_46 (by omega) ?_
      refine x_iconst C dX1_takeBack_47 ?_
      refine x_ixor C (z := (-((2 ^ o : Nat) : Int) - 1)) dX1_takeBack_48 (by rw [pw_c]; exact not32 ⟨o, by omega⟩) ?_
      refine x_iand C (z := ((if a < a ^^^ 2 ^ o then a else a ^^^ 2 ^ o : Nat) : Int)) dX1_takeBack_49 (iI_clr (by omega) (by omega)) ?_
      refine x_istore_n C (lv' := [(3, _), (4, _), (0, _), (1, _), (2, _)]) dX1_takeBack_50 rfl (by decide) rfl ?_
      refine x_iinc C (lv' := [(4, _), (3, _), (0, _), (1, _), (2, _)]) dX1_takeBack_51 rfl (by decide) rfl ?_
      refine x_goto (tgt := 5) C dX1_takeBack_54 (by decide) ?_
      skip
      rw [show (o : Int) + 1 = ((o + 1 : Nat) : Int) by omega]
      have hjb := jn_blk (by omega) hM hop hd ha c_27 hno
      refine ih _ (o + 1) (by omega) (by omega) hjb.1 hjb.2.1 _ ?_ ?_ ?_ (hC.rem (by omega) c_27) ?_
      · rw [up_n (by decide), up_s]; exact hM.rem
      · rw [up_n (by decide), up_s]; exact hjb.2.2
      · rw [up_n (by decide), up_s]; rw [jnF_s ⟨hop, c_27⟩] at hF; exact hF
      · intro q h3 h4; rw [up_n h3, up_n h4]; exact hrow q h3 h4
set_option maxHeartbeats 4000000 in
set_option maxRecDepth 100000 in
theorem c_takeBack {l : Launch} {D : va_G} {ad : Nat → Nat} {g : Nat × Nat × Nat × Nat} (hg : 3 ≤ g.1 ∧ g.1 ≤ 11 ∧ 8 ≤ g.2.1 ∧ g.2.1 ≤ 2048 ∧ 1 ≤ g.2.2.1 ∧ g.2.2.1 ≤ 24 ∧ 1 ≤ g.2.2.2 ∧ g.2.2.2 ≤ 12) (hnp : g.2.1 = 2 ^ g.1) (σ : St) (hM : MI g.1 (σ 4)) (hC : CN g σ) (a o : Nat) (ho : o ≤ g.1) (hd : 2 ^ o ∣ a) (ha : a + 2 ^ o ≤ 2 ^ g.1) (hno : ∀ b, a ≤ b → b < a + 2 ^ o → σ 4 b = -1) : Kt l D ad g yX1_takeBack (Cond.code yX1_takeBack cX1_takeBack 5 none :: tb) 1 40 [.ref (ad 1), vi (a : Int), vi (o : Int)] σ (fun v σ' => v = none ∧ σ' 4 = jnF g.1 12 (σ 4) a o ∧ CN g σ' ∧ ∀ q, q ≠ 3 → q ≠ 4 → σ' q = σ q) := by
  refine ct_of (by decide) rfl (Nat.le_of_ble_eq_true rfl) ?_
  intro p e s m below meth c C
  change X _ _ _ _ _ _ _ _ _ _ _ _ _ _ _ _ [(0, .ref (ad 1)), (1, vi (a : Int)), (2, vi (o : Int))] _
  refine x_iload_n C dX1_takeBack_0 rfl rfl ?_
  refine x_istore_n C (lv' := [(3, _), (0, _), (1, _), (2, _)]) dX1_takeBack_1 rfl (by decide) rfl ?_
  refine x_iload_n C dX1_takeBack_2 rfl rfl ?_
  refine x_istore C (lv' := [(4, _), (3, _), (0, _), (1, _), (2, _)]) dX1_takeBack_3 (by decide) rfl ?_
  refine lp_takeBack C hg hnp ⟨by decide, by decide⟩ σ _ ?_ _ _ 12 a o (by omega) ho hd ha σ hM hno rfl hC (fun _ _ _ => rfl)
  intro σ' lv h1 h2 h3
  exact x_vret C dX1_takeBack_64 ⟨_, rfl, rfl, h1, h2, h3⟩
end
section
/-! CAN BOTH BE GIVEN -/
def lft (σ : St) (k h o : Int) : Int := σ 3 o.toNat + (if o = h then -1 else if k ≤ o ∧ o < h then 1 else 0)
def cgP (σ : St) (pl : Nat) (k k2 : Int) : Prop := ∃ h : Int, lfo σ pl k h ∧ h ≠ -1 ∧ (k2 = -1 ∨ ∃ o : Int, k2 ≤ o ∧ o ≤ pl ∧ 0 < lft σ k h o)
theorem lfo_u {σ : St} {pl : Nat} {a r r' : Int} (h : lfo σ pl a r) (h' : lfo σ pl a r') : r = r' := by
  rcases h with ⟨h1, h2⟩ | ⟨h1, h2, h3, h4⟩ <;> rcases h' with ⟨g1, g2⟩ | ⟨g1, g2, g3, g4⟩
  · omega
  · exact absurd g3 (h2 r' g1 g2)
  · exact absurd h3 (g2 r h1 h2)
  · rcases Int.lt_trichotomy r r' with q | q | q
    · exact absurd h3 (g4 r h1 q)
    · exact q
    · exact absurd g3 (h4 r' g1 q)
set_option maxHeartbeats 4000000 in
set_option maxRecDepth 100000 in
theorem lp_canGive {p : Program} {l : Launch} {e : Env} {R : Room} {s : State} {m : MethodId} {args : Array Value} {below : List Frame} {meth : Method} {c : Code} {D : va_G} {ad : Nat → Nat} {g : Nat × Nat × Nat × Nat} {Q : State → Prop} (C : Fx p s m args meth c D ad cX1_canGive 6 (some .boolean) yX1_canGive.cls tb) (hg : 3 ≤ g.1 ∧ g.1 ≤ 11 ∧ 8 ≤ g.2.1 ∧ g.2.1 ≤ 2048 ∧ 1 ≤ g.2.2.1 ∧ g.2.2.1 ≤ 24 ∧ 1 ≤ g.2.2.2 ∧ g.2.2.2 ≤ 12) (σ : St) (hF : ∀ k : Nat, k ≤ g.1 → 0 ≤ σ 3 k ∧ σ 3 k ≤ 2048) (k k2 h : Int) (hk : 0 ≤ k ∧ k ≤ 64) (hk2 : 0 ≤ k2 ∧ k2 ≤ 64) (hh : -1 ≤ h ∧ h ≤ 64) (K1 : ∀ (o : Int) lv, k2 ≤ o → o ≤ g.1 → 0 < lft σ k h o → X p l e R s m args below meth c D ad 6 Q (kc D ad g σ) 81 lv [vi 1]) (K0 : ∀ lv, (∀ o : Int, k2 ≤ o → o ≤ g.1 → ¬ 0 < lft σ k h o) → X p l e R s m args below meth c D ad 6 Q (kc D ad g σ) 89 lv [vi 0]) (n : Nat) (z : Int) (hz : k2 ≤ z ∧ z ≤ 65) (hn : 66 - z ≤ n) (hb : ∀ o : Int, k2 ≤ o → o < z → ¬ 0 < lft σ k h o) : X p l e R s m args below meth c D ad 6 Q (kc D ad g σ) 30 [(4, vi z), (3, vi h), (0, .ref (ad 1)), (1, vi k), (2, vi k2)] [] := by
  induction n generalizing z with
  | zero => omega
  | succ n ih =>
  refine x_iload C dX1_canGive_30 rfl ?_
  refine x_aload_n C dX1_canGive_32 rfl rfl ?_
  refine x_get C (Cn := RX1) (T := TX1) (N := 4) (ci := 1) 0 dX1_canGive_33 m_w_1 m_f_RX1_9 rfl (by decide) rfl rfl ?_
  refine x_icmp_gt (tgt := 88) C dX1_canGive_36 (by decide) (by omega) (by omega) (fun c_36 => ?_) (fun c_36 => ?_)
  · refine x_iconst C dX1_canGive_88 ?_
    exact K0 _ (fun o h1 h2 => hb o h1 (by omega))
  · refine x_aload_n C dX1_canGive_39 rfl rfl ?_
    refine x_get C (Cn := RX1) (T := TX1) (N := 4) (ci := 1) 2 dX1_canGive_40 m_w_1 m_f_RX1_19 rfl (by decide) rfl rfl ?_
    refine x_iload C dX1_canGive_43 rfl ?_
    have hFz := hF z.toNat (by omega)
    refine x_iald C dX1_canGive_45 rfl (by omega) (by omega) ?_
    refine x_istore C (lv' := [(5, _), (4, _), (3, _), (0, _), (1, _), (2, _)]) dX1_canGive_46 (by decide) rfl ?_
    refine x_iload C dX1_canGive_48 rfl ?_
    refine x_iload_n C dX1_canGive_50 rfl rfl ?_
    refine x_icmp_ne (tgt := 60) C dX1_canGive_51 (by decide) (by omega) (by omega) (fun c_51 => ?_) (fun c_51 => ?_)
    · refine x_iload C dX1_canGive_60 rfl ?_
      refine x_iload_n C dX1_canGive_62 rfl rfl ?_
      refine x_icmp_lt (tgt := 75) C dX1_canGive_63 (by decide) (by omega) (by omega) (fun c_63 => ?_) (fun c_63 => ?_)
      · refine x_iload C dX1_canGive_75 rfl ?_
        refine x_if_le (tgt := 82) C dX1_canGive_77 (by decide) (by omega) (fun c_77 => ?_) (fun c_77 => ?_)
        · refine x_iinc C (lv' := [(4, _), (5, _), (3, _), (0, _), (1, _), (2, _)]) dX1_canGive_82 rfl (by decide) rfl ?_
          refine x_goto (tgt := 30) C dX1_canGive_85 (by decide) ?_
          refine X.sub [0, 2, 3, 4, 5] rfl ?_
          exact ih _ (by omega) (by omega) (fun o h1 h2 => if q : o < z then hb o h1 q else by rw [show o = z by omega]; unfold lft; split <;> first | omega | (split <;> omega))
        · refine x_iconst C dX1_canGive_80 ?_
          exact K1 z _ (by omega) (by omega) (by unfold lft; split <;> first | omega | (split <;> omega))
      · refine x_iload C dX1_canGive_66 rfl ?_
        refine x_iload_n C dX1_canGive_68 rfl rfl ?_
        refine x_icmp_ge (tgt := 75) C dX1_canGive_69 (by decide) (by omega) (by omega) (fun c_69 => ?_) (fun c_69 => ?_)
        · refine x_iload C dX1_canGive_75 rfl ?_
          refine x_if_le (tgt := 82) C dX1_canGive_77 (by decide) (by omega) (fun c_77 => ?_) (fun c_77 => ?_)
          · refine x_iinc C (lv' := [(4, _), (5, _), (3, _), (0, _), (1, _), (2, _)]) dX1_canGive_82 rfl (by decide) rfl ?_
            refine x_goto (tgt := 30) C dX1_canGive_85 (by decide) ?_
            refine X.sub [0, 2, 3, 4, 5] rfl ?_
            exact ih _ (by omega) (by omega) (fun o h1 h2 => if q : o < z then hb o h1 q else by rw [show o = z by omega]; unfold lft; split <;> first | omega | (split <;> omega))
          · refine x_iconst C dX1_canGive_80 ?_
            exact K1 z _ (by omega) (by omega) (by unfold lft; split <;> first | omega | (split <;> omega))
        · refine x_iinc C (lv' := [(5, _), (4, _), (3, _), (0, _), (1, _), (2, _)]) dX1_canGive_72 rfl (by decide) rfl ?_
          refine x_iload C dX1_canGive_75 rfl ?_
          refine x_if_le (tgt := 82) C dX1_canGive_77 (by decide) (by omega) (fun c_77 => ?_) (fun c_77 => ?_)
          · refine x_iinc C (lv' := [(4, _), (5, _), (3, _), (0, _), (1, _), (2, _)]) dX1_canGive_82 rfl (by decide) rfl ?_
            refine x_goto (tgt := 30) C dX1_canGive_85 (by decide) ?_
            refine X.sub [0, 2, 3, 4, 5] rfl ?_
            exact ih _ (by omega) (by omega) (fun o h1 h2 => if q : o < z then hb o h1 q else by rw [show o = z by omega]; unfold lft; split <;> first | omega | (split <;> omega))
          · refine x_iconst C dX1_canGive_80 ?_
            exact K1 z _ (by omega) (by omega) (by unfold lft; split <;> first | omega | (split <;> omega))
    · refine x_iinc C (lv' := [(5, _), (4, _), (3, _), (0, _), (1, _), (2, _)]) dX1_canGive_54 rfl (by decide) rfl ?_
      refine x_goto (tgt := 75) C dX1_canGive_57 (by decide) ?_
      refine x_iload C dX1_canGive_75 rfl ?_
      refine x_if_le (tgt := 82) C dX1_canGive_77 (by decide) (by omega) (fun c_77 => ?_) (fun c_77 => ?_)
      · refine x_iinc C (lv' := [(4, _), (5, _), (3, _), (0, _), (1, _), (2, _)]) dX1_canGive_82 rfl (by decide) rfl ?_
        refine x_goto (tgt := 30) C dX1_canGive_85 (by decide) ?_
        refine X.sub [0, 2, 3, 4, 5] rfl ?_
        exact ih _ (by omega) (by omega) (fun o h1 h2 => if q : o < z then hb o h1 q else by rw [show o = z by omega]; unfold lft; split <;> first | omega | (split <;> omega))
      · refine x_iconst C dX1_canGive_80 ?_
        exact K1 z _ (by omega) (by omega) (by unfold lft; split <;> first | omega | (split <;> omega))
set_option maxHeartbeats 4000000 in
set_option maxRecDepth 100000 in
theorem c_canGive {l : Launch} {D : va_G} {ad : Nat → Nat} {g : Nat × Nat × Nat × Nat} (hg : 3 ≤ g.1 ∧ g.1 ≤ 11 ∧ 8 ≤ g.2.1 ∧ g.2.1 ≤ 2048 ∧ 1 ≤ g.2.2.1 ∧ g.2.2.1 ≤ 24 ∧ 1 ≤ g.2.2.2 ∧ g.2.2.2 ≤ 12) (σ : St) (hF : ∀ k : Nat, k ≤ g.1 → 0 ≤ σ 3 k ∧ σ 3 k ≤ 2048) (k k2 : Int) (hk : 0 ≤ k ∧ k ≤ 64) (hk2 : -1 ≤ k2 ∧ k2 ≤ 64) : Kt l D ad g yX1_canGive (Cond.code yX1_canGive cX1_canGive 6 (some .boolean) :: tb) 1 40 [.ref (ad 1), vi k, vi k2] σ (fun v σ' => σ = σ' ∧ ((cgP σ g.1 k k2 ∧ v = some (vi 1)) ∨ (¬ cgP σ g.1 k k2 ∧ v = some (vi 0)))) := by
  refine ct_of (by decide) rfl (Nat.le_of_ble_eq_true rfl) ?_
  intro p e s m below meth c C
  change X _ _ _ _ _ _ _ _ _ _ _ _ _ _ _ _ [(0, .ref (ad 1)), (1, vi k), (2, vi k2)] _
  refine x_aload_n C dX1_canGive_0 rfl rfl ?_
  refine x_iload_n C dX1_canGive_1 rfl rfl ?_
  refine x_callV C (ci := 1) (nn := 1) (c_leastFreeOrder hg σ hF k hk) g_RX1_38 rfl (by decide +kernel) ⟨by first | decide | omega, by first | decide | omega⟩ rfl rfl rfl rfl rfl (Nat.le_of_ble_eq_true rfl) dX1_canGive_2 (fun v h1 hp => ?_)
  obtain ⟨σ1, rfl, rfl, r, rfl, hr⟩ := hp
  have hrr : -1 ≤ r ∧ r ≤ 64 := by rcases hr with ⟨h1, -⟩ | ⟨h1, h2, -⟩ <;> omega
  refine x_istore_n C (lv' := [(3, _), (0, _), (1, _), (2, _)]) dX1_canGive_5 rfl (by decide) rfl ?_
  refine x_iload_n C dX1_canGive_6 rfl rfl ?_
  refine x_iconst C dX1_canGive_7 ?_
  refine x_icmp_eq (tgt := 16) C dX1_canGive_8 (by decide) (by omega) (by omega) (fun c_8 => ?_) (fun c_8 => ?_)
  · refine x_iload_n C dX1_canGive_16 rfl rfl ?_
    refine x_iconst C dX1_canGive_17 ?_
    refine x_icmp_eq (tgt := 25) C dX1_canGive_18 (by decide) (by omega) (by omega) (fun c_18 => ?_) (fun c_18 => ?_)
    · refine x_iconst C dX1_canGive_25 ?_
      exact x_zret C dX1_canGive_26 (by decide) ⟨_, rfl, rfl, by
          first
          | exact Or.inl ⟨⟨r, hr, by omega, Or.inl (by omega)⟩, rfl⟩
          | exact Or.inr ⟨fun ⟨h, h1, h2, _⟩ => h2 ((lfo_u h1 hr).trans (by omega)), rfl⟩⟩
    · refine x_iconst C dX1_canGive_21 ?_
      refine x_goto (tgt := 26) C dX1_canGive_22 (by decide) ?_
      exact x_zret C dX1_canGive_26 (by decide) ⟨_, rfl, rfl, by
          first
          | exact Or.inl ⟨⟨r, hr, by omega, Or.inl (by omega)⟩, rfl⟩
          | exact Or.inr ⟨fun ⟨h, h1, h2, _⟩ => h2 ((lfo_u h1 hr).trans (by omega)), rfl⟩⟩
  · refine x_iload_n C dX1_canGive_11 rfl rfl ?_
    refine x_iconst C dX1_canGive_12 ?_
    refine x_icmp_ne (tgt := 27) C dX1_canGive_13 (by decide) (by omega) (by omega) (fun c_13 => ?_) (fun c_13 => ?_)
    · refine x_iload_n C dX1_canGive_27 rfl rfl ?_
      refine x_istore C (lv' := [(4, _), (3, _), (0, _), (1, _), (2, _)]) dX1_canGive_28 (by decide) rfl ?_
      refine lp_canGive C hg σ hF k k2 r hk (by omega) hrr ?_ ?_ 66 k2 (by omega) (by omega) (fun o h1 h2 => by omega)
      · intro o lv h1 h2 h3
        exact x_zret C dX1_canGive_81 (by decide) ⟨_, rfl, rfl, Or.inl ⟨⟨r, hr, by omega, Or.inr ⟨o, h1, h2, h3⟩⟩, rfl⟩⟩
      · intro lv h1
        refine x_zret C dX1_canGive_89 (by decide) ⟨_, rfl, rfl, Or.inr ⟨?_, rfl⟩⟩
        rintro ⟨h, e1, e2, e3 | ⟨o, e3, e4, e5⟩⟩
        · omega
        · rw [lfo_u e1 hr] at e5; exact h1 o e3 e4 e5
    · refine x_iload_n C dX1_canGive_16 rfl rfl ?_
      refine x_iconst C dX1_canGive_17 ?_
      refine x_icmp_eq (tgt := 25) C dX1_canGive_18 (by decide) (by omega) (by omega) (fun c_18 => ?_) (fun c_18 => ?_)
      · refine x_iconst C dX1_canGive_25 ?_
        exact x_zret C dX1_canGive_26 (by decide) ⟨_, rfl, rfl, by
            first
            | exact Or.inl ⟨⟨r, hr, by omega, Or.inl (by omega)⟩, rfl⟩
            | exact Or.inr ⟨fun ⟨h, h1, h2, _⟩ => h2 ((lfo_u h1 hr).trans (by omega)), rfl⟩⟩
      · refine x_iconst C dX1_canGive_21 ?_
        refine x_goto (tgt := 26) C dX1_canGive_22 (by decide) ?_
        exact x_zret C dX1_canGive_26 (by decide) ⟨_, rfl, rfl, by
            first
            | exact Or.inl ⟨⟨r, hr, by omega, Or.inl (by omega)⟩, rfl⟩
            | exact Or.inr ⟨fun ⟨h, h1, h2, _⟩ => h2 ((lfo_u h1 hr).trans (by omega)), rfl⟩⟩
end
section
/-! WHAT A JOB NEEDS -/
def rmP (ro r2 : Int) : Prop := (ro = 0 ∧ r2 = -1) ∨ (ro ≠ 0 ∧ ∃ r : Nat, r2 = r ∧ ordP ro r ∧ r ≤ 17)
def ndP (σ σ' : St) (n : Nat) (rl ro w : Int) : Prop := ∃ (r1 : Nat) (r2 : Int), ordP rl r1 ∧ r1 ≤ 17 ∧ rmP ro r2 ∧ σ' = up (up (up (up σ n 6 rl) n 7 (r1 : Int)) n 9 r2) n 10 w
set_option maxHeartbeats 4000000 in
set_option maxRecDepth 100000 in
theorem c_need {l : Launch} {D : va_G} {ad : Nat → Nat} {g : Nat × Nat × Nat × Nat} (hg : 3 ≤ g.1 ∧ g.1 ≤ 11 ∧ 8 ≤ g.2.1 ∧ g.2.1 ≤ 2048 ∧ 1 ≤ g.2.2.1 ∧ g.2.2.1 ≤ 24 ∧ 1 ≤ g.2.2.2 ∧ g.2.2.2 ≤ 12) (σ : St) (j : Nat) (hj : j < g.2.2.2) (rl ro w : Int) (h1 : 0 ≤ rl ∧ rl ≤ 65536) (h2 : 0 ≤ ro ∧ ro ≤ 65536) : Kt l D ad g yX0_need (Cond.code yX0_need cX0_need 7 none :: tb) 1 40 [.ref (ad (40 + j)), vl rl, vl ro, vl w] σ (fun v σ' => v = none ∧ ndP σ σ' (40 + j) rl ro w) := by
  refine ct_of (by decide) rfl (Nat.le_of_ble_eq_true rfl) ?_
  intro p e s m below meth c C
  change X _ _ _ _ _ _ _ _ _ _ _ _ _ _ _ _ [(0, .ref (ad (40 + j))), (1, vl rl), (3, vl ro), (5, vl w)] _
  refine x_aload_n C dX0_need_0 rfl rfl ?_
  refine x_lload_n C dX0_need_1 rfl rfl ?_
  refine x_l2i C dX0_need_2 ?_
  refine k_putJ C 6 (by decide) dX0_need_3 m_f_RX0_45 rfl (by decide +kernel) (by omega) (by omega) ?_
  refine x_aload_n C dX0_need_6 rfl rfl ?_
  refine x_lload_n C dX0_need_7 rfl rfl ?_
  refine x_callS C (nn := 1) (c_orderFor _ rl h1) g_RX0_48 rfl (by decide +kernel) ⟨by first | decide | omega, by first | decide | omega⟩ rfl rfl (Nat.le_of_ble_eq_true rfl) dX0_need_8 (fun v h1 hp => ?_)
  obtain ⟨σ1, rfl, rfl, r1, rfl, hr1, hr2⟩ := hp
  refine k_putJ C 7 (by decide) dX0_need_11 m_f_RX0_54 rfl (by decide +kernel) (by omega) (by omega) ?_
  refine x_aload_n C dX0_need_14 rfl rfl ?_
  refine x_lload_n C dX0_need_15 rfl rfl ?_
  refine x_lconst0 C dX0_need_16 ?_
  refine x_lif_ne (tgt := 25) C dX0_need_17 dX0_need_18 (by decide) (by omega) (by omega) (fun c_17 => ?_) (fun c_17 => ?_)
  · refine x_lload_n C dX0_need_25 rfl rfl ?_
    refine x_callS C (nn := 1) (c_orderFor _ ro h2) g_RX0_48 rfl (by decide +kernel) ⟨by first | decide | omega, by first | decide | omega⟩ rfl rfl (Nat.le_of_ble_eq_true rfl) dX0_need_26 (fun v h1 hp => ?_)
    obtain ⟨σ1, rfl, rfl, r2, rfl, hr3, hr4⟩ := hp
    refine k_putJ C 9 (by decide) dX0_need_29 m_f_RX0_21 rfl (by decide +kernel) (by omega) (by omega) ?_
    refine x_aload_n C dX0_need_32 rfl rfl ?_
    refine x_lload C dX0_need_33 rfl ?_
    refine k_putJl C dX0_need_35 m_f_RX0_57 (by omega) (by omega) ?_
    exact x_vret C dX0_need_38 ⟨_, rfl, rfl, r1, _, hr1, hr2, by first | exact Or.inl ⟨by omega, rfl⟩ | exact Or.inr ⟨by omega, r2, rfl, hr3, hr4⟩, rfl⟩
  · refine x_iconst C dX0_need_21 ?_
    refine x_goto (tgt := 29) C dX0_need_22 (by decide) ?_
    refine k_putJ C 9 (by decide) dX0_need_29 m_f_RX0_21 rfl (by decide +kernel) (by omega) (by omega) ?_
    refine x_aload_n C dX0_need_32 rfl rfl ?_
    refine x_lload C dX0_need_33 rfl ?_
    refine k_putJl C dX0_need_35 m_f_RX0_57 (by omega) (by omega) ?_
    exact x_vret C dX0_need_38 ⟨_, rfl, rfl, r1, _, hr1, hr2, by first | exact Or.inl ⟨by omega, rfl⟩ | exact Or.inr ⟨by omega, r2, rfl, hr3, hr4⟩, rfl⟩
def plL (op n m k : Int) : Int := if op = 0 then n + m else if op = 1 then n else if op = 2 then max n m else k
def plR (op n m k : Int) : Int := if op = 0 then 0 else if op = 1 then n + m + 1 else if op = 2 then 2 * (n + m) else 3 * k + 1
def plW (op n m k : Int) : Int := if op = 0 then n * m else if op = 1 then 31 * n * (m + 1) else if op = 2 then 31 * (n + m) * (n + m) else 31 * n * k + 1922 * m * k * k
set_option maxHeartbeats 4000000 in
set_option maxRecDepth 100000 in
theorem c_plan {l : Launch} {D : va_G} {ad : Nat → Nat} {g : Nat × Nat × Nat × Nat} (hg : 3 ≤ g.1 ∧ g.1 ≤ 11 ∧ 8 ≤ g.2.1 ∧ g.2.1 ≤ 2048 ∧ 1 ≤ g.2.2.1 ∧ g.2.2.1 ≤ 24 ∧ 1 ≤ g.2.2.2 ∧ g.2.2.2 ≤ 12) (σ : St) (j : Nat) (hj : j < g.2.2.2) (n m1 k : Int) (h1 : 0 ≤ n ∧ n ≤ 2048) (h2 : 0 ≤ m1 ∧ m1 ≤ 2048) (h3 : 0 ≤ k ∧ k ≤ 2048) (ho : 0 ≤ σ (40 + j) 1 ∧ σ (40 + j) 1 ≤ 3) : Kt l D ad g yX0_plan (Cond.code yX0_plan cX0_plan 7 none :: tb) 2 100 [.ref (ad (40 + j)), vl n, vl m1, vl k] σ (fun v σ' => v = none ∧ ndP σ σ' (40 + j) (plL (σ (40 + j) 1) n m1 k) (plR (σ (40 + j) 1) n m1 k) (plW (σ (40 + j) 1) n m1 k)) := by
  refine ct_of (by decide) rfl (Nat.le_of_ble_eq_true rfl) ?_
  intro p e s m below meth c C
  change X _ _ _ _ _ _ _ _ _ _ _ _ _ _ _ _ [(0, .ref (ad (40 + j))), (1, vl n), (3, vl m1), (5, vl k)] _
  refine x_aload_n C dX0_plan_0 rfl rfl ?_
  refine x_get C (Cn := RX0) (T := TX0) (N := 11) (ci := 0) 1 dX0_plan_1 m_w_0 m_f_RX0_24 rfl (by decide) (kc_job (by omega) (by omega)) rfl ?_
  rcases (show (σ (40 + j) 1 < 0 ∨ 2 < σ (40 + j) 1) ∨ σ (40 + j) 1 = 0 ∨ σ (40 + j) 1 = 1 ∨ σ (40 + j) 1 = 2 by omega) with c_4 | c_4 | c_4 | c_4
  · refine x_tableOut (tgt := 98) C dX0_plan_4 (by omega) c_4 (by decide) ?_
    refine x_aload_n C dX0_plan_98 rfl rfl ?_
    refine x_lload C dX0_plan_99 rfl ?_
    refine x_ldc2 C (z := 3) dX0_plan_101 (C.2.2.2.2.1 _ m_k_RX0_41) (by decide) ?_
    refine x_lload C dX0_plan_104 rfl ?_
    refine x_lmul C dX0_plan_106 ?_
    refine x_lconst1 C dX0_plan_107 ?_
    refine x_ladd C dX0_plan_108 ?_
    refine x_ldc2 C (z := 31) dX0_plan_109 (C.2.2.2.2.1 _ m_k_RX0_31) (by decide) ?_
    refine x_lload_n C dX0_plan_112 rfl rfl ?_
    refine x_lmul C dX0_plan_113 ?_
    refine x_lload C dX0_plan_114 rfl ?_
    refine x_lmul C dX0_plan_116 ?_
    refine x_ldc2 C (z := 1922) dX0_plan_117 (C.2.2.2.2.1 _ m_k_RX0_43) (by decide) ?_
    refine x_lload_n C dX0_plan_120 rfl rfl ?_
    refine x_lmul C dX0_plan_121 ?_
    refine x_lload C dX0_plan_122 rfl ?_
    refine x_lmul C dX0_plan_124 ?_
    refine x_lload C dX0_plan_125 rfl ?_
    refine x_lmul C dX0_plan_127 ?_
    refine x_ladd C dX0_plan_128 ?_
    refine x_callV C (ci := 0) (nn := 3) (c_need hg σ j hj _ _ _ (by omega) (by omega)) g_RX0_27 rfl (by decide +kernel) ⟨by first | decide | omega, by first | decide | omega⟩ rfl rfl (kc_job (by omega) (by omega)) rfl rfl (Nat.le_of_ble_eq_true rfl) dX0_plan_129 (fun v h1 hp => ?_)
    obtain ⟨σ1, rfl, rfl, hp⟩ := hp
    exact x_vret C dX0_plan_132 ⟨_, rfl, rfl, by
        first
        | (simp only [plL, plR, plW, c_4]; exact hp)
        | (rw [plL, plR, plW, if_neg (by omega), if_neg (by omega), if_neg (by omega), if_neg (by omega), if_neg (by omega), if_neg (by omega), if_neg (by omega), if_neg (by omega), if_neg (by omega)]; exact hp)⟩
  · refine x_tableIn (off := 28) (tgt := 32) C dX0_plan_4 (by omega) (by omega) (by omega) (by rw [c_4]; rfl) (by decide) ?_
    refine x_aload_n C dX0_plan_32 rfl rfl ?_
    refine x_lload_n C dX0_plan_33 rfl rfl ?_
    refine x_lload_n C dX0_plan_34 rfl rfl ?_
    refine x_ladd C dX0_plan_35 ?_
    refine x_lconst0 C dX0_plan_36 ?_
    refine x_lload_n C dX0_plan_37 rfl rfl ?_
    refine x_lload_n C dX0_plan_38 rfl rfl ?_
    refine x_lmul C dX0_plan_39 ?_
    refine x_callV C (ci := 0) (nn := 3) (c_need hg σ j hj _ _ _ (by omega) (by omega)) g_RX0_27 rfl (by decide +kernel) ⟨by first | decide | omega, by first | decide | omega⟩ rfl rfl (kc_job (by omega) (by omega)) rfl rfl (Nat.le_of_ble_eq_true rfl) dX0_plan_40 (fun v h1 hp => ?_)
    obtain ⟨σ1, rfl, rfl, hp⟩ := hp
    refine x_goto (tgt := 132) C dX0_plan_43 (by decide) ?_
    exact x_vret C dX0_plan_132 ⟨_, rfl, rfl, by
        first
        | (simp only [plL, plR, plW, c_4]; exact hp)
        | (rw [plL, plR, plW, if_neg (by omega), if_neg (by omega), if_neg (by omega), if_neg (by omega), if_neg (by omega), if_neg (by omega), if_neg (by omega), if_neg (by omega), if_neg (by omega)]; exact hp)⟩
  · refine x_tableIn (off := 42) (tgt := 46) C dX0_plan_4 (by omega) (by omega) (by omega) (by rw [c_4]; rfl) (by decide) ?_
    refine x_aload_n C dX0_plan_46 rfl rfl ?_
    refine x_lload_n C dX0_plan_47 rfl rfl ?_
    refine x_lload_n C dX0_plan_48 rfl rfl ?_
    refine x_lload_n C dX0_plan_49 rfl rfl ?_
    refine x_ladd C dX0_plan_50 ?_
    refine x_lconst1 C dX0_plan_51 ?_
    refine x_ladd C dX0_plan_52 ?_
    refine x_ldc2 C (z := 31) dX0_plan_53 (C.2.2.2.2.1 _ m_k_RX0_31) (by decide) ?_
    refine x_lload_n C dX0_plan_56 rfl rfl ?_
    refine x_lmul C dX0_plan_57 ?_
    refine x_lload_n C dX0_plan_58 rfl rfl ?_
    refine x_lconst1 C dX0_plan_59 ?_
    refine x_ladd C dX0_plan_60 ?_
    refine x_lmul C dX0_plan_61 ?_
    refine x_callV C (ci := 0) (nn := 3) (c_need hg σ j hj _ _ _ (by omega) (by omega)) g_RX0_27 rfl (by decide +kernel) ⟨by first | decide | omega, by first | decide | omega⟩ rfl rfl (kc_job (by omega) (by omega)) rfl rfl (Nat.le_of_ble_eq_true rfl) dX0_plan_62 (fun v h1 hp => ?_)
    obtain ⟨σ1, rfl, rfl, hp⟩ := hp
    refine x_goto (tgt := 132) C dX0_plan_65 (by decide) ?_
    exact x_vret C dX0_plan_132 ⟨_, rfl, rfl, by
        first
        | (simp only [plL, plR, plW, c_4]; exact hp)
        | (rw [plL, plR, plW, if_neg (by omega), if_neg (by omega), if_neg (by omega), if_neg (by omega), if_neg (by omega), if_neg (by omega), if_neg (by omega), if_neg (by omega), if_neg (by omega)]; exact hp)⟩
  · refine x_tableIn (off := 64) (tgt := 68) C dX0_plan_4 (by omega) (by omega) (by omega) (by rw [c_4]; rfl) (by decide) ?_
    refine x_aload_n C dX0_plan_68 rfl rfl ?_
    refine x_lload_n C dX0_plan_69 rfl rfl ?_
    refine x_lload_n C dX0_plan_70 rfl rfl ?_
    refine x_mmaxl C dX0_plan_71 m_l_RX0_33 (by omega) (by omega) (by decide) (Nat.le_of_ble_eq_true rfl) ?_
    refine x_ldc2 C (z := 2) dX0_plan_74 (C.2.2.2.2.1 _ m_k_RX0_39) (by decide) ?_
    refine x_lload_n C dX0_plan_77 rfl rfl ?_
    refine x_lload_n C dX0_plan_78 rfl rfl ?_
    refine x_ladd C dX0_plan_79 ?_
    refine x_lmul C dX0_plan_80 ?_
    refine x_ldc2 C (z := 31) dX0_plan_81 (C.2.2.2.2.1 _ m_k_RX0_31) (by decide) ?_
    refine x_lload_n C dX0_plan_84 rfl rfl ?_
    refine x_lload_n C dX0_plan_85 rfl rfl ?_
    refine x_ladd C dX0_plan_86 ?_
    refine x_lmul C dX0_plan_87 ?_
    refine x_lload_n C dX0_plan_88 rfl rfl ?_
    refine x_lload_n C dX0_plan_89 rfl rfl ?_
    refine x_ladd C dX0_plan_90 ?_
    refine x_lmul C dX0_plan_91 ?_
    refine x_callV C (ci := 0) (nn := 3) (c_need hg σ j hj _ _ _ (by omega) (by omega)) g_RX0_27 rfl (by decide +kernel) ⟨by first | decide | omega, by first | decide | omega⟩ rfl rfl (kc_job (by omega) (by omega)) rfl rfl (Nat.le_of_ble_eq_true rfl) dX0_plan_92 (fun v h1 hp => ?_)
    obtain ⟨σ1, rfl, rfl, hp⟩ := hp
    refine x_goto (tgt := 132) C dX0_plan_95 (by decide) ?_
    exact x_vret C dX0_plan_132 ⟨_, rfl, rfl, by
        first
        | (simp only [plL, plR, plW, c_4]; exact hp)
        | (rw [plL, plR, plW, if_neg (by omega), if_neg (by omega), if_neg (by omega), if_neg (by omega), if_neg (by omega), if_neg (by omega), if_neg (by omega), if_neg (by omega), if_neg (by omega)]; exact hp)⟩
end
section
/-! RECKONING: the highest limb that isn't 0; the product -/
def LM (g : Nat × Nat × Nat × Nat) (σ : St) : Prop := ∀ i, i < g.2.1 → 0 ≤ σ 2 i ∧ σ 2 i < 2147483648
theorem LM.lim {g : Nat × Nat × Nat × Nat} {σ : St} (h : LM g σ) {a n : Nat} (ha : a + n ≤ g.2.1) : lim (σ 2) a n := fun i hi => h (a + i) (by omega)
theorem LM.up {g : Nat × Nat × Nat × Nat} {σ : St} (h : LM g σ) {a : Nat} {z : Int} (hz : 0 ≤ z ∧ z < 2147483648) : LM g (up σ 2 a z) := fun i hi => by
  rw [up_s]
  by_cases c : i = a
  · rw [c, zup_s]; exact hz
  · rw [zup_n c]; exact h i hi
def sgP (f : Nat → Int) (a n r : Nat) : Prop := r ≤ n ∧ (∀ i, r ≤ i → i < n → f (a + i) = 0) ∧ (0 < r → f (a + (r - 1)) ≠ 0)
theorem mulB {x y : Int} (hx : 0 ≤ x ∧ x < 2147483648) (hy : 0 ≤ y ∧ y < 2147483648) : 0 ≤ x * y ∧ x * y ≤ 4611686014132420609 := by
  refine ⟨Int.mul_nonneg hx.1 hy.1, ?_⟩
  have h1 : x * y ≤ 2147483647 * y := Int.mul_le_mul_of_nonneg_right (by omega) hy.1
  omega
theorem dm (s : Int) : s / 2147483648 * 2147483648 + s % 2147483648 = s := by have := Int.mul_ediv_add_emod s 2147483648; omega
theorem dmP (s P : Int) : s % 2147483648 * P + s / 2147483648 * (P * 2147483648) = s * P := by
  have h := congrArg (fun z => z * P) (dm s)
  simp only [Int.add_mul] at h
  rw [Int.mul_comm P, ← Int.mul_assoc]
  omega
/-- a step of the inner loop: what is left and carried -/
theorem ap_step {F f : Nat → Int} {r b j : Nat} {x cy : Int} (heq : nv f r j + cy * 2147483648 ^ j = nv F r j + x * nv F b j) :
    nv (zup f (r + j) ((F (r + j) + x * F (b + j) + cy) % 2147483648)) r (j + 1) + (F (r + j) + x * F (b + j) + cy) / 2147483648 * 2147483648 ^ (j + 1) = nv F r (j + 1) + x * nv F b (j + 1) := by
  rw [nv_s, nv_s, nv_s, zup_s, bp_s, nv_ext (g := f) (b := r) (fun i hi => zup_n (by omega))]
  have h1 := dmP (F (r + j) + x * F (b + j) + cy) (2147483648 ^ j)
  have h2 : (F (r + j) + x * F (b + j) + cy) * 2147483648 ^ j = F (r + j) * 2147483648 ^ j + x * F (b + j) * 2147483648 ^ j + cy * 2147483648 ^ j := by rw [Int.add_mul, Int.add_mul]
  have h3 : x * (nv F b j + F (b + j) * 2147483648 ^ j) = x * nv F b j + x * F (b + j) * 2147483648 ^ j := by rw [Int.mul_add, Int.mul_assoc]
  omega
/-- a round of the outer loop -/
theorem ap_round {F f f' : Nat → Int} {t a b i m : Nat} {cy : Int} (h1 : nv f t (i + m) = nv F a i * nv F b m) (h2 : nv f' (t + i) m + cy * 2147483648 ^ m = nv f (t + i) m + F (a + i) * nv F b m) (h3 : ∀ q, q < t + i → f' q = f q) :
    nv (zup f' (t + i + m) cy) t (i + 1 + m) = nv F a (i + 1) * nv F b m := by
  rw [show i + 1 + m = i + (m + 1) by omega, nv_add, nv_s, zup_s, nv_ext (g := f) (b := t) (f := zup f' (t + i + m) cy) (a := t) (n := i) (fun q hq => by rw [zup_n (by omega)]; exact h3 _ (by omega)), nv_ext (g := f') (b := t + i) (f := zup f' (t + i + m) cy) (a := t + i) (n := m) (fun q hq => zup_n (by omega)), h2]
  rw [nv_add] at h1
  rw [Int.mul_add, ← Int.add_assoc, h1, nv_s, Int.add_mul, Int.mul_comm (F (a + i)) (2147483648 ^ i), Int.mul_assoc]
set_option maxHeartbeats 4000000 in
set_option maxRecDepth 100000 in
theorem lp_significant {p : Program} {l : Launch} {e : Env} {R : Room} {s : State} {m : MethodId} {args : Array Value} {below : List Frame} {meth : Method} {c : Code} {D : va_G} {ad : Nat → Nat} {g : Nat × Nat × Nat × Nat} {Q : State → Prop} (C : Fx p s m args meth c D ad cX4_significant 4 (some .int) yX4_significant.cls tb) (hg : 3 ≤ g.1 ∧ g.1 ≤ 11 ∧ 8 ≤ g.2.1 ∧ g.2.1 ≤ 2048 ∧ 1 ≤ g.2.2.1 ∧ g.2.2.1 ≤ 24 ∧ 1 ≤ g.2.2.2 ∧ g.2.2.2 ≤ 12) (σ : St) (hL : LM g σ) (a n0 : Nat) (ha : a + n0 ≤ g.2.1) (K : ∀ (r : Nat) pc lv, (pc = 20 ∨ pc = 28) → sgP (σ 2) a n0 r → X p l e R s m args below meth c D ad 4 Q (kc D ad g σ) pc lv [vi (r : Int)]) (n r : Nat) (hn : r < n) (hr : r ≤ n0) (hb : ∀ i, r ≤ i → i < n0 → σ 2 (a + i) = 0) : X p l e R s m args below meth c D ad 4 Q (kc D ad g σ) 2 [(3, vi (r : Int)), (0, .ref (ad 5)), (1, vi (a : Int)), (2, vi (n0 : Int))] [] := by
  induction n generalizing r with
  | zero => omega
  | succ n ih =>
  refine x_iload_n C dX4_significant_2 rfl rfl ?_
  refine x_if_le (tgt := 27) C dX4_significant_3 (by decide) (by omega) (fun c_3 => ?_) (fun c_3 => ?_)
  · refine x_iconst C dX4_significant_27 ?_
    obtain rfl : r = 0 := by omega
    exact K 0 _ _ (Or.inr rfl) ⟨hr, hb, fun q => by omega⟩
  · refine x_aload_n C dX4_significant_6 rfl rfl ?_
    refine x_get C (Cn := RX4) (T := TX4) (N := 6) (ci := 4) 0 dX4_significant_7 m_w_4 m_f_RX4_9 rfl (by decide) rfl rfl ?_
    refine x_iload_n C dX4_significant_10 rfl rfl ?_
    refine x_iload_n C dX4_significant_11 rfl rfl ?_
    refine x_iadd C dX4_significant_12 ?_
    refine x_iconst C dX4_significant_13 ?_
    refine x_isub C dX4_significant_14 ?_
    refine x_iald C dX4_significant_15 rfl (by omega) (by omega) ?_
    rw [show ((a : Int) + (r : Int) - 1).toNat = a + (r - 1) by omega]
    have hl := hL (a + (r - 1)) (by omega)
    refine x_if_eq (tgt := 21) C dX4_significant_16 (by decide) (by omega) (fun c_16 => ?_) (fun c_16 => ?_)
    · refine x_iinc C (lv' := [(3, _), (0, _), (1, _), (2, _)]) dX4_significant_21 rfl (by decide) rfl ?_
      refine x_goto (tgt := 2) C dX4_significant_24 (by decide) ?_
      obtain ⟨r, rfl⟩ : ∃ r1, r = r1 + 1 := ⟨r - 1, by omega⟩
      rw [show ((r + 1 : Nat) : Int) + -1 = (r : Int) by omega]
      exact ih r (by omega) (by omega) (fun i h1 h2 => if q : i = r then by rw [q]; exact c_16 else hb i (by omega) h2)
    · refine x_iload_n C dX4_significant_19 rfl rfl ?_
      exact K r _ _ (Or.inl rfl) ⟨hr, hb, fun _ => c_16⟩
set_option maxHeartbeats 4000000 in
set_option maxRecDepth 100000 in
theorem c_significant {l : Launch} {D : va_G} {ad : Nat → Nat} {g : Nat × Nat × Nat × Nat} (hg : 3 ≤ g.1 ∧ g.1 ≤ 11 ∧ 8 ≤ g.2.1 ∧ g.2.1 ≤ 2048 ∧ 1 ≤ g.2.2.1 ∧ g.2.2.1 ≤ 24 ∧ 1 ≤ g.2.2.2 ∧ g.2.2.2 ≤ 12) (σ : St) (hL : LM g σ) (a n0 : Nat) (ha : a + n0 ≤ g.2.1) : Kt l D ad g yX4_significant (Cond.code yX4_significant cX4_significant 4 (some .int) :: tb) 0 0 [.ref (ad 5), vi (a : Int), vi (n0 : Int)] σ (fun v σ' => σ = σ' ∧ ∃ r : Nat, v = some (vi (r : Int)) ∧ sgP (σ 2) a n0 r) := by
  refine ct_of (by decide) rfl (Nat.le_of_ble_eq_true rfl) ?_
  intro p e s m below meth c C
  change X _ _ _ _ _ _ _ _ _ _ _ _ _ _ _ _ [(0, .ref (ad 5)), (1, vi (a : Int)), (2, vi (n0 : Int))] _
  refine x_iload_n C dX4_significant_0 rfl rfl ?_
  refine x_istore_n C (lv' := [(3, _), (0, _), (1, _), (2, _)]) dX4_significant_1 rfl (by decide) rfl ?_
  refine lp_significant C hg σ hL a n0 ha ?_ (n0 + 1) n0 (by omega) (by omega) (fun i h1 h2 => by omega)
  intro r pc lv hpc hr
  rcases hpc with rfl | rfl
  · exact x_iret C dX4_significant_20 ⟨_, rfl, rfl, r, rfl, hr⟩
  · exact x_iret C dX4_significant_28 ⟨_, rfl, rfl, r, rfl, hr⟩
set_option maxHeartbeats 4000000 in
set_option maxRecDepth 100000 in
theorem lp_addProductI {p : Program} {l : Launch} {e : Env} {R : Room} {s : State} {m : MethodId} {args : Array Value} {below : List Frame} {meth : Method} {c : Code} {D : va_G} {ad : Nat → Nat} {g : Nat × Nat × Nat × Nat} {Q : State → Prop} (C : Fx p s m args meth c D ad cX4_addProduct 15 none yX4_addProduct.cls tb) (hg : 3 ≤ g.1 ∧ g.1 ≤ 11 ∧ 8 ≤ g.2.1 ∧ g.2.1 ≤ 2048 ∧ 1 ≤ g.2.2.1 ∧ g.2.2.1 ≤ 24 ∧ 1 ≤ g.2.2.2 ∧ g.2.2.2 ≤ 12) (σ : St) (t a n0 b m0 : Nat) (ht : t + n0 + m0 ≤ g.2.1) (ha : a + n0 ≤ g.2.1) (hb : b + m0 ≤ g.2.1) (hda : a + n0 ≤ t ∨ t + n0 + m0 ≤ a) (hdb : b + m0 ≤ t ∨ t + n0 + m0 ≤ b) (i : Nat) (hi : i < n0) (x : Int) (hx : 0 ≤ x ∧ x < 2147483648) (K : ∀ (σ' : St) (cy : Int) lv, LM g σ' → (∀ q, q ≠ 2 → σ' q = σ q) → (∀ q, ¬ (t + i ≤ q ∧ q < t + i + m0) → σ' 2 q = σ 2 q) → 0 ≤ cy → cy < 2147483648 → nv (σ' 2) (t + i) m0 + cy * 2147483648 ^ m0 = nv (σ 2) (t + i) m0 + x * nv (σ 2) b m0 → lk 0 lv = some (.ref (ad 5)) → lk 9 lv = some (vi ((t + i : Nat) : Int)) → lk 5 lv = some (vi (m0 : Int)) → lk 10 lv = some (vl cy) → lv_pick lv [4, 5, 6, 7, 8, 9, 10] = [(6, vi (i : Int)), (0, .ref (ad 5)), (1, vi (t : Int)), (2, vi (a : Int)), (3, vi (n0 : Int)), (4, vi (b : Int)), (5, vi (m0 : Int))] → X p l e R s m args below meth c D ad 15 Q (kc D ad g σ') 101 lv []) (n j : Nat) (hn : m0 - j < n) (hj : j ≤ m0) (cy : Int) (hcy : 0 ≤ cy ∧ cy < 2147483648) (σ1 : St) (hL : LM g σ1) (hrow : ∀ q, q ≠ 2 → σ1 q = σ q) (hfr : ∀ q, ¬ (t + i ≤ q ∧ q < t + i + j) → σ1 2 q = σ 2 q) (heq : nv (σ1 2) (t + i) j + cy * 2147483648 ^ j = nv (σ 2) (t + i) j + x * nv (σ 2) b j) : X p l e R s m args below meth c D ad 15 Q (kc D ad g σ1) 33 [(12, vi (j : Int)), (10, vl cy), (9, vi ((t + i : Nat) : Int)), (7, vl x), (6, vi (i : Int)), (0, .ref (ad 5)), (1, vi (t : Int)), (2, vi (a : Int)), (3, vi (n0 : Int)), (4, vi (b : Int)), (5, vi (m0 : Int))] [] := by
  induction n generalizing j cy σ1 with
  | zero => omega
  | succ n ih =>
  refine x_iload C dX4_addProduct_33 rfl ?_
  refine x_iload C dX4_addProduct_35 rfl ?_
  refine x_icmp_ge (tgt := 101) C dX4_addProduct_37 (by decide) (by omega) (by omega) (fun c_37 => ?_) (fun c_37 => ?_)
  · obtain rfl : j = m0 := by omega
    exact K σ1 cy _ hL hrow hfr hcy.1 hcy.2 heq rfl rfl rfl rfl rfl
  · refine x_aload_n C dX4_addProduct_40 rfl rfl ?_
    refine x_get C (Cn := RX4) (T := TX4) (N := 6) (ci := 4) 0 dX4_addProduct_41 m_w_4 m_f_RX4_9 rfl (by decide) rfl rfl ?_
    refine x_iload C dX4_addProduct_44 rfl ?_
    refine x_iload C dX4_addProduct_46 rfl ?_
    refine x_iadd C dX4_addProduct_48 ?_
    refine x_iald C dX4_addProduct_49 rfl (by omega) (by omega) ?_
    rw [show (((t + i : Nat) : Int) + (j : Int)).toNat = t + i + j by omega]
    have hl1 := hL (t + i + j) (by omega)
    refine x_i2l C dX4_addProduct_50 (by omega) ?_
    refine x_lload C dX4_addProduct_51 rfl ?_
    refine x_aload_n C dX4_addProduct_53 rfl rfl ?_
    refine x_get C (Cn := RX4) (T := TX4) (N := 6) (ci := 4) 0 dX4_addProduct_54 m_w_4 m_f_RX4_9 rfl (by decide) rfl rfl ?_
    refine x_iload C dX4_addProduct_57 rfl ?_
    refine x_iload C dX4_addProduct_59 rfl ?_
    refine x_iadd C dX4_addProduct_61 ?_
    refine x_iald C dX4_addProduct_62 rfl (by omega) (by omega) ?_
    rw [show ((b : Int) + (j : Int)).toNat = b + j by omega]
    have hl2 := hL (b + j) (by omega)
    have hmul := mulB hx hl2
    refine x_i2l C dX4_addProduct_63 (by omega) ?_
    refine x_lmul C dX4_addProduct_64 ?_
    refine x_ladd C dX4_addProduct_65 ?_
    refine x_lload C dX4_addProduct_66 rfl ?_
    refine x_ladd C dX4_addProduct_68 ?_
    obtain ⟨s0, es⟩ : ∃ s0, s0 = σ 2 (t + i + j) + x * σ 2 (b + j) + cy := ⟨_, rfl⟩
    have e1 := hfr (t + i + j) (by omega)
    have e2 := hfr (b + j) (by omega)
    rw [e1] at hl1
    rw [e2] at hl2 hmul
    rw [e1, e2, ← es]
    have hs0 : 0 ≤ s0 ∧ s0 < 4611686018427387904 := by rw [es]; omega
    refine x_lstore C (lv' := [(13, _), (12, _), (10, _), (9, _), (7, _), (6, _), (0, _), (1, _), (2, _), (3, _), (4, _), (5, _)]) dX4_addProduct_69 (by decide) rfl ?_
    refine x_aload_n C dX4_addProduct_71 rfl rfl ?_
    refine x_get C (Cn := RX4) (T := TX4) (N := 6) (ci := 4) 0 dX4_addProduct_72 m_w_4 m_f_RX4_9 rfl (by decide) rfl rfl ?_
    refine x_iload C dX4_addProduct_75 rfl ?_
    refine x_iload C dX4_addProduct_77 rfl ?_
    refine x_iadd C dX4_addProduct_79 ?_
    refine x_lload C dX4_addProduct_80 rfl ?_
    refine x_ldc2 C (z := 2147483647) dX4_addProduct_82 (C.2.2.2.2.1 _ m_k_RX4_15) (by decide) ?_
    refine x_land C (z := (s0 % 2147483648)) dX4_addProduct_85 (lI_mask s0) ?_
    refine x_l2i C dX4_addProduct_86 ?_
    refine k_ast C dX4_addProduct_87 (fun _ => rfl) (by omega) (by omega) ?_
    rw [show (((t + i : Nat) : Int) + (j : Int)).toNat = t + i + j by omega]
    refine x_lload C dX4_addProduct_88 rfl ?_
    refine x_bipush C (z := 31) dX4_addProduct_90 (by decide) ?_
    refine x_lshr C dX4_addProduct_92 (by omega) (by omega) ?_
    rw [show (31 : Int).toNat = 31 from rfl, show (2 : Int) ^ 31 = 2147483648 from by decide]
    refine x_lstore C (lv' := [(10, _), (13, _), (12, _), (9, _), (7, _), (6, _), (0, _), (1, _), (2, _), (3, _), (4, _), (5, _)]) dX4_addProduct_93 (by decide) rfl ?_
    refine x_iinc C (lv' := [(12, _), (10, _), (13, _), (9, _), (7, _), (6, _), (0, _), (1, _), (2, _), (3, _), (4, _), (5, _)]) dX4_addProduct_95 rfl (by decide) rfl ?_
    refine x_goto (tgt := 33) C dX4_addProduct_98 (by decide) ?_
    refine X.sub [0, 1, 3, 4, 5, 6, 7, 8, 9, 10, 11] rfl ?_
    rw [show (j : Int) + 1 = ((j + 1 : Nat) : Int) by omega]
    have hst := ap_step heq
    rw [← es] at hst
    refine ih (j + 1) (by omega) (by omega) _ (by omega) _ (hL.up (by omega)) ?_ ?_ ?_
    · intro q hq; rw [up_n hq]; exact hrow q hq
    · intro q hq; rw [up_s, zup_n (by omega)]; exact hfr q (by omega)
    · rw [up_s]; exact hst
set_option maxHeartbeats 4000000 in
set_option maxRecDepth 100000 in
theorem lp_addProduct {p : Program} {l : Launch} {e : Env} {R : Room} {s : State} {m : MethodId} {args : Array Value} {below : List Frame} {meth : Method} {c : Code} {D : va_G} {ad : Nat → Nat} {g : Nat × Nat × Nat × Nat} {Q : State → Prop} (C : Fx p s m args meth c D ad cX4_addProduct 15 none yX4_addProduct.cls tb) (hg : 3 ≤ g.1 ∧ g.1 ≤ 11 ∧ 8 ≤ g.2.1 ∧ g.2.1 ≤ 2048 ∧ 1 ≤ g.2.2.1 ∧ g.2.2.1 ≤ 24 ∧ 1 ≤ g.2.2.2 ∧ g.2.2.2 ≤ 12) (σ : St) (t a n0 b m0 : Nat) (ht : t + n0 + m0 ≤ g.2.1) (ha : a + n0 ≤ g.2.1) (hb : b + m0 ≤ g.2.1) (hda : a + n0 ≤ t ∨ t + n0 + m0 ≤ a) (hdb : b + m0 ≤ t ∨ t + n0 + m0 ≤ b) (K : ∀ (σ' : St) lv, LM g σ' → (∀ q, q ≠ 2 → σ' q = σ q) → (∀ q, ¬ (t ≤ q ∧ q < t + n0 + m0) → σ' 2 q = σ 2 q) → nv (σ' 2) t (n0 + m0) = nv (σ 2) a n0 * nv (σ 2) b m0 → X p l e R s m args below meth c D ad 15 Q (kc D ad g σ') 120 lv []) (n i : Nat) (hn : n0 - i < n) (hi : i ≤ n0) (σ1 : St) (hL : LM g σ1) (hrow : ∀ q, q ≠ 2 → σ1 q = σ q) (hfr : ∀ q, ¬ (t ≤ q ∧ q < t + n0 + m0) → σ1 2 q = σ 2 q) (heq : nv (σ1 2) t (i + m0) = nv (σ 2) a i * nv (σ 2) b m0) : X p l e R s m args below meth c D ad 15 Q (kc D ad g σ1) 3 [(6, vi (i : Int)), (0, .ref (ad 5)), (1, vi (t : Int)), (2, vi (a : Int)), (3, vi (n0 : Int)), (4, vi (b : Int)), (5, vi (m0 : Int))] [] := by
  induction n generalizing i σ1 with
  | zero => omega
  | succ n ih =>
  refine x_iload C dX4_addProduct_3 rfl ?_
  refine x_iload_n C dX4_addProduct_5 rfl rfl ?_
  refine x_icmp_ge (tgt := 120) C dX4_addProduct_6 (by decide) (by omega) (by omega) (fun c_6 => ?_) (fun c_6 => ?_)
  · obtain rfl : i = n0 := by omega
    exact K σ1 _ hL hrow hfr heq
  · refine x_aload_n C dX4_addProduct_9 rfl rfl ?_
    refine x_get C (Cn := RX4) (T := TX4) (N := 6) (ci := 4) 0 dX4_addProduct_10 m_w_4 m_f_RX4_9 rfl (by decide) rfl rfl ?_
    refine x_iload_n C dX4_addProduct_13 rfl rfl ?_
    refine x_iload C dX4_addProduct_14 rfl ?_
    refine x_iadd C dX4_addProduct_16 ?_
    refine x_iald C dX4_addProduct_17 rfl (by omega) (by omega) ?_
    rw [show ((a : Int) + (i : Int)).toNat = a + i by omega]
    have hl1 := hL (a + i) (by omega)
    refine x_i2l C dX4_addProduct_18 (by omega) ?_
    refine x_lstore C (lv' := [(7, _), (6, _), (0, _), (1, _), (2, _), (3, _), (4, _), (5, _)]) dX4_addProduct_19 (by decide) rfl ?_
    refine x_iload_n C dX4_addProduct_21 rfl rfl ?_
    refine x_iload C dX4_addProduct_22 rfl ?_
    refine x_iadd C dX4_addProduct_24 ?_
    refine x_istore C (lv' := [(9, _), (7, _), (6, _), (0, _), (1, _), (2, _), (3, _), (4, _), (5, _)]) dX4_addProduct_25 (by decide) rfl ?_
    refine x_lconst0 C dX4_addProduct_27 ?_
    refine x_lstore C (lv' := [(10, _), (9, _), (7, _), (6, _), (0, _), (1, _), (2, _), (3, _), (4, _), (5, _)]) dX4_addProduct_28 (by decide) rfl ?_
    refine x_iconst C dX4_addProduct_30 ?_
    refine x_istore C (lv' := [(12, _), (10, _), (9, _), (7, _), (6, _), (0, _), (1, _), (2, _), (3, _), (4, _), (5, _)]) dX4_addProduct_31 (by decide) rfl ?_
    rw [show (t : Int) + (i : Int) = ((t + i : Nat) : Int) by omega]
    refine lp_addProductI C hg σ1 t a n0 b m0 ht ha hb hda hdb i (by omega) _ hl1 ?_ (m0 + 1) 0 (by omega) (by omega) 0 (by omega) σ1 hL (fun _ _ => rfl) (fun _ _ => rfl) (by simp [nv])
    intro σ' cy lv h1 h2 h3 h4 h5 h6 k0 k9 k5 k10 kp
    refine x_aload_n C dX4_addProduct_101 rfl k0 ?_
    refine x_get C (Cn := RX4) (T := TX4) (N := 6) (ci := 4) 0 dX4_addProduct_102 m_w_4 m_f_RX4_9 rfl (by decide) rfl rfl ?_
    refine x_iload C dX4_addProduct_105 k9 ?_
    refine x_iload C dX4_addProduct_107 k5 ?_
    refine x_iadd C dX4_addProduct_109 ?_
    refine x_lload C dX4_addProduct_110 k10 ?_
    refine x_l2i C dX4_addProduct_112 ?_
    refine k_ast C dX4_addProduct_113 (fun _ => rfl) (by omega) (by omega) ?_
    refine X.sub [4, 5, 6, 7, 8, 9, 10] kp ?_
    refine x_iinc C (lv' := [(6, _), (0, _), (1, _), (2, _), (3, _), (4, _), (5, _)]) dX4_addProduct_114 rfl (by decide) rfl ?_
    refine x_goto (tgt := 3) C dX4_addProduct_117 (by decide) ?_
    rw [show (i : Int) + 1 = ((i + 1 : Nat) : Int) by omega, show (((t + i : Nat) : Int) + (m0 : Int)).toNat = t + i + m0 by omega]
    have eb : nv (σ1 2) b m0 = nv (σ 2) b m0 := nv_ext (fun q hq => hfr _ (by omega))
    rw [eb, hfr (a + i) (by omega)] at h6
    refine ih (i + 1) (by omega) (by omega) _ (h1.up ⟨h4, h5⟩) ?_ ?_ ?_
    · intro q hq; rw [up_n hq, h2 q hq]; exact hrow q hq
    · intro q hq; rw [up_s, zup_n (by omega), h3 q (by omega)]; exact hfr q hq
    · rw [up_s]; exact ap_round heq h6 (fun q hq => h3 q (by omega))
set_option maxHeartbeats 4000000 in
set_option maxRecDepth 100000 in
theorem c_addProduct {l : Launch} {D : va_G} {ad : Nat → Nat} {g : Nat × Nat × Nat × Nat} (hg : 3 ≤ g.1 ∧ g.1 ≤ 11 ∧ 8 ≤ g.2.1 ∧ g.2.1 ≤ 2048 ∧ 1 ≤ g.2.2.1 ∧ g.2.2.1 ≤ 24 ∧ 1 ≤ g.2.2.2 ∧ g.2.2.2 ≤ 12) (σ : St) (hL : LM g σ) (t a n0 b m0 : Nat) (ht : t + n0 + m0 ≤ g.2.1) (ha : a + n0 ≤ g.2.1) (hb : b + m0 ≤ g.2.1) (hda : a + n0 ≤ t ∨ t + n0 + m0 ≤ a) (hdb : b + m0 ≤ t ∨ t + n0 + m0 ≤ b) (hz : ∀ q, t ≤ q → q < t + m0 → σ 2 q = 0) : Kt l D ad g yX4_addProduct (Cond.code yX4_addProduct cX4_addProduct 15 none :: tb) 0 0 [.ref (ad 5), vi (t : Int), vi (a : Int), vi (n0 : Int), vi (b : Int), vi (m0 : Int)] σ (fun v σ' => v = none ∧ LM g σ' ∧ (∀ q, q ≠ 2 → σ' q = σ q) ∧ (∀ q, ¬ (t ≤ q ∧ q < t + n0 + m0) → σ' 2 q = σ 2 q) ∧ nv (σ' 2) t (n0 + m0) = nv (σ 2) a n0 * nv (σ 2) b m0) := by
  refine ct_of (by decide) rfl (Nat.le_of_ble_eq_true rfl) ?_
  intro p e s m below meth c C
  change X _ _ _ _ _ _ _ _ _ _ _ _ _ _ _ _ [(0, .ref (ad 5)), (1, vi (t : Int)), (2, vi (a : Int)), (3, vi (n0 : Int)), (4, vi (b : Int)), (5, vi (m0 : Int))] _
  refine x_iconst C dX4_addProduct_0 ?_
  refine x_istore C (lv' := [(6, _), (0, _), (1, _), (2, _), (3, _), (4, _), (5, _)]) dX4_addProduct_1 (by decide) rfl ?_
  refine lp_addProduct C hg σ t a n0 b m0 ht ha hb hda hdb ?_ (n0 + 1) 0 (by omega) (by omega) σ hL (fun _ _ => rfl) (fun _ _ => rfl) (by rw [nv_0, Int.zero_mul, Nat.zero_add]; exact nv_zero (fun q hq => hz _ (by omega) (by omega)))
  intro σ' lv h1 h2 h3 h4
  exact x_vret C dX4_addProduct_120 ⟨_, rfl, rfl, h1, h2, h3, h4⟩
end
section
/-! THE GUESS, in numbers: the top limbs of a number moved up by s bits -/
def lb (f : Nat → Int) (a r k : Nat) : Int := if k < r then f (a + (r - (k + 1))) else 0
theorem lb_in {f : Nat → Int} {a r : Nat} (h : lim f a r) (k : Nat) : 0 ≤ lb f a r k ∧ lb f a r k < 2147483648 := by
  unfold lb
  by_cases c : k < r
  · rw [if_pos c]; exact h _ (by omega)
  · rw [if_neg c]; omega
theorem mc (x P c : Int) : x * (P * c) = x * P * c := (Int.mul_assoc x P c).symm
theorem mcP (x c P : Int) : x * c * P = x * P * c := by rw [Int.mul_assoc, Int.mul_comm c P, ← Int.mul_assoc]
theorem mcc (x c P d : Int) : x * c * (P * d) = x * P * (c * d) := by rw [Int.mul_assoc x c, ← Int.mul_assoc c P, Int.mul_comm c P, Int.mul_assoc P c, ← Int.mul_assoc x P]
theorem top3 {f : Nat → Int} {a r : Nat} (h : lim f a r) (hr : 0 < r) : ∃ R : Int, 0 ≤ R ∧ R < 2147483648 ^ (r - 1) ∧ nv f a r * 4611686018427387904 = (lb f a r 0 * 4611686018427387904 + lb f a r 1 * 2147483648 + lb f a r 2) * 2147483648 ^ (r - 1) + R := by
  rcases (show r = 1 ∨ r = 2 ∨ 3 ≤ r by omega) with rfl | rfl | hr3
  · refine ⟨0, by decide, by decide, ?_⟩
    simp [lb, nv]
  · refine ⟨0, by decide, by decide, ?_⟩
    simp [lb, nv]; omega
  · obtain ⟨k, rfl⟩ : ∃ k, r = k + 3 := ⟨r - 3, by omega⟩
    have h0 := nv_ge (h.mono (show k ≤ k + 3 by omega))
    have h1 := nv_lt (h.mono (show k ≤ k + 3 by omega))
    have e : (2147483648 : Int) ^ (k + 3 - 1) = 2147483648 ^ k * 4611686018427387904 := by
      rw [show k + 3 - 1 = k + 2 by omega, Int.pow_add]; rfl
    refine ⟨nv f a k * 4611686018427387904, by omega, by rw [e]; omega, ?_⟩
    have e1 : (2147483648 : Int) ^ (k + 1) = 2147483648 ^ k * 2147483648 := bp_s k
    have e2 : (2147483648 : Int) ^ (k + 1 + 1) = 2147483648 ^ k * 4611686018427387904 := by rw [bp_s, bp_s, Int.mul_assoc]; rfl
    rw [e, nv_s, nv_s, nv_s, e2, e1]
    simp only [lb, show (0 : Nat) < k + 3 by omega, show 1 < k + 3 by omega, show 2 < k + 3 by omega, if_true, show k + 3 - (0 + 1) = k + 2 by omega, show k + 3 - (1 + 1) = k + 1 by omega, show k + 3 - (2 + 1) = k by omega]
    rw [show a + (k + 1 + 1) = a + (k + 2) by omega]
    generalize f (a + (k + 2)) = x; generalize f (a + (k + 1)) = y; generalize f (a + k) = z; generalize nv f a k = w; generalize (2147483648 : Int) ^ k = P
    rw [Int.add_mul (x * 4611686018427387904 + y * 2147483648) z, Int.add_mul (x * 4611686018427387904), mcc x 4611686018427387904 P 4611686018427387904, mcc y 2147483648 P 4611686018427387904, mc x, mc y, mc z]
    omega
theorem p31 {s : Nat} (h : s ≤ 31) : (2 : Int) ^ (31 - s) * 2 ^ s = 2147483648 := by
  rw [← Int.pow_add, show 31 - s + s = 31 by omega]; decide
theorem zp_pos (s : Nat) : (0 : Int) < 2 ^ s := Int.pow_pos (by decide)
/-- a limb moved up by s bits -/
theorem mvup {x : Int} {s : Nat} (hs : s ≤ 31) (hx : 0 ≤ x ∧ x < 2147483648) : x * 2 ^ s = x / 2 ^ (31 - s) * 2147483648 + x % 2 ^ (31 - s) * 2 ^ s ∧ 0 ≤ x / 2 ^ (31 - s) ∧ x / 2 ^ (31 - s) < 2 ^ s ∧ 0 ≤ x % 2 ^ (31 - s) * 2 ^ s ∧ x % 2 ^ (31 - s) * 2 ^ s + 2 ^ s ≤ 2147483648 := by
  have hp := zp_pos (31 - s); have hq := zp_pos s; have h31 := p31 hs
  have h1 := Int.mul_ediv_add_emod x (2 ^ (31 - s))
  have h2 := Int.emod_nonneg x (show (2 : Int) ^ (31 - s) ≠ 0 by omega)
  have h3 := Int.emod_lt_of_pos x hp
  refine ⟨?_, Int.ediv_nonneg hx.1 (by omega), ?_, Int.mul_nonneg h2 (by omega), ?_⟩
  · have h4 := congrArg (fun z => z * (2 : Int) ^ s) h1
    simp only [Int.add_mul] at h4
    rw [← h4, Int.mul_comm (2 ^ (31 - s)) (x / 2 ^ (31 - s)), Int.mul_assoc, h31]
  · exact Int.ediv_lt_of_lt_mul hp (by rw [Int.mul_comm, h31]; exact hx.2)
  · have h4 : (x % 2 ^ (31 - s) + 1) * 2 ^ s ≤ 2 ^ (31 - s) * 2 ^ s := Int.mul_le_mul_of_nonneg_right (by omega) (by omega)
    rw [Int.add_mul, h31] at h4; omega
/-- the divisor's three top limbs, moved up -/
theorem dv_up {f : Nat → Int} {a r s : Nat} (h : lim f a r) (hr : 0 < r) (hs : s ≤ 31) : ∃ v0 : Int, 0 ≤ v0 ∧ v0 < 2147483648 ^ r ∧ nv f a r * (4611686018427387904 * 2 ^ s) = ((lb f a r 0 * 2147483648 + lb f a r 1) * 2 ^ s + lb f a r 2 / 2 ^ (31 - s)) * 2147483648 ^ r + v0 := by
  obtain ⟨R, h1, h2, h3⟩ := top3 h hr
  obtain ⟨m1, m2, m3, m4, m5⟩ := mvup hs (lb_in h 2)
  have hq := zp_pos s
  have hP := bp_pos (r - 1)
  have er : (2147483648 : Int) ^ r = 2147483648 ^ (r - 1) * 2147483648 := by rw [← bp_s, show r - 1 + 1 = r by omega]
  generalize lb f a r 0 = t1 at *; generalize lb f a r 1 = t2 at *; generalize lb f a r 2 = t3 at *
  generalize t3 / 2 ^ (31 - s) = d3 at *; generalize t3 % 2 ^ (31 - s) * 2 ^ s = x3 at *
  rw [er]
  generalize (2147483648 : Int) ^ (r - 1) = P at *; generalize (2 : Int) ^ s = S at *
  refine ⟨x3 * P + R * S, ?_, ?_, ?_⟩
  · have a1 := Int.mul_nonneg m4 (Int.le_of_lt hP); have a2 := Int.mul_nonneg h1 (Int.le_of_lt hq); omega
  · have a1 : x3 * P + S * P ≤ 2147483648 * P := by rw [← Int.add_mul]; exact Int.mul_le_mul_of_nonneg_right m5 (by omega)
    have a2 : R * S < P * S := Int.mul_lt_mul_of_pos_right h2 hq
    rw [Int.mul_comm P S] at a2; omega
  · rw [← Int.mul_assoc, h3, Int.add_mul, Int.mul_assoc _ P S, Int.mul_comm P S, ← Int.mul_assoc _ S P]
    have e1 : (t1 * 4611686018427387904 + t2 * 2147483648 + t3) * S = ((t1 * 2147483648 + t2) * S + d3) * 2147483648 + x3 := by
      rw [Int.add_mul (t1 * 4611686018427387904 + t2 * 2147483648) t3, m1, show t1 * 4611686018427387904 + t2 * 2147483648 = (t1 * 2147483648 + t2) * 2147483648 by omega, Int.mul_assoc _ 2147483648 S, Int.mul_comm 2147483648 S, ← Int.mul_assoc]
      omega
    rw [e1, Int.add_mul (((t1 * 2147483648 + t2) * S + d3) * 2147483648), Int.mul_assoc _ 2147483648 P, Int.mul_comm 2147483648 P]
    omega
/-- the dividend's, with the limb above -/
theorem dd_up {f : Nat → Int} {u r s : Nat} (h : lim f u (r + 1)) (hr : 0 < r) (hs : s ≤ 31) : ∃ w0 : Int, 0 ≤ w0 ∧ w0 < 2147483648 ^ r ∧ nv f u (r + 1) * (4611686018427387904 * 2 ^ s) = (((f (u + r) * 2147483648 + lb f u r 0) * 2 ^ s + lb f u r 1 / 2 ^ (31 - s)) * 2147483648 + (lb f u r 1 % 2 ^ (31 - s) * 2 ^ s + lb f u r 2 / 2 ^ (31 - s))) * 2147483648 ^ r + w0 := by
  have hl := h.mono (show r ≤ r + 1 by omega)
  obtain ⟨R, h1, h2, h3⟩ := top3 hl hr
  obtain ⟨m1, m2, m3, m4, m5⟩ := mvup hs (lb_in hl 2)
  obtain ⟨l1, l2, l3, l4, l5⟩ := mvup hs (lb_in hl 1)
  have hq := zp_pos s
  have hP := bp_pos (r - 1)
  have er : (2147483648 : Int) ^ r = 2147483648 ^ (r - 1) * 2147483648 := by rw [← bp_s, show r - 1 + 1 = r by omega]
  rw [nv_s, er]
  generalize nv f u r = N at *
  generalize lb f u r 0 = t1 at *; generalize lb f u r 1 = t2 at *; generalize lb f u r 2 = t3 at *; generalize f (u + r) = t0 at *
  generalize t3 / 2 ^ (31 - s) = d3 at *; generalize t3 % 2 ^ (31 - s) * 2 ^ s = x3 at *
  generalize t2 / 2 ^ (31 - s) = d2 at *; generalize t2 % 2 ^ (31 - s) * 2 ^ s = x2 at *
  generalize (2147483648 : Int) ^ (r - 1) = P at *; generalize (2 : Int) ^ s = S at *
  refine ⟨x3 * P + R * S, ?_, ?_, ?_⟩
  · have a1 := Int.mul_nonneg m4 (Int.le_of_lt hP); have a2 := Int.mul_nonneg h1 (Int.le_of_lt hq); omega
  · have a1 : x3 * P + S * P ≤ 2147483648 * P := by rw [← Int.add_mul]; exact Int.mul_le_mul_of_nonneg_right m5 (by omega)
    have a2 : R * S < P * S := Int.mul_lt_mul_of_pos_right h2 hq
    rw [Int.mul_comm P S] at a2; omega
  · have e0 : (N + t0 * (P * 2147483648)) * 4611686018427387904 = (t0 * 9903520314283042199192993792 + t1 * 4611686018427387904 + t2 * 2147483648 + t3) * P + R := by
      rw [Int.add_mul, h3, show t0 * 9903520314283042199192993792 + t1 * 4611686018427387904 + t2 * 2147483648 + t3 = t0 * 9903520314283042199192993792 + (t1 * 4611686018427387904 + t2 * 2147483648 + t3) by omega, Int.add_mul (t0 * 9903520314283042199192993792), mc, mcP t0 9903520314283042199192993792 P]
      omega
    rw [← Int.mul_assoc, e0, Int.add_mul, Int.mul_assoc _ P S, Int.mul_comm P S, ← Int.mul_assoc _ S P]
    have e1 : (t0 * 9903520314283042199192993792 + t1 * 4611686018427387904 + t2 * 2147483648 + t3) * S = (((t0 * 2147483648 + t1) * S + d2) * 2147483648 + (x2 + d3)) * 2147483648 + x3 := by
      rw [Int.add_mul _ t3, m1, Int.add_mul _ (t2 * 2147483648), Int.mul_assoc t2, Int.mul_comm 2147483648 S, ← Int.mul_assoc t2, l1, show t0 * 9903520314283042199192993792 + t1 * 4611686018427387904 = (t0 * 2147483648 + t1) * 4611686018427387904 by omega, Int.mul_assoc _ 4611686018427387904 S, Int.mul_comm 4611686018427387904 S, ← Int.mul_assoc]
      omega
    rw [e1, Int.add_mul ((((t0 * 2147483648 + t1) * S + d2) * 2147483648 + (x2 + d3)) * 2147483648), Int.mul_assoc _ 2147483648 P, Int.mul_comm 2147483648 P]
    omega
end
section
/-! CHOOSING THE DIVISOR -/
def dvM (f : Nat → Int) (a r s : Nat) : Int := (lb f a r 0 * 2147483648 + lb f a r 1) * 2 ^ s + lb f a r 2 / 2 ^ (31 - s)
def DVS (g : Nat × Nat × Nat × Nat) (σ : St) (a r : Nat) : Prop := σ 5 1 = a ∧ σ 5 2 = r ∧ 0 < r ∧ a + r ≤ g.2.1 ∧ ∃ s : Nat, s ≤ 30 ∧ σ 5 3 = s ∧ 1073741824 ≤ lb (σ 2) a r 0 * 2 ^ s ∧ lb (σ 2) a r 0 * 2 ^ s < 2147483648 ∧ σ 5 4 = dvM (σ 2) a r s / 2147483648 ∧ σ 5 5 = dvM (σ 2) a r s % 2147483648
theorem lb_ext {f f' : Nat → Int} {a r k : Nat} (h : ∀ q, a ≤ q → q < a + r → f' q = f q) : lb f' a r k = lb f a r k := by
  unfold lb
  by_cases c : k < r
  · rw [if_pos c, if_pos c, h _ (by omega) (by omega)]
  · rw [if_neg c, if_neg c]
theorem DVS.keep {g : Nat × Nat × Nat × Nat} {σ σ' : St} {a r : Nat} (h : DVS g σ a r) (h5 : σ' 5 = σ 5) (h2 : ∀ q, a ≤ q → q < a + r → σ' 2 q = σ 2 q) : DVS g σ' a r := by
  unfold DVS dvM at *
  rw [h5, lb_ext h2, lb_ext h2, lb_ext h2]
  exact h
theorem LM.row {g : Nat × Nat × Nat × Nat} {σ σ' : St} (h : LM g σ) (h2 : σ' 2 = σ 2) : LM g σ' := fun i hi => by rw [h2]; exact h i hi
/-- two limbs and the bits of a third, moved up: no overflow -/
theorem up_in {t n2 d : Int} {s : Nat} (hs : s ≤ 30) (ht : 0 ≤ t) (hts : t * 2 ^ s < 2147483648) (h2 : 0 ≤ n2 ∧ n2 < 2147483648) (hd : 0 ≤ d ∧ d < 2 ^ s) : 0 ≤ (t * 2147483648 + n2) * 2 ^ s + d ∧ (t * 2147483648 + n2) * 2 ^ s + d < 4611686018427387904 ∧ t * 2 ^ s * 2147483648 ≤ (t * 2147483648 + n2) * 2 ^ s + d := by
  have hq := zp_pos s
  have e31 := p31 (show s ≤ 31 by omega)
  have h1 : 0 ≤ (t * 2147483648 + n2) * 2 ^ s := Int.mul_nonneg (by omega) (by omega)
  have h3 : (t + 1) * 2 ^ s ≤ 2147483648 := by
    rw [← e31]
    have : t < 2 ^ (31 - s) := Int.lt_of_mul_lt_mul_right (by rw [e31]; exact hts) (by omega)
    exact Int.mul_le_mul_of_nonneg_right (by omega) (by omega)
  have h4 : (t * 2147483648 + n2 + 1) * 2 ^ s ≤ ((t + 1) * 2147483648) * 2 ^ s := Int.mul_le_mul_of_nonneg_right (by omega) (by omega)
  rw [mcP, Int.add_mul (t * 2147483648 + n2)] at h4
  have h5 : t * 2 ^ s * 2147483648 ≤ (t * 2147483648 + n2) * 2 ^ s := by
    rw [Int.add_mul, mcP]; have := Int.mul_nonneg h2.1 (show (0 : Int) ≤ 2 ^ s by omega); omega
  omega
set_option maxHeartbeats 4000000 in
set_option maxRecDepth 100000 in
theorem lp_chE {p : Program} {l : Launch} {e : Env} {R : Room} {s : State} {m : MethodId} {args : Array Value} {below : List Frame} {meth : Method} {c : Code} {D : va_G} {ad : Nat → Nat} {g : Nat × Nat × Nat × Nat} {Q : State → Prop} (C : Fx p s m args meth c D ad cX4_chooseDivisor 8 (some .boolean) yX4_chooseDivisor.cls tb) (hg : 3 ≤ g.1 ∧ g.1 ≤ 11 ∧ 8 ≤ g.2.1 ∧ g.2.1 ≤ 2048 ∧ 1 ≤ g.2.2.1 ∧ g.2.2.1 ≤ 24 ∧ 1 ≤ g.2.2.2 ∧ g.2.2.2 ≤ 12) (σ : St) (a n0 r : Nat) (hr : 0 < r) (har : a + r ≤ g.2.1) (hL : LM g σ) (T n2 n3 : Int) (hT : T = lb (σ 2) a r 0) (hn2 : n2 = lb (σ 2) a r 1) (hn3 : n3 = lb (σ 2) a r 2) (K : ∀ (σ' : St) lv, DVS g σ' a r → (∀ q, q ≠ 5 → σ' q = σ q) → X p l e R s m args below meth c D ad 8 Q (kc D ad g σ') 179 lv [vi 1]) (s0 : Nat) (hs0 : s0 ≤ 30) (σ1 : St) (h51 : σ1 5 1 = a) (h52 : σ1 5 2 = r) (h53 : σ1 5 3 = s0) (hrow : ∀ q, q ≠ 5 → σ1 q = σ q) (hlo : 1073741824 ≤ T * 2 ^ s0) (hhi : T * 2 ^ s0 < 2147483648) : X p l e R s m args below meth c D ad 8 Q (kc D ad g σ1) 131 [(5, vi n3), (4, vi n2), (3, vi T), (0, .ref (ad 5)), (1, vi (a : Int)), (2, vi (n0 : Int))] [] := by
  have hlm := hL.lim har
  have rT := lb_in hlm 0
  have r2 := lb_in hlm 1
  have r3 := lb_in hlm 2
  rw [← hT] at rT
  rw [← hn2] at r2
  rw [← hn3] at r3
  refine x_iload_n C dX4_chooseDivisor_131 rfl rfl ?_
  refine x_i2l C dX4_chooseDivisor_132 (by omega) ?_
  refine x_bipush C (z := 31) dX4_chooseDivisor_133 (by decide) ?_
  refine x_lshl C dX4_chooseDivisor_135 (by omega) ?_
  rw [show (31 : Int).toNat = 31 from rfl, show (2 : Int) ^ 31 = 2147483648 from by decide]
  refine x_iload C dX4_chooseDivisor_136 rfl ?_
  refine x_i2l C dX4_chooseDivisor_138 (by omega) ?_
  refine x_lor C (z := (T * 2147483648 + n2)) dX4_chooseDivisor_139 (lI_or 31 (by decide) (c := T) (by rw [show (2 : Int) ^ 31 = 2147483648 from by decide]) rT.1 (by rw [show (2 : Int) ^ 31 = 2147483648 from by decide]; exact r2) (by omega)) ?_
  refine x_aload_n C dX4_chooseDivisor_140 rfl rfl ?_
  refine x_get C (Cn := RX4) (T := TX4) (N := 6) (ci := 4) 3 dX4_chooseDivisor_141 m_w_4 m_f_RX4_90 rfl (by decide) rfl rfl ?_
  rw [h53]
  refine x_lshl C dX4_chooseDivisor_144 (by omega) ?_
  rw [Int.toNat_natCast]
  refine x_iload C dX4_chooseDivisor_145 rfl ?_
  refine x_bipush C (z := 31) dX4_chooseDivisor_147 (by decide) ?_
  refine x_aload_n C dX4_chooseDivisor_149 rfl rfl ?_
  refine x_get C (Cn := RX4) (T := TX4) (N := 6) (ci := 4) 3 dX4_chooseDivisor_150 m_w_4 m_f_RX4_90 rfl (by decide) rfl rfl ?_
  rw [h53]
  refine x_isub C dX4_chooseDivisor_153 ?_
  refine x_ishr C dX4_chooseDivisor_154 (by omega) (by omega) ?_
  rw [show ((31 : Int) - (s0 : Int)).toNat = 31 - s0 by omega]
  obtain ⟨m1, m2, m3, m4, m5⟩ := mvup (s := s0) (by omega) r3
  have hz30 : (2 : Int) ^ s0 ≤ 2 ^ 30 := zp_le hs0
  obtain ⟨u1, u2, u3⟩ := up_in hs0 rT.1 hhi r2 ⟨m2, m3⟩
  refine x_i2l C dX4_chooseDivisor_155 (by omega) ?_
  refine x_lor C (z := ((T * 2147483648 + n2) * 2 ^ s0 + n3 / 2 ^ (31 - s0))) dX4_chooseDivisor_156 (lI_or s0 (by omega) rfl (by omega) ⟨m2, m3⟩ (by omega)) ?_
  refine x_lstore C (lv' := [(6, _), (5, _), (4, _), (3, _), (0, _), (1, _), (2, _)]) dX4_chooseDivisor_157 (by decide) rfl ?_
  refine x_aload_n C dX4_chooseDivisor_159 rfl rfl ?_
  refine x_lload C dX4_chooseDivisor_160 rfl ?_
  refine x_bipush C (z := 31) dX4_chooseDivisor_162 (by decide) ?_
  refine x_lshr C dX4_chooseDivisor_164 (by omega) (by omega) ?_
  rw [show (31 : Int).toNat = 31 from rfl, show (2 : Int) ^ 31 = 2147483648 from by decide]
  refine k_putSl C (Cn := RX4) (T := TX4) (N := 6) (ci := 4) (ty := .long) 4 dX4_chooseDivisor_165 m_w_4 m_f_RX4_93 rfl (by decide) tyX4 tyX4_ok nmX4 rfl (by decide +kernel) rfl rfl rfl (Nat.le_of_ble_eq_true rfl) rfl ?_
  refine x_aload_n C dX4_chooseDivisor_168 rfl rfl ?_
  refine x_lload C dX4_chooseDivisor_169 rfl ?_
  refine x_ldc2 C (z := 2147483647) dX4_chooseDivisor_171 (C.2.2.2.2.1 _ m_k_RX4_15) (by decide) ?_
  refine x_land C (z := (((T * 2147483648 + n2) * 2 ^ s0 + n3 / 2 ^ (31 - s0)) % 2147483648)) dX4_chooseDivisor_174 (lI_mask _) ?_
  refine k_putSl C (Cn := RX4) (T := TX4) (N := 6) (ci := 4) (ty := .long) 5 dX4_chooseDivisor_175 m_w_4 m_f_RX4_97 rfl (by decide) tyX4 tyX4_ok nmX4 rfl (by decide +kernel) rfl rfl rfl (Nat.le_of_ble_eq_true rfl) rfl ?_
  refine x_iconst C dX4_chooseDivisor_178 ?_
  refine K _ _ ⟨?_, ?_, hr, har, s0, hs0, ?_, ?_, ?_, ?_, ?_⟩ (fun q hq => by rw [up_n hq, up_n hq]; exact hrow q hq)
  · rw [up_s, zup_n (by decide), up_s, zup_n (by decide)]; exact h51
  · rw [up_s, zup_n (by decide), up_s, zup_n (by decide)]; exact h52
  · rw [up_s, zup_n (by decide), up_s, zup_n (by decide)]; exact h53
  · rw [up_n (by decide), up_n (by decide), hrow 2 (by decide), ← hT]; exact hlo
  · rw [up_n (by decide), up_n (by decide), hrow 2 (by decide), ← hT]; exact hhi
  · rw [up_s, zup_n (by decide), up_s, zup_s, up_n (show 2 ≠ 5 by decide), up_n (show 2 ≠ 5 by decide), hrow 2 (by decide)]; unfold dvM; rw [← hT, ← hn2, ← hn3]
  · rw [up_s, zup_s, up_n (show 2 ≠ 5 by decide), up_n (show 2 ≠ 5 by decide), hrow 2 (by decide)]; unfold dvM; rw [← hT, ← hn2, ← hn3]
set_option maxHeartbeats 4000000 in
set_option maxRecDepth 100000 in
theorem lp_chD {p : Program} {l : Launch} {e : Env} {R : Room} {s : State} {m : MethodId} {args : Array Value} {below : List Frame} {meth : Method} {c : Code} {D : va_G} {ad : Nat → Nat} {g : Nat × Nat × Nat × Nat} {Q : State → Prop} (C : Fx p s m args meth c D ad cX4_chooseDivisor 8 (some .boolean) yX4_chooseDivisor.cls tb) (hg : 3 ≤ g.1 ∧ g.1 ≤ 11 ∧ 8 ≤ g.2.1 ∧ g.2.1 ≤ 2048 ∧ 1 ≤ g.2.2.1 ∧ g.2.2.1 ≤ 24 ∧ 1 ≤ g.2.2.2 ∧ g.2.2.2 ≤ 12) (σ : St) (a n0 r : Nat) (hr : 0 < r) (har : a + r ≤ g.2.1) (hL : LM g σ) (T n2 n3 : Int) (hT : T = lb (σ 2) a r 0) (hn2 : n2 = lb (σ 2) a r 1) (hn3 : n3 = lb (σ 2) a r 2) (K : ∀ (σ' : St) lv, DVS g σ' a r → (∀ q, q ≠ 5 → σ' q = σ q) → X p l e R s m args below meth c D ad 8 Q (kc D ad g σ') 179 lv [vi 1]) (hT0 : T ≠ 0) (n s0 : Nat) (hn : 31 - s0 < n) (hs0 : s0 ≤ 30) (σ1 : St) (h51 : σ1 5 1 = a) (h52 : σ1 5 2 = r) (h53 : σ1 5 3 = s0) (hrow : ∀ q, q ≠ 5 → σ1 q = σ q) (hhi : T * 2 ^ s0 < 2147483648) : X p l e R s m args below meth c D ad 8 Q (kc D ad g σ1) 97 [(5, vi n3), (4, vi n2), (3, vi T), (0, .ref (ad 5)), (1, vi (a : Int)), (2, vi (n0 : Int))] [] := by
  have hlm := hL.lim har
  have rT := lb_in hlm 0
  have r2 := lb_in hlm 1
  have r3 := lb_in hlm 2
  rw [← hT] at rT
  rw [← hn2] at r2
  rw [← hn3] at r3
  induction n generalizing s0 σ1 with
  | zero => omega
  | succ n ih =>
  refine x_aload_n C dX4_chooseDivisor_97 rfl rfl ?_
  refine x_get C (Cn := RX4) (T := TX4) (N := 6) (ci := 4) 3 dX4_chooseDivisor_98 m_w_4 m_f_RX4_90 rfl (by decide) rfl rfl ?_
  rw [h53]
  refine x_bipush C (z := 30) dX4_chooseDivisor_101 (by decide) ?_
  refine x_icmp_ge (tgt := 131) C dX4_chooseDivisor_103 (by decide) (by omega) (by omega) (fun c_103 => ?_) (fun c_103 => ?_)
  · obtain rfl : s0 = 30 := by omega
    exact lp_chE C hg σ a n0 r hr har hL T n2 n3 hT hn2 hn3 K 30 hs0 σ1 h51 h52 h53 hrow (by rw [show (2 : Int) ^ 30 = 1073741824 from by decide]; omega) hhi
  · refine x_iload_n C dX4_chooseDivisor_106 rfl rfl ?_
    refine x_bipush C (z := 30) dX4_chooseDivisor_107 (by decide) ?_
    refine x_aload_n C dX4_chooseDivisor_109 rfl rfl ?_
    refine x_get C (Cn := RX4) (T := TX4) (N := 6) (ci := 4) 3 dX4_chooseDivisor_110 m_w_4 m_f_RX4_90 rfl (by decide) rfl rfl ?_
    rw [h53]
    refine x_isub C dX4_chooseDivisor_113 ?_
    refine x_ishr C dX4_chooseDivisor_114 (by omega) (by omega) ?_
    rw [show ((30 : Int) - (s0 : Int)).toNat = 30 - s0 by omega]
    have hzz := zdiv_le (30 - s0) rT (by omega) (by omega)
    have hp := zp_pos (30 - s0)
    have hq := zp_pos s0
    have e30 : (2 : Int) ^ (30 - s0) * 2 ^ s0 = 1073741824 := by rw [← Int.pow_add, show 30 - s0 + s0 = 30 by omega]; decide
    refine x_if_ne (tgt := 131) C dX4_chooseDivisor_115 (by decide) (by omega) (fun c_115 => ?_) (fun c_115 => ?_)
    · refine lp_chE C hg σ a n0 r hr har hL T n2 n3 hT hn2 hn3 K s0 hs0 σ1 h51 h52 h53 hrow ?_ hhi
      rw [← e30]
      apply Int.mul_le_mul_of_nonneg_right _ (by omega)
      rcases Int.lt_or_le T (2 ^ (30 - s0)) with q | q
      · exact absurd (Int.ediv_eq_zero_of_lt rT.1 q) c_115
      · exact q
    · refine x_aload_n C dX4_chooseDivisor_118 rfl rfl ?_
      refine x_dup C dX4_chooseDivisor_119 rfl ?_
      refine x_get C (Cn := RX4) (T := TX4) (N := 6) (ci := 4) 3 dX4_chooseDivisor_120 m_w_4 m_f_RX4_90 rfl (by decide) rfl rfl ?_
      rw [h53]
      refine x_iconst C dX4_chooseDivisor_123 ?_
      refine x_iadd C dX4_chooseDivisor_124 ?_
      refine k_putS C (Cn := RX4) (T := TX4) (N := 6) (ci := 4) (ty := .int) 3 dX4_chooseDivisor_125 m_w_4 m_f_RX4_90 rfl (by decide) tyX4 tyX4_ok nmX4 rfl (by decide +kernel) rfl rfl rfl (Nat.le_of_ble_eq_true rfl) rfl ?_
      refine x_goto (tgt := 97) C dX4_chooseDivisor_128 (by decide) ?_
      refine ih (s0 + 1) (by omega) (by omega) _ ?_ ?_ ?_ ?_ ?_
      · rw [up_s, zup_n (by decide)]; exact h51
      · rw [up_s, zup_n (by decide)]; exact h52
      · rw [up_s, zup_s]; omega
      · intro q hq; rw [up_n hq]; exact hrow q hq
      · have hlt : T < 2 ^ (30 - s0) := by
          rcases Int.lt_or_le T (2 ^ (30 - s0)) with q | q
          · exact q
          · have := (Int.le_ediv_iff_mul_le (a := 1) (b := T) hp).mpr (by omega)
            omega
        have := Int.mul_lt_mul_of_pos_right hlt hq
        rw [e30] at this
        rw [Int.pow_succ, ← Int.mul_assoc]
        omega
set_option maxHeartbeats 4000000 in
set_option maxRecDepth 100000 in
theorem c_chooseDivisor {l : Launch} {D : va_G} {ad : Nat → Nat} {g : Nat × Nat × Nat × Nat} (hg : 3 ≤ g.1 ∧ g.1 ≤ 11 ∧ 8 ≤ g.2.1 ∧ g.2.1 ≤ 2048 ∧ 1 ≤ g.2.2.1 ∧ g.2.2.1 ≤ 24 ∧ 1 ≤ g.2.2.2 ∧ g.2.2.2 ≤ 12) (σ : St) (hL : LM g σ) (a n0 : Nat) (ha : a + n0 ≤ g.2.1) : Kt l D ad g yX4_chooseDivisor (Cond.code yX4_chooseDivisor cX4_chooseDivisor 8 (some .boolean) :: tb) 1 40 [.ref (ad 5), vi (a : Int), vi (n0 : Int)] σ (fun v σ' => ∃ r : Nat, sgP (σ 2) a n0 r ∧ (∀ q, q ≠ 5 → σ' q = σ q) ∧ ((r = 0 ∧ v = some (vi 0)) ∨ (0 < r ∧ v = some (vi 1) ∧ DVS g σ' a r))) := by
  refine ct_of (by decide) rfl (Nat.le_of_ble_eq_true rfl) ?_
  intro p e s m below meth c C
  change X _ _ _ _ _ _ _ _ _ _ _ _ _ _ _ _ [(0, .ref (ad 5)), (1, vi (a : Int)), (2, vi (n0 : Int))] _
  refine x_aload_n C dX4_chooseDivisor_0 rfl rfl ?_
  refine x_iload_n C dX4_chooseDivisor_1 rfl rfl ?_
  refine k_putS C (Cn := RX4) (T := TX4) (N := 6) (ci := 4) (ty := .int) 1 dX4_chooseDivisor_2 m_w_4 m_f_RX4_53 rfl (by decide) tyX4 tyX4_ok nmX4 rfl (by decide +kernel) rfl rfl rfl (Nat.le_of_ble_eq_true rfl) rfl ?_
  refine x_aload_n C dX4_chooseDivisor_5 rfl rfl ?_
  refine x_aload_n C dX4_chooseDivisor_6 rfl rfl ?_
  refine x_iload_n C dX4_chooseDivisor_7 rfl rfl ?_
  refine x_iload_n C dX4_chooseDivisor_8 rfl rfl ?_
  refine x_callV C (ci := 4) (nn := 2) (c_significant hg _ (hL.row (up_n (by decide))) a n0 ha) g_RX4_87 rfl (by decide +kernel) ⟨by first | decide | omega, by first | decide | omega⟩ rfl rfl rfl rfl rfl (Nat.le_of_ble_eq_true rfl) dX4_chooseDivisor_9 (fun v h1 hp => ?_)
  obtain ⟨σ1, rfl, rfl, r, rfl, hr⟩ := hp
  rw [up_n (show 2 ≠ 5 by decide)] at hr
  refine k_putS C (Cn := RX4) (T := TX4) (N := 6) (ci := 4) (ty := .int) 2 dX4_chooseDivisor_12 m_w_4 m_f_RX4_38 rfl (by decide) tyX4 tyX4_ok nmX4 rfl (by decide +kernel) rfl rfl rfl (Nat.le_of_ble_eq_true rfl) rfl ?_
  obtain ⟨σ2, hσ2⟩ : ∃ σ2, σ2 = up (up σ 5 1 (a : Int)) 5 2 (r : Int) := ⟨_, rfl⟩
  rw [← hσ2]
  have h51 : σ2 5 1 = a := by rw [hσ2]; rfl
  have h52 : σ2 5 2 = r := by rw [hσ2]; rfl
  have hrow : ∀ q, q ≠ 5 → σ2 q = σ q := fun q hq => by rw [hσ2, up_n hq, up_n hq]
  have hL2 : LM g σ2 := hL.row (hrow 2 (by decide))
  have hrn := hr.1
  refine x_aload_n C dX4_chooseDivisor_15 rfl rfl ?_
  refine x_get C (Cn := RX4) (T := TX4) (N := 6) (ci := 4) 2 dX4_chooseDivisor_16 m_w_4 m_f_RX4_38 rfl (by decide) rfl rfl ?_
  rw [h52]
  refine x_if_ne (tgt := 24) C dX4_chooseDivisor_19 (by decide) (by omega) (fun c_19 => ?_) (fun c_19 => ?_)
  · refine x_aload_n C dX4_chooseDivisor_24 rfl rfl ?_
    refine x_get C (Cn := RX4) (T := TX4) (N := 6) (ci := 4) 0 dX4_chooseDivisor_25 m_w_4 m_f_RX4_9 rfl (by decide) rfl rfl ?_
    refine x_iload_n C dX4_chooseDivisor_28 rfl rfl ?_
    refine x_aload_n C dX4_chooseDivisor_29 rfl rfl ?_
    refine x_get C (Cn := RX4) (T := TX4) (N := 6) (ci := 4) 2 dX4_chooseDivisor_30 m_w_4 m_f_RX4_38 rfl (by decide) rfl rfl ?_
    rw [h52]
    refine x_iadd C dX4_chooseDivisor_33 ?_
    refine x_iconst C dX4_chooseDivisor_34 ?_
    refine x_isub C dX4_chooseDivisor_35 ?_
    refine x_iald C dX4_chooseDivisor_36 rfl (by omega) (by omega) ?_
    rw [show ((a : Int) + (r : Int) - 1).toNat = a + (r - 1) by omega]
    refine x_istore_n C (lv' := [(3, _), (0, _), (1, _), (2, _)]) dX4_chooseDivisor_37 rfl (by decide) rfl ?_
    refine x_aload_n C dX4_chooseDivisor_38 rfl rfl ?_
    refine x_get C (Cn := RX4) (T := TX4) (N := 6) (ci := 4) 2 dX4_chooseDivisor_39 m_w_4 m_f_RX4_38 rfl (by decide) rfl rfl ?_
    rw [h52]
    refine x_iconst C dX4_chooseDivisor_42 ?_
    refine x_icmp_le (tgt := 62) C dX4_chooseDivisor_43 (by decide) (by omega) (by omega) (fun c_43 => ?_) (fun c_43 => ?_)
    · refine x_iconst C dX4_chooseDivisor_62 ?_
      refine x_istore C (lv' := [(4, _), (3, _), (0, _), (1, _), (2, _)]) dX4_chooseDivisor_63 (by decide) rfl ?_
      refine x_aload_n C dX4_chooseDivisor_65 rfl rfl ?_
      refine x_get C (Cn := RX4) (T := TX4) (N := 6) (ci := 4) 2 dX4_chooseDivisor_66 m_w_4 m_f_RX4_38 rfl (by decide) rfl rfl ?_
      rw [h52]
      refine x_iconst C dX4_chooseDivisor_69 ?_
      refine x_icmp_le (tgt := 89) C dX4_chooseDivisor_70 (by decide) (by omega) (by omega) (fun c_70 => ?_) (fun c_70 => ?_)
      · refine x_iconst C dX4_chooseDivisor_89 ?_
        refine x_istore C (lv' := [(5, _), (4, _), (3, _), (0, _), (1, _), (2, _)]) dX4_chooseDivisor_90 (by decide) rfl ?_
        refine x_aload_n C dX4_chooseDivisor_92 rfl rfl ?_
        refine x_iconst C dX4_chooseDivisor_93 ?_
        refine k_putS C (Cn := RX4) (T := TX4) (N := 6) (ci := 4) (ty := .int) 3 dX4_chooseDivisor_94 m_w_4 m_f_RX4_90 rfl (by decide) tyX4 tyX4_ok nmX4 rfl (by decide +kernel) rfl rfl rfl (Nat.le_of_ble_eq_true rfl) rfl ?_
        refine lp_chD C hg σ2 a n0 r (by omega) (by omega) hL2 _ _ _ (by unfold lb; rw [if_pos (by omega)]) (by unfold lb; first | (exfalso; omega) | rw [if_pos (by omega)] | rw [if_neg (by omega)]) (by unfold lb; first | (exfalso; omega) | rw [if_pos (by omega)] | rw [if_neg (by omega)]) ?_ (by rw [hrow 2 (by decide)]; exact hr.2.2 (by omega)) 32 0 (by omega) (by omega) _ (by rw [up_s, zup_n (by decide)]; exact h51) (by rw [up_s, zup_n (by decide)]; exact h52) (by rw [up_s, zup_s]; rfl) (fun q hq => up_n hq) (by have := hL2 (a + (r - 1)) (by omega); omega)
        intro σ' lv d1 d2
        exact x_zret C dX4_chooseDivisor_179 (by decide) ⟨_, rfl, r, hr, fun q hq => by rw [d2 q hq]; exact hrow q hq, Or.inr ⟨by omega, rfl, d1⟩⟩
      · refine x_aload_n C dX4_chooseDivisor_73 rfl rfl ?_
        refine x_get C (Cn := RX4) (T := TX4) (N := 6) (ci := 4) 0 dX4_chooseDivisor_74 m_w_4 m_f_RX4_9 rfl (by decide) rfl rfl ?_
        refine x_iload_n C dX4_chooseDivisor_77 rfl rfl ?_
        refine x_aload_n C dX4_chooseDivisor_78 rfl rfl ?_
        refine x_get C (Cn := RX4) (T := TX4) (N := 6) (ci := 4) 2 dX4_chooseDivisor_79 m_w_4 m_f_RX4_38 rfl (by decide) rfl rfl ?_
        rw [h52]
        refine x_iadd C dX4_chooseDivisor_82 ?_
        refine x_iconst C dX4_chooseDivisor_83 ?_
        refine x_isub C dX4_chooseDivisor_84 ?_
        refine x_iald C dX4_chooseDivisor_85 rfl (by omega) (by omega) ?_
        rw [show ((a : Int) + (r : Int) - 3).toNat = a + (r - 3) by omega]
        refine x_goto (tgt := 90) C dX4_chooseDivisor_86 (by decide) ?_
        refine x_istore C (lv' := [(5, _), (4, _), (3, _), (0, _), (1, _), (2, _)]) dX4_chooseDivisor_90 (by decide) rfl ?_
        refine x_aload_n C dX4_chooseDivisor_92 rfl rfl ?_
        refine x_iconst C dX4_chooseDivisor_93 ?_
        refine k_putS C (Cn := RX4) (T := TX4) (N := 6) (ci := 4) (ty := .int) 3 dX4_chooseDivisor_94 m_w_4 m_f_RX4_90 rfl (by decide) tyX4 tyX4_ok nmX4 rfl (by decide +kernel) rfl rfl rfl (Nat.le_of_ble_eq_true rfl) rfl ?_
        refine lp_chD C hg σ2 a n0 r (by omega) (by omega) hL2 _ _ _ (by unfold lb; rw [if_pos (by omega)]) (by unfold lb; first | (exfalso; omega) | rw [if_pos (by omega)] | rw [if_neg (by omega)]) (by unfold lb; first | (exfalso; omega) | rw [if_pos (by omega)] | rw [if_neg (by omega)]) ?_ (by rw [hrow 2 (by decide)]; exact hr.2.2 (by omega)) 32 0 (by omega) (by omega) _ (by rw [up_s, zup_n (by decide)]; exact h51) (by rw [up_s, zup_n (by decide)]; exact h52) (by rw [up_s, zup_s]; rfl) (fun q hq => up_n hq) (by have := hL2 (a + (r - 1)) (by omega); omega)
        intro σ' lv d1 d2
        exact x_zret C dX4_chooseDivisor_179 (by decide) ⟨_, rfl, r, hr, fun q hq => by rw [d2 q hq]; exact hrow q hq, Or.inr ⟨by omega, rfl, d1⟩⟩
    · refine x_aload_n C dX4_chooseDivisor_46 rfl rfl ?_
      refine x_get C (Cn := RX4) (T := TX4) (N := 6) (ci := 4) 0 dX4_chooseDivisor_47 m_w_4 m_f_RX4_9 rfl (by decide) rfl rfl ?_
      refine x_iload_n C dX4_chooseDivisor_50 rfl rfl ?_
      refine x_aload_n C dX4_chooseDivisor_51 rfl rfl ?_
      refine x_get C (Cn := RX4) (T := TX4) (N := 6) (ci := 4) 2 dX4_chooseDivisor_52 m_w_4 m_f_RX4_38 rfl (by decide) rfl rfl ?_
      rw [h52]
      refine x_iadd C dX4_chooseDivisor_55 ?_
      refine x_iconst C dX4_chooseDivisor_56 ?_
      refine x_isub C dX4_chooseDivisor_57 ?_
      refine x_iald C dX4_chooseDivisor_58 rfl (by omega) (by omega) ?_
      rw [show ((a : Int) + (r : Int) - 2).toNat = a + (r - 2) by omega]
      refine x_goto (tgt := 63) C dX4_chooseDivisor_59 (by decide) ?_
      refine x_istore C (lv' := [(4, _), (3, _), (0, _), (1, _), (2, _)]) dX4_chooseDivisor_63 (by decide) rfl ?_
      refine x_aload_n C dX4_chooseDivisor_65 rfl rfl ?_
      refine x_get C (Cn := RX4) (T := TX4) (N := 6) (ci := 4) 2 dX4_chooseDivisor_66 m_w_4 m_f_RX4_38 rfl (by decide) rfl rfl ?_
      rw [h52]
      refine x_iconst C dX4_chooseDivisor_69 ?_
      refine x_icmp_le (tgt := 89) C dX4_chooseDivisor_70 (by decide) (by omega) (by omega) (fun c_70 => ?_) (fun c_70 => ?_)
      · refine x_iconst C dX4_chooseDivisor_89 ?_
        refine x_istore C (lv' := [(5, _), (4, _), (3, _), (0, _), (1, _), (2, _)]) dX4_chooseDivisor_90 (by decide) rfl ?_
        refine x_aload_n C dX4_chooseDivisor_92 rfl rfl ?_
        refine x_iconst C dX4_chooseDivisor_93 ?_
        refine k_putS C (Cn := RX4) (T := TX4) (N := 6) (ci := 4) (ty := .int) 3 dX4_chooseDivisor_94 m_w_4 m_f_RX4_90 rfl (by decide) tyX4 tyX4_ok nmX4 rfl (by decide +kernel) rfl rfl rfl (Nat.le_of_ble_eq_true rfl) rfl ?_
        refine lp_chD C hg σ2 a n0 r (by omega) (by omega) hL2 _ _ _ (by unfold lb; rw [if_pos (by omega)]) (by unfold lb; first | (exfalso; omega) | rw [if_pos (by omega)] | rw [if_neg (by omega)]) (by unfold lb; first | (exfalso; omega) | rw [if_pos (by omega)] | rw [if_neg (by omega)]) ?_ (by rw [hrow 2 (by decide)]; exact hr.2.2 (by omega)) 32 0 (by omega) (by omega) _ (by rw [up_s, zup_n (by decide)]; exact h51) (by rw [up_s, zup_n (by decide)]; exact h52) (by rw [up_s, zup_s]; rfl) (fun q hq => up_n hq) (by have := hL2 (a + (r - 1)) (by omega); omega)
        intro σ' lv d1 d2
        exact x_zret C dX4_chooseDivisor_179 (by decide) ⟨_, rfl, r, hr, fun q hq => by rw [d2 q hq]; exact hrow q hq, Or.inr ⟨by omega, rfl, d1⟩⟩
      · refine x_aload_n C dX4_chooseDivisor_73 rfl rfl ?_
        refine x_get C (Cn := RX4) (T := TX4) (N := 6) (ci := 4) 0 dX4_chooseDivisor_74 m_w_4 m_f_RX4_9 rfl (by decide) rfl rfl ?_
        refine x_iload_n C dX4_chooseDivisor_77 rfl rfl ?_
        refine x_aload_n C dX4_chooseDivisor_78 rfl rfl ?_
        refine x_get C (Cn := RX4) (T := TX4) (N := 6) (ci := 4) 2 dX4_chooseDivisor_79 m_w_4 m_f_RX4_38 rfl (by decide) rfl rfl ?_
        rw [h52]
        refine x_iadd C dX4_chooseDivisor_82 ?_
        refine x_iconst C dX4_chooseDivisor_83 ?_
        refine x_isub C dX4_chooseDivisor_84 ?_
        refine x_iald C dX4_chooseDivisor_85 rfl (by omega) (by omega) ?_
        rw [show ((a : Int) + (r : Int) - 3).toNat = a + (r - 3) by omega]
        refine x_goto (tgt := 90) C dX4_chooseDivisor_86 (by decide) ?_
        refine x_istore C (lv' := [(5, _), (4, _), (3, _), (0, _), (1, _), (2, _)]) dX4_chooseDivisor_90 (by decide) rfl ?_
        refine x_aload_n C dX4_chooseDivisor_92 rfl rfl ?_
        refine x_iconst C dX4_chooseDivisor_93 ?_
        refine k_putS C (Cn := RX4) (T := TX4) (N := 6) (ci := 4) (ty := .int) 3 dX4_chooseDivisor_94 m_w_4 m_f_RX4_90 rfl (by decide) tyX4 tyX4_ok nmX4 rfl (by decide +kernel) rfl rfl rfl (Nat.le_of_ble_eq_true rfl) rfl ?_
        refine lp_chD C hg σ2 a n0 r (by omega) (by omega) hL2 _ _ _ (by unfold lb; rw [if_pos (by omega)]) (by unfold lb; first | (exfalso; omega) | rw [if_pos (by omega)] | rw [if_neg (by omega)]) (by unfold lb; first | (exfalso; omega) | rw [if_pos (by omega)] | rw [if_neg (by omega)]) ?_ (by rw [hrow 2 (by decide)]; exact hr.2.2 (by omega)) 32 0 (by omega) (by omega) _ (by rw [up_s, zup_n (by decide)]; exact h51) (by rw [up_s, zup_n (by decide)]; exact h52) (by rw [up_s, zup_s]; rfl) (fun q hq => up_n hq) (by have := hL2 (a + (r - 1)) (by omega); omega)
        intro σ' lv d1 d2
        exact x_zret C dX4_chooseDivisor_179 (by decide) ⟨_, rfl, r, hr, fun q hq => by rw [d2 q hq]; exact hrow q hq, Or.inr ⟨by omega, rfl, d1⟩⟩
  · refine x_iconst C dX4_chooseDivisor_22 ?_
    exact x_zret C dX4_chooseDivisor_23 (by decide) ⟨_, rfl, r, hr, hrow, Or.inl ⟨by omega, rfl⟩⟩
end
section
/-! GUESSING A DIGIT -/
theorem top_le {f : Nat → Int} {u a r : Nat} (hu : lim f u (r + 1)) (ha : lim f a r) (hr : 0 < r) (hU : nv f u (r + 1) < nv f a r * 2147483648) : f (u + r) ≤ lb f a r 0 := by
  obtain ⟨k, rfl⟩ : ∃ k, r = k + 1 := ⟨r - 1, by omega⟩
  have h1 := nv_ge (hu.mono (show k + 1 ≤ k + 1 + 1 by omega))
  have h2 := nv_lt (ha.mono (show k ≤ k + 1 by omega))
  have hP := bp_pos k
  rw [nv_s, nv_s f a, bp_s] at hU
  unfold lb
  rw [if_pos (by omega), show k + 1 - (0 + 1) = k by omega]
  generalize f (u + (k + 1)) = x at *; generalize f (a + k) = t at *; generalize (2147483648 : Int) ^ k = P at *
  rcases Int.lt_or_le t x with q | q
  · exfalso
    have h3 : (t + 1) * (P * 2147483648) ≤ x * (P * 2147483648) := Int.mul_le_mul_of_nonneg_right (by omega) (by omega)
    rw [Int.add_mul t 1, mc] at h3
    omega
  · exact q
theorem nv_pos {f : Nat → Int} {a r : Nat} (ha : lim f a r) (hr : 0 < r) (ht : 0 < lb f a r 0) : 0 < nv f a r := by
  obtain ⟨k, rfl⟩ : ∃ k, r = k + 1 := ⟨r - 1, by omega⟩
  have h1 := nv_ge (ha.mono (show k ≤ k + 1 by omega))
  unfold lb at ht
  rw [if_pos (by omega), show k + 1 - (0 + 1) = k by omega] at ht
  have h2 := Int.mul_pos ht (bp_pos k)
  rw [nv_s]; omega
theorem guess_ok {f : Nat → Int} {u a r s : Nat} (hu : lim f u (r + 1)) (ha : lim f a r) (hr : 0 < r) (hs : s ≤ 30) (hlo : 1073741824 ≤ lb f a r 0 * 2 ^ s) (hhi : lb f a r 0 * 2 ^ s < 2147483648) (hU : nv f u (r + 1) < nv f a r * 2147483648)
    {v1 v2 hi lo : Int} (e1 : v1 = dvM f a r s / 2147483648) (e2 : v2 = dvM f a r s % 2147483648) (e3 : hi = (f (u + r) * 2147483648 + lb f u r 0) * 2 ^ s + lb f u r 1 / 2 ^ (31 - s)) (e4 : lo = lb f u r 1 % 2 ^ (31 - s) * 2 ^ s + lb f u r 2 / 2 ^ (31 - s)) :
    (1073741824 ≤ v1 ∧ v1 < 2147483648) ∧ (0 ≤ v2 ∧ v2 < 2147483648) ∧ (0 ≤ hi ∧ hi < 4611686018427387904) ∧ (0 ≤ lo ∧ lo < 2147483648) ∧ (0 ≤ nv f u (r + 1) / nv f a r ∧ nv f u (r + 1) / nv f a r < 2147483648) ∧ (nv f u (r + 1) / nv f a r ≤ hi / v1 ∧ hi / v1 ≤ nv f u (r + 1) / nv f a r + 2 ∧ (hi / v1 * v2 > hi % v1 * 2147483648 + lo → nv f u (r + 1) / nv f a r ≤ hi / v1 - 1) ∧ (¬ hi / v1 * v2 > hi % v1 * 2147483648 + lo → hi / v1 < 2147483648 → hi / v1 ≤ nv f u (r + 1) / nv f a r + 1)) := by
  have hul := hu.mono (show r ≤ r + 1 by omega)
  have b0 := lb_in ha 0; have b1 := lb_in ha 1; have b2 := lb_in ha 2
  have w0 := hu r (by omega); have w1 := lb_in hul 0; have w2 := lb_in hul 1; have w3 := lb_in hul 2
  have hq := zp_pos s
  have htop := top_le hu ha hr hU
  have hT0 : 0 < lb f a r 0 := by
    rcases Int.lt_or_le 0 (lb f a r 0) with q | q
    · exact q
    · have : lb f a r 0 = 0 := by omega
      rw [this] at hlo; omega
  have hD := nv_pos ha hr hT0
  obtain ⟨m1, m2, m3, m4, m5⟩ := mvup (s := s) (by omega) b2
  obtain ⟨l1, l2, l3, l4, l5⟩ := mvup (s := s) (by omega) w2
  obtain ⟨k1, k2, k3, k4, k5⟩ := mvup (s := s) (by omega) w3
  obtain ⟨x1, x2, x3⟩ := up_in hs b0.1 hhi b1 ⟨m2, m3⟩
  have hwt : f (u + r) * 2 ^ s < 2147483648 := by
    have := Int.mul_le_mul_of_nonneg_right htop (show (0 : Int) ≤ 2 ^ s by omega); omega
  obtain ⟨y1, y2, y3⟩ := up_in hs w0.1 hwt w1 ⟨l2, l3⟩
  obtain ⟨v0, z1, z2, z3⟩ := dv_up (s := s) ha hr (by omega)
  obtain ⟨u0, t1, t2, t3⟩ := dd_up (s := s) hu hr (by omega)
  have hM : dvM f a r s = v1 * 2147483648 + v2 := by rw [e1, e2]; exact (dm _).symm
  have hMe : (lb f a r 0 * 2147483648 + lb f a r 1) * 2 ^ s + lb f a r 2 / 2 ^ (31 - s) = dvM f a r s := rfl
  rw [hMe] at x1 x2 x3 z3
  rw [← e3] at y1 y2 y3 t3
  rw [← e4] at t3
  have hv1 : 1073741824 ≤ v1 ∧ v1 < 2147483648 := by rw [e1]; omega
  have hv2 : 0 ≤ v2 ∧ v2 < 2147483648 := by rw [e2]; omega
  have hl : 0 ≤ lo ∧ lo < 2147483648 := by rw [e4]; omega
  have q1 := Int.mul_ediv_add_emod (nv f u (r + 1)) (nv f a r)
  have q2 := Int.emod_nonneg (nv f u (r + 1)) (show nv f a r ≠ 0 by omega)
  have q3 := Int.emod_lt_of_pos (nv f u (r + 1)) hD
  have hU0 := nv_ge hu
  have hq0 : 0 ≤ nv f u (r + 1) / nv f a r := Int.ediv_nonneg hU0 (by omega)
  have hq1 : nv f u (r + 1) / nv f a r < 2147483648 := Int.ediv_lt_of_lt_mul hD (by rw [Int.mul_comm]; exact hU)
  refine ⟨hv1, hv2, ⟨y1, y2⟩, hl, ⟨hq0, hq1⟩, ?_⟩
  rw [hM] at z3
  have hC : (0 : Int) < 4611686018427387904 * 2 ^ s := by omega
  generalize (4611686018427387904 : Int) * 2 ^ s = Cc at *
  generalize nv f u (r + 1) / nv f a r = Q at *
  generalize nv f u (r + 1) % nv f a r = Rm at *
  have h8 : Q * nv f a r ≤ nv f u (r + 1) := by rw [Int.mul_comm]; omega
  have h9 : nv f u (r + 1) < (Q + 1) * nv f a r := by rw [Int.add_mul, Int.one_mul, Int.mul_comm Q]; omega
  have h8 := Int.mul_le_mul_of_nonneg_right h8 (show 0 ≤ Cc by omega)
  have h9 := Int.mul_lt_mul_of_pos_right h9 hC
  rw [Int.mul_assoc, z3, t3] at h8
  rw [Int.mul_assoc (Q + 1), z3, t3] at h9
  exact knuth (v0 := v0) (w0 := u0) (P := 2147483648 ^ r) (by omega) hv2 ⟨z1, z2⟩ y1 hl ⟨t1, t2⟩ ⟨hq0, hq1⟩ h8 h9
set_option maxHeartbeats 4000000 in
set_option maxRecDepth 100000 in
theorem lp_guF {p : Program} {l : Launch} {e : Env} {R : Room} {s : State} {m : MethodId} {args : Array Value} {below : List Frame} {meth : Method} {c : Code} {D : va_G} {ad : Nat → Nat} {g : Nat × Nat × Nat × Nat} {Q : State → Prop} (C : Fx p s m args meth c D ad cX4_guessDigit 14 (some .long) yX4_guessDigit.cls tb) (hg : 3 ≤ g.1 ∧ g.1 ≤ 11 ∧ 8 ≤ g.2.1 ∧ g.2.1 ≤ 2048 ∧ 1 ≤ g.2.2.1 ∧ g.2.2.1 ≤ 24 ∧ 1 ≤ g.2.2.2 ∧ g.2.2.2 ≤ 12) (σ : St) (hL : LM g σ) (a r u : Nat) (hD : DVS g σ a r) (hur : u + r + 1 ≤ g.2.1) (hU : nv (σ 2) u (r + 1) < nv (σ 2) a r * 2147483648) (w1 w2 w3 : Int) (hw1 : w1 = lb (σ 2) u r 0) (hw2 : w2 = lb (σ 2) u r 1) (hw3 : w3 = lb (σ 2) u r 2) (K : ∀ (gz : Int) lv, nv (σ 2) u (r + 1) / nv (σ 2) a r ≤ gz → gz ≤ nv (σ 2) u (r + 1) / nv (σ 2) a r + 1 → X p l e R s m args below meth c D ad 14 Q (kc D ad g σ) 187 lv [vl gz]) : X p l e R s m args below meth c D ad 14 Q (kc D ad g σ) 71 [(5, vi w3), (4, vi w2), (3, vi w1), (2, vi ((u + r : Nat) : Int)), (0, .ref (ad 5)), (1, vi (u : Int))] [] := by
  obtain ⟨-, -, hr, har, s0, hs0, h53, hlo, hhi, h54, h55⟩ := hD
  have hlu := hL.lim (show u + (r + 1) ≤ g.2.1 by omega)
  have hla := hL.lim har
  have hul := hlu.mono (show r ≤ r + 1 by omega)
  obtain ⟨hi, ehi⟩ : ∃ hi, hi = (σ 2 (u + r) * 2147483648 + w1) * 2 ^ s0 + w2 / 2 ^ (31 - s0) := ⟨_, rfl⟩
  obtain ⟨lo, elo⟩ : ∃ lo, lo = w2 % 2 ^ (31 - s0) * 2 ^ s0 + w3 / 2 ^ (31 - s0) := ⟨_, rfl⟩
  obtain ⟨v1, ev1⟩ : ∃ v1, σ 5 4 = v1 := ⟨_, rfl⟩
  obtain ⟨v2, ev2⟩ : ∃ v2, σ 5 5 = v2 := ⟨_, rfl⟩
  obtain ⟨g1, g2, g3, g4, g5, g6, g7, g8, g9⟩ := guess_ok (hi := hi) (lo := lo) hlu hla hr hs0 hlo hhi hU (ev1.symm.trans h54) (ev2.symm.trans h55) (by rw [← hw1, ← hw2]; exact ehi) (by rw [← hw2, ← hw3]; exact elo)
  have r0 := hL (u + r) (by omega)
  have r1 := lb_in hul 0
  have r2 := lb_in hul 1
  have r3 := lb_in hul 2
  rw [← hw1] at r1
  rw [← hw2] at r2
  rw [← hw3] at r3
  obtain ⟨l1, l2, l3, l4, l5⟩ := mvup (s := s0) (by omega) r2
  obtain ⟨k1, k2, k3, k4, k5⟩ := mvup (s := s0) (by omega) r3
  have hz30 : (2 : Int) ^ s0 ≤ 2 ^ 30 := zp_le hs0
  refine x_aload_n C dX4_guessDigit_71 rfl rfl ?_
  refine x_get C (Cn := RX4) (T := TX4) (N := 6) (ci := 4) 0 dX4_guessDigit_72 m_w_4 m_f_RX4_9 rfl (by decide) rfl rfl ?_
  refine x_iload_n C dX4_guessDigit_75 rfl rfl ?_
  refine x_iald C dX4_guessDigit_76 rfl (by omega) (by omega) ?_
  rw [Int.toNat_natCast]
  refine x_i2l C dX4_guessDigit_77 (by omega) ?_
  refine x_bipush C (z := 31) dX4_guessDigit_78 (by decide) ?_
  refine x_lshl C dX4_guessDigit_80 (by omega) ?_
  rw [show (31 : Int).toNat = 31 from rfl, show (2 : Int) ^ 31 = 2147483648 from by decide]
  refine x_iload_n C dX4_guessDigit_81 rfl rfl ?_
  refine x_i2l C dX4_guessDigit_82 (by omega) ?_
  refine x_lor C (z := (σ 2 (u + r) * 2147483648 + w1)) dX4_guessDigit_83 (lI_or 31 (by decide) (c := σ 2 (u + r)) (by rw [show (2 : Int) ^ 31 = 2147483648 from by decide]) r0.1 (by rw [show (2 : Int) ^ 31 = 2147483648 from by decide]; exact r1) (by omega)) ?_
  refine x_aload_n C dX4_guessDigit_84 rfl rfl ?_
  refine x_get C (Cn := RX4) (T := TX4) (N := 6) (ci := 4) 3 dX4_guessDigit_85 m_w_4 m_f_RX4_90 rfl (by decide) rfl rfl ?_
  rw [h53]
  refine x_lshl C dX4_guessDigit_88 (by omega) ?_
  rw [Int.toNat_natCast]
  refine x_iload C dX4_guessDigit_89 rfl ?_
  refine x_bipush C (z := 31) dX4_guessDigit_91 (by decide) ?_
  refine x_aload_n C dX4_guessDigit_93 rfl rfl ?_
  refine x_get C (Cn := RX4) (T := TX4) (N := 6) (ci := 4) 3 dX4_guessDigit_94 m_w_4 m_f_RX4_90 rfl (by decide) rfl rfl ?_
  rw [h53]
  refine x_isub C dX4_guessDigit_97 ?_
  refine x_ishr C dX4_guessDigit_98 (by omega) (by omega) ?_
  rw [show ((31 : Int) - (s0 : Int)).toNat = 31 - s0 by omega]
  refine x_i2l C dX4_guessDigit_99 (by omega) ?_
  refine x_lor C (z := hi) dX4_guessDigit_100 (by rw [lI_or s0 (by omega) rfl (by omega) ⟨l2, l3⟩ (by omega), ← ehi]) ?_
  refine x_lstore C (lv' := [(6, _), (5, _), (4, _), (3, _), (2, _), (0, _), (1, _)]) dX4_guessDigit_101 (by decide) rfl ?_
  refine x_iload C dX4_guessDigit_103 rfl ?_
  refine x_i2l C dX4_guessDigit_105 (by omega) ?_
  refine x_aload_n C dX4_guessDigit_106 rfl rfl ?_
  refine x_get C (Cn := RX4) (T := TX4) (N := 6) (ci := 4) 3 dX4_guessDigit_107 m_w_4 m_f_RX4_90 rfl (by decide) rfl rfl ?_
  rw [h53]
  refine x_lshl C dX4_guessDigit_110 (by omega) ?_
  rw [Int.toNat_natCast]
  refine x_iload C dX4_guessDigit_111 rfl ?_
  refine x_bipush C (z := 31) dX4_guessDigit_113 (by decide) ?_
  refine x_aload_n C dX4_guessDigit_115 rfl rfl ?_
  refine x_get C (Cn := RX4) (T := TX4) (N := 6) (ci := 4) 3 dX4_guessDigit_116 m_w_4 m_f_RX4_90 rfl (by decide) rfl rfl ?_
  rw [h53]
  refine x_isub C dX4_guessDigit_119 ?_
  refine x_ishr C dX4_guessDigit_120 (by omega) (by omega) ?_
  rw [show ((31 : Int) - (s0 : Int)).toNat = 31 - s0 by omega]
  refine x_i2l C dX4_guessDigit_121 (by omega) ?_
  refine x_lor C (z := (w2 * 2 ^ s0 + w3 / 2 ^ (31 - s0))) dX4_guessDigit_122 (lI_or s0 (by omega) rfl r2.1 ⟨k2, k3⟩ (by omega)) ?_
  refine x_ldc2 C (z := 2147483647) dX4_guessDigit_123 (C.2.2.2.2.1 _ m_k_RX4_15) (by decide) ?_
  refine x_land C (z := lo) dX4_guessDigit_126 (by rw [lI_mask, elo]; congr 1; omega) ?_
  refine x_lstore C (lv' := [(8, _), (6, _), (5, _), (4, _), (3, _), (2, _), (0, _), (1, _)]) dX4_guessDigit_127 (by decide) rfl ?_
  refine x_lload C dX4_guessDigit_129 rfl ?_
  refine x_aload_n C dX4_guessDigit_131 rfl rfl ?_
  refine x_get C (Cn := RX4) (T := TX4) (N := 6) (ci := 4) 4 dX4_guessDigit_132 m_w_4 m_f_RX4_93 rfl (by decide) rfl rfl ?_
  rw [ev1]
  refine x_ldiv C (z := (hi / v1)) dX4_guessDigit_135 (fun q => by have := (lI_eq (show -9223372036854775808 ≤ v1 ∧ v1 < 9223372036854775808 by omega) (show -9223372036854775808 ≤ (0 : Int) ∧ (0 : Int) < 9223372036854775808 by omega)).mp q; omega) (lI_div (by omega) (by omega)) ?_
  refine x_lstore C (lv' := [(10, _), (8, _), (6, _), (5, _), (4, _), (3, _), (2, _), (0, _), (1, _)]) dX4_guessDigit_136 (by decide) rfl ?_
  refine x_lload C dX4_guessDigit_138 rfl ?_
  refine x_lload C dX4_guessDigit_140 rfl ?_
  refine x_aload_n C dX4_guessDigit_142 rfl rfl ?_
  refine x_get C (Cn := RX4) (T := TX4) (N := 6) (ci := 4) 4 dX4_guessDigit_143 m_w_4 m_f_RX4_93 rfl (by decide) rfl rfl ?_
  rw [ev1]
  refine x_lmul C dX4_guessDigit_146 ?_
  refine x_lsub C dX4_guessDigit_147 ?_
  have erest : hi - hi / v1 * v1 = hi % v1 := by rw [Int.emod_def, Int.mul_comm v1]
  rw [erest]
  have rr0 := Int.emod_nonneg hi (show v1 ≠ 0 by omega)
  have rr1 := Int.emod_lt_of_pos hi (show 0 < v1 by omega)
  have hdl : hi / v1 ≤ hi := Int.ediv_le_self v1 (by omega)
  refine x_lstore C (lv' := [(12, _), (10, _), (8, _), (6, _), (5, _), (4, _), (3, _), (2, _), (0, _), (1, _)]) dX4_guessDigit_148 (by decide) rfl ?_
  refine x_lload C dX4_guessDigit_150 rfl ?_
  refine x_ldc2 C (z := 2147483647) dX4_guessDigit_152 (C.2.2.2.2.1 _ m_k_RX4_15) (by decide) ?_
  refine x_lif_gt (tgt := 178) C dX4_guessDigit_155 dX4_guessDigit_156 (by decide) (by omega) (by omega) (fun c_155 => ?_) (fun c_155 => ?_)
  · refine x_lload C dX4_guessDigit_178 rfl ?_
    refine x_lconst1 C dX4_guessDigit_180 ?_
    refine x_lsub C dX4_guessDigit_181 ?_
    refine x_goto (tgt := 187) C dX4_guessDigit_182 (by decide) ?_
    first
    | exact K _ _ (by omega) (by omega)
    | exact K _ _ (by have := g8 (by omega); omega) (by omega)
    | exact K _ _ (by omega) (g9 (by omega) (by omega))
  · refine x_lload C dX4_guessDigit_159 rfl ?_
    refine x_aload_n C dX4_guessDigit_161 rfl rfl ?_
    refine x_get C (Cn := RX4) (T := TX4) (N := 6) (ci := 4) 5 dX4_guessDigit_162 m_w_4 m_f_RX4_97 rfl (by decide) rfl rfl ?_
    rw [ev2]
    refine x_lmul C dX4_guessDigit_165 ?_
    have hmm := mulB (x := hi / v1) (y := v2) (by omega) g2
    refine x_lload C dX4_guessDigit_166 rfl ?_
    refine x_bipush C (z := 31) dX4_guessDigit_168 (by decide) ?_
    refine x_lshl C dX4_guessDigit_170 (by omega) ?_
    rw [show (31 : Int).toNat = 31 from rfl, show (2 : Int) ^ 31 = 2147483648 from by decide]
    refine x_lload C dX4_guessDigit_171 rfl ?_
    refine x_lor C (z := (hi % v1 * 2147483648 + lo)) dX4_guessDigit_173 (lI_or 31 (by decide) (c := hi % v1) (by rw [show (2 : Int) ^ 31 = 2147483648 from by decide]) rr0 (by rw [show (2 : Int) ^ 31 = 2147483648 from by decide]; exact g4) (by omega)) ?_
    refine x_lif_le (tgt := 185) C dX4_guessDigit_174 dX4_guessDigit_175 (by decide) (by omega) (by omega) (fun c_174 => ?_) (fun c_174 => ?_)
    · refine x_lload C dX4_guessDigit_185 rfl ?_
      first
      | exact K _ _ (by omega) (by omega)
      | exact K _ _ (by have := g8 (by omega); omega) (by omega)
      | exact K _ _ (by omega) (g9 (by omega) (by omega))
    · refine x_lload C dX4_guessDigit_178 rfl ?_
      refine x_lconst1 C dX4_guessDigit_180 ?_
      refine x_lsub C dX4_guessDigit_181 ?_
      refine x_goto (tgt := 187) C dX4_guessDigit_182 (by decide) ?_
      first
      | exact K _ _ (by omega) (by omega)
      | exact K _ _ (by have := g8 (by omega); omega) (by omega)
      | exact K _ _ (by omega) (g9 (by omega) (by omega))
set_option maxHeartbeats 4000000 in
set_option maxRecDepth 100000 in
theorem c_guessDigit {l : Launch} {D : va_G} {ad : Nat → Nat} {g : Nat × Nat × Nat × Nat} (hg : 3 ≤ g.1 ∧ g.1 ≤ 11 ∧ 8 ≤ g.2.1 ∧ g.2.1 ≤ 2048 ∧ 1 ≤ g.2.2.1 ∧ g.2.2.1 ≤ 24 ∧ 1 ≤ g.2.2.2 ∧ g.2.2.2 ≤ 12) (σ : St) (hL : LM g σ) (a r u : Nat) (hD : DVS g σ a r) (hur : u + r + 1 ≤ g.2.1) (hU : nv (σ 2) u (r + 1) < nv (σ 2) a r * 2147483648) : Kt l D ad g yX4_guessDigit (Cond.code yX4_guessDigit cX4_guessDigit 14 (some .long) :: tb) 0 0 [.ref (ad 5), vi (u : Int)] σ (fun v σ' => σ = σ' ∧ ∃ gz : Int, v = some (vl gz) ∧ nv (σ 2) u (r + 1) / nv (σ 2) a r ≤ gz ∧ gz ≤ nv (σ 2) u (r + 1) / nv (σ 2) a r + 1) := by
  refine ct_of (by decide) rfl (Nat.le_of_ble_eq_true rfl) ?_
  intro p e s m below meth c C
  change X _ _ _ _ _ _ _ _ _ _ _ _ _ _ _ _ [(0, .ref (ad 5)), (1, vi (u : Int))] _
  have hD0 := hD
  obtain ⟨h51, h52, hr, har, s0, hs0, h53, hlo, hhi, h54, h55⟩ := hD0
  have hg1 := (guess_ok (hL.lim (show u + (r + 1) ≤ g.2.1 by omega)) (hL.lim har) hr hs0 hlo hhi hU h54 h55 rfl rfl).1
  refine x_aload_n C dX4_guessDigit_0 rfl rfl ?_
  refine x_get C (Cn := RX4) (T := TX4) (N := 6) (ci := 4) 4 dX4_guessDigit_1 m_w_4 m_f_RX4_93 rfl (by decide) rfl rfl ?_
  refine x_lconst0 C dX4_guessDigit_4 ?_
  refine x_lif_ne (tgt := 11) C dX4_guessDigit_5 dX4_guessDigit_6 (by decide) (by omega) (by omega) (fun c_5 => ?_) (fun c_5 => ?_)
  · refine x_iload_n C dX4_guessDigit_11 rfl rfl ?_
    refine x_aload_n C dX4_guessDigit_12 rfl rfl ?_
    refine x_get C (Cn := RX4) (T := TX4) (N := 6) (ci := 4) 2 dX4_guessDigit_13 m_w_4 m_f_RX4_38 rfl (by decide) rfl rfl ?_
    rw [h52]
    refine x_iadd C dX4_guessDigit_16 ?_
    rw [show (u : Int) + (r : Int) = ((u + r : Nat) : Int) by omega]
    refine x_istore_n C (lv' := [(2, _), (0, _), (1, _)]) dX4_guessDigit_17 rfl (by decide) rfl ?_
    refine x_aload_n C dX4_guessDigit_18 rfl rfl ?_
    refine x_get C (Cn := RX4) (T := TX4) (N := 6) (ci := 4) 0 dX4_guessDigit_19 m_w_4 m_f_RX4_9 rfl (by decide) rfl rfl ?_
    refine x_iload_n C dX4_guessDigit_22 rfl rfl ?_
    refine x_iconst C dX4_guessDigit_23 ?_
    refine x_isub C dX4_guessDigit_24 ?_
    refine x_iald C dX4_guessDigit_25 rfl (by omega) (by omega) ?_
    rw [show (((u + r : Nat) : Int) - 1).toNat = u + (r - 1) by omega]
    refine x_istore_n C (lv' := [(3, _), (2, _), (0, _), (1, _)]) dX4_guessDigit_26 rfl (by decide) rfl ?_
    refine x_aload_n C dX4_guessDigit_27 rfl rfl ?_
    refine x_get C (Cn := RX4) (T := TX4) (N := 6) (ci := 4) 2 dX4_guessDigit_28 m_w_4 m_f_RX4_38 rfl (by decide) rfl rfl ?_
    rw [h52]
    refine x_iconst C dX4_guessDigit_31 ?_
    refine x_icmp_le (tgt := 46) C dX4_guessDigit_32 (by decide) (by omega) (by omega) (fun c_32 => ?_) (fun c_32 => ?_)
    · refine x_iconst C dX4_guessDigit_46 ?_
      refine x_istore C (lv' := [(4, _), (3, _), (2, _), (0, _), (1, _)]) dX4_guessDigit_47 (by decide) rfl ?_
      refine x_aload_n C dX4_guessDigit_49 rfl rfl ?_
      refine x_get C (Cn := RX4) (T := TX4) (N := 6) (ci := 4) 2 dX4_guessDigit_50 m_w_4 m_f_RX4_38 rfl (by decide) rfl rfl ?_
      rw [h52]
      refine x_iconst C dX4_guessDigit_53 ?_
      refine x_icmp_le (tgt := 68) C dX4_guessDigit_54 (by decide) (by omega) (by omega) (fun c_54 => ?_) (fun c_54 => ?_)
      · refine x_iconst C dX4_guessDigit_68 ?_
        refine x_istore C (lv' := [(5, _), (4, _), (3, _), (2, _), (0, _), (1, _)]) dX4_guessDigit_69 (by decide) rfl ?_
        refine lp_guF C hg σ hL a r u hD hur hU _ _ _ (by unfold lb; rw [if_pos (by omega)]) (by unfold lb; first | (exfalso; omega) | rw [if_pos (by omega)] | rw [if_neg (by omega)]) (by unfold lb; first | (exfalso; omega) | rw [if_pos (by omega)] | rw [if_neg (by omega)]) ?_
        intro gz lv d1 d2
        exact x_lret C dX4_guessDigit_187 ⟨_, rfl, rfl, gz, rfl, d1, d2⟩
      · refine x_aload_n C dX4_guessDigit_57 rfl rfl ?_
        refine x_get C (Cn := RX4) (T := TX4) (N := 6) (ci := 4) 0 dX4_guessDigit_58 m_w_4 m_f_RX4_9 rfl (by decide) rfl rfl ?_
        refine x_iload_n C dX4_guessDigit_61 rfl rfl ?_
        refine x_iconst C dX4_guessDigit_62 ?_
        refine x_isub C dX4_guessDigit_63 ?_
        refine x_iald C dX4_guessDigit_64 rfl (by omega) (by omega) ?_
        rw [show (((u + r : Nat) : Int) - 3).toNat = u + (r - 3) by omega]
        refine x_goto (tgt := 69) C dX4_guessDigit_65 (by decide) ?_
        refine x_istore C (lv' := [(5, _), (4, _), (3, _), (2, _), (0, _), (1, _)]) dX4_guessDigit_69 (by decide) rfl ?_
        refine lp_guF C hg σ hL a r u hD hur hU _ _ _ (by unfold lb; rw [if_pos (by omega)]) (by unfold lb; first | (exfalso; omega) | rw [if_pos (by omega)] | rw [if_neg (by omega)]) (by unfold lb; first | (exfalso; omega) | rw [if_pos (by omega)] | rw [if_neg (by omega)]) ?_
        intro gz lv d1 d2
        exact x_lret C dX4_guessDigit_187 ⟨_, rfl, rfl, gz, rfl, d1, d2⟩
    · refine x_aload_n C dX4_guessDigit_35 rfl rfl ?_
      refine x_get C (Cn := RX4) (T := TX4) (N := 6) (ci := 4) 0 dX4_guessDigit_36 m_w_4 m_f_RX4_9 rfl (by decide) rfl rfl ?_
      refine x_iload_n C dX4_guessDigit_39 rfl rfl ?_
      refine x_iconst C dX4_guessDigit_40 ?_
      refine x_isub C dX4_guessDigit_41 ?_
      refine x_iald C dX4_guessDigit_42 rfl (by omega) (by omega) ?_
      rw [show (((u + r : Nat) : Int) - 2).toNat = u + (r - 2) by omega]
      refine x_goto (tgt := 47) C dX4_guessDigit_43 (by decide) ?_
      refine x_istore C (lv' := [(4, _), (3, _), (2, _), (0, _), (1, _)]) dX4_guessDigit_47 (by decide) rfl ?_
      refine x_aload_n C dX4_guessDigit_49 rfl rfl ?_
      refine x_get C (Cn := RX4) (T := TX4) (N := 6) (ci := 4) 2 dX4_guessDigit_50 m_w_4 m_f_RX4_38 rfl (by decide) rfl rfl ?_
      rw [h52]
      refine x_iconst C dX4_guessDigit_53 ?_
      refine x_icmp_le (tgt := 68) C dX4_guessDigit_54 (by decide) (by omega) (by omega) (fun c_54 => ?_) (fun c_54 => ?_)
      · refine x_iconst C dX4_guessDigit_68 ?_
        refine x_istore C (lv' := [(5, _), (4, _), (3, _), (2, _), (0, _), (1, _)]) dX4_guessDigit_69 (by decide) rfl ?_
        refine lp_guF C hg σ hL a r u hD hur hU _ _ _ (by unfold lb; rw [if_pos (by omega)]) (by unfold lb; first | (exfalso; omega) | rw [if_pos (by omega)] | rw [if_neg (by omega)]) (by unfold lb; first | (exfalso; omega) | rw [if_pos (by omega)] | rw [if_neg (by omega)]) ?_
        intro gz lv d1 d2
        exact x_lret C dX4_guessDigit_187 ⟨_, rfl, rfl, gz, rfl, d1, d2⟩
      · refine x_aload_n C dX4_guessDigit_57 rfl rfl ?_
        refine x_get C (Cn := RX4) (T := TX4) (N := 6) (ci := 4) 0 dX4_guessDigit_58 m_w_4 m_f_RX4_9 rfl (by decide) rfl rfl ?_
        refine x_iload_n C dX4_guessDigit_61 rfl rfl ?_
        refine x_iconst C dX4_guessDigit_62 ?_
        refine x_isub C dX4_guessDigit_63 ?_
        refine x_iald C dX4_guessDigit_64 rfl (by omega) (by omega) ?_
        rw [show (((u + r : Nat) : Int) - 3).toNat = u + (r - 3) by omega]
        refine x_goto (tgt := 69) C dX4_guessDigit_65 (by decide) ?_
        refine x_istore C (lv' := [(5, _), (4, _), (3, _), (2, _), (0, _), (1, _)]) dX4_guessDigit_69 (by decide) rfl ?_
        refine lp_guF C hg σ hL a r u hD hur hU _ _ _ (by unfold lb; rw [if_pos (by omega)]) (by unfold lb; first | (exfalso; omega) | rw [if_pos (by omega)] | rw [if_neg (by omega)]) (by unfold lb; first | (exfalso; omega) | rw [if_pos (by omega)] | rw [if_neg (by omega)]) ?_
        intro gz lv d1 d2
        exact x_lret C dX4_guessDigit_187 ⟨_, rfl, rfl, gz, rfl, d1, d2⟩
  · omega
end
section
/-! TAKING A MULTIPLE AWAY -/
theorem sub_step {F f : Nat → Int} {u a j : Nat} {G cy L : Int} (hLe : L = F (u + j) + cy - G * F (a + j)) (heq : nv f u j + cy * 2147483648 ^ j = nv F u j - G * nv F a j) :
    nv (zup f (u + j) (L % 2147483648)) u (j + 1) + L / 2147483648 * 2147483648 ^ (j + 1) = nv F u (j + 1) - G * nv F a (j + 1) := by
  rw [nv_s, nv_s, nv_s, zup_s, bp_s, nv_ext (g := f) (b := u) (fun i hi => zup_n (by omega))]
  have h1 := dmP L (2147483648 ^ j)
  have h2 : L * 2147483648 ^ j = F (u + j) * 2147483648 ^ j + cy * 2147483648 ^ j - G * F (a + j) * 2147483648 ^ j := by rw [hLe, Int.sub_mul, Int.add_mul]
  have h3 : G * (nv F a j + F (a + j) * 2147483648 ^ j) = G * nv F a j + G * F (a + j) * 2147483648 ^ j := by rw [Int.mul_add, Int.mul_assoc]
  omega
/-- a number below 2^(31 r) and a multiple of that -/
theorem split_u {N x t P : Int} (hP : 0 < P) (hN : 0 ≤ N ∧ N < P) (h : x = N + t * P) : (0 ≤ x → x < P → t = 0 ∧ N = x) ∧ (x < 0 → -P ≤ x → t = -1 ∧ N = x + P) := by
  constructor
  · intro h0 h1
    have ht : t = 0 := by
      rcases Int.lt_trichotomy t 0 with q | q | q
      · have := Int.mul_le_mul_of_nonneg_right (show t ≤ -1 by omega) (show 0 ≤ P by omega); omega
      · exact q
      · have := Int.mul_le_mul_of_nonneg_right (show 1 ≤ t by omega) (show 0 ≤ P by omega); omega
    subst ht; omega
  · intro h0 h1
    have ht : t = -1 := by
      rcases Int.lt_trichotomy t (-1) with q | q | q
      · have := Int.mul_le_mul_of_nonneg_right (show t ≤ -2 by omega) (show 0 ≤ P by omega); omega
      · exact q
      · have := Int.mul_le_mul_of_nonneg_right (show 0 ≤ t by omega) (show 0 ≤ P by omega); omega
    subst ht; omega
set_option maxHeartbeats 4000000 in
set_option maxRecDepth 100000 in
theorem lp_subA {p : Program} {l : Launch} {e : Env} {R : Room} {s : State} {m : MethodId} {args : Array Value} {below : List Frame} {meth : Method} {c : Code} {D : va_G} {ad : Nat → Nat} {g : Nat × Nat × Nat × Nat} {Q : State → Prop} (C : Fx p s m args meth c D ad cX4_subtractTimes 11 (some .int) yX4_subtractTimes.cls tb) (hg : 3 ≤ g.1 ∧ g.1 ≤ 11 ∧ 8 ≤ g.2.1 ∧ g.2.1 ≤ 2048 ∧ 1 ≤ g.2.2.1 ∧ g.2.2.1 ≤ 24 ∧ 1 ≤ g.2.2.2 ∧ g.2.2.2 ≤ 12) (σ : St) (a r u : Nat) (h51 : σ 5 1 = a) (h52 : σ 5 2 = r) (hr : 0 < r) (har : a + r ≤ g.2.1) (hur : u + r + 1 ≤ g.2.1) (hdis : a + r ≤ u ∨ u + r + 1 ≤ a) (G : Int) (hG : 0 ≤ G ∧ G ≤ 2147483648) (K : ∀ (σ' : St) (cy : Int), LM g σ' → (∀ q, q ≠ 2 → σ' q = σ q) → (∀ q, ¬ (u ≤ q ∧ q < u + r) → σ' 2 q = σ 2 q) → -2147483648 ≤ cy ∧ cy ≤ 0 → nv (σ' 2) u r + cy * 2147483648 ^ r = nv (σ 2) u r - G * nv (σ 2) a r → X p l e R s m args below meth c D ad 11 Q (kc D ad g σ') 83 [(6, vi (r : Int)), (4, vl cy), (0, .ref (ad 5)), (1, vi (u : Int)), (2, vl G)] []) (n j : Nat) (hn : r - j < n) (hj : j ≤ r) (cy : Int) (hcy : -2147483648 ≤ cy ∧ cy ≤ 0) (σ1 : St) (hL : LM g σ1) (hrow : ∀ q, q ≠ 2 → σ1 q = σ q) (hfr : ∀ q, ¬ (u ≤ q ∧ q < u + j) → σ1 2 q = σ 2 q) (heq : nv (σ1 2) u j + cy * 2147483648 ^ j = nv (σ 2) u j - G * nv (σ 2) a j) : X p l e R s m args below meth c D ad 11 Q (kc D ad g σ1) 14 [(6, vi (j : Int)), (4, vl cy), (0, .ref (ad 5)), (1, vi (u : Int)), (2, vl G)] [] := by
  induction n generalizing j cy σ1 with
  | zero => omega
  | succ n ih =>
  have hrow5 := hrow 5 (by decide)
  refine x_iload C dX4_subtractTimes_14 rfl ?_
  refine x_aload_n C dX4_subtractTimes_16 rfl rfl ?_
  refine x_get C (Cn := RX4) (T := TX4) (N := 6) (ci := 4) 2 dX4_subtractTimes_17 m_w_4 m_f_RX4_38 rfl (by decide) rfl rfl ?_
  rw [hrow5, h52]
  refine x_icmp_ge (tgt := 83) C dX4_subtractTimes_20 (by decide) (by omega) (by omega) (fun c_20 => ?_) (fun c_20 => ?_)
  · obtain rfl : j = r := by omega
    exact K σ1 cy hL hrow hfr hcy heq
  · refine x_aload_n C dX4_subtractTimes_23 rfl rfl ?_
    refine x_get C (Cn := RX4) (T := TX4) (N := 6) (ci := 4) 0 dX4_subtractTimes_24 m_w_4 m_f_RX4_9 rfl (by decide) rfl rfl ?_
    refine x_iload_n C dX4_subtractTimes_27 rfl rfl ?_
    refine x_iload C dX4_subtractTimes_28 rfl ?_
    refine x_iadd C dX4_subtractTimes_30 ?_
    refine x_iald C dX4_subtractTimes_31 rfl (by omega) (by omega) ?_
    rw [show ((u : Int) + (j : Int)).toNat = u + j by omega]
    have hl1 := hL (u + j) (by omega)
    refine x_i2l C dX4_subtractTimes_32 (by omega) ?_
    refine x_lload C dX4_subtractTimes_33 rfl ?_
    refine x_ladd C dX4_subtractTimes_35 ?_
    refine x_lload_n C dX4_subtractTimes_36 rfl rfl ?_
    refine x_aload_n C dX4_subtractTimes_37 rfl rfl ?_
    refine x_get C (Cn := RX4) (T := TX4) (N := 6) (ci := 4) 0 dX4_subtractTimes_38 m_w_4 m_f_RX4_9 rfl (by decide) rfl rfl ?_
    refine x_aload_n C dX4_subtractTimes_41 rfl rfl ?_
    refine x_get C (Cn := RX4) (T := TX4) (N := 6) (ci := 4) 1 dX4_subtractTimes_42 m_w_4 m_f_RX4_53 rfl (by decide) rfl rfl ?_
    rw [hrow5, h51]
    refine x_iload C dX4_subtractTimes_45 rfl ?_
    refine x_iadd C dX4_subtractTimes_47 ?_
    refine x_iald C dX4_subtractTimes_48 rfl (by omega) (by omega) ?_
    rw [show ((a : Int) + (j : Int)).toNat = a + j by omega]
    have hl2 := hL (a + j) (by omega)
    refine x_i2l C dX4_subtractTimes_49 (by omega) ?_
    refine x_lmul C dX4_subtractTimes_50 ?_
    refine x_lsub C dX4_subtractTimes_51 ?_
    have e1 := hfr (u + j) (by omega)
    have e2 := hfr (a + j) (by omega)
    rw [e1] at hl1
    rw [e2] at hl2
    rw [e1, e2]
    have hm1 : 0 ≤ G * σ 2 (a + j) := Int.mul_nonneg hG.1 hl2.1
    have hm2 : G * σ 2 (a + j) ≤ 2147483648 * σ 2 (a + j) := Int.mul_le_mul_of_nonneg_right hG.2 hl2.1
    obtain ⟨s0, es⟩ : ∃ s0, s0 = σ 2 (u + j) + cy - G * σ 2 (a + j) := ⟨_, rfl⟩
    rw [← es]
    have hs0 : -4611686018427387904 ≤ s0 ∧ s0 < 2147483648 := by rw [es]; omega
    refine x_lstore C (lv' := [(7, _), (6, _), (4, _), (0, _), (1, _), (2, _)]) dX4_subtractTimes_52 (by decide) rfl ?_
    refine x_aload_n C dX4_subtractTimes_54 rfl rfl ?_
    refine x_get C (Cn := RX4) (T := TX4) (N := 6) (ci := 4) 0 dX4_subtractTimes_55 m_w_4 m_f_RX4_9 rfl (by decide) rfl rfl ?_
    refine x_iload_n C dX4_subtractTimes_58 rfl rfl ?_
    refine x_iload C dX4_subtractTimes_59 rfl ?_
    refine x_iadd C dX4_subtractTimes_61 ?_
    refine x_lload C dX4_subtractTimes_62 rfl ?_
    refine x_ldc2 C (z := 2147483647) dX4_subtractTimes_64 (C.2.2.2.2.1 _ m_k_RX4_15) (by decide) ?_
    refine x_land C (z := (s0 % 2147483648)) dX4_subtractTimes_67 (lI_mask s0) ?_
    refine x_l2i C dX4_subtractTimes_68 ?_
    refine k_ast C dX4_subtractTimes_69 (fun _ => rfl) (by omega) (by omega) ?_
    rw [show ((u : Int) + (j : Int)).toNat = u + j by omega]
    refine x_lload C dX4_subtractTimes_70 rfl ?_
    refine x_bipush C (z := 31) dX4_subtractTimes_72 (by decide) ?_
    refine x_lshr C dX4_subtractTimes_74 (by omega) (by omega) ?_
    rw [show (31 : Int).toNat = 31 from rfl, show (2 : Int) ^ 31 = 2147483648 from by decide]
    refine x_lstore C (lv' := [(4, _), (7, _), (6, _), (0, _), (1, _), (2, _)]) dX4_subtractTimes_75 (by decide) rfl ?_
    refine x_iinc C (lv' := [(6, _), (4, _), (7, _), (0, _), (1, _), (2, _)]) dX4_subtractTimes_77 rfl (by decide) rfl ?_
    refine x_goto (tgt := 14) C dX4_subtractTimes_80 (by decide) ?_
    refine X.sub [0, 1, 3, 4, 5] rfl ?_
    rw [show (j : Int) + 1 = ((j + 1 : Nat) : Int) by omega]
    have hst := sub_step es heq
    refine ih (j + 1) (by omega) (by omega) _ (by omega) _ (hL.up (by omega)) ?_ ?_ ?_
    · intro q hq; rw [up_n hq]; exact hrow q hq
    · intro q hq; rw [up_s, zup_n (by omega)]; exact hfr q (by omega)
    · rw [up_s]; exact hst
set_option maxHeartbeats 4000000 in
set_option maxRecDepth 100000 in
theorem lp_subB {p : Program} {l : Launch} {e : Env} {R : Room} {s : State} {m : MethodId} {args : Array Value} {below : List Frame} {meth : Method} {c : Code} {D : va_G} {ad : Nat → Nat} {g : Nat × Nat × Nat × Nat} {Q : State → Prop} (C : Fx p s m args meth c D ad cX4_subtractTimes 11 (some .int) yX4_subtractTimes.cls tb) (hg : 3 ≤ g.1 ∧ g.1 ≤ 11 ∧ 8 ≤ g.2.1 ∧ g.2.1 ≤ 2048 ∧ 1 ≤ g.2.2.1 ∧ g.2.2.1 ≤ 24 ∧ 1 ≤ g.2.2.2 ∧ g.2.2.2 ≤ 12) (σ : St) (a r u : Nat) (h51 : σ 5 1 = a) (h52 : σ 5 2 = r) (hr : 0 < r) (har : a + r ≤ g.2.1) (hur : u + r + 1 ≤ g.2.1) (hdis : a + r ≤ u ∨ u + r + 1 ≤ a) (G : Int) (K : ∀ (σ' : St) (cy : Int), LM g σ' → (∀ q, q ≠ 2 → σ' q = σ q) → (∀ q, ¬ (u ≤ q ∧ q < u + r) → σ' 2 q = σ 2 q) → 0 ≤ cy ∧ cy ≤ 1 → nv (σ' 2) u r + cy * 2147483648 ^ r = nv (σ 2) u r - (-1) * nv (σ 2) a r → X p l e R s m args below meth c D ad 11 Q (kc D ad g σ') 195 [(8, vi (r : Int)), (4, vl cy), (0, .ref (ad 5)), (1, vi (u : Int)), (2, vl G)] []) (n j : Nat) (hn : r - j < n) (hj : j ≤ r) (cy : Int) (hcy : 0 ≤ cy ∧ cy ≤ 1) (σ1 : St) (hL : LM g σ1) (hrow : ∀ q, q ≠ 2 → σ1 q = σ q) (hfr : ∀ q, ¬ (u ≤ q ∧ q < u + j) → σ1 2 q = σ 2 q) (heq : nv (σ1 2) u j + cy * 2147483648 ^ j = nv (σ 2) u j - (-1) * nv (σ 2) a j) : X p l e R s m args below meth c D ad 11 Q (kc D ad g σ1) 128 [(8, vi (j : Int)), (4, vl cy), (0, .ref (ad 5)), (1, vi (u : Int)), (2, vl G)] [] := by
  induction n generalizing j cy σ1 with
  | zero => omega
  | succ n ih =>
  have hrow5 := hrow 5 (by decide)
  refine x_iload C dX4_subtractTimes_128 rfl ?_
  refine x_aload_n C dX4_subtractTimes_130 rfl rfl ?_
  refine x_get C (Cn := RX4) (T := TX4) (N := 6) (ci := 4) 2 dX4_subtractTimes_131 m_w_4 m_f_RX4_38 rfl (by decide) rfl rfl ?_
  rw [hrow5, h52]
  refine x_icmp_ge (tgt := 195) C dX4_subtractTimes_134 (by decide) (by omega) (by omega) (fun c_134 => ?_) (fun c_134 => ?_)
  · obtain rfl : j = r := by omega
    exact K σ1 cy hL hrow hfr hcy heq
  · refine x_aload_n C dX4_subtractTimes_137 rfl rfl ?_
    refine x_get C (Cn := RX4) (T := TX4) (N := 6) (ci := 4) 0 dX4_subtractTimes_138 m_w_4 m_f_RX4_9 rfl (by decide) rfl rfl ?_
    refine x_iload_n C dX4_subtractTimes_141 rfl rfl ?_
    refine x_iload C dX4_subtractTimes_142 rfl ?_
    refine x_iadd C dX4_subtractTimes_144 ?_
    refine x_iald C dX4_subtractTimes_145 rfl (by omega) (by omega) ?_
    rw [show ((u : Int) + (j : Int)).toNat = u + j by omega]
    have hl1 := hL (u + j) (by omega)
    refine x_i2l C dX4_subtractTimes_146 (by omega) ?_
    refine x_lload C dX4_subtractTimes_147 rfl ?_
    refine x_ladd C dX4_subtractTimes_149 ?_
    refine x_aload_n C dX4_subtractTimes_150 rfl rfl ?_
    refine x_get C (Cn := RX4) (T := TX4) (N := 6) (ci := 4) 0 dX4_subtractTimes_151 m_w_4 m_f_RX4_9 rfl (by decide) rfl rfl ?_
    refine x_aload_n C dX4_subtractTimes_154 rfl rfl ?_
    refine x_get C (Cn := RX4) (T := TX4) (N := 6) (ci := 4) 1 dX4_subtractTimes_155 m_w_4 m_f_RX4_53 rfl (by decide) rfl rfl ?_
    rw [hrow5, h51]
    refine x_iload C dX4_subtractTimes_158 rfl ?_
    refine x_iadd C dX4_subtractTimes_160 ?_
    refine x_iald C dX4_subtractTimes_161 rfl (by omega) (by omega) ?_
    rw [show ((a : Int) + (j : Int)).toNat = a + j by omega]
    have hl2 := hL (a + j) (by omega)
    refine x_i2l C dX4_subtractTimes_162 (by omega) ?_
    refine x_ladd C dX4_subtractTimes_163 ?_
    have e1 := hfr (u + j) (by omega)
    have e2 := hfr (a + j) (by omega)
    rw [e1] at hl1
    rw [e2] at hl2
    rw [e1, e2]
    
    obtain ⟨s0, es⟩ : ∃ s0, s0 = σ 2 (u + j) + cy - (-1) * σ 2 (a + j) := ⟨_, rfl⟩
    rw [show σ 2 (u + j) + cy + σ 2 (a + j) = s0 by rw [es]; omega]
    have hs0 : 0 ≤ s0 ∧ s0 < 4294967296 := by rw [es]; omega
    refine x_lstore C (lv' := [(9, _), (8, _), (4, _), (0, _), (1, _), (2, _)]) dX4_subtractTimes_164 (by decide) rfl ?_
    refine x_aload_n C dX4_subtractTimes_166 rfl rfl ?_
    refine x_get C (Cn := RX4) (T := TX4) (N := 6) (ci := 4) 0 dX4_subtractTimes_167 m_w_4 m_f_RX4_9 rfl (by decide) rfl rfl ?_
    refine x_iload_n C dX4_subtractTimes_170 rfl rfl ?_
    refine x_iload C dX4_subtractTimes_171 rfl ?_
    refine x_iadd C dX4_subtractTimes_173 ?_
    refine x_lload C dX4_subtractTimes_174 rfl ?_
    refine x_ldc2 C (z := 2147483647) dX4_subtractTimes_176 (C.2.2.2.2.1 _ m_k_RX4_15) (by decide) ?_
    refine x_land C (z := (s0 % 2147483648)) dX4_subtractTimes_179 (lI_mask s0) ?_
    refine x_l2i C dX4_subtractTimes_180 ?_
    refine k_ast C dX4_subtractTimes_181 (fun _ => rfl) (by omega) (by omega) ?_
    rw [show ((u : Int) + (j : Int)).toNat = u + j by omega]
    refine x_lload C dX4_subtractTimes_182 rfl ?_
    refine x_bipush C (z := 31) dX4_subtractTimes_184 (by decide) ?_
    refine x_lshr C dX4_subtractTimes_186 (by omega) (by omega) ?_
    rw [show (31 : Int).toNat = 31 from rfl, show (2 : Int) ^ 31 = 2147483648 from by decide]
    refine x_lstore C (lv' := [(4, _), (9, _), (8, _), (0, _), (1, _), (2, _)]) dX4_subtractTimes_187 (by decide) rfl ?_
    refine x_iinc C (lv' := [(8, _), (4, _), (9, _), (0, _), (1, _), (2, _)]) dX4_subtractTimes_189 rfl (by decide) rfl ?_
    refine x_goto (tgt := 128) C dX4_subtractTimes_192 (by decide) ?_
    refine X.sub [0, 1, 3, 4, 5] rfl ?_
    rw [show (j : Int) + 1 = ((j + 1 : Nat) : Int) by omega]
    have hst := sub_step es heq
    refine ih (j + 1) (by omega) (by omega) _ (by omega) _ (hL.up (by omega)) ?_ ?_ ?_
    · intro q hq; rw [up_n hq]; exact hrow q hq
    · intro q hq; rw [up_s, zup_n (by omega)]; exact hfr q (by omega)
    · rw [up_s]; exact hst
set_option maxHeartbeats 4000000 in
set_option maxRecDepth 100000 in
theorem c_subtractTimes {l : Launch} {D : va_G} {ad : Nat → Nat} {g : Nat × Nat × Nat × Nat} (hg : 3 ≤ g.1 ∧ g.1 ≤ 11 ∧ 8 ≤ g.2.1 ∧ g.2.1 ≤ 2048 ∧ 1 ≤ g.2.2.1 ∧ g.2.2.1 ≤ 24 ∧ 1 ≤ g.2.2.2 ∧ g.2.2.2 ≤ 12) (σ : St) (hL : LM g σ) (a r u : Nat) (h51 : σ 5 1 = a) (h52 : σ 5 2 = r) (hr : 0 < r) (har : a + r ≤ g.2.1) (hur : u + r + 1 ≤ g.2.1) (hdis : a + r ≤ u ∨ u + r + 1 ≤ a) (hD : 0 < nv (σ 2) a r) (hU : nv (σ 2) u (r + 1) < nv (σ 2) a r * 2147483648) (G : Int) (hG1 : nv (σ 2) u (r + 1) / nv (σ 2) a r ≤ G) (hG2 : G ≤ nv (σ 2) u (r + 1) / nv (σ 2) a r + 1) : Kt l D ad g yX4_subtractTimes (Cond.code yX4_subtractTimes cX4_subtractTimes 11 (some .int) :: tb) 0 0 [.ref (ad 5), vi (u : Int), vl G] σ (fun v σ' => v = some (vi (nv (σ 2) u (r + 1) / nv (σ 2) a r)) ∧ LM g σ' ∧ (∀ q, q ≠ 2 → σ' q = σ q) ∧ (∀ q, ¬ (u ≤ q ∧ q < u + r + 1) → σ' 2 q = σ 2 q) ∧ σ' 2 (u + r) = 0 ∧ nv (σ' 2) u r = nv (σ 2) u (r + 1) % nv (σ 2) a r) := by
  refine ct_of (by decide) rfl (Nat.le_of_ble_eq_true rfl) ?_
  intro p e s m below meth c C
  change X _ _ _ _ _ _ _ _ _ _ _ _ _ _ _ _ [(0, .ref (ad 5)), (1, vi (u : Int)), (2, vl G)] _
  have hlu := hL.lim (show u + (r + 1) ≤ g.2.1 by omega)
  have hla := hL.lim har
  have q1 := Int.mul_ediv_add_emod (nv (σ 2) u (r + 1)) (nv (σ 2) a r)
  have q2 := Int.emod_nonneg (nv (σ 2) u (r + 1)) (show nv (σ 2) a r ≠ 0 by omega)
  have q3 := Int.emod_lt_of_pos (nv (σ 2) u (r + 1)) hD
  have hU0 := nv_ge hlu
  have hq0 : 0 ≤ nv (σ 2) u (r + 1) / nv (σ 2) a r := Int.ediv_nonneg hU0 (by omega)
  have hq1 : nv (σ 2) u (r + 1) / nv (σ 2) a r < 2147483648 := Int.ediv_lt_of_lt_mul hD (by rw [Int.mul_comm]; exact hU)
  have hDl := nv_lt hla
  have hP := bp_pos r
  have hns := nv_s (σ 2) u r
  refine x_lload_n C dX4_subtractTimes_0 rfl rfl ?_
  refine x_lconst0 C dX4_subtractTimes_1 ?_
  refine x_lif_ne (tgt := 8) C dX4_subtractTimes_2 dX4_subtractTimes_3 (by decide) (by omega) (by omega) (fun c_2 => ?_) (fun c_2 => ?_)
  · refine x_lconst0 C dX4_subtractTimes_8 ?_
    refine x_lstore C (lv' := [(4, _), (0, _), (1, _), (2, _)]) dX4_subtractTimes_9 (by decide) rfl ?_
    refine x_iconst C dX4_subtractTimes_11 ?_
    refine x_istore C (lv' := [(6, _), (4, _), (0, _), (1, _), (2, _)]) dX4_subtractTimes_12 (by decide) rfl ?_
    refine lp_subA C hg σ a r u h51 h52 hr har hur hdis G ⟨by omega, by omega⟩ ?_ (r + 1) 0 (by omega) (by omega) 0 (by omega) σ hL (fun _ _ => rfl) (fun _ _ => rfl) (by simp [nv])
    intro σ1 cy hL1 hrow hfr hcy heq
    have hrow5 := hrow 5 (by decide)
    have e1 := hfr (u + r) (by omega)
    have hl1 := hL (u + r) (by omega)
    refine x_aload_n C dX4_subtractTimes_83 rfl rfl ?_
    refine x_get C (Cn := RX4) (T := TX4) (N := 6) (ci := 4) 0 dX4_subtractTimes_84 m_w_4 m_f_RX4_9 rfl (by decide) rfl rfl ?_
    refine x_iload_n C dX4_subtractTimes_87 rfl rfl ?_
    refine x_aload_n C dX4_subtractTimes_88 rfl rfl ?_
    refine x_get C (Cn := RX4) (T := TX4) (N := 6) (ci := 4) 2 dX4_subtractTimes_89 m_w_4 m_f_RX4_38 rfl (by decide) rfl rfl ?_
    rw [hrow5, h52]
    refine x_iadd C dX4_subtractTimes_92 ?_
    refine x_iald C dX4_subtractTimes_93 rfl (by omega) (by omega) ?_
    rw [show ((u : Int) + (r : Int)).toNat = u + r by omega, e1]
    refine x_i2l C dX4_subtractTimes_94 (by omega) ?_
    refine x_lload C dX4_subtractTimes_95 rfl ?_
    refine x_ladd C dX4_subtractTimes_97 ?_
    refine x_lstore C (lv' := [(6, _), (4, _), (0, _), (1, _), (2, _)]) dX4_subtractTimes_98 (by decide) rfl ?_
    refine x_aload_n C dX4_subtractTimes_100 rfl rfl ?_
    refine x_get C (Cn := RX4) (T := TX4) (N := 6) (ci := 4) 0 dX4_subtractTimes_101 m_w_4 m_f_RX4_9 rfl (by decide) rfl rfl ?_
    refine x_iload_n C dX4_subtractTimes_104 rfl rfl ?_
    refine x_aload_n C dX4_subtractTimes_105 rfl rfl ?_
    refine x_get C (Cn := RX4) (T := TX4) (N := 6) (ci := 4) 2 dX4_subtractTimes_106 m_w_4 m_f_RX4_38 rfl (by decide) rfl rfl ?_
    rw [hrow5, h52]
    refine x_iadd C dX4_subtractTimes_109 ?_
    refine x_iconst C dX4_subtractTimes_110 ?_
    refine k_ast C dX4_subtractTimes_111 (fun _ => rfl) (by omega) (by omega) ?_
    rw [show ((u : Int) + (r : Int)).toNat = u + r by omega]
    have hL2 : LM g (up σ1 2 (u + r) 0) := hL1.up (by omega)
    have hN0 := nv_ge (hL1.lim (show u + r ≤ g.2.1 by omega))
    have hN1 := nv_lt (hL1.lim (show u + r ≤ g.2.1 by omega))
    have hN2 : nv (up σ1 2 (u + r) 0 2) u r = nv (σ1 2) u r := by rw [up_s]; exact nv_ext (fun i hi => zup_n (by omega))
    have hx : nv (σ 2) u (r + 1) - G * nv (σ 2) a r = nv (σ1 2) u r + (σ 2 (u + r) + cy) * 2147483648 ^ r := by rw [hns, Int.add_mul]; omega
    have hsp := split_u hP ⟨hN0, hN1⟩ hx
    have hrow2 : ∀ q, q ≠ 2 → up σ1 2 (u + r) 0 q = σ q := fun q hq => by rw [up_n hq]; exact hrow q hq
    have hfr2 : ∀ q, ¬ (u ≤ q ∧ q < u + r + 1) → up σ1 2 (u + r) 0 2 q = σ 2 q := fun q hq => by rw [up_s, zup_n (by omega)]; exact hfr q (by omega)
    have hz2 : up σ1 2 (u + r) 0 2 (u + r) = 0 := by rw [up_s, zup_s]
    have hcase : (G = nv (σ 2) u (r + 1) / nv (σ 2) a r ∧ σ 2 (u + r) + cy = 0 ∧ nv (σ1 2) u r = nv (σ 2) u (r + 1) % nv (σ 2) a r) ∨ (G = nv (σ 2) u (r + 1) / nv (σ 2) a r + 1 ∧ σ 2 (u + r) + cy = -1 ∧ nv (σ1 2) u r + nv (σ 2) a r = nv (σ 2) u (r + 1) % nv (σ 2) a r + 2147483648 ^ r) := by
      rcases (show G = nv (σ 2) u (r + 1) / nv (σ 2) a r ∨ G = nv (σ 2) u (r + 1) / nv (σ 2) a r + 1 by omega) with q | q
      · have hv : nv (σ 2) u (r + 1) - G * nv (σ 2) a r = nv (σ 2) u (r + 1) % nv (σ 2) a r := by rw [q, Int.mul_comm]; omega
        rw [hv] at hsp
        have := hsp.1 q2 (by omega)
        exact Or.inl ⟨q, this.1, this.2⟩
      · have hv : nv (σ 2) u (r + 1) - G * nv (σ 2) a r = nv (σ 2) u (r + 1) % nv (σ 2) a r - nv (σ 2) a r := by rw [q, Int.add_mul, Int.mul_comm]; omega
        rw [hv] at hsp
        have := hsp.2 (by omega) (by omega)
        exact Or.inr ⟨q, this.1, by omega⟩
    refine x_lload C dX4_subtractTimes_112 rfl ?_
    refine x_lconst0 C dX4_subtractTimes_114 ?_
    refine x_lif_lt (tgt := 122) C dX4_subtractTimes_115 dX4_subtractTimes_116 (by decide) (by omega) (by omega) (fun c_115 => ?_) (fun c_115 => ?_)
    · refine x_lconst0 C dX4_subtractTimes_122 ?_
      refine x_lstore C (lv' := [(4, _), (6, _), (0, _), (1, _), (2, _)]) dX4_subtractTimes_123 (by decide) rfl ?_
      refine x_iconst C dX4_subtractTimes_125 ?_
      refine x_istore C (lv' := [(8, _), (4, _), (6, _), (0, _), (1, _), (2, _)]) dX4_subtractTimes_126 (by decide) rfl ?_
      refine X.sub [0, 1, 3, 4, 5] rfl ?_
      refine lp_subB C hg (up σ1 2 (u + r) 0) a r u (by rw [hrow2 5 (by decide)]; exact h51) (by rw [hrow2 5 (by decide)]; exact h52) hr har hur hdis G ?_ (r + 1) 0 (by omega) (by omega) 0 (by omega) _ hL2 (fun _ _ => rfl) (fun _ _ => rfl) (by simp [nv])
      intro σ3 c3 hL3 hrow3 hfr3 hc3 heq3
      have hA : nv (up σ1 2 (u + r) 0 2) a r = nv (σ 2) a r := nv_ext (fun i hi => hfr2 _ (by omega))
      rw [hN2, hA] at heq3
      have hM0 := nv_ge (hL3.lim (show u + r ≤ g.2.1 by omega))
      have hM1 := nv_lt (hL3.lim (show u + r ≤ g.2.1 by omega))
      have hc1 : c3 = 1 := by
        rcases (show c3 = 0 ∨ c3 = 1 by omega) with q | q
        · rw [q, Int.zero_mul] at heq3; omega
        · exact q
      rw [hc1, Int.one_mul] at heq3
      refine x_lload_n C dX4_subtractTimes_195 rfl rfl ?_
      refine x_lconst1 C dX4_subtractTimes_196 ?_
      refine x_lsub C dX4_subtractTimes_197 ?_
      refine x_l2i C dX4_subtractTimes_198 ?_
      exact x_iret C dX4_subtractTimes_199 ⟨_, rfl, by rw [show G - 1 = nv (σ 2) u (r + 1) / nv (σ 2) a r by omega], hL3, fun q hq => by rw [hrow3 q hq]; exact hrow2 q hq, fun q hq => by rw [hfr3 q (by omega)]; exact hfr2 q hq, by rw [hfr3 _ (by omega)]; exact hz2, by omega⟩
    · refine x_lload_n C dX4_subtractTimes_119 rfl rfl ?_
      refine x_l2i C dX4_subtractTimes_120 ?_
      exact x_iret C dX4_subtractTimes_121 ⟨_, rfl, by rw [show G = nv (σ 2) u (r + 1) / nv (σ 2) a r by omega], hL2, hrow2, hfr2, hz2, by rw [hN2]; omega⟩
  · refine x_iconst C dX4_subtractTimes_6 ?_
    exact x_iret C dX4_subtractTimes_7 ⟨_, rfl, by rw [show nv (σ 2) u (r + 1) / nv (σ 2) a r = 0 by omega], hL, fun _ _ => rfl, fun _ _ => rfl, by
        rw [show nv (σ 2) u (r + 1) / nv (σ 2) a r = 0 by omega, Int.mul_zero, Int.zero_add] at q1
        have h1 := nv_ge (hlu.mono (show r ≤ r + 1 by omega))
        have h2 := nv_lt (hlu.mono (show r ≤ r + 1 by omega))
        exact ((split_u hP ⟨h1, h2⟩ hns).1 hU0 (by omega)).1, by
        rw [show nv (σ 2) u (r + 1) / nv (σ 2) a r = 0 by omega, Int.mul_zero, Int.zero_add] at q1
        have h1 := nv_ge (hlu.mono (show r ≤ r + 1 by omega))
        have h2 := nv_lt (hlu.mono (show r ≤ r + 1 by omega))
        rw [q1]
        exact ((split_u hP ⟨h1, h2⟩ hns).1 hU0 (by omega)).2⟩
end
