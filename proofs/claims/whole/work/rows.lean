section
-- ===== PART A: goes FIRST, ahead of the names: the tables' words, and 'selects' of the private methods out of them =====
/-- a private method of a class that the tables say can be made, by its rows of tables_1 -/
def lw_okq (q : MethodName × Nat) : Prop := (q.1.cls ≠ "java/lang/invoke/MethodHandle" ∧ q.1.cls ≠ "java/lang/invoke/VarHandle") ∧ Cond.instantiable q.1.cls q.2 ∈ tables_1 ∧ Cond.privateMethod q.1 ∈ tables_1 ∧ Cond.instanceMethod q.1 ∈ tables_1
theorem lw_p0 : lw_okq (⟨"GasContract$Tokens", "behindBlanks", "(I)I"⟩, 9) := ⟨⟨by decide +kernel, by decide +kernel⟩, List.mem_of_getElem? (i := 42) (by decide +kernel), List.mem_of_getElem? (i := 241) (by decide +kernel), List.mem_of_getElem? (i := 242) (by decide +kernel)⟩
theorem lw_p1 : lw_okq (⟨"GasContract$Tokens", "signAt", "(I)I"⟩, 9) := ⟨⟨by decide +kernel, by decide +kernel⟩, List.mem_of_getElem? (i := 42) (by decide +kernel), List.mem_of_getElem? (i := 245) (by decide +kernel), List.mem_of_getElem? (i := 246) (by decide +kernel)⟩
theorem lw_p2 : lw_okq (⟨"GasContract$Tokens", "cutOne", "(I)I"⟩, 9) := ⟨⟨by decide +kernel, by decide +kernel⟩, List.mem_of_getElem? (i := 42) (by decide +kernel), List.mem_of_getElem? (i := 249) (by decide +kernel), List.mem_of_getElem? (i := 250) (by decide +kernel)⟩
theorem lw_p3 : lw_okq (⟨"GasContract$Tokens", "behindName", "(I)I"⟩, 9) := ⟨⟨by decide +kernel, by decide +kernel⟩, List.mem_of_getElem? (i := 42) (by decide +kernel), List.mem_of_getElem? (i := 256) (by decide +kernel), List.mem_of_getElem? (i := 257) (by decide +kernel)⟩
theorem lw_p4 : lw_okq (⟨"GasContract$Tokens", "wordOrName", "(II)I"⟩, 9) := ⟨⟨by decide +kernel, by decide +kernel⟩, List.mem_of_getElem? (i := 42) (by decide +kernel), List.mem_of_getElem? (i := 263) (by decide +kernel), List.mem_of_getElem? (i := 264) (by decide +kernel)⟩
theorem lw_p5 : lw_okq (⟨"GasContract$Tokens", "spells", "(Ljava/lang/String;I)Z"⟩, 9) := ⟨⟨by decide +kernel, by decide +kernel⟩, List.mem_of_getElem? (i := 42) (by decide +kernel), List.mem_of_getElem? (i := 268) (by decide +kernel), List.mem_of_getElem? (i := 269) (by decide +kernel)⟩
theorem lw_p6 : lw_okq (⟨"GasContract$Tokens", "cutNumber", "(I)I"⟩, 9) := ⟨⟨by decide +kernel, by decide +kernel⟩, List.mem_of_getElem? (i := 42) (by decide +kernel), List.mem_of_getElem? (i := 330) (by decide +kernel), List.mem_of_getElem? (i := 331) (by decide +kernel)⟩
theorem lw_p7 : lw_okq (⟨"GasContract$Compiler", "mark", "()I"⟩, 8) := ⟨⟨by decide +kernel, by decide +kernel⟩, List.mem_of_getElem? (i := 36) (by decide +kernel), List.mem_of_getElem? (i := 350) (by decide +kernel), List.mem_of_getElem? (i := 351) (by decide +kernel)⟩
theorem lw_p8 : lw_okq (⟨"GasContract$Compiler", "functionName", "()V"⟩, 8) := ⟨⟨by decide +kernel, by decide +kernel⟩, List.mem_of_getElem? (i := 36) (by decide +kernel), List.mem_of_getElem? (i := 358) (by decide +kernel), List.mem_of_getElem? (i := 359) (by decide +kernel)⟩
theorem lw_p9 : lw_okq (⟨"GasContract$Compiler", "failAt", "(I)V"⟩, 8) := ⟨⟨by decide +kernel, by decide +kernel⟩, List.mem_of_getElem? (i := 36) (by decide +kernel), List.mem_of_getElem? (i := 362) (by decide +kernel), List.mem_of_getElem? (i := 363) (by decide +kernel)⟩
theorem lw_p10 : lw_okq (⟨"java/lang/Throwable", "fillInStackTrace", "(I)Ljava/lang/Throwable;"⟩, 6) := ⟨⟨by decide +kernel, by decide +kernel⟩, List.mem_of_getElem? (i := 409) (by decide +kernel), List.mem_of_getElem? (i := 407) (by decide +kernel), List.mem_of_getElem? (i := 408) (by decide +kernel)⟩
theorem lw_p11 : lw_okq (⟨"GasContract$Compiler", "functionNamed", "(I)I"⟩, 8) := ⟨⟨by decide +kernel, by decide +kernel⟩, List.mem_of_getElem? (i := 36) (by decide +kernel), List.mem_of_getElem? (i := 439) (by decide +kernel), List.mem_of_getElem? (i := 440) (by decide +kernel)⟩
theorem lw_p12 : lw_okq (⟨"GasContract$Compiler", "parameters", "()V"⟩, 8) := ⟨⟨by decide +kernel, by decide +kernel⟩, List.mem_of_getElem? (i := 36) (by decide +kernel), List.mem_of_getElem? (i := 451) (by decide +kernel), List.mem_of_getElem? (i := 452) (by decide +kernel)⟩
theorem lw_p13 : lw_okq (⟨"GasContract$Compiler", "expect", "(I)V"⟩, 8) := ⟨⟨by decide +kernel, by decide +kernel⟩, List.mem_of_getElem? (i := 36) (by decide +kernel), List.mem_of_getElem? (i := 455) (by decide +kernel), List.mem_of_getElem? (i := 456) (by decide +kernel)⟩
theorem lw_p14 : lw_okq (⟨"GasContract$Compiler", "parameter", "()V"⟩, 8) := ⟨⟨by decide +kernel, by decide +kernel⟩, List.mem_of_getElem? (i := 36) (by decide +kernel), List.mem_of_getElem? (i := 459) (by decide +kernel), List.mem_of_getElem? (i := 460) (by decide +kernel)⟩
theorem lw_p15 : lw_okq (⟨"GasContract$Compiler", "mustBeNewVariable", "()V"⟩, 8) := ⟨⟨by decide +kernel, by decide +kernel⟩, List.mem_of_getElem? (i := 36) (by decide +kernel), List.mem_of_getElem? (i := 463) (by decide +kernel), List.mem_of_getElem? (i := 464) (by decide +kernel)⟩
def lw_privs_1 : List (MethodName × Nat) := [(⟨"GasContract$Tokens", "behindBlanks", "(I)I"⟩, 9), (⟨"GasContract$Tokens", "signAt", "(I)I"⟩, 9), (⟨"GasContract$Tokens", "cutOne", "(I)I"⟩, 9), (⟨"GasContract$Tokens", "behindName", "(I)I"⟩, 9), (⟨"GasContract$Tokens", "wordOrName", "(II)I"⟩, 9), (⟨"GasContract$Tokens", "spells", "(Ljava/lang/String;I)Z"⟩, 9), (⟨"GasContract$Tokens", "cutNumber", "(I)I"⟩, 9), (⟨"GasContract$Compiler", "mark", "()I"⟩, 8), (⟨"GasContract$Compiler", "functionName", "()V"⟩, 8), (⟨"GasContract$Compiler", "failAt", "(I)V"⟩, 8), (⟨"java/lang/Throwable", "fillInStackTrace", "(I)Ljava/lang/Throwable;"⟩, 6), (⟨"GasContract$Compiler", "functionNamed", "(I)I"⟩, 8), (⟨"GasContract$Compiler", "parameters", "()V"⟩, 8), (⟨"GasContract$Compiler", "expect", "(I)V"⟩, 8), (⟨"GasContract$Compiler", "parameter", "()V"⟩, 8), (⟨"GasContract$Compiler", "mustBeNewVariable", "()V"⟩, 8)]
theorem lw_r1 : ∀ q ∈ lw_privs_1, lw_okq q := List.forall_mem_cons.mpr ⟨lw_p0, List.forall_mem_cons.mpr ⟨lw_p1, List.forall_mem_cons.mpr ⟨lw_p2, List.forall_mem_cons.mpr ⟨lw_p3, List.forall_mem_cons.mpr ⟨lw_p4, List.forall_mem_cons.mpr ⟨lw_p5, List.forall_mem_cons.mpr ⟨lw_p6, List.forall_mem_cons.mpr ⟨lw_p7, List.forall_mem_cons.mpr ⟨lw_p8, List.forall_mem_cons.mpr ⟨lw_p9, List.forall_mem_cons.mpr ⟨lw_p10, List.forall_mem_cons.mpr ⟨lw_p11, List.forall_mem_cons.mpr ⟨lw_p12, List.forall_mem_cons.mpr ⟨lw_p13, List.forall_mem_cons.mpr ⟨lw_p14, List.forall_mem_cons.mpr ⟨lw_p15, fun _ h => absurd h List.not_mem_nil⟩⟩⟩⟩⟩⟩⟩⟩⟩⟩⟩⟩⟩⟩⟩⟩
theorem lw_p16 : lw_okq (⟨"GasContract$Compiler", "variableNamed", "(I)I"⟩, 8) := ⟨⟨by decide +kernel, by decide +kernel⟩, List.mem_of_getElem? (i := 36) (by decide +kernel), List.mem_of_getElem? (i := 467) (by decide +kernel), List.mem_of_getElem? (i := 468) (by decide +kernel)⟩
theorem lw_p17 : lw_okq (⟨"GasContract$Compiler", "addVariable", "(II)V"⟩, 8) := ⟨⟨by decide +kernel, by decide +kernel⟩, List.mem_of_getElem? (i := 36) (by decide +kernel), List.mem_of_getElem? (i := 471) (by decide +kernel), List.mem_of_getElem? (i := 472) (by decide +kernel)⟩
theorem lw_p18 : lw_okq (⟨"GasContract$Compiler", "block", "(I)V"⟩, 8) := ⟨⟨by decide +kernel, by decide +kernel⟩, List.mem_of_getElem? (i := 36) (by decide +kernel), List.mem_of_getElem? (i := 479) (by decide +kernel), List.mem_of_getElem? (i := 480) (by decide +kernel)⟩
theorem lw_p19 : lw_okq (⟨"GasContract$Compiler", "open", "(II)I"⟩, 8) := ⟨⟨by decide +kernel, by decide +kernel⟩, List.mem_of_getElem? (i := 36) (by decide +kernel), List.mem_of_getElem? (i := 483) (by decide +kernel), List.mem_of_getElem? (i := 484) (by decide +kernel)⟩
theorem lw_p20 : lw_okq (⟨"GasContract$Compiler", "statement", "(I)V"⟩, 8) := ⟨⟨by decide +kernel, by decide +kernel⟩, List.mem_of_getElem? (i := 36) (by decide +kernel), List.mem_of_getElem? (i := 487) (by decide +kernel), List.mem_of_getElem? (i := 488) (by decide +kernel)⟩
theorem lw_p21 : lw_okq (⟨"GasContract$Compiler", "let", "(I)V"⟩, 8) := ⟨⟨by decide +kernel, by decide +kernel⟩, List.mem_of_getElem? (i := 36) (by decide +kernel), List.mem_of_getElem? (i := 491) (by decide +kernel), List.mem_of_getElem? (i := 492) (by decide +kernel)⟩
theorem lw_p22 : lw_okq (⟨"GasContract$Compiler", "expression", "(II)I"⟩, 8) := ⟨⟨by decide +kernel, by decide +kernel⟩, List.mem_of_getElem? (i := 36) (by decide +kernel), List.mem_of_getElem? (i := 495) (by decide +kernel), List.mem_of_getElem? (i := 496) (by decide +kernel)⟩
theorem lw_p23 : lw_okq (⟨"GasContract$Compiler", "factor", "(I)I"⟩, 8) := ⟨⟨by decide +kernel, by decide +kernel⟩, List.mem_of_getElem? (i := 36) (by decide +kernel), List.mem_of_getElem? (i := 499) (by decide +kernel), List.mem_of_getElem? (i := 500) (by decide +kernel)⟩
theorem lw_p24 : lw_okq (⟨"GasContract$Compiler", "signed", "(III)I"⟩, 8) := ⟨⟨by decide +kernel, by decide +kernel⟩, List.mem_of_getElem? (i := 36) (by decide +kernel), List.mem_of_getElem? (i := 503) (by decide +kernel), List.mem_of_getElem? (i := 504) (by decide +kernel)⟩
theorem lw_p25 : lw_okq (⟨"GasContract$Compiler", "mustBe", "(III)V"⟩, 8) := ⟨⟨by decide +kernel, by decide +kernel⟩, List.mem_of_getElem? (i := 36) (by decide +kernel), List.mem_of_getElem? (i := 507) (by decide +kernel), List.mem_of_getElem? (i := 508) (by decide +kernel)⟩
theorem lw_p26 : lw_okq (⟨"GasContract$Compiler", "calling", "(II)I"⟩, 8) := ⟨⟨by decide +kernel, by decide +kernel⟩, List.mem_of_getElem? (i := 36) (by decide +kernel), List.mem_of_getElem? (i := 519) (by decide +kernel), List.mem_of_getElem? (i := 520) (by decide +kernel)⟩
theorem lw_p27 : lw_okq (⟨"GasContract$Compiler", "variable", "(I)I"⟩, 8) := ⟨⟨by decide +kernel, by decide +kernel⟩, List.mem_of_getElem? (i := 36) (by decide +kernel), List.mem_of_getElem? (i := 531) (by decide +kernel), List.mem_of_getElem? (i := 532) (by decide +kernel)⟩
theorem lw_p28 : lw_okq (⟨"GasContract$Compiler", "typeOf", "(I)I"⟩, 8) := ⟨⟨by decide +kernel, by decide +kernel⟩, List.mem_of_getElem? (i := 36) (by decide +kernel), List.mem_of_getElem? (i := 535) (by decide +kernel), List.mem_of_getElem? (i := 536) (by decide +kernel)⟩
theorem lw_p29 : lw_okq (⟨"GasContract$Compiler", "loading", "(I)I"⟩, 8) := ⟨⟨by decide +kernel, by decide +kernel⟩, List.mem_of_getElem? (i := 36) (by decide +kernel), List.mem_of_getElem? (i := 539) (by decide +kernel), List.mem_of_getElem? (i := 540) (by decide +kernel)⟩
theorem lw_p30 : lw_okq (⟨"GasContract$Compiler", "assignment", "(I)V"⟩, 8) := ⟨⟨by decide +kernel, by decide +kernel⟩, List.mem_of_getElem? (i := 36) (by decide +kernel), List.mem_of_getElem? (i := 553) (by decide +kernel), List.mem_of_getElem? (i := 554) (by decide +kernel)⟩
theorem lw_p31 : lw_okq (⟨"GasContract$Compiler", "storing", "(I)V"⟩, 8) := ⟨⟨by decide +kernel, by decide +kernel⟩, List.mem_of_getElem? (i := 36) (by decide +kernel), List.mem_of_getElem? (i := 557) (by decide +kernel), List.mem_of_getElem? (i := 558) (by decide +kernel)⟩
def lw_privs_2 : List (MethodName × Nat) := [(⟨"GasContract$Compiler", "variableNamed", "(I)I"⟩, 8), (⟨"GasContract$Compiler", "addVariable", "(II)V"⟩, 8), (⟨"GasContract$Compiler", "block", "(I)V"⟩, 8), (⟨"GasContract$Compiler", "open", "(II)I"⟩, 8), (⟨"GasContract$Compiler", "statement", "(I)V"⟩, 8), (⟨"GasContract$Compiler", "let", "(I)V"⟩, 8), (⟨"GasContract$Compiler", "expression", "(II)I"⟩, 8), (⟨"GasContract$Compiler", "factor", "(I)I"⟩, 8), (⟨"GasContract$Compiler", "signed", "(III)I"⟩, 8), (⟨"GasContract$Compiler", "mustBe", "(III)V"⟩, 8), (⟨"GasContract$Compiler", "calling", "(II)I"⟩, 8), (⟨"GasContract$Compiler", "variable", "(I)I"⟩, 8), (⟨"GasContract$Compiler", "typeOf", "(I)I"⟩, 8), (⟨"GasContract$Compiler", "loading", "(I)I"⟩, 8), (⟨"GasContract$Compiler", "assignment", "(I)V"⟩, 8), (⟨"GasContract$Compiler", "storing", "(I)V"⟩, 8)]
theorem lw_r2 : ∀ q ∈ lw_privs_2, lw_okq q := List.forall_mem_cons.mpr ⟨lw_p16, List.forall_mem_cons.mpr ⟨lw_p17, List.forall_mem_cons.mpr ⟨lw_p18, List.forall_mem_cons.mpr ⟨lw_p19, List.forall_mem_cons.mpr ⟨lw_p20, List.forall_mem_cons.mpr ⟨lw_p21, List.forall_mem_cons.mpr ⟨lw_p22, List.forall_mem_cons.mpr ⟨lw_p23, List.forall_mem_cons.mpr ⟨lw_p24, List.forall_mem_cons.mpr ⟨lw_p25, List.forall_mem_cons.mpr ⟨lw_p26, List.forall_mem_cons.mpr ⟨lw_p27, List.forall_mem_cons.mpr ⟨lw_p28, List.forall_mem_cons.mpr ⟨lw_p29, List.forall_mem_cons.mpr ⟨lw_p30, List.forall_mem_cons.mpr ⟨lw_p31, fun _ h => absurd h List.not_mem_nil⟩⟩⟩⟩⟩⟩⟩⟩⟩⟩⟩⟩⟩⟩⟩⟩
theorem lw_p32 : lw_okq (⟨"GasContract$Compiler", "choice", "(I)V"⟩, 8) := ⟨⟨by decide +kernel, by decide +kernel⟩, List.mem_of_getElem? (i := 36) (by decide +kernel), List.mem_of_getElem? (i := 561) (by decide +kernel), List.mem_of_getElem? (i := 562) (by decide +kernel)⟩
theorem lw_p33 : lw_okq (⟨"GasContract$Compiler", "test", "(I)I"⟩, 8) := ⟨⟨by decide +kernel, by decide +kernel⟩, List.mem_of_getElem? (i := 36) (by decide +kernel), List.mem_of_getElem? (i := 565) (by decide +kernel), List.mem_of_getElem? (i := 566) (by decide +kernel)⟩
theorem lw_p34 : lw_okq (⟨"GasContract$Compiler", "loop", "(I)V"⟩, 8) := ⟨⟨by decide +kernel, by decide +kernel⟩, List.mem_of_getElem? (i := 36) (by decide +kernel), List.mem_of_getElem? (i := 569) (by decide +kernel), List.mem_of_getElem? (i := 570) (by decide +kernel)⟩
theorem lw_p35 : lw_okq (⟨"GasContract$Compiler", "plain", "(II)V"⟩, 8) := ⟨⟨by decide +kernel, by decide +kernel⟩, List.mem_of_getElem? (i := 36) (by decide +kernel), List.mem_of_getElem? (i := 573) (by decide +kernel), List.mem_of_getElem? (i := 574) (by decide +kernel)⟩
theorem lw_p36 : lw_okq (⟨"GasContract$Store", "indexOf", "(I)I"⟩, 6) := ⟨⟨by decide +kernel, by decide +kernel⟩, List.mem_of_getElem? (i := 137) (by decide +kernel), List.mem_of_getElem? (i := 592) (by decide +kernel), List.mem_of_getElem? (i := 593) (by decide +kernel)⟩
theorem lw_p37 : lw_okq (⟨"GasContract", "addSign", "(I)V"⟩, 8) := ⟨⟨by decide +kernel, by decide +kernel⟩, List.mem_of_getElem? (i := 28) (by decide +kernel), List.mem_of_getElem? (i := 641) (by decide +kernel), List.mem_of_getElem? (i := 642) (by decide +kernel)⟩
theorem lw_p38 : lw_okq (⟨"GasContract$Machine", "pushParameters", "(IIII)V"⟩, 11) := ⟨⟨by decide +kernel, by decide +kernel⟩, List.mem_of_getElem? (i := 131) (by decide +kernel), List.mem_of_getElem? (i := 702) (by decide +kernel), List.mem_of_getElem? (i := 703) (by decide +kernel)⟩
theorem lw_p39 : lw_okq (⟨"GasContract$Machine", "push", "(I)V"⟩, 11) := ⟨⟨by decide +kernel, by decide +kernel⟩, List.mem_of_getElem? (i := 131) (by decide +kernel), List.mem_of_getElem? (i := 706) (by decide +kernel), List.mem_of_getElem? (i := 707) (by decide +kernel)⟩
theorem lw_p40 : lw_okq (⟨"GasContract$Machine", "enter", "(I)V"⟩, 11) := ⟨⟨by decide +kernel, by decide +kernel⟩, List.mem_of_getElem? (i := 131) (by decide +kernel), List.mem_of_getElem? (i := 710) (by decide +kernel), List.mem_of_getElem? (i := 711) (by decide +kernel)⟩
theorem lw_p41 : lw_okq (⟨"GasContract$Machine", "pop", "()I"⟩, 11) := ⟨⟨by decide +kernel, by decide +kernel⟩, List.mem_of_getElem? (i := 131) (by decide +kernel), List.mem_of_getElem? (i := 956) (by decide +kernel), List.mem_of_getElem? (i := 957) (by decide +kernel)⟩
theorem lw_p42 : lw_okq (⟨"GasContract$Machine", "setVariable", "(II)V"⟩, 11) := ⟨⟨by decide +kernel, by decide +kernel⟩, List.mem_of_getElem? (i := 131) (by decide +kernel), List.mem_of_getElem? (i := 960) (by decide +kernel), List.mem_of_getElem? (i := 961) (by decide +kernel)⟩
theorem lw_p43 : lw_okq (⟨"GasContract$Machine", "perform", "(II)V"⟩, 11) := ⟨⟨by decide +kernel, by decide +kernel⟩, List.mem_of_getElem? (i := 131) (by decide +kernel), List.mem_of_getElem? (i := 980) (by decide +kernel), List.mem_of_getElem? (i := 981) (by decide +kernel)⟩
theorem lw_p44 : lw_okq (⟨"GasContract$Machine", "variable", "(I)I"⟩, 11) := ⟨⟨by decide +kernel, by decide +kernel⟩, List.mem_of_getElem? (i := 131) (by decide +kernel), List.mem_of_getElem? (i := 984) (by decide +kernel), List.mem_of_getElem? (i := 985) (by decide +kernel)⟩
theorem lw_p45 : lw_okq (⟨"GasContract$Machine", "write", "()V"⟩, 11) := ⟨⟨by decide +kernel, by decide +kernel⟩, List.mem_of_getElem? (i := 131) (by decide +kernel), List.mem_of_getElem? (i := 989) (by decide +kernel), List.mem_of_getElem? (i := 990) (by decide +kernel)⟩
theorem lw_p46 : lw_okq (⟨"GasContract$Machine", "leave", "(I)V"⟩, 11) := ⟨⟨by decide +kernel, by decide +kernel⟩, List.mem_of_getElem? (i := 131) (by decide +kernel), List.mem_of_getElem? (i := 997) (by decide +kernel), List.mem_of_getElem? (i := 998) (by decide +kernel)⟩
theorem lw_p47 : lw_okq (⟨"GasContract$Machine", "skipIf", "(II)V"⟩, 11) := ⟨⟨by decide +kernel, by decide +kernel⟩, List.mem_of_getElem? (i := 131) (by decide +kernel), List.mem_of_getElem? (i := 1001) (by decide +kernel), List.mem_of_getElem? (i := 1002) (by decide +kernel)⟩
def lw_privs_3 : List (MethodName × Nat) := [(⟨"GasContract$Compiler", "choice", "(I)V"⟩, 8), (⟨"GasContract$Compiler", "test", "(I)I"⟩, 8), (⟨"GasContract$Compiler", "loop", "(I)V"⟩, 8), (⟨"GasContract$Compiler", "plain", "(II)V"⟩, 8), (⟨"GasContract$Store", "indexOf", "(I)I"⟩, 6), (⟨"GasContract", "addSign", "(I)V"⟩, 8), (⟨"GasContract$Machine", "pushParameters", "(IIII)V"⟩, 11), (⟨"GasContract$Machine", "push", "(I)V"⟩, 11), (⟨"GasContract$Machine", "enter", "(I)V"⟩, 11), (⟨"GasContract$Machine", "pop", "()I"⟩, 11), (⟨"GasContract$Machine", "setVariable", "(II)V"⟩, 11), (⟨"GasContract$Machine", "perform", "(II)V"⟩, 11), (⟨"GasContract$Machine", "variable", "(I)I"⟩, 11), (⟨"GasContract$Machine", "write", "()V"⟩, 11), (⟨"GasContract$Machine", "leave", "(I)V"⟩, 11), (⟨"GasContract$Machine", "skipIf", "(II)V"⟩, 11)]
theorem lw_r3 : ∀ q ∈ lw_privs_3, lw_okq q := List.forall_mem_cons.mpr ⟨lw_p32, List.forall_mem_cons.mpr ⟨lw_p33, List.forall_mem_cons.mpr ⟨lw_p34, List.forall_mem_cons.mpr ⟨lw_p35, List.forall_mem_cons.mpr ⟨lw_p36, List.forall_mem_cons.mpr ⟨lw_p37, List.forall_mem_cons.mpr ⟨lw_p38, List.forall_mem_cons.mpr ⟨lw_p39, List.forall_mem_cons.mpr ⟨lw_p40, List.forall_mem_cons.mpr ⟨lw_p41, List.forall_mem_cons.mpr ⟨lw_p42, List.forall_mem_cons.mpr ⟨lw_p43, List.forall_mem_cons.mpr ⟨lw_p44, List.forall_mem_cons.mpr ⟨lw_p45, List.forall_mem_cons.mpr ⟨lw_p46, List.forall_mem_cons.mpr ⟨lw_p47, fun _ h => absurd h List.not_mem_nil⟩⟩⟩⟩⟩⟩⟩⟩⟩⟩⟩⟩⟩⟩⟩⟩
theorem lw_p48 : lw_okq (⟨"GasContract$Machine", "operate", "(I)V"⟩, 11) := ⟨⟨by decide +kernel, by decide +kernel⟩, List.mem_of_getElem? (i := 131) (by decide +kernel), List.mem_of_getElem? (i := 1005) (by decide +kernel), List.mem_of_getElem? (i := 1006) (by decide +kernel)⟩
theorem lw_p49 : lw_okq (⟨"GasContractModel", "refuse", "(ZZZ)Z"⟩, 47) := ⟨⟨by decide +kernel, by decide +kernel⟩, List.mem_of_getElem? (i := 1024) (by decide +kernel), List.mem_of_getElem? (i := 1180) (by decide +kernel), List.mem_of_getElem? (i := 1181) (by decide +kernel)⟩
theorem lw_p50 : lw_okq (⟨"GasContractModel", "advance", "()V"⟩, 47) := ⟨⟨by decide +kernel, by decide +kernel⟩, List.mem_of_getElem? (i := 1024) (by decide +kernel), List.mem_of_getElem? (i := 1195) (by decide +kernel), List.mem_of_getElem? (i := 1196) (by decide +kernel)⟩
theorem lw_p51 : lw_okq (⟨"GasContractModel", "sign", "(I)I"⟩, 47) := ⟨⟨by decide +kernel, by decide +kernel⟩, List.mem_of_getElem? (i := 1024) (by decide +kernel), List.mem_of_getElem? (i := 1199) (by decide +kernel), List.mem_of_getElem? (i := 1200) (by decide +kernel)⟩
theorem lw_p52 : lw_okq (⟨"GasContractModel", "isLetter", "(I)Z"⟩, 47) := ⟨⟨by decide +kernel, by decide +kernel⟩, List.mem_of_getElem? (i := 1024) (by decide +kernel), List.mem_of_getElem? (i := 1203) (by decide +kernel), List.mem_of_getElem? (i := 1204) (by decide +kernel)⟩
theorem lw_p53 : lw_okq (⟨"GasContractModel", "isDigit", "(I)Z"⟩, 47) := ⟨⟨by decide +kernel, by decide +kernel⟩, List.mem_of_getElem? (i := 1024) (by decide +kernel), List.mem_of_getElem? (i := 1207) (by decide +kernel), List.mem_of_getElem? (i := 1208) (by decide +kernel)⟩
theorem lw_p54 : lw_okq (⟨"GasContractModel", "word", "(II)I"⟩, 47) := ⟨⟨by decide +kernel, by decide +kernel⟩, List.mem_of_getElem? (i := 1024) (by decide +kernel), List.mem_of_getElem? (i := 1211) (by decide +kernel), List.mem_of_getElem? (i := 1212) (by decide +kernel)⟩
theorem lw_p55 : lw_okq (⟨"GasContractModel", "readNumber", "()V"⟩, 47) := ⟨⟨by decide +kernel, by decide +kernel⟩, List.mem_of_getElem? (i := 1024) (by decide +kernel), List.mem_of_getElem? (i := 1229) (by decide +kernel), List.mem_of_getElem? (i := 1230) (by decide +kernel)⟩
theorem lw_p56 : lw_okq (⟨"GasContractModel", "readOther", "()V"⟩, 47) := ⟨⟨by decide +kernel, by decide +kernel⟩, List.mem_of_getElem? (i := 1024) (by decide +kernel), List.mem_of_getElem? (i := 1236) (by decide +kernel), List.mem_of_getElem? (i := 1237) (by decide +kernel)⟩
theorem lw_p57 : lw_okq (⟨"GasContractModel", "readSign", "(III)V"⟩, 47) := ⟨⟨by decide +kernel, by decide +kernel⟩, List.mem_of_getElem? (i := 1024) (by decide +kernel), List.mem_of_getElem? (i := 1240) (by decide +kernel), List.mem_of_getElem? (i := 1241) (by decide +kernel)⟩
theorem lw_p58 : lw_okq (⟨"GasContractModel", "expect", "(I)V"⟩, 47) := ⟨⟨by decide +kernel, by decide +kernel⟩, List.mem_of_getElem? (i := 1024) (by decide +kernel), List.mem_of_getElem? (i := 1244) (by decide +kernel), List.mem_of_getElem? (i := 1245) (by decide +kernel)⟩
theorem lw_p59 : lw_okq (⟨"GasContractModel", "perform", "(I)V"⟩, 47) := ⟨⟨by decide +kernel, by decide +kernel⟩, List.mem_of_getElem? (i := 1024) (by decide +kernel), List.mem_of_getElem? (i := 1248) (by decide +kernel), List.mem_of_getElem? (i := 1249) (by decide +kernel)⟩
theorem lw_p60 : lw_okq (⟨"GasContractModel", "take", "(I)V"⟩, 47) := ⟨⟨by decide +kernel, by decide +kernel⟩, List.mem_of_getElem? (i := 1024) (by decide +kernel), List.mem_of_getElem? (i := 1252) (by decide +kernel), List.mem_of_getElem? (i := 1253) (by decide +kernel)⟩
theorem lw_p61 : lw_okq (⟨"GasContractModel", "fail", "(I)V"⟩, 47) := ⟨⟨by decide +kernel, by decide +kernel⟩, List.mem_of_getElem? (i := 1024) (by decide +kernel), List.mem_of_getElem? (i := 1256) (by decide +kernel), List.mem_of_getElem? (i := 1257) (by decide +kernel)⟩
theorem lw_p62 : lw_okq (⟨"GasContractModel", "open", "(I)V"⟩, 47) := ⟨⟨by decide +kernel, by decide +kernel⟩, List.mem_of_getElem? (i := 1024) (by decide +kernel), List.mem_of_getElem? (i := 1260) (by decide +kernel), List.mem_of_getElem? (i := 1261) (by decide +kernel)⟩
theorem lw_p63 : lw_okq (⟨"GasContractModel", "single", "(I)V"⟩, 47) := ⟨⟨by decide +kernel, by decide +kernel⟩, List.mem_of_getElem? (i := 1024) (by decide +kernel), List.mem_of_getElem? (i := 1264) (by decide +kernel), List.mem_of_getElem? (i := 1265) (by decide +kernel)⟩
def lw_privs_4 : List (MethodName × Nat) := [(⟨"GasContract$Machine", "operate", "(I)V"⟩, 11), (⟨"GasContractModel", "refuse", "(ZZZ)Z"⟩, 47), (⟨"GasContractModel", "advance", "()V"⟩, 47), (⟨"GasContractModel", "sign", "(I)I"⟩, 47), (⟨"GasContractModel", "isLetter", "(I)Z"⟩, 47), (⟨"GasContractModel", "isDigit", "(I)Z"⟩, 47), (⟨"GasContractModel", "word", "(II)I"⟩, 47), (⟨"GasContractModel", "readNumber", "()V"⟩, 47), (⟨"GasContractModel", "readOther", "()V"⟩, 47), (⟨"GasContractModel", "readSign", "(III)V"⟩, 47), (⟨"GasContractModel", "expect", "(I)V"⟩, 47), (⟨"GasContractModel", "perform", "(I)V"⟩, 47), (⟨"GasContractModel", "take", "(I)V"⟩, 47), (⟨"GasContractModel", "fail", "(I)V"⟩, 47), (⟨"GasContractModel", "open", "(I)V"⟩, 47), (⟨"GasContractModel", "single", "(I)V"⟩, 47)]
theorem lw_r4 : ∀ q ∈ lw_privs_4, lw_okq q := List.forall_mem_cons.mpr ⟨lw_p48, List.forall_mem_cons.mpr ⟨lw_p49, List.forall_mem_cons.mpr ⟨lw_p50, List.forall_mem_cons.mpr ⟨lw_p51, List.forall_mem_cons.mpr ⟨lw_p52, List.forall_mem_cons.mpr ⟨lw_p53, List.forall_mem_cons.mpr ⟨lw_p54, List.forall_mem_cons.mpr ⟨lw_p55, List.forall_mem_cons.mpr ⟨lw_p56, List.forall_mem_cons.mpr ⟨lw_p57, List.forall_mem_cons.mpr ⟨lw_p58, List.forall_mem_cons.mpr ⟨lw_p59, List.forall_mem_cons.mpr ⟨lw_p60, List.forall_mem_cons.mpr ⟨lw_p61, List.forall_mem_cons.mpr ⟨lw_p62, List.forall_mem_cons.mpr ⟨lw_p63, fun _ h => absurd h List.not_mem_nil⟩⟩⟩⟩⟩⟩⟩⟩⟩⟩⟩⟩⟩⟩⟩⟩
theorem lw_p64 : lw_okq (⟨"GasContractModel", "factor", "()V"⟩, 47) := ⟨⟨by decide +kernel, by decide +kernel⟩, List.mem_of_getElem? (i := 1024) (by decide +kernel), List.mem_of_getElem? (i := 1268) (by decide +kernel), List.mem_of_getElem? (i := 1269) (by decide +kernel)⟩
theorem lw_p65 : lw_okq (⟨"GasContractModel", "note", "(I)V"⟩, 47) := ⟨⟨by decide +kernel, by decide +kernel⟩, List.mem_of_getElem? (i := 1024) (by decide +kernel), List.mem_of_getElem? (i := 1272) (by decide +kernel), List.mem_of_getElem? (i := 1273) (by decide +kernel)⟩
theorem lw_p66 : lw_okq (⟨"GasContractModel", "expectAll", "(IIII)V"⟩, 47) := ⟨⟨by decide +kernel, by decide +kernel⟩, List.mem_of_getElem? (i := 1024) (by decide +kernel), List.mem_of_getElem? (i := 1276) (by decide +kernel), List.mem_of_getElem? (i := 1277) (by decide +kernel)⟩
theorem lw_p67 : lw_okq (⟨"GasContractModel", "emit", "(II)V"⟩, 47) := ⟨⟨by decide +kernel, by decide +kernel⟩, List.mem_of_getElem? (i := 1024) (by decide +kernel), List.mem_of_getElem? (i := 1280) (by decide +kernel), List.mem_of_getElem? (i := 1281) (by decide +kernel)⟩
theorem lw_p68 : lw_okq (⟨"GasContractModel", "typeIs", "(I)V"⟩, 47) := ⟨⟨by decide +kernel, by decide +kernel⟩, List.mem_of_getElem? (i := 1024) (by decide +kernel), List.mem_of_getElem? (i := 1284) (by decide +kernel), List.mem_of_getElem? (i := 1285) (by decide +kernel)⟩
theorem lw_p69 : lw_okq (⟨"GasContractModel", "name", "()V"⟩, 47) := ⟨⟨by decide +kernel, by decide +kernel⟩, List.mem_of_getElem? (i := 1024) (by decide +kernel), List.mem_of_getElem? (i := 1288) (by decide +kernel), List.mem_of_getElem? (i := 1289) (by decide +kernel)⟩
theorem lw_p70 : lw_okq (⟨"GasContractModel", "findVariable", "(II)I"⟩, 47) := ⟨⟨by decide +kernel, by decide +kernel⟩, List.mem_of_getElem? (i := 1024) (by decide +kernel), List.mem_of_getElem? (i := 1292) (by decide +kernel), List.mem_of_getElem? (i := 1293) (by decide +kernel)⟩
theorem lw_p71 : lw_okq (⟨"GasContractModel", "alike", "(III)Z"⟩, 47) := ⟨⟨by decide +kernel, by decide +kernel⟩, List.mem_of_getElem? (i := 1024) (by decide +kernel), List.mem_of_getElem? (i := 1296) (by decide +kernel), List.mem_of_getElem? (i := 1297) (by decide +kernel)⟩
theorem lw_p72 : lw_okq (⟨"GasContractModel", "findFunction", "(II)I"⟩, 47) := ⟨⟨by decide +kernel, by decide +kernel⟩, List.mem_of_getElem? (i := 1024) (by decide +kernel), List.mem_of_getElem? (i := 1300) (by decide +kernel), List.mem_of_getElem? (i := 1301) (by decide +kernel)⟩
theorem lw_p73 : lw_okq (⟨"GasContractModel", "unnote", "()I"⟩, 47) := ⟨⟨by decide +kernel, by decide +kernel⟩, List.mem_of_getElem? (i := 1024) (by decide +kernel), List.mem_of_getElem? (i := 1304) (by decide +kernel), List.mem_of_getElem? (i := 1305) (by decide +kernel)⟩
theorem lw_p74 : lw_okq (⟨"GasContractModel", "must", "(II)V"⟩, 47) := ⟨⟨by decide +kernel, by decide +kernel⟩, List.mem_of_getElem? (i := 1024) (by decide +kernel), List.mem_of_getElem? (i := 1308) (by decide +kernel), List.mem_of_getElem? (i := 1309) (by decide +kernel)⟩
theorem lw_p75 : lw_okq (⟨"GasContractModel", "type", "()I"⟩, 47) := ⟨⟨by decide +kernel, by decide +kernel⟩, List.mem_of_getElem? (i := 1024) (by decide +kernel), List.mem_of_getElem? (i := 1312) (by decide +kernel), List.mem_of_getElem? (i := 1313) (by decide +kernel)⟩
theorem lw_p76 : lw_okq (⟨"GasContractModel", "callEnd", "()V"⟩, 47) := ⟨⟨by decide +kernel, by decide +kernel⟩, List.mem_of_getElem? (i := 1024) (by decide +kernel), List.mem_of_getElem? (i := 1316) (by decide +kernel), List.mem_of_getElem? (i := 1317) (by decide +kernel)⟩
theorem lw_p77 : lw_okq (⟨"GasContractModel", "join", "(I)V"⟩, 47) := ⟨⟨by decide +kernel, by decide +kernel⟩, List.mem_of_getElem? (i := 1024) (by decide +kernel), List.mem_of_getElem? (i := 1320) (by decide +kernel), List.mem_of_getElem? (i := 1321) (by decide +kernel)⟩
theorem lw_p78 : lw_okq (⟨"GasContractModel", "between", "(ZIIII)V"⟩, 47) := ⟨⟨by decide +kernel, by decide +kernel⟩, List.mem_of_getElem? (i := 1024) (by decide +kernel), List.mem_of_getElem? (i := 1324) (by decide +kernel), List.mem_of_getElem? (i := 1325) (by decide +kernel)⟩
theorem lw_p79 : lw_okq (⟨"GasContractModel", "branch", "(I)V"⟩, 47) := ⟨⟨by decide +kernel, by decide +kernel⟩, List.mem_of_getElem? (i := 1024) (by decide +kernel), List.mem_of_getElem? (i := 1328) (by decide +kernel), List.mem_of_getElem? (i := 1329) (by decide +kernel)⟩
def lw_privs_5 : List (MethodName × Nat) := [(⟨"GasContractModel", "factor", "()V"⟩, 47), (⟨"GasContractModel", "note", "(I)V"⟩, 47), (⟨"GasContractModel", "expectAll", "(IIII)V"⟩, 47), (⟨"GasContractModel", "emit", "(II)V"⟩, 47), (⟨"GasContractModel", "typeIs", "(I)V"⟩, 47), (⟨"GasContractModel", "name", "()V"⟩, 47), (⟨"GasContractModel", "findVariable", "(II)I"⟩, 47), (⟨"GasContractModel", "alike", "(III)Z"⟩, 47), (⟨"GasContractModel", "findFunction", "(II)I"⟩, 47), (⟨"GasContractModel", "unnote", "()I"⟩, 47), (⟨"GasContractModel", "must", "(II)V"⟩, 47), (⟨"GasContractModel", "type", "()I"⟩, 47), (⟨"GasContractModel", "callEnd", "()V"⟩, 47), (⟨"GasContractModel", "join", "(I)V"⟩, 47), (⟨"GasContractModel", "between", "(ZIIII)V"⟩, 47), (⟨"GasContractModel", "branch", "(I)V"⟩, 47)]
theorem lw_r5 : ∀ q ∈ lw_privs_5, lw_okq q := List.forall_mem_cons.mpr ⟨lw_p64, List.forall_mem_cons.mpr ⟨lw_p65, List.forall_mem_cons.mpr ⟨lw_p66, List.forall_mem_cons.mpr ⟨lw_p67, List.forall_mem_cons.mpr ⟨lw_p68, List.forall_mem_cons.mpr ⟨lw_p69, List.forall_mem_cons.mpr ⟨lw_p70, List.forall_mem_cons.mpr ⟨lw_p71, List.forall_mem_cons.mpr ⟨lw_p72, List.forall_mem_cons.mpr ⟨lw_p73, List.forall_mem_cons.mpr ⟨lw_p74, List.forall_mem_cons.mpr ⟨lw_p75, List.forall_mem_cons.mpr ⟨lw_p76, List.forall_mem_cons.mpr ⟨lw_p77, List.forall_mem_cons.mpr ⟨lw_p78, List.forall_mem_cons.mpr ⟨lw_p79, fun _ h => absurd h List.not_mem_nil⟩⟩⟩⟩⟩⟩⟩⟩⟩⟩⟩⟩⟩⟩⟩⟩
theorem lw_p80 : lw_okq (⟨"GasContractModel", "reckon", "(I)V"⟩, 47) := ⟨⟨by decide +kernel, by decide +kernel⟩, List.mem_of_getElem? (i := 1024) (by decide +kernel), List.mem_of_getElem? (i := 1332) (by decide +kernel), List.mem_of_getElem? (i := 1333) (by decide +kernel)⟩
theorem lw_p81 : lw_okq (⟨"GasContractModel", "land", "(I)V"⟩, 47) := ⟨⟨by decide +kernel, by decide +kernel⟩, List.mem_of_getElem? (i := 1024) (by decide +kernel), List.mem_of_getElem? (i := 1336) (by decide +kernel), List.mem_of_getElem? (i := 1337) (by decide +kernel)⟩
theorem lw_p82 : lw_okq (⟨"GasContractModel", "act", "(I)V"⟩, 47) := ⟨⟨by decide +kernel, by decide +kernel⟩, List.mem_of_getElem? (i := 1024) (by decide +kernel), List.mem_of_getElem? (i := 1340) (by decide +kernel), List.mem_of_getElem? (i := 1341) (by decide +kernel)⟩
theorem lw_p83 : lw_okq (⟨"GasContractModel", "setLet", "()V"⟩, 47) := ⟨⟨by decide +kernel, by decide +kernel⟩, List.mem_of_getElem? (i := 1024) (by decide +kernel), List.mem_of_getElem? (i := 1344) (by decide +kernel), List.mem_of_getElem? (i := 1345) (by decide +kernel)⟩
theorem lw_p84 : lw_okq (⟨"GasContractModel", "declare", "(III)V"⟩, 47) := ⟨⟨by decide +kernel, by decide +kernel⟩, List.mem_of_getElem? (i := 1024) (by decide +kernel), List.mem_of_getElem? (i := 1348) (by decide +kernel), List.mem_of_getElem? (i := 1349) (by decide +kernel)⟩
theorem lw_p85 : lw_okq (⟨"GasContractModel", "letName", "()V"⟩, 47) := ⟨⟨by decide +kernel, by decide +kernel⟩, List.mem_of_getElem? (i := 1024) (by decide +kernel), List.mem_of_getElem? (i := 1352) (by decide +kernel), List.mem_of_getElem? (i := 1353) (by decide +kernel)⟩
theorem lw_p86 : lw_okq (⟨"GasContractModel", "oldName", "()V"⟩, 47) := ⟨⟨by decide +kernel, by decide +kernel⟩, List.mem_of_getElem? (i := 1024) (by decide +kernel), List.mem_of_getElem? (i := 1356) (by decide +kernel), List.mem_of_getElem? (i := 1357) (by decide +kernel)⟩
theorem lw_p87 : lw_okq (⟨"GasContractModel", "elseJump", "()V"⟩, 47) := ⟨⟨by decide +kernel, by decide +kernel⟩, List.mem_of_getElem? (i := 1024) (by decide +kernel), List.mem_of_getElem? (i := 1360) (by decide +kernel), List.mem_of_getElem? (i := 1361) (by decide +kernel)⟩
theorem lw_p88 : lw_okq (⟨"GasContractModel", "whileTest", "()V"⟩, 47) := ⟨⟨by decide +kernel, by decide +kernel⟩, List.mem_of_getElem? (i := 1024) (by decide +kernel), List.mem_of_getElem? (i := 1364) (by decide +kernel), List.mem_of_getElem? (i := 1365) (by decide +kernel)⟩
theorem lw_p89 : lw_okq (⟨"GasContractModel", "whileEnd", "()V"⟩, 47) := ⟨⟨by decide +kernel, by decide +kernel⟩, List.mem_of_getElem? (i := 1024) (by decide +kernel), List.mem_of_getElem? (i := 1368) (by decide +kernel), List.mem_of_getElem? (i := 1369) (by decide +kernel)⟩
theorem lw_p90 : lw_okq (⟨"GasContractModel", "outer", "(I)V"⟩, 47) := ⟨⟨by decide +kernel, by decide +kernel⟩, List.mem_of_getElem? (i := 1024) (by decide +kernel), List.mem_of_getElem? (i := 1372) (by decide +kernel), List.mem_of_getElem? (i := 1373) (by decide +kernel)⟩
theorem lw_p91 : lw_okq (⟨"GasContractModel", "functionName", "()V"⟩, 47) := ⟨⟨by decide +kernel, by decide +kernel⟩, List.mem_of_getElem? (i := 1024) (by decide +kernel), List.mem_of_getElem? (i := 1376) (by decide +kernel), List.mem_of_getElem? (i := 1377) (by decide +kernel)⟩
theorem lw_p92 : lw_okq (⟨"GasContractModel", "parameter", "()V"⟩, 47) := ⟨⟨by decide +kernel, by decide +kernel⟩, List.mem_of_getElem? (i := 1024) (by decide +kernel), List.mem_of_getElem? (i := 1380) (by decide +kernel), List.mem_of_getElem? (i := 1381) (by decide +kernel)⟩
theorem lw_p93 : lw_okq (⟨"GasContractModel", "statement", "()V"⟩, 47) := ⟨⟨by decide +kernel, by decide +kernel⟩, List.mem_of_getElem? (i := 1024) (by decide +kernel), List.mem_of_getElem? (i := 1384) (by decide +kernel), List.mem_of_getElem? (i := 1385) (by decide +kernel)⟩
theorem lw_p94 : lw_okq (⟨"GasContractModel", "push", "(I)V"⟩, 47) := ⟨⟨by decide +kernel, by decide +kernel⟩, List.mem_of_getElem? (i := 1024) (by decide +kernel), List.mem_of_getElem? (i := 1405) (by decide +kernel), List.mem_of_getElem? (i := 1406) (by decide +kernel)⟩
theorem lw_p95 : lw_okq (⟨"GasContractModel", "enter", "(II)I"⟩, 47) := ⟨⟨by decide +kernel, by decide +kernel⟩, List.mem_of_getElem? (i := 1024) (by decide +kernel), List.mem_of_getElem? (i := 1409) (by decide +kernel), List.mem_of_getElem? (i := 1410) (by decide +kernel)⟩
def lw_privs_6 : List (MethodName × Nat) := [(⟨"GasContractModel", "reckon", "(I)V"⟩, 47), (⟨"GasContractModel", "land", "(I)V"⟩, 47), (⟨"GasContractModel", "act", "(I)V"⟩, 47), (⟨"GasContractModel", "setLet", "()V"⟩, 47), (⟨"GasContractModel", "declare", "(III)V"⟩, 47), (⟨"GasContractModel", "letName", "()V"⟩, 47), (⟨"GasContractModel", "oldName", "()V"⟩, 47), (⟨"GasContractModel", "elseJump", "()V"⟩, 47), (⟨"GasContractModel", "whileTest", "()V"⟩, 47), (⟨"GasContractModel", "whileEnd", "()V"⟩, 47), (⟨"GasContractModel", "outer", "(I)V"⟩, 47), (⟨"GasContractModel", "functionName", "()V"⟩, 47), (⟨"GasContractModel", "parameter", "()V"⟩, 47), (⟨"GasContractModel", "statement", "()V"⟩, 47), (⟨"GasContractModel", "push", "(I)V"⟩, 47), (⟨"GasContractModel", "enter", "(II)I"⟩, 47)]
theorem lw_r6 : ∀ q ∈ lw_privs_6, lw_okq q := List.forall_mem_cons.mpr ⟨lw_p80, List.forall_mem_cons.mpr ⟨lw_p81, List.forall_mem_cons.mpr ⟨lw_p82, List.forall_mem_cons.mpr ⟨lw_p83, List.forall_mem_cons.mpr ⟨lw_p84, List.forall_mem_cons.mpr ⟨lw_p85, List.forall_mem_cons.mpr ⟨lw_p86, List.forall_mem_cons.mpr ⟨lw_p87, List.forall_mem_cons.mpr ⟨lw_p88, List.forall_mem_cons.mpr ⟨lw_p89, List.forall_mem_cons.mpr ⟨lw_p90, List.forall_mem_cons.mpr ⟨lw_p91, List.forall_mem_cons.mpr ⟨lw_p92, List.forall_mem_cons.mpr ⟨lw_p93, List.forall_mem_cons.mpr ⟨lw_p94, List.forall_mem_cons.mpr ⟨lw_p95, fun _ h => absurd h List.not_mem_nil⟩⟩⟩⟩⟩⟩⟩⟩⟩⟩⟩⟩⟩⟩⟩⟩
theorem lw_p96 : lw_okq (⟨"GasContractModel", "pop", "()I"⟩, 47) := ⟨⟨by decide +kernel, by decide +kernel⟩, List.mem_of_getElem? (i := 1024) (by decide +kernel), List.mem_of_getElem? (i := 1413) (by decide +kernel), List.mem_of_getElem? (i := 1414) (by decide +kernel)⟩
theorem lw_p97 : lw_okq (⟨"GasContractModel", "go", "(I)I"⟩, 47) := ⟨⟨by decide +kernel, by decide +kernel⟩, List.mem_of_getElem? (i := 1024) (by decide +kernel), List.mem_of_getElem? (i := 1420) (by decide +kernel), List.mem_of_getElem? (i := 1421) (by decide +kernel)⟩
theorem lw_p98 : lw_okq (⟨"GasContractModel", "keep", "(II)Z"⟩, 47) := ⟨⟨by decide +kernel, by decide +kernel⟩, List.mem_of_getElem? (i := 1024) (by decide +kernel), List.mem_of_getElem? (i := 1431) (by decide +kernel), List.mem_of_getElem? (i := 1432) (by decide +kernel)⟩
theorem lw_p99 : lw_okq (⟨"GasContractModel", "leave", "(I)I"⟩, 47) := ⟨⟨by decide +kernel, by decide +kernel⟩, List.mem_of_getElem? (i := 1024) (by decide +kernel), List.mem_of_getElem? (i := 1435) (by decide +kernel), List.mem_of_getElem? (i := 1436) (by decide +kernel)⟩
def lw_privs_7 : List (MethodName × Nat) := [(⟨"GasContractModel", "pop", "()I"⟩, 47), (⟨"GasContractModel", "go", "(I)I"⟩, 47), (⟨"GasContractModel", "keep", "(II)Z"⟩, 47), (⟨"GasContractModel", "leave", "(I)I"⟩, 47)]
theorem lw_r7 : ∀ q ∈ lw_privs_7, lw_okq q := List.forall_mem_cons.mpr ⟨lw_p96, List.forall_mem_cons.mpr ⟨lw_p97, List.forall_mem_cons.mpr ⟨lw_p98, List.forall_mem_cons.mpr ⟨lw_p99, fun _ h => absurd h List.not_mem_nil⟩⟩⟩⟩
def lw_privs : List (MethodName × Nat) := lw_privs_1 ++ (lw_privs_2 ++ (lw_privs_3 ++ (lw_privs_4 ++ (lw_privs_5 ++ (lw_privs_6 ++ (lw_privs_7))))))
def lw_tbl : List Cond := k2_sels lw_privs ++ tables_1
theorem lw_privs_ok : ∀ q ∈ lw_privs, lw_okq q := by
  show ∀ q ∈ lw_privs_1 ++ (lw_privs_2 ++ (lw_privs_3 ++ (lw_privs_4 ++ (lw_privs_5 ++ (lw_privs_6 ++ (lw_privs_7)))))), lw_okq q
  exact List.forall_mem_append.mpr ⟨lw_r1, List.forall_mem_append.mpr ⟨lw_r2, List.forall_mem_append.mpr ⟨lw_r3, List.forall_mem_append.mpr ⟨lw_r4, List.forall_mem_append.mpr ⟨lw_r5, List.forall_mem_append.mpr ⟨lw_r6, lw_r7⟩⟩⟩⟩⟩⟩
-- ===== end of PART A; then your names; then what follows =====
end
section
/-! ===== BEGIN words of one list among another's, by their places ===== -/
theorem goodIn_r {big : List Cond} (ws : List Cond) (ps : List Nat) (hp : ws = ps.filterMap (fun i => big[i]?)) (h : ws.all goodWord = true) : GoodIn big ws := by
  intro w hw
  have h1 := List.all_eq_true.mp h w hw
  rw [hp] at hw
  obtain ⟨i, -, hi⟩ := List.mem_filterMap.mp hw
  have hm : w ∈ big := by first | exact List.mem_of_getElem? hi | exact List.getElem?_mem hi
  exact ⟨hm, good_of_word h1⟩
theorem goodIn_app {big a b : List Cond} (ha : GoodIn big a) (hb : GoodIn big b) : GoodIn big (a ++ b) := fun w h => (List.mem_append.mp h).elim (ha w) (hb w)
theorem goodIn_ca {big a b : List Cond} {c : Cond} (ha : GoodIn big (c :: a)) (hb : GoodIn big b) : GoodIn big (c :: (a ++ b)) := fun w h => (List.mem_cons.mp h).elim (fun e => ha w (List.mem_cons.mpr (Or.inl e))) (fun h => (List.mem_append.mp h).elim (fun h => ha w (List.mem_cons.mpr (Or.inr h))) (hb w))
theorem goodIn_sub {big ws : List Cond} (hm : ∀ w ∈ ws, w ∈ big) (h : ws.all goodWord = true) : GoodIn big ws := fun w hw => ⟨hm w hw, good_of_word (List.all_eq_true.mp h w hw)⟩
/-! ===== END ===== -/

/-! ===== BEGIN exceptions that leave a method, and their catching by the caller (launches without stack traces) ===== -/
section VXA
/-! The laws vx_back, vx_callV, vx_callS, vx_callSW, vx_throw0, vx_throwS follow proofs of the library, with one case more: JvmDerived/Free/Laws.lean (Back.of_free), Shelf42/LK1.lean (callV, callS), Shelf/KitTraced.lean (throwNew0V, throwNewS). -/
/-- where a method has thrown q: the class by its name, the cell, what was written, the world -/
def vx_T (XC : String → State → State → Prop) (st : State) (q : Addr) (t : State) (mc ms : Nat) (free : Addr → Prop) : Prop :=
  ∃ (E : String) (ce : Cell) (L : List Loc), XC E st t ∧ t.heap[q]? = some ce ∧ ce.vm = .none ∧ st.vm.findClass E = some ce.cls ∧ st.WarmedH t.vm ∧ st.sameButNew ({ t with vm := st.vm } : State) L mc ms ∧ ∀ z ∈ L, free z.base
def vx_Q (Qc : Array Value → State → Outcome → State → Prop) (XC : String → State → State → Prop) (mc ms : Nat) (free : Addr → Prop) : Array Value → State → Outcome → State → Prop := fun a st o t =>
  (Qc a st o t ∧ ∃ L, FrameEnd st o t L mc ms ∧ ∀ q ∈ L, free q.base) ∨ ∃ q, o = .threw q ∧ vx_T XC st q t mc ms free
/-- a callee that returns or throws -/
def vx_Met (l : Launch) (y : MethodName) (ws : List Cond) (rm : Room) (Pc : Array Value → State → Prop) (Qc : Array Value → State → Outcome → State → Prop) (XC : String → State → State → Prop) (mc ms : Nat) (free : Addr → Prop) : Prop :=
  MetFree l y (headSpec ws rm) Pc (fun _ _ _ _ _ => True) (vx_Q Qc XC mc ms free)
def vx_Post (XC : String → State → State → Prop) (mc ms : Nat) (free : Addr → Prop) : Pt → Array Value → Addr → Pt → Prop := fun A a q B =>
  ∃ (g : JFrame) (mk : MethodId) (t : State) (L : List Loc) (E : String) (ce : Cell), B.U.heap = t.heap ∧ B.U.vm = t.vm ∧ XC E (A.U.calling g mk a) t ∧ t.heap[q]? = some ce ∧ ce.vm = .none ∧ A.U.vm.findClass E = some ce.cls ∧ B.locs = A.locs ++ L ∧ (∀ z ∈ L, free z.base) ∧ B.cells = A.cells + mc ∧ B.slots = A.slots + ms
def vx_Back (l : Launch) (R : Room) (p : Program) (e : Env) (below : List Frame) (s : State) (sargs : Array Value) (y : MethodName) (len W9 : Nat)
    (Pre : Pt → Array Value → Prop) (Post : Pt → Array Value → Option Value → Pt → Prop) (PostX : Pt → Array Value → Addr → Pt → Prop) : Prop :=
  ∀ (m : MethodId) (meth : Method) (c : Code) (A : Pt) (g : JFrame) (ig : Instr) (mk : MethodId) (a : Array Value),
    Stand p l e R s m sargs below meth c A.U A.locs A.cells A.slots → g.method = m → g.locals.size = c.maxLocals → decode c.code g.pc = .ok (ig, len) →
    2 * g.monitorRoom + (g.stack.map fun v => v.category).sum ≤ W9 → A.U.methodNamed? y = some mk → Pre A a →
    (∃ (v : Option Value) (B : Pt), Stand p l e R s m sargs below meth c B.U B.locs B.cells B.slots ∧ Post A a v B ∧
      Steps p.tables e below (doInvoke e (A.U.setTop g) [] mk a).1 (B.U.setTop { g with pc := g.pc + len, stack := v.toList ++ g.stack })) ∨
    (∃ (q : Addr) (B : Pt), Stand p l e R s m sargs below meth c B.U B.locs B.cells B.slots ∧ PostX A a q B ∧
      Steps p.tables e below (doInvoke e (A.U.setTop g) [] mk a).1 ((B.U.setTop g).pushFrame (.throwing q)))
section Payer
variable {l : Launch} {R : Room} {p : Program} {e : Env} {below : List Frame} {s : State} {sargs : Array Value} {y : MethodName} {len W9 : Nat}
theorem vx_back {ws : List Cond} {rm : Room} {Pc : Array Value → State → Prop} {Qc : Array Value → State → Outcome → State → Prop} {XC : String → State → State → Prop} {mc ms : Nat} {free : Addr → Prop} {bytes : ByteArray} {maxL : Nat} {ret : Option FieldType}
    (hM : vx_Met l y ws rm Pc Qc XC mc ms free) (hblind : FrameBlind Pc) (hrc : rm.cells = mc) (hrs : rm.slots = ms)
    (hframes : rm.frames + 1 ≤ R.frames) (hlocals : W9 + (maxL + 11) + rm.locals ≤ R.locals)
    (hws : ∀ w ∈ ws, ∀ a' U, s.WarmedH U.vm → w.before a' U = true) (hcode : Cond.code y bytes maxL ret ∈ ws) (hinit : ∀ a' U, s.WarmedH U.vm → (Cond.initialized y.cls).before a' U = true) :
    vx_Back l R p e below s sargs y len W9 (PreOf R mc ms Pc) (PostOf Qc mc ms free) (vx_Post XC mc ms free) := by
  intro m meth c A g ig mk a X hg hsize hdg hW hn hp
  have h1 : (headSpec ws rm).pre.before a A.U = true := atoms_intro fun w hw => hws w hw _ _ X.warmed
  have h2 : (Cond.code y bytes maxL ret).before a A.U = true := hws _ hcode _ _ X.warmed
  have h3 : (Cond.initialized y.cls).before a A.U = true := hinit _ _ X.warmed
  have h4 : A.cells + (headSpec ws rm).room.cells ≤ R.cells := by rw [show (headSpec ws rm).room.cells = mc from hrc]; exact hp.1
  have h5 : A.slots + (headSpec ws rm).room.slots ≤ R.slots := by rw [show (headSpec ws rm).room.slots = ms from hrs]; exact hp.2.1
  have hPc : Pc a (A.U.calling g mk a) := hblind _ _ _ _ hp.2.2
  obtain ⟨U, Ls, c0, s0⟩ := A
  dsimp only [Pt.U, Pt.locs, Pt.cells, Pt.slots] at h1 h2 h3 h4 h5 X hn hPc ⊢
  obtain ⟨methY, cY, hmY, hcY, -, hlY, -, -, -, -⟩ := Cond.code_spec hn h2
  obtain ⟨kY, hkY, -⟩ := className_of_methodNamed hn
  have hinitY : kY.init = .initialized := Cond.initialized_spec (findClass_of_methodNamed hn) hkY h3
  have h : At U g.method c below := by rw [hg]; exact X.here
  have hlocals9 : W9 + (maxL + 11) + (headSpec ws rm).room.locals ≤ R.locals := hlocals
  have happ : (headSpec ws rm).appliesLoose y e.platform (U.calling g mk a) = true :=
    Spec.appliesLoose_calling (g := g) h hdg hn hkY hinitY
      (X.room_calling (g := g) (R' := (headSpec ws rm).room) hsize hmY hcY hframes (by rw [hlY]; omega) h4 h5) h1
  obtain ⟨mid, hmid⟩ := h.above
  have hfr : (U.setTop g).frames = (.java g :: mid) ++ below := by rw [State.frames_setTop' g h.top, hmid]; rfl
  obtain ⟨o, s₂, hsteps, -, hend, hq⟩ := Steps.callFree hM p X.admits X.cas X.clock (acts := []) hfr happ hPc trivial
  have hq' : vx_Q Qc XC mc ms free a (U.calling g mk a) o s₂ := hq
  rw [State.frames_setTop' g h.top] at hend
  obtain ⟨g₀, hg0⟩ := Option.isSome_iff_exists.mp h.top
  obtain ⟨r, hr⟩ := State.topJava?_eq_some.mp hg0
  have hr' : (({ U with heap := s₂.heap, slotsUsed := s₂.slotsUsed } : State).setVm s₂.vm).frames = .java g₀ :: r := hr
  rcases hq' with ⟨hqc, L, hfe, hL⟩ | ⟨q, rfl, E, ce, L, hx, hce, hcv, hcl, hW₂, hsm, hL⟩
  · obtain ⟨⟨v, rfl⟩, hW₂, e2, q2, q3, q4, q5, q6⟩ := id hfe
    have e3 : s₂ = ({ (U.calling g mk a).setFrames s₂.frames with heap := s₂.heap, slotsUsed := s₂.slotsUsed } : State).setVm s₂.vm := by
      have : s₂ = ({ s₂ with vm := (U.calling g mk a).vm } : State).setVm s₂.vm := rfl
      rw [e2] at this
      exact this
    obtain ⟨c₂, i₂, len₂, hc₂, hd₂, hf₂⟩ := hend
    have hW' : U.WarmedH s₂.vm := hW₂
    have hcc : c₂ = c := by
      have h1 : s₂.code? g.method = U.code? g.method := by
        rw [State.code?_eq, State.code?_eq, hW'.alike.method?]
      exact Option.some.inj (hc₂.symm.trans (h1.trans h.code))
    subst hcc
    have hlen : len₂ = len := by rw [hdg] at hd₂; cases hd₂; rfl
    subst hlen
    have hs₂ : s₂ = (({ U with heap := s₂.heap, slotsUsed := s₂.slotsUsed } : State).setVm s₂.vm).setTop { g with pc := g.pc + len₂, stack := v.toList ++ g.stack } := by
      refine e3.trans ?_
      rw [hf₂, State.calling_eq h.top, State.setFrames_setFrames, State.setTop_of_frames _ hr', hr]
      rfl
    have hsame : U.sameButNew ({ U with heap := s₂.heap, slotsUsed := s₂.slotsUsed } : State) L mc ms := by
      refine ⟨?_, q2, q3, q4, q5, q6⟩
      obtain ⟨t, ht, -⟩ := State.frames_cons hr
      show ({ U with heap := s₂.heap, slotsUsed := s₂.slotsUsed } : State) = { U.setFrames U.frames with heap := s₂.heap, slotsUsed := s₂.slotsUsed }
      rw [State.setFrames_self ht]
    subst hg
    refine Or.inl ⟨v, ⟨(({ U with heap := s₂.heap, slotsUsed := s₂.slotsUsed } : State).setVm s₂.vm), Ls ++ L, c0 + mc, s0 + ms⟩,
      ⟨X.admits, X.cas, X.clock, X.frames, X.room, X.hears, X.method, X.code, (X.here.setHeapUsed s₂.heap s₂.slotsUsed).setVm hW'.alike, X.tail, State.WarmedH.trans X.warmed hW', X.limits, X.bytes, X.same.trans (hsame.setVm s.vm)⟩,
      ⟨g, mk, s₂, L, rfl, rfl, hqc, rfl, hL, rfl, rfl⟩, ?_⟩
    show Steps p.tables e below _ ((({ U with heap := s₂.heap, slotsUsed := s₂.slotsUsed } : State).setVm s₂.vm).setTop { g with pc := g.pc + len₂, stack := v.toList ++ g.stack })
    rw [← hs₂]
    exact hsteps
  · obtain ⟨e2, q2, q3, q4, q5, q6⟩ := id hsm
    have e3 : s₂ = ({ (U.calling g mk a).setFrames s₂.frames with heap := s₂.heap, slotsUsed := s₂.slotsUsed } : State).setVm s₂.vm := by
      have : s₂ = ({ s₂ with vm := (U.calling g mk a).vm } : State).setVm s₂.vm := rfl
      rw [e2] at this
      exact this
    have hf₂ : s₂.frames = .throwing q :: .java g :: U.frames.tail := hend
    have hW' : U.WarmedH s₂.vm := hW₂
    have hs₂ : s₂ = ((({ U with heap := s₂.heap, slotsUsed := s₂.slotsUsed } : State).setVm s₂.vm).setTop g).pushFrame (.throwing q) := by
      refine e3.trans ?_
      rw [hf₂, State.calling_eq h.top, State.setFrames_setFrames, State.pushFrame, State.frames_setTop _ hr', State.setTop_of_frames _ hr', State.setFrames_setFrames, hr]
      rfl
    have hsame : U.sameButNew ({ U with heap := s₂.heap, slotsUsed := s₂.slotsUsed } : State) L mc ms := by
      refine ⟨?_, q2, q3, q4, q5, q6⟩
      obtain ⟨t, ht, -⟩ := State.frames_cons hr
      show ({ U with heap := s₂.heap, slotsUsed := s₂.slotsUsed } : State) = { U.setFrames U.frames with heap := s₂.heap, slotsUsed := s₂.slotsUsed }
      rw [State.setFrames_self ht]
    subst hg
    refine Or.inr ⟨q, ⟨(({ U with heap := s₂.heap, slotsUsed := s₂.slotsUsed } : State).setVm s₂.vm), Ls ++ L, c0 + mc, s0 + ms⟩,
      ⟨X.admits, X.cas, X.clock, X.frames, X.room, X.hears, X.method, X.code, (X.here.setHeapUsed s₂.heap s₂.slotsUsed).setVm hW'.alike, X.tail, State.WarmedH.trans X.warmed hW', X.limits, X.bytes, X.same.trans (hsame.setVm s.vm)⟩,
      ⟨g, mk, s₂, L, E, ce, rfl, rfl, hx, hce, hcv, hcl, rfl, hL, rfl, rfl⟩, ?_⟩
    show Steps p.tables e below _ (((({ U with heap := s₂.heap, slotsUsed := s₂.slotsUsed } : State).setVm s₂.vm).setTop g).pushFrame (.throwing q))
    rw [← hs₂]
    exact hsteps
end Payer
section Calls
variable {p : Program} {l : Launch} {e : Env} {R : Room} {s : State} {m : MethodId} {args : Array Value} {below : List Frame} {meth : Method} {c : Code} {T : State} {locs : List Loc} {cells slots : Nat}
theorem vx_callV (X : Stand p l e R s m args below meth c T locs cells slots) (hexec : p.tables.exec = Jvm.exec) {own C : String} {index : Nat} {y : MethodName} {bytes : ByteArray} {maxL : Nat} {ret : Option FieldType}
    (hown : s.vm.findClass own = some m.cls) (hlink : (Cond.methodLink own index y).before args s = true) (hinst : (Cond.instanceMethod y).before args s = true) (hsel : (Cond.selects C y y).before args s = true)
    (hcode : (Cond.code y bytes maxL ret).before args s = true) (hy : y.cls ≠ "java/lang/invoke/MethodHandle" ∧ y.cls ≠ "java/lang/invoke/VarHandle")
    {W9 : Nat} {Pre : Pt → Array Value → Prop} {Post : Pt → Array Value → Option Value → Pt → Prop} {PostX : Pt → Array Value → Addr → Pt → Prop} (hK : vx_Back l R p e below s args y 3 W9 Pre Post PostX)
    {b : Addr} {cellB : Cell} (hcell : T.heap[b]? = some cellB) (hobj : cellB.vm.isStatics = false) (hcls : s.vm.findClass C = some cellB.cls)
    {g : JFrame} (hg : g.method = m) (hsize : g.locals.size = c.maxLocals) {argsL rest : List Value} (hlen : ∀ sig, parseMethodDescriptor y.desc = some sig → argsL.length = sig.parameters.length)
    (hstack : g.stack = argsL.reverse ++ .ref b :: rest) (hW : 2 * g.monitorRoom + (rest.map fun v => v.category).sum ≤ W9) (hdg : decode c.code g.pc = .ok (.invokevirtual index, 3))
    (hpre : ∀ vm₁, s.WarmedH vm₁ → Pre ⟨T.setVm vm₁, locs, cells, slots⟩ (Value.ref b :: argsL).toArray) :
    (∃ (v : Option Value) (vm₁ : Vm) (B : Pt), s.WarmedH vm₁ ∧ Stand p l e R s m args below meth c B.U B.locs B.cells B.slots ∧ Post ⟨T.setVm vm₁, locs, cells, slots⟩ (Value.ref b :: argsL).toArray v B ∧
      ∀ target, Steps p.tables e below (B.U.setTop { g with pc := g.pc + 3, stack := v.toList ++ rest }) target → Steps p.tables e below (T.setTop g) target) ∨
    (∃ (q : Addr) (vm₁ : Vm) (B : Pt), s.WarmedH vm₁ ∧ Stand p l e R s m args below meth c B.U B.locs B.cells B.slots ∧ PostX ⟨T.setVm vm₁, locs, cells, slots⟩ (Value.ref b :: argsL).toArray q B ∧
      Steps p.tables e below (T.setTop g) ((B.U.setTop { g with stack := rest }).pushFrame (.throwing q))) := by
  obtain ⟨mk, methM, hnamed, hmethM, hstM, habM⟩ := Cond.instanceMethod_spec hinst
  obtain ⟨methM', cM, hmethM', -, -, -, -, -, -, hsigM⟩ := Cond.code_spec hnamed hcode
  cases hmethM.symm.trans hmethM'
  obtain ⟨c2, r2, m2, q1, q2, q3, q4, kP, hkP, hkPi⟩ := Cond.selects_spec hsel
  cases hcls.symm.trans q1
  cases (State.methodFound?_of_named hnamed hy).symm.trans q2
  cases hnamed.symm.trans q3
  have hselP : selectMethod e.platform s.vm cellB.cls mk = .method mk := by rw [Launch.admits_selectMethod X.admits]; exact q4
  obtain ⟨vm₁, X₁, hstep₁⟩ := X.invokevirtual hexec hown hlink hnamed hmethM hstM hkP hkPi hy (a := b) (cell := cellB) hcell
    (fun z h => by rw [h] at hobj; cases hobj) hselP hmethM habM hkP hkPi (g := g) hg (argsL := argsL) (rest := rest) (hlen _ hsigM) hstack hdg
  rcases hK m meth c ⟨T.setVm vm₁, locs, cells, slots⟩ { g with stack := rest } (.invokevirtual index) mk (Value.ref b :: argsL).toArray X₁ hg hsize hdg hW (X₁.named hnamed) (hpre vm₁ X₁.warmed) with ⟨v, B, X', hpost, hsteps⟩ | ⟨q, B, X', hpost, hsteps⟩
  · exact Or.inl ⟨v, vm₁, B, X₁.warmed, X', hpost, fun target h => hstep₁ _ fun acts => by rw [doInvoke_state]; exact hsteps.trans h⟩
  · exact Or.inr ⟨q, vm₁, B, X₁.warmed, X', hpost, hstep₁ _ fun acts => by rw [doInvoke_state]; exact hsteps⟩
theorem vx_callS (X : Stand p l e R s m args below meth c T locs cells slots) (hexec : p.tables.exec = Jvm.exec) {own : String} {index : Nat} {y : MethodName} {bytes : ByteArray} {maxL : Nat} {ret : Option FieldType}
    (hown : s.vm.findClass own = some m.cls) (hlink : (Cond.methodLink own index y).before args s = true) (hstat : (Cond.static y).before args s = true) (hinit : (Cond.initialized y.cls).before args s = true)
    (hcode : (Cond.code y bytes maxL ret).before args s = true) (hy : y.cls ≠ "java/lang/invoke/MethodHandle" ∧ y.cls ≠ "java/lang/invoke/VarHandle")
    {W9 : Nat} {Pre : Pt → Array Value → Prop} {Post : Pt → Array Value → Option Value → Pt → Prop} {PostX : Pt → Array Value → Addr → Pt → Prop} (hK : vx_Back l R p e below s args y 3 W9 Pre Post PostX)
    {g : JFrame} (hg : g.method = m) (hsize : g.locals.size = c.maxLocals) {argsL rest : List Value} (hlen : ∀ sig, parseMethodDescriptor y.desc = some sig → argsL.length = sig.parameters.length)
    (hstack : g.stack = argsL.reverse ++ rest) (hW : 2 * g.monitorRoom + (rest.map fun v => v.category).sum ≤ W9) (hdg : decode c.code g.pc = .ok (.invokestatic index, 3))
    (hpre : ∀ vm₁, s.WarmedH vm₁ → Pre ⟨T.setVm vm₁, locs, cells, slots⟩ argsL.toArray) :
    (∃ (v : Option Value) (vm₁ : Vm) (B : Pt), s.WarmedH vm₁ ∧ Stand p l e R s m args below meth c B.U B.locs B.cells B.slots ∧ Post ⟨T.setVm vm₁, locs, cells, slots⟩ argsL.toArray v B ∧
      ∀ target, Steps p.tables e below (B.U.setTop { g with pc := g.pc + 3, stack := v.toList ++ rest }) target → Steps p.tables e below (T.setTop g) target) ∨
    (∃ (q : Addr) (vm₁ : Vm) (B : Pt), s.WarmedH vm₁ ∧ Stand p l e R s m args below meth c B.U B.locs B.cells B.slots ∧ PostX ⟨T.setVm vm₁, locs, cells, slots⟩ argsL.toArray q B ∧
      Steps p.tables e below (T.setTop g) ((B.U.setTop { g with stack := rest }).pushFrame (.throwing q))) := by
  obtain ⟨mk, hnamed⟩ := Cond.code_named hcode
  obtain ⟨methM, cM, hmethM, -, -, -, -, -, -, hsigM⟩ := Cond.code_spec hnamed hcode
  have hstatic : methM.isStatic = true := Cond.static_spec hnamed hmethM hstat
  obtain ⟨kP, hkP, -⟩ := className_of_methodNamed hnamed
  have hinitP : kP.init = .initialized := Cond.initialized_spec (findClass_of_methodNamed hnamed) hkP hinit
  obtain ⟨vm₁, X₁, hstep₁⟩ := X.invokestatic hexec hown hlink hnamed hmethM hstatic hkP hinitP hy (g := g) hg (argsL := argsL) (rest := rest) (hlen _ hsigM) hstack hdg
  rcases hK m meth c ⟨T.setVm vm₁, locs, cells, slots⟩ { g with stack := rest } (.invokestatic index) mk argsL.toArray X₁ hg hsize hdg hW (X₁.named hnamed) (hpre vm₁ X₁.warmed) with ⟨v, B, X', hpost, hsteps⟩ | ⟨q, B, X', hpost, hsteps⟩
  · exact Or.inl ⟨v, vm₁, B, X₁.warmed, X', hpost, fun target h => hstep₁ _ fun acts => by rw [doInvoke_state]; exact hsteps.trans h⟩
  · exact Or.inr ⟨q, vm₁, B, X₁.warmed, X', hpost, hstep₁ _ fun acts => by rw [doInvoke_state]; exact hsteps⟩
end Calls
theorem vx_cls {s : State} {T : State} {vm₁ : Vm} {E : String} {k : ClassId} (hW : s.WarmedH vm₁) (h : (T.setVm vm₁).vm.findClass E = some k) : s.vm.findClass E = some k := by
  have h1 : vm₁.findClass E = some k := h
  rw [hW.alike.findClass] at h1
  exact h1
/-- the method's frame g, with q thrown over it -/
def vx_W (p : Program) (l : Launch) (e : Env) (R : Room) (s : State) (m : MethodId) (args : Array Value) (below : List Frame) (meth : Method) (c : Code) (H : Heap) (locs : List Loc) (cells slots : Nat) (Q : State → Prop) (g : JFrame) (q : Addr) : Prop :=
  ∀ T : State, T.heap = H → Stand p l e R s m args below meth c T locs cells slots → ∃ t, Steps p.tables e below ((T.setTop g).pushFrame (.throwing q)) t ∧ Q t
def vx_Run (p : Program) (l : Launch) (e : Env) (R : Room) (s : State) (m : MethodId) (args : Array Value) (below : List Frame) (meth : Method) (c : Code) (H : Heap) (locs : List Loc) (cells slots mc ms : Nat) (g : JFrame) (rest : List Value) (Qa : State → Outcome → State → Prop) (XC : String → State → State → Prop) (free : Addr → Prop) : Prop :=
  ∀ T : State, T.heap = H → Stand p l e R s m args below meth c T locs cells slots →
    (∃ (v : Option Value) (st₀ t T' : State) (L : List Loc), st₀.heap = H ∧ Stand p l e R s m args below meth c T' (locs ++ L) (cells + mc) (slots + ms) ∧ (∀ q ∈ L, free q.base) ∧ T'.heap = t.heap ∧ T'.vm = t.vm ∧ Qa st₀ (.returned v) t ∧
      Goes p e below T g T' { g with pc := g.pc + 3, stack := v.toList ++ rest }) ∨
    (∃ (q : Addr) (st₀ t T' : State) (L : List Loc) (E : String) (ce : Cell), st₀.heap = H ∧ Stand p l e R s m args below meth c T' (locs ++ L) (cells + mc) (slots + ms) ∧ (∀ z ∈ L, free z.base) ∧ T'.heap = t.heap ∧ T'.vm = t.vm ∧ XC E st₀ t ∧ t.heap[q]? = some ce ∧ ce.vm = .none ∧ s.vm.findClass E = some ce.cls ∧
      Steps p.tables e below (T.setTop g) ((T'.setTop { g with stack := rest }).pushFrame (.throwing q)))
def vx_X {S : Type} (px : S → Prop) (B : String → S → State → Prop) (A : Nat → Prop) : String → State → State → Prop := fun E st t => ∃ u : S, px u ∧ B E u t ∧ va_F A st t
section Runs
variable {p : Program} {l : Launch} {e : Env} {R : Room} {s : State} {m : MethodId} {args : Array Value} {below : List Frame} {meth : Method} {c : Code} {H : Heap} {locs : List Loc} {cells slots : Nat}
variable {y : MethodName} {bytes cc : ByteArray} {maxL nL mc ms n index : Nat} {ret : Option FieldType} {ws : List Cond} {rm : Room} {Pc : Array Value → State → Prop} {Qc : Array Value → State → Outcome → State → Prop} {XC : String → State → State → Prop} {free : Addr → Prop} {Ts : List Cond} {own C : String} {b : Addr} {As rest : List Value} {g : JFrame}
theorem vx_callBack (cb : CallB R s args own index y bytes maxL ret ws rm mc ms n) (hM : vx_Met l y ws rm Pc Qc XC mc ms free) (hbl : FrameBlind Pc) : vx_Back l R p e below s args y 3 8 (PreOf R mc ms Pc) (PostOf Qc mc ms free) (vx_Post XC mc ms free) := by
  obtain ⟨hrc, hrs, hfr, hlo, hws, hcw, -, hini, -⟩ := cb
  exact vx_back (bytes := bytes) (maxL := maxL) (ret := ret) hM hbl hrc hrs hfr hlo hws hcw (fun a' U hW => word_at hW (Or.inl (by first | rfl | simp [Cond.onTables, Cond.keeps, Cond.steady])) hini)
theorem vx_runV (S : CallFix p m c cc nL s args Ts own) (hM : vx_Met l y ws rm Pc Qc XC mc ms free) (cw : CallW R s args own C index y bytes maxL ret ws rm mc ms n) (hp : PreV s H C b Pc As)
    (hg : g.method = m) (hn : As.length = n) (hsize : g.locals.size = nL) (hstack : g.stack = As.reverse ++ .ref b :: rest) (hW : 2 * g.monitorRoom + (rest.map fun v => v.category).sum ≤ 8) (hdg : decode cc g.pc = .ok (.invokevirtual index, 3)) (hf : cells + mc ≤ R.cells ∧ slots + ms ≤ R.slots) :
    vx_Run p l e R s m args below meth c H locs cells slots mc ms g rest (Qc (Value.ref b :: As).toArray) XC free := by
  have hK : vx_Back l R p e below s args y 3 8 (PreOf R mc ms Pc) (PostOf Qc mc ms free) (vx_Post XC mc ms free) := vx_callBack cw.1 hM hp.1
  obtain ⟨⟨-, -, -, -, -, -, hcode, -, hy, hlen, hl⟩, hin, hse⟩ := cw
  obtain ⟨hx, hb, hml, ho, -⟩ := S
  obtain ⟨-, ⟨cellB, hcB, hoB, hclB⟩, hPc⟩ := hp
  intro T hT X
  rcases vx_callV X hx (C := C) (bytes := bytes) (maxL := maxL) (ret := ret) ho hl hin hse hcode hy hK (by rw [hT]; exact hcB) hoB hclB hg (hsize.trans hml.symm) (argsL := As) (rest := rest) (fun sig h => hn.trans (hlen sig h)) hstack hW (by rw [hb]; exact hdg)
    (fun vm₁ hW₁ => ⟨hf.1, hf.2, hPc (T.setVm vm₁) hT hW₁⟩) with ⟨v, vm₁, ⟨U', l2, c2, s2⟩, hW₁, X', ⟨g', mk, t, L, e1, e2, hq, h1, hL, h2, h3⟩, st⟩ | ⟨q, vm₁, ⟨U', l2, c2, s2⟩, hW₁, X', ⟨g', mk, t, L, E, ce, e1, e2, hq, hce, hcv, hcl, h1, hL, h2, h3⟩, st⟩
  · dsimp only [Pt.U, Pt.locs, Pt.cells, Pt.slots] at X' e1 e2 h1 h2 h3 st
    subst h1; subst h2; subst h3
    exact Or.inl ⟨v, (T.setVm vm₁).calling g' mk (Value.ref b :: As).toArray, t, U', L, hT, X', hL, e1, e2, hq, st⟩
  · dsimp only [Pt.U, Pt.locs, Pt.cells, Pt.slots] at X' e1 e2 h1 h2 h3 st hcl
    subst h1; subst h2; subst h3
    exact Or.inr ⟨q, (T.setVm vm₁).calling g' mk (Value.ref b :: As).toArray, t, U', L, E, ce, hT, X', hL, e1, e2, hq, hce, hcv, vx_cls hW₁ hcl, st⟩
theorem vx_runS (S : CallFix p m c cc nL s args Ts own) (hM : vx_Met l y ws rm Pc Qc XC mc ms free) (cw : CallB R s args own index y bytes maxL ret ws rm mc ms n ∧ (Cond.static y).before args s = true) (hp : PreS s H Pc As)
    (hg : g.method = m) (hn : As.length = n) (hsize : g.locals.size = nL) (hstack : g.stack = As.reverse ++ rest) (hW : 2 * g.monitorRoom + (rest.map fun v => v.category).sum ≤ 8) (hdg : decode cc g.pc = .ok (.invokestatic index, 3)) (hf : cells + mc ≤ R.cells ∧ slots + ms ≤ R.slots) :
    vx_Run p l e R s m args below meth c H locs cells slots mc ms g rest (Qc As.toArray) XC free := by
  have hK : vx_Back l R p e below s args y 3 8 (PreOf R mc ms Pc) (PostOf Qc mc ms free) (vx_Post XC mc ms free) := vx_callBack cw.1 hM hp.1
  obtain ⟨⟨-, -, -, -, -, -, hcode, hini, hy, hlen, hl⟩, hstt⟩ := cw
  obtain ⟨hx, hb, hml, ho, -⟩ := S
  intro T hT X
  rcases vx_callS X hx (bytes := bytes) (maxL := maxL) (ret := ret) ho hl hstt hini hcode hy hK hg (hsize.trans hml.symm) (argsL := As) (rest := rest) (fun sig h => hn.trans (hlen sig h)) hstack hW (by rw [hb]; exact hdg)
    (fun vm₁ hW₁ => ⟨hf.1, hf.2, hp.2 (T.setVm vm₁) hT hW₁⟩) with ⟨v, vm₁, ⟨U', l2, c2, s2⟩, hW₁, X', ⟨g', mk, t, L, e1, e2, hq, h1, hL, h2, h3⟩, st⟩ | ⟨q, vm₁, ⟨U', l2, c2, s2⟩, hW₁, X', ⟨g', mk, t, L, E, ce, e1, e2, hq, hce, hcv, hcl, h1, hL, h2, h3⟩, st⟩
  · dsimp only [Pt.U, Pt.locs, Pt.cells, Pt.slots] at X' e1 e2 h1 h2 h3 st
    subst h1; subst h2; subst h3
    exact Or.inl ⟨v, (T.setVm vm₁).calling g' mk As.toArray, t, U', L, hT, X', hL, e1, e2, hq, st⟩
  · dsimp only [Pt.U, Pt.locs, Pt.cells, Pt.slots] at X' e1 e2 h1 h2 h3 st hcl
    subst h1; subst h2; subst h3
    exact Or.inr ⟨q, (T.setVm vm₁).calling g' mk As.toArray, t, U', L, E, ce, hT, X', hL, e1, e2, hq, hce, hcv, vx_cls hW₁ hcl, st⟩
end Runs
section Rows
variable {p : Program} {l : Launch} {e : Env} {R : Room} {s : State} {m : MethodId} {args : Array Value} {below : List Frame} {meth : Method} {c : Code} {H : Heap} {locs : List Loc} {cells slots : Nat} {Q : State → Prop}
variable {mc ms : Nat} {free : Addr → Prop} {A0 A1 : Nat → Prop} {H0 : Heap} {a : Array Value} {pc : Nat} {ls : Array Slot} {st0 rest : List Value}
theorem vx_keep {st₀ t T' : State} {L : List Loc} (h0 : st₀.heap = H) (e1 : T'.heap = t.heap) (hS : va_S A0 H0 H locs) (hA : ∀ q, q < H.size → A1 q → A0 q) (hf : ∀ q, free q → A0 q) (hL : ∀ q ∈ L, free q.base) (hF : va_F A1 st₀ t) :
    H.size ≤ T'.heap.size ∧ (∀ q : Nat, q < H.size → ¬ A1 q → T'.heap[q]? = H[q]?) ∧ va_S A0 H0 T'.heap (locs ++ L) := by
  obtain ⟨hz, hk⟩ := hF
  rw [h0] at hz hk
  exact ⟨by rw [e1]; exact hz, fun q h1 h2 => by rw [e1]; exact hk q h1 h2,
    ⟨Nat.le_trans hS.1 (by rw [e1]; exact hz), fun q h1 h2 => by rw [e1, hk q (Nat.lt_of_lt_of_le h1 hS.1) (fun z => h2 (hA q (Nat.lt_of_lt_of_le h1 hS.1) z))]; exact hS.2.1 q h1 h2, fun q hq => by
      rcases List.mem_append.mp hq with h | h
      · exact hS.2.2 q h
      · exact hf _ (hL q h)⟩⟩
theorem vx_calli {S SX : Type} {post : Int32 → S → Prop} {px : SX → Prop} {B : S → State → Prop} {BX : String → SX → State → Prop} {AX : Nat → Prop} (hr : vx_Run p l e R s m args below meth c H locs cells slots mc ms (F0 m pc ls st0) rest (va_Qi post B A1 a) (vx_X px BX AX) free) (hS : va_S A0 H0 H locs) (hA : ∀ q, q < H.size → A1 q → A0 q) (hf : ∀ q, free q → A0 q) (hAX : ∀ q, q < H.size → AX q → A0 q)
    (kx : ∀ (E : String) (ce : Cell) (q9 : Addr) (u : SX) (t : State) (H1 : Heap) (locs1 : List Loc), t.heap = H1 → s.vm.Alike t.vm → px u → BX E u t → H.size ≤ H1.size → (∀ q : Nat, q < H.size → ¬ AX q → H1[q]? = H[q]?) → va_S A0 H0 H1 locs1 → H1[q9]? = some ce → ce.vm = .none → s.vm.findClass E = some ce.cls → vx_W p l e R s m args below meth c H1 locs1 (cells + mc) (slots + ms) Q (F0 m pc ls rest) q9)
    (kk : ∀ (r : Int32) (u : S) (t : State) (H1 : Heap) (locs1 : List Loc), t.heap = H1 → s.vm.Alike t.vm → post r u → B u t → H.size ≤ H1.size → (∀ q : Nat, q < H.size → ¬ A1 q → H1[q]? = H[q]?) → va_S A0 H0 H1 locs1 → W p l e R s m args below meth c H1 locs1 (cells + mc) (slots + ms) Q (F0 m (pc + 3) ls (.int r :: rest))) : W p l e R s m args below meth c H locs cells slots Q (F0 m pc ls st0) := by
  intro T hT X
  rcases hr T hT X with ⟨v, st₀, t, T', L, h0, X', hL, e1, e2, ⟨⟨r, u, hv, hp, hb⟩, hF⟩, st⟩ | ⟨q, st₀, t, T', L, E, ce, h0, X', hL, e1, e2, ⟨u, hp, hb, hF⟩, hce, hcv, hcl, st⟩
  · cases hv
    obtain ⟨k1, k2, k3⟩ := vx_keep h0 e1 hS hA hf hL hF
    obtain ⟨t2, a1, b1⟩ := kk r u t T'.heap (locs ++ L) e1.symm (by rw [← e2]; exact X'.warmed.alike) hp hb k1 k2 k3 T' rfl X'
    exact ⟨t2, st t2 a1, b1⟩
  · obtain ⟨k1, k2, k3⟩ := vx_keep h0 e1 hS hAX hf hL hF
    obtain ⟨t2, a1, b1⟩ := kx E ce q u t T'.heap (locs ++ L) e1.symm (by rw [← e2]; exact X'.warmed.alike) hp hb k1 k2 k3 (by rw [e1]; exact hce) hcv hcl T' rfl X'
    exact ⟨t2, st.trans a1, b1⟩
theorem vx_calll {S SX : Type} {post : Int64 → S → Prop} {px : SX → Prop} {B : S → State → Prop} {BX : String → SX → State → Prop} {AX : Nat → Prop} (hr : vx_Run p l e R s m args below meth c H locs cells slots mc ms (F0 m pc ls st0) rest (va_Ql post B A1 a) (vx_X px BX AX) free) (hS : va_S A0 H0 H locs) (hA : ∀ q, q < H.size → A1 q → A0 q) (hf : ∀ q, free q → A0 q) (hAX : ∀ q, q < H.size → AX q → A0 q)
    (kx : ∀ (E : String) (ce : Cell) (q9 : Addr) (u : SX) (t : State) (H1 : Heap) (locs1 : List Loc), t.heap = H1 → s.vm.Alike t.vm → px u → BX E u t → H.size ≤ H1.size → (∀ q : Nat, q < H.size → ¬ AX q → H1[q]? = H[q]?) → va_S A0 H0 H1 locs1 → H1[q9]? = some ce → ce.vm = .none → s.vm.findClass E = some ce.cls → vx_W p l e R s m args below meth c H1 locs1 (cells + mc) (slots + ms) Q (F0 m pc ls rest) q9)
    (kk : ∀ (r : Int64) (u : S) (t : State) (H1 : Heap) (locs1 : List Loc), t.heap = H1 → s.vm.Alike t.vm → post r u → B u t → H.size ≤ H1.size → (∀ q : Nat, q < H.size → ¬ A1 q → H1[q]? = H[q]?) → va_S A0 H0 H1 locs1 → W p l e R s m args below meth c H1 locs1 (cells + mc) (slots + ms) Q (F0 m (pc + 3) ls (.long r :: rest))) : W p l e R s m args below meth c H locs cells slots Q (F0 m pc ls st0) := by
  intro T hT X
  rcases hr T hT X with ⟨v, st₀, t, T', L, h0, X', hL, e1, e2, ⟨⟨r, u, hv, hp, hb⟩, hF⟩, st⟩ | ⟨q, st₀, t, T', L, E, ce, h0, X', hL, e1, e2, ⟨u, hp, hb, hF⟩, hce, hcv, hcl, st⟩
  · cases hv
    obtain ⟨k1, k2, k3⟩ := vx_keep h0 e1 hS hA hf hL hF
    obtain ⟨t2, a1, b1⟩ := kk r u t T'.heap (locs ++ L) e1.symm (by rw [← e2]; exact X'.warmed.alike) hp hb k1 k2 k3 T' rfl X'
    exact ⟨t2, st t2 a1, b1⟩
  · obtain ⟨k1, k2, k3⟩ := vx_keep h0 e1 hS hAX hf hL hF
    obtain ⟨t2, a1, b1⟩ := kx E ce q u t T'.heap (locs ++ L) e1.symm (by rw [← e2]; exact X'.warmed.alike) hp hb k1 k2 k3 (by rw [e1]; exact hce) hcv hcl T' rfl X'
    exact ⟨t2, st.trans a1, b1⟩
theorem vx_callf {S SX : Type} {post : UInt32 → S → Prop} {px : SX → Prop} {B : S → State → Prop} {BX : String → SX → State → Prop} {AX : Nat → Prop} (hr : vx_Run p l e R s m args below meth c H locs cells slots mc ms (F0 m pc ls st0) rest (va_Qf post B A1 a) (vx_X px BX AX) free) (hS : va_S A0 H0 H locs) (hA : ∀ q, q < H.size → A1 q → A0 q) (hf : ∀ q, free q → A0 q) (hAX : ∀ q, q < H.size → AX q → A0 q)
    (kx : ∀ (E : String) (ce : Cell) (q9 : Addr) (u : SX) (t : State) (H1 : Heap) (locs1 : List Loc), t.heap = H1 → s.vm.Alike t.vm → px u → BX E u t → H.size ≤ H1.size → (∀ q : Nat, q < H.size → ¬ AX q → H1[q]? = H[q]?) → va_S A0 H0 H1 locs1 → H1[q9]? = some ce → ce.vm = .none → s.vm.findClass E = some ce.cls → vx_W p l e R s m args below meth c H1 locs1 (cells + mc) (slots + ms) Q (F0 m pc ls rest) q9)
    (kk : ∀ (r : UInt32) (u : S) (t : State) (H1 : Heap) (locs1 : List Loc), t.heap = H1 → s.vm.Alike t.vm → post r u → B u t → H.size ≤ H1.size → (∀ q : Nat, q < H.size → ¬ A1 q → H1[q]? = H[q]?) → va_S A0 H0 H1 locs1 → W p l e R s m args below meth c H1 locs1 (cells + mc) (slots + ms) Q (F0 m (pc + 3) ls (.float r :: rest))) : W p l e R s m args below meth c H locs cells slots Q (F0 m pc ls st0) := by
  intro T hT X
  rcases hr T hT X with ⟨v, st₀, t, T', L, h0, X', hL, e1, e2, ⟨⟨r, u, hv, hp, hb⟩, hF⟩, st⟩ | ⟨q, st₀, t, T', L, E, ce, h0, X', hL, e1, e2, ⟨u, hp, hb, hF⟩, hce, hcv, hcl, st⟩
  · cases hv
    obtain ⟨k1, k2, k3⟩ := vx_keep h0 e1 hS hA hf hL hF
    obtain ⟨t2, a1, b1⟩ := kk r u t T'.heap (locs ++ L) e1.symm (by rw [← e2]; exact X'.warmed.alike) hp hb k1 k2 k3 T' rfl X'
    exact ⟨t2, st t2 a1, b1⟩
  · obtain ⟨k1, k2, k3⟩ := vx_keep h0 e1 hS hAX hf hL hF
    obtain ⟨t2, a1, b1⟩ := kx E ce q u t T'.heap (locs ++ L) e1.symm (by rw [← e2]; exact X'.warmed.alike) hp hb k1 k2 k3 (by rw [e1]; exact hce) hcv hcl T' rfl X'
    exact ⟨t2, st.trans a1, b1⟩
theorem vx_calld {S SX : Type} {post : UInt64 → S → Prop} {px : SX → Prop} {B : S → State → Prop} {BX : String → SX → State → Prop} {AX : Nat → Prop} (hr : vx_Run p l e R s m args below meth c H locs cells slots mc ms (F0 m pc ls st0) rest (va_Qd post B A1 a) (vx_X px BX AX) free) (hS : va_S A0 H0 H locs) (hA : ∀ q, q < H.size → A1 q → A0 q) (hf : ∀ q, free q → A0 q) (hAX : ∀ q, q < H.size → AX q → A0 q)
    (kx : ∀ (E : String) (ce : Cell) (q9 : Addr) (u : SX) (t : State) (H1 : Heap) (locs1 : List Loc), t.heap = H1 → s.vm.Alike t.vm → px u → BX E u t → H.size ≤ H1.size → (∀ q : Nat, q < H.size → ¬ AX q → H1[q]? = H[q]?) → va_S A0 H0 H1 locs1 → H1[q9]? = some ce → ce.vm = .none → s.vm.findClass E = some ce.cls → vx_W p l e R s m args below meth c H1 locs1 (cells + mc) (slots + ms) Q (F0 m pc ls rest) q9)
    (kk : ∀ (r : UInt64) (u : S) (t : State) (H1 : Heap) (locs1 : List Loc), t.heap = H1 → s.vm.Alike t.vm → post r u → B u t → H.size ≤ H1.size → (∀ q : Nat, q < H.size → ¬ A1 q → H1[q]? = H[q]?) → va_S A0 H0 H1 locs1 → W p l e R s m args below meth c H1 locs1 (cells + mc) (slots + ms) Q (F0 m (pc + 3) ls (.double r :: rest))) : W p l e R s m args below meth c H locs cells slots Q (F0 m pc ls st0) := by
  intro T hT X
  rcases hr T hT X with ⟨v, st₀, t, T', L, h0, X', hL, e1, e2, ⟨⟨r, u, hv, hp, hb⟩, hF⟩, st⟩ | ⟨q, st₀, t, T', L, E, ce, h0, X', hL, e1, e2, ⟨u, hp, hb, hF⟩, hce, hcv, hcl, st⟩
  · cases hv
    obtain ⟨k1, k2, k3⟩ := vx_keep h0 e1 hS hA hf hL hF
    obtain ⟨t2, a1, b1⟩ := kk r u t T'.heap (locs ++ L) e1.symm (by rw [← e2]; exact X'.warmed.alike) hp hb k1 k2 k3 T' rfl X'
    exact ⟨t2, st t2 a1, b1⟩
  · obtain ⟨k1, k2, k3⟩ := vx_keep h0 e1 hS hAX hf hL hF
    obtain ⟨t2, a1, b1⟩ := kx E ce q u t T'.heap (locs ++ L) e1.symm (by rw [← e2]; exact X'.warmed.alike) hp hb k1 k2 k3 (by rw [e1]; exact hce) hcv hcl T' rfl X'
    exact ⟨t2, st.trans a1, b1⟩
theorem vx_callv {S SX : Type} {post : S → Prop} {px : SX → Prop} {B : S → State → Prop} {BX : String → SX → State → Prop} {AX : Nat → Prop} (hr : vx_Run p l e R s m args below meth c H locs cells slots mc ms (F0 m pc ls st0) rest (va_Qv post B A1 a) (vx_X px BX AX) free) (hS : va_S A0 H0 H locs) (hA : ∀ q, q < H.size → A1 q → A0 q) (hf : ∀ q, free q → A0 q) (hAX : ∀ q, q < H.size → AX q → A0 q)
    (kx : ∀ (E : String) (ce : Cell) (q9 : Addr) (u : SX) (t : State) (H1 : Heap) (locs1 : List Loc), t.heap = H1 → s.vm.Alike t.vm → px u → BX E u t → H.size ≤ H1.size → (∀ q : Nat, q < H.size → ¬ AX q → H1[q]? = H[q]?) → va_S A0 H0 H1 locs1 → H1[q9]? = some ce → ce.vm = .none → s.vm.findClass E = some ce.cls → vx_W p l e R s m args below meth c H1 locs1 (cells + mc) (slots + ms) Q (F0 m pc ls rest) q9)
    (kk : ∀ (u : S) (t : State) (H1 : Heap) (locs1 : List Loc), t.heap = H1 → s.vm.Alike t.vm → post u → B u t → H.size ≤ H1.size → (∀ q : Nat, q < H.size → ¬ A1 q → H1[q]? = H[q]?) → va_S A0 H0 H1 locs1 → W p l e R s m args below meth c H1 locs1 (cells + mc) (slots + ms) Q (F0 m (pc + 3) ls (rest))) : W p l e R s m args below meth c H locs cells slots Q (F0 m pc ls st0) := by
  intro T hT X
  rcases hr T hT X with ⟨v, st₀, t, T', L, h0, X', hL, e1, e2, ⟨⟨u, hv, hp, hb⟩, hF⟩, st⟩ | ⟨q, st₀, t, T', L, E, ce, h0, X', hL, e1, e2, ⟨u, hp, hb, hF⟩, hce, hcv, hcl, st⟩
  · cases hv
    obtain ⟨k1, k2, k3⟩ := vx_keep h0 e1 hS hA hf hL hF
    obtain ⟨t2, a1, b1⟩ := kk u t T'.heap (locs ++ L) e1.symm (by rw [← e2]; exact X'.warmed.alike) hp hb k1 k2 k3 T' rfl X'
    exact ⟨t2, st t2 a1, b1⟩
  · obtain ⟨k1, k2, k3⟩ := vx_keep h0 e1 hS hAX hf hL hF
    obtain ⟨t2, a1, b1⟩ := kx E ce q u t T'.heap (locs ++ L) e1.symm (by rw [← e2]; exact X'.warmed.alike) hp hb k1 k2 k3 (by rw [e1]; exact hce) hcv hcl T' rfl X'
    exact ⟨t2, st.trans a1, b1⟩
end Rows
section Ends
variable {p : Program} {l : Launch} {e : Env} {R : Room} {s : State} {m : MethodId} {args : Array Value} {below : List Frame} {meth : Method} {c : Code} {H : Heap} {locs : List Loc} {cells slots : Nat} {Q : State → Prop}
variable {mc ms : Nat} {free : Addr → Prop} {A0 A1 : Nat → Prop} {H0 : Heap} {a : Array Value} {ls : Array Slot} {st0 rest : List Value}
variable {Qc : Array Value → State → Outcome → State → Prop} {XC : String → State → State → Prop}
/-- what a body that may throw owes at its end -/
def vx_MQ (below : List Frame) (Qc : Array Value → State → Outcome → State → Prop) (XC : String → State → State → Prop) (a : Array Value) (s : State) (mc ms : Nat) (free : Addr → Prop) : State → Prop := fun t =>
  ∃ o, t.status = .running ∧ Ended t below o ∧ vx_Q Qc XC mc ms free a s o t
theorem vx_ret {g : JFrame} {mc ms : Nat} (k : W p l e R s m args below meth c H locs cells slots (MQ below Qc args s mc ms free) g) : W p l e R s m args below meth c H locs cells slots (vx_MQ below Qc XC args s mc ms free) g := by
  intro T hT X
  obtain ⟨t, a1, o, b1, b2, b3, b4⟩ := k T hT X
  exact ⟨t, a1, o, b1, b2, Or.inl ⟨b3, b4⟩⟩
/-- not caught here: it goes on to the caller -/
theorem vx_widen {g : JFrame} {q : Addr} {k n : Nat} (h1 : cells ≤ k) (h2 : slots ≤ n) (kk : vx_W p l e R s m args below meth c H locs k n Q g q) : vx_W p l e R s m args below meth c H locs cells slots Q g q := fun T hT X => kk T hT (stand_widen X h1 h2)
theorem vx_out {pc : Nat} {E : String} {ce : Cell} {q : Addr} {mc ms : Nat} (hout : ∀ x ∈ c.exceptionTable.toList, covers x pc = false) (hlocks : meth.locks = false) (hcell : H[q]? = some ce) (hv : ce.vm = .none) (hcl : s.vm.findClass E = some ce.cls)
    (hx : ∀ t : State, t.heap = H → s.vm.Alike t.vm → XC E s t) (hf : ∀ z ∈ locs, free z.base) (hc : cells ≤ mc) (hs : slots ≤ ms) :
    vx_W p l e R s m args below meth c H locs cells slots (vx_MQ below Qc XC args s mc ms free) (F0 m pc ls rest) q := by
  intro T hT X
  obtain ⟨st1, hrun, hend, hW, hsm⟩ := X.leaveThrown q (g := F0 m pc ls rest) rfl rfl rfl hout hlocks
  have hcell9 : (T.setFrames (.throwing q :: below)).heap[q]? = some ce := by
    show T.heap[q]? = some ce
    rw [hT]; exact hcell
  exact ⟨_, st1, .threw q, hrun, hend, Or.inr ⟨q, rfl, E, ce, locs, hx _ hT hW.alike, hcell9, hv, hcl, hW, hsm.mono hc hs, hf⟩⟩
theorem vx_frame {U : State} {k n : Nat} (h : s.sameButNew ({ U with vm := s.vm } : State) locs k n) : s.heap.size ≤ U.heap.size ∧ ∀ q : Nat, q < s.heap.size → (∀ z ∈ locs, z.base ≠ q) → U.heap[q]? = s.heap[q]? := by
  obtain ⟨-, h2, -, -, -, h6⟩ := h
  refine ⟨h2, fun q hq hz => ?_⟩
  obtain ⟨c9, e1, e2, e3, e4⟩ := h6 q _ (Array.getElem?_eq_getElem hq)
  have hs : c9.slots = (s.heap[q]).slots := Array.ext_getElem? fun i => e4 i fun hm => hz _ hm rfl
  have h9 : c9 = s.heap[q] := by
    rw [hs] at e2
    exact e2
  have e5 : U.heap[q]? = some c9 := e1
  rw [e5, h9, Array.getElem?_eq_getElem hq]
/-- the words of a throw but the four that speak of the heap -/
def vx_no (w : Cond) : Bool := decide (w ≠ .isRef (.static Bundle.tN "UNASSIGNED_STACK" Bundle.steD)) && decide (w ≠ .isRef (.static Bundle.tN "SUPPRESSED_SENTINEL" Bundle.listD)) && decide (w ≠ .laysStatic Bundle.tN "UNASSIGNED_STACK" Bundle.steD) && decide (w ≠ .laysStatic Bundle.tN "SUPPRESSED_SENTINEL" Bundle.listD)
def vx_at0 (own : String) (ic : Nat) (X : String) (names : List String) : List Cond := (Bundle.ownAtoms0 own ic X names).filter vx_no
def vx_atS (own : String) (ic : Nat) (X : String) (names : List String) : List Cond := (Bundle.ownAtoms own ic X names).filter vx_no
/-- a word that the tables alone decide, or a good one -/
def vx_ot (w : Cond) : Bool := w.onTables || goodWord w
theorem vx_ot_at {args a' : Array Value} {s U : State} {w : Cond} (hW : s.WarmedH U.vm) (hvm : s.vm = U.vm) (hg : vx_ot w = true) (h : w.before args s = true) : w.before a' U = true := by
  simp only [vx_ot, Bool.or_eq_true] at hg
  rcases hg with hg | hg
  · exact va_tabs hg hvm h
  · exact word_at hW (good_of_word hg) h
/-- a list's words: the good ones out of the method's own list, the others by premises of their own -/
theorem vx_hat {args : Array Value} {s : State} {L B : List Cond} (h1 : ∀ w ∈ L.filter goodWord, w.before args s = true) (h2 : ∀ w ∈ L.filter (fun w => !goodWord w), w ∈ B) (h3 : ∀ w ∈ B, w.before args s = true) : ∀ w ∈ L, w.before args s = true := by
  intro w hw
  by_cases g : goodWord w = true
  · exact h1 w (List.mem_filter.mpr ⟨hw, g⟩)
  · refine h3 w (h2 w (List.mem_filter.mpr ⟨hw, ?_⟩))
    show (!goodWord w) = true
    cases hgw : goodWord w
    · rfl
    · exact absurd hgw g
theorem vx_c {args : Array Value} {s : State} {w : Cond} {B : List Cond} (h : w.before args s = true) (t : ∀ w ∈ B, w.before args s = true) : ∀ w' ∈ w :: B, w'.before args s = true := fun w' h' => (List.mem_cons.mp h').elim (fun e => by rw [e]; exact h) (t w')
theorem vx_n {args : Array Value} {s : State} : ∀ w ∈ ([] : List Cond), w.before args s = true := fun _ h => nomatch h
theorem vx_own {args : Array Value} {s : State} {L : List Cond} (h1 : ∀ w ∈ L.filter vx_no, w.before args s = true)
    (hU : (Cond.isRef (.static Bundle.tN "UNASSIGNED_STACK" Bundle.steD)).before args s = true) (hN : (Cond.isRef (.static Bundle.tN "SUPPRESSED_SENTINEL" Bundle.listD)).before args s = true)
    (lU : (Cond.laysStatic Bundle.tN "UNASSIGNED_STACK" Bundle.steD).before args s = true) (lN : (Cond.laysStatic Bundle.tN "SUPPRESSED_SENTINEL" Bundle.listD).before args s = true) : ∀ w ∈ L, w.before args s = true := by
  intro w hw
  by_cases e1 : w = .isRef (.static Bundle.tN "UNASSIGNED_STACK" Bundle.steD)
  · rw [e1]; exact hU
  · by_cases e2 : w = .isRef (.static Bundle.tN "SUPPRESSED_SENTINEL" Bundle.listD)
    · rw [e2]; exact hN
    · by_cases e3 : w = .laysStatic Bundle.tN "UNASSIGNED_STACK" Bundle.steD
      · rw [e3]; exact lU
      · by_cases e4 : w = .laysStatic Bundle.tN "SUPPRESSED_SENTINEL" Bundle.listD
        · rw [e4]; exact lN
        · exact h1 w (List.mem_filter.mpr ⟨hw, by unfold vx_no; rw [decide_eq_true e1, decide_eq_true e2, decide_eq_true e3, decide_eq_true e4]; rfl⟩)
/-- where a static field lies, its class's statics cell in H -/
def vx_L (C n d : String) (A : Nat → Prop) (U : State) (H : Heap) : Prop := ∃ (c : ClassId) (k : Class) (i : Nat) (f : Field) (a : Nat) (cell : Cell), U.vm.findClass C = some c ∧ U.fieldFound? C n d = some (c, k, i, f) ∧ f.isStatic = true ∧ k.statics = some a ∧ H[a]? = some cell ∧ cell.vm.isStatics = true ∧ cell.cls = c ∧ f.slot < cell.slots.size ∧ k.staticTypes[f.slot]? = some f.type ∧ ¬ A a
theorem vx_L.moved {C n d : String} {A : Nat → Prop} {u U : State} {H : Heap} (hvm : u.vm.Alike U.vm) (h : vx_L C n d A u H) : vx_L C n d A U H := by
  obtain ⟨c, k, i, f, a, cell, h1, h2, h3, h4, h5, h6, h7, h8, h9, h10⟩ := h
  obtain ⟨k', hi', he⟩ := State.fieldFound?_setVm hvm h2
  exact ⟨c, k', i, f, a, cell, by rw [hvm.findClass]; exact h1, hi', h3, by rw [he]; exact h4, h5, h6, h7, h8, by rw [he]; exact h9, h10⟩
theorem vx_L.kept {C n d : String} {A : Nat → Prop} {U : State} {H H1 : Heap} (h : vx_L C n d A U H) (hq : ∀ a : Nat, a < H.size → ¬ A a → H1[a]? = H[a]?) : vx_L C n d A U H1 := by
  obtain ⟨c, k, i, f, a, cell, h1, h2, h3, h4, h5, h6, h7, h8, h9, h10⟩ := h
  exact ⟨c, k, i, f, a, cell, h1, h2, h3, h4, by rw [hq a (Array.getElem?_eq_some_iff.mp h5).1 h10]; exact h5, h6, h7, h8, h9, h10⟩
theorem vx_L.narrow {C n d : String} {A B : Nat → Prop} {U : State} {H : Heap} (h : vx_L C n d A U H) (hAB : ∀ q, B q → A q) : vx_L C n d B U H := by
  obtain ⟨c, k, i, f, a, cell, h1, h2, h3, h4, h5, h6, h7, h8, h9, h10⟩ := h
  exact ⟨c, k, i, f, a, cell, h1, h2, h3, h4, h5, h6, h7, h8, h9, fun z => h10 (hAB _ z)⟩
theorem vx_L.word {C n d : String} {A : Nat → Prop} {s : State} {args : Array Value} (h : vx_L C n d A s s.heap) : (Cond.laysStatic C n d).before args s = true := by
  obtain ⟨c, k, i, f, a, cell, h1, h2, h3, h4, h5, h6, h7, h8, h9, -⟩ := h
  show (Cond.laysStatic C n d).holds args s none s [] = true
  exact Cond.laysStatic_of h1 h2 h3 h4 h5 h6 h7 h8 h9
/-- .. and what it holds: null or some reference -/
def vx_Zq (C n d : String) (A : Nat → Prop) (U : State) (H : Heap) : Prop := va_Zq C n d A U H ∧ vx_L C n d A U H
theorem vx_Zq.moved {C n d : String} {A : Nat → Prop} {u U : State} {H : Heap} (hvm : u.vm.Alike U.vm) (h : vx_Zq C n d A u H) : vx_Zq C n d A U H := ⟨va_Zq.moved hvm h.1, vx_L.moved hvm h.2⟩
theorem vx_Zq.kept {C n d : String} {A : Nat → Prop} {U : State} {H H1 : Heap} (h : vx_Zq C n d A U H) (hq : ∀ a : Nat, a < H.size → ¬ A a → H1[a]? = H[a]?) : vx_Zq C n d A U H1 := ⟨va_Zq.kept h.1 hq, vx_L.kept h.2 hq⟩
theorem vx_Zq.narrow {C n d : String} {A B : Nat → Prop} {U : State} {H : Heap} (h : vx_Zq C n d A U H) (hAB : ∀ q, B q → A q) : vx_Zq C n d B U H := ⟨va_Zq.narrow h.1 hAB, vx_L.narrow h.2 hAB⟩
theorem vx_Zqof {args : Array Value} {s : State} {C n d : String} {A : Nat → Prop} (hl : (Cond.laysStatic C n d).before args s = true) (hini : (Cond.initialized C).before args s = true) (h : (Cond.isRef (.static C n d)).before args s = true) (hA : ∀ a : Nat, a < s.heap.size → ¬ A a) : vx_Zq C n d A s s.heap := by
  refine ⟨va_Zqof hl hini h hA, ?_⟩
  obtain ⟨c, k, i, f, a, cell, h1, h2, h3, h4, h5, h6, h7, h8, h9⟩ := Cond.laysStatic_spec hl
  exact ⟨c, k, i, f, a, cell, h1, h2, h3, h4, h5, h6, h7, h8, h9, hA a (Array.getElem?_eq_some_iff.mp h5).1⟩
theorem vx_isRef {C n d : String} {v : Value} {A : Nat → Prop} {s : State} {args : Array Value} (h : va_Z C n d v A s s.heap) (hv : v.isRef = true) : (Cond.isRef (.static C n d)).before args s = true := by
  obtain ⟨cf, kf, fi, f, a, cell, h1, h2, h3, h4, h5, h6, h7, -⟩ := h
  have he : (Term.static C n d).eval args s none [] s = some v := by
    simp [Term.eval, State.fieldNamed?, h1, h2, h4, h5, h6, h7]
  simp only [Cond.before, Cond.holds, Cond.value, he]
  cases v <;> simp_all [Value.isRef]
theorem vx_isRefq {C n d : String} {A : Nat → Prop} {s : State} {args : Array Value} (h : va_Zq C n d A s s.heap) : (Cond.isRef (.static C n d)).before args s = true := by
  rcases h with h | ⟨t, h⟩
  · exact vx_isRef h rfl
  · exact vx_isRef h rfl
/-- the same frame, seen from here: as if the method were called anew in this heap -/
theorem vx_rebase {T : State} (X : Stand p l e R s m args below meth c T locs cells slots) {R' : Room} (hf : R'.frames ≤ R.frames) (hl : R'.locals ≤ R.locals) (hc : cells + R'.cells ≤ R.cells) (hs : slots + R'.slots ≤ R.slots) :
    Stand p l e R' ((T.setVm s.vm).setFrames (.invoking m args :: below)) m args below meth c T [] 0 0 := by
  have htop : (T.setVm s.vm).topJava?.isSome := X.here.top
  have hF : ((T.setVm s.vm).setFrames (.invoking m args :: below)).frames = .invoking m args :: below := State.frames_setFrames _ (State.cur_lt_of_top htop)
  obtain ⟨g₀, hg0⟩ := Option.isSome_iff_exists.mp htop
  obtain ⟨r, hr⟩ := State.topJava?_eq_some.mp hg0
  have hl9 : e.platform.stackLimits (T.setVm s.vm).me = e.platform.stackLimits s.me := X.limits
  have hb9 : (T.setVm s.vm).me.stackBytes = s.me.stackBytes := X.bytes
  refine ⟨X.admits, X.cas, X.clock, hF, ?_, X.hears, X.method, X.code, X.here, X.tail, X.warmed, ?_, ?_, ?_⟩
  · have h := X.room
    have hU : ((T.setVm s.vm).setFrames (.invoking m args :: below)).localsInUse = s.localsInUse := by
      rw [State.localsInUse_invoking hF (meth := meth) (c := c) X.method X.code, State.localsInUse_invoking X.frames X.method X.code]
    simp only [State.hasRoom, Bool.and_eq_true, decide_eq_true_eq] at h ⊢
    obtain ⟨⟨⟨⟨h1, h2, h3, h4, h5, h6⟩, h7⟩, h8⟩, h9⟩ := h
    rw [X.frames, List.length_cons] at h2 h3
    have q1 := X.heapSize
    have q2 := X.used
    simp only [hF, hU, List.length_cons, State.stackLimits_setFrames, State.stackBytes_setFrames, hl9, hb9]
    refine ⟨⟨⟨⟨by omega, by omega, by omega, by omega, by omega, h6⟩, ?_⟩, ?_⟩, X.book⟩
    · show T.heap.size + R'.cells ≤ e.platform.maxCells
      omega
    · show T.slotsUsed + R'.slots ≤ e.platform.maxSlots
      omega
  · rw [State.stackLimits_setFrames]; rfl
  · rw [State.stackBytes_setFrames]; rfl
  · refine ⟨?_, Nat.le_refl _, Nat.le_refl _, ?_, ?_, fun a c9 h9 => ⟨c9, h9, rfl, rfl, fun _ _ => rfl⟩⟩
    · obtain ⟨t, ht, -⟩ := State.frames_cons hr
      show T.setVm s.vm = { ((T.setVm s.vm).setFrames (.invoking m args :: below)).setFrames (T.setVm s.vm).frames with heap := T.heap, slotsUsed := T.slotsUsed }
      rw [State.setFrames_setFrames, State.setFrames_self ht]
      rfl
    · show T.slotsUsed = T.slotsUsed + ((T.heap.toList.drop T.heap.size).map (·.slots.size)).sum
      rw [List.drop_eq_nil_of_le (Nat.le_of_eq Array.length_toList)]
      rfl
    · show ((T.heap.toList.drop T.heap.size).map (·.slots.size)).sum ≤ 0
      rw [List.drop_eq_nil_of_le (Nat.le_of_eq Array.length_toList)]
      exact Nat.le_refl _
/-- 'throw new E()': new; dup; invokespecial; athrow -/
theorem vx_throw0 {cc : ByteArray} {pc : Nat} (hexec : p.tables.exec = Jvm.exec) (hb : c.code = cc) (hl : l.stackTraces = false) {own cls : String} {names : List String} {ik ic mc ms : Nat} {A : Nat → Prop}
    (hown : s.vm.findClass own = some m.cls) (hcls : Bundle.fit cls = true) (hnames : ∀ n ∈ names, Bundle.fit n = true)
    (hk : (Cond.classLink own ik cls).before args s = true) (hini : (Cond.initialized cls).before args s = true) (hat : ∀ w ∈ vx_at0 own ic cls names, w.before args s = true)
    (hgood : ∀ w ∈ Cond.classLink own ik cls :: Cond.initialized cls :: vx_at0 own ic cls names, vx_ot w = true)
    (hU : vx_Zq Bundle.tN "UNASSIGNED_STACK" Bundle.steD A s s.heap) (hN : vx_Zq Bundle.tN "SUPPRESSED_SENTINEL" Bundle.listD A s s.heap) (hS : va_S A s.heap H locs) (hsize : ls.size = c.maxLocals)
    (d0 : decode cc pc = .ok (.new ik, 3)) (d3 : decode cc (pc + 3) = .ok (.dup, 1)) (d4 : decode cc (pc + 4) = .ok (.invokespecial ic, 3)) (d7 : decode cc (pc + 7) = .ok (.athrow, 1))
    (hout : ∀ x ∈ c.exceptionTable.toList, covers x (pc + 7) = false)
    (hRframes : names.length + 3 < R.frames) (hRlocals : (rest.map fun v => v.category).sum + (13 * (names.length + 1) + 42) ≤ R.locals) (hRcells : cells + 1 ≤ R.cells) (hRslots : slots + 6 ≤ R.slots) (hlocks : meth.locks = false)
    (hx : ∀ t : State, s.vm.Alike t.vm → H.size ≤ t.heap.size → (∀ q : Nat, q < H.size → t.heap[q]? = H[q]?) → XC cls s t)
    (hf : ∀ z ∈ locs, free z.base) (hc : cells + 1 ≤ mc) (hs : slots + 6 ≤ ms) :
    W p l e R s m args below meth c H locs cells slots (vx_MQ below Qc XC args s mc ms free) (F0 m pc ls rest) := by
  intro T hT X
  have htr : e.platform.stackTraces = false := (show e.platform.stackTraces = l.stackTraces by rw [X.admits.platform]).trans hl
  have Y := vx_rebase X (R' := { frames := R.frames, locals := R.locals, cells := 1, slots := 6 }) (Nat.le_refl _) (Nat.le_refl _) hRcells hRslots
  obtain ⟨s', hA⟩ : ∃ z, z = (T.setVm s.vm).setFrames (.invoking m args :: below) := ⟨_, rfl⟩
  rw [← hA] at Y
  have hvm : s'.vm = s.vm := by rw [hA]; rfl
  have hhp : s'.heap = H := by rw [hA]; exact hT
  have hW0 : s.WarmedH s'.vm := by rw [hvm]; exact State.WarmedH.refl s
  have hat' : ∀ w ∈ vx_at0 own ic cls names, w.before args s' = true := fun w hw => vx_ot_at hW0 hvm.symm (hgood w (List.mem_cons_of_mem _ (List.mem_cons_of_mem _ hw))) (hat w hw)
  have hk' : (Cond.classLink own ik cls).before args s' = true := vx_ot_at hW0 hvm.symm (hgood _ List.mem_cons_self) hk
  have hini' : (Cond.initialized cls).before args s' = true := vx_ot_at hW0 hvm.symm (hgood _ (List.mem_cons_of_mem _ List.mem_cons_self)) hini
  have hU' : vx_Zq Bundle.tN "UNASSIGNED_STACK" Bundle.steD A s' s'.heap := by rw [hhp]; exact vx_Zq.moved hW0.alike (hU.kept hS.2.1)
  have hN' : vx_Zq Bundle.tN "SUPPRESSED_SENTINEL" Bundle.listD A s' s'.heap := by rw [hhp]; exact vx_Zq.moved hW0.alike (hN.kept hS.2.1)
  have h : ∀ w ∈ Bundle.ownAtoms0 own ic cls names, w.before args s' = true := vx_own hat' (vx_isRefq hU'.1) (vx_isRefq hN'.1) hU'.2.word hN'.2.word
  have hown' : s'.vm.findClass own = some m.cls := by rw [hvm]; exact hown
  have hins : (Cond.instantiable cls 6).before args s' = true := h _ (by simp [Bundle.ownAtoms0])
  obtain ⟨vm₁, cX, kX, hfX, hkX, -, -, X₁, st1⟩ := Y.newCold hexec (own := own) (C := cls) (index := ik) (n := 6) hown' hk' hins hini'
    (g := F0 m pc ls rest) rfl (by rw [hb]; exact d0) (Nat.le_refl _) (Nat.le_refl _)
  generalize hT1 : (T.setVm vm₁).pushCell { cls := cX, slots := kX.instanceTypes.map defaultValue, vm := .none } = T1 at X₁ st1
  have hcat : (Value.ref T.heap.size).category = 1 := rfl
  have hcellA : T1.heap[T.heap.size]? = some (freshCell cX kX) := by rw [← hT1]; exact State.heap_pushCell_size _ _
  have d3' : decode c.code (pc + 3) = .ok (.dup, 1) := by rw [hb]; exact d3
  obtain ⟨U, hsteps, hrun, hend, hW, hsame, ce, hce, hO⟩ := X₁.ctorThrow0 hexec htr (own := own) (cls := cls) (names := names) (ic := ic) hown' hcls hnames h (fun x hx => nomatch hx) hfX hkX hcellA (by rw [hhp, hT]; exact Nat.le_refl _)
    (g := { method := m, pc := pc + 4, locals := ls, stack := .ref T.heap.size :: .ref T.heap.size :: rest, locked := none }) rfl hsize rfl rfl (rest := rest) rfl
    (by rw [hb]; exact d4) (by rw [hb]; exact d7) hout hRframes (by simp only [List.map_cons, List.sum_cons, hcat]; omega) hlocks
  obtain ⟨f1, f2⟩ := vx_frame hsame
  rw [hhp] at f1 f2
  have hWs : s.WarmedH U.vm := State.WarmedH.trans hW0 hW
  have hcl : s.vm.findClass cls = some ce.cls := by
    have h9 := hO.cls
    rw [hvm] at h9
    exact h9
  have hall : s.sameButNew ({ U with vm := s.vm } : State) locs mc ms := by
    subst hA
    obtain ⟨e1, e2⟩ := hsame
    rw [State.setFrames_setFrames] at e1
    have h2 : (T.setVm s.vm).sameButNew ({ U with vm := s.vm } : State) [] (0 + 1) (0 + 6) := ⟨e1, e2⟩
    have h3 := X.same.trans h2
    rw [List.append_nil] at h3
    exact h3.mono hc hs
  refine ⟨U, ?_, .threw T.heap.size, hrun, hend, Or.inr ⟨T.heap.size, rfl, cls, ce, locs, hx U hWs.alike f1 (fun q hq => f2 q hq (fun z hz => nomatch hz)), hce, hO.vm, hcl, hWs, hall, hf⟩⟩
  refine st1 _ ?_
  show Steps p.tables e below (T1.setTop { method := m, pc := pc + 3, locals := ls, stack := .ref T.heap.size :: rest, locked := none }) _
  jvm_step X₁.here [X₁.here.top, hexec, d3', Value.category]
  exact hsteps
/-- 'throw new E("text")': new; dup; ldc; invokespecial; athrow -/
theorem vx_throwS {cc : ByteArray} {pc : Nat} (hexec : p.tables.exec = Jvm.exec) (hb : c.code = cc) (hl : l.stackTraces = false) {own cls text : String} {names : List String} {ik is ic mc ms sa : Nat} {A : Nat → Prop}
    (hown : s.vm.findClass own = some m.cls) (hcls : Bundle.fit cls = true) (hnames : ∀ n ∈ names, Bundle.fit n = true)
    (hk : (Cond.classLink own ik cls).before args s = true) (hini : (Cond.initialized cls).before args s = true) (hstr : vk_R own is text sa s) (hat : ∀ w ∈ vx_atS own ic cls names, w.before args s = true)
    (hgood : ∀ w ∈ Cond.classLink own ik cls :: Cond.initialized cls :: vx_atS own ic cls names, vx_ot w = true)
    (hU : vx_Zq Bundle.tN "UNASSIGNED_STACK" Bundle.steD A s s.heap) (hN : vx_Zq Bundle.tN "SUPPRESSED_SENTINEL" Bundle.listD A s s.heap) (hS : va_S A s.heap H locs) (hsize : ls.size = c.maxLocals)
    (d0 : decode cc pc = .ok (.new ik, 3)) (d3 : decode cc (pc + 3) = .ok (.dup, 1)) (d4 : decode cc (pc + 4) = .ok (.ldc is, 2)) (d6 : decode cc (pc + 6) = .ok (.invokespecial ic, 3)) (d9 : decode cc (pc + 9) = .ok (.athrow, 1))
    (hout : ∀ x ∈ c.exceptionTable.toList, covers x (pc + 9) = false)
    (hRframes : names.length + 3 < R.frames) (hRlocals : (rest.map fun v => v.category).sum + (13 * (names.length + 1) + 43) ≤ R.locals) (hRcells : cells + 1 ≤ R.cells) (hRslots : slots + 6 ≤ R.slots) (hlocks : meth.locks = false)
    (hx : ∀ t : State, s.vm.Alike t.vm → H.size ≤ t.heap.size → (∀ q : Nat, q < H.size → t.heap[q]? = H[q]?) → XC cls s t)
    (hf : ∀ z ∈ locs, free z.base) (hc : cells + 1 ≤ mc) (hs : slots + 6 ≤ ms) :
    W p l e R s m args below meth c H locs cells slots (vx_MQ below Qc XC args s mc ms free) (F0 m pc ls rest) := by
  intro T hT X
  have htr : e.platform.stackTraces = false := (show e.platform.stackTraces = l.stackTraces by rw [X.admits.platform]).trans hl
  have Y := vx_rebase X (R' := { frames := R.frames, locals := R.locals, cells := 1, slots := 6 }) (Nat.le_refl _) (Nat.le_refl _) hRcells hRslots
  obtain ⟨s', hA⟩ : ∃ z, z = (T.setVm s.vm).setFrames (.invoking m args :: below) := ⟨_, rfl⟩
  rw [← hA] at Y
  have hvm : s'.vm = s.vm := by rw [hA]; rfl
  have hhp : s'.heap = H := by rw [hA]; exact hT
  have hW0 : s.WarmedH s'.vm := by rw [hvm]; exact State.WarmedH.refl s
  have hat' : ∀ w ∈ vx_atS own ic cls names, w.before args s' = true := fun w hw => vx_ot_at hW0 hvm.symm (hgood w (List.mem_cons_of_mem _ (List.mem_cons_of_mem _ hw))) (hat w hw)
  have hk' : (Cond.classLink own ik cls).before args s' = true := vx_ot_at hW0 hvm.symm (hgood _ List.mem_cons_self) hk
  have hini' : (Cond.initialized cls).before args s' = true := vx_ot_at hW0 hvm.symm (hgood _ (List.mem_cons_of_mem _ List.mem_cons_self)) hini
  have hU' : vx_Zq Bundle.tN "UNASSIGNED_STACK" Bundle.steD A s' s'.heap := by rw [hhp]; exact vx_Zq.moved hW0.alike (hU.kept hS.2.1)
  have hN' : vx_Zq Bundle.tN "SUPPRESSED_SENTINEL" Bundle.listD A s' s'.heap := by rw [hhp]; exact vx_Zq.moved hW0.alike (hN.kept hS.2.1)
  have h : ∀ w ∈ Bundle.ownAtoms own ic cls names, w.before args s' = true := vx_own hat' (vx_isRefq hU'.1) (vx_isRefq hN'.1) hU'.2.word hN'.2.word
  have hown' : s'.vm.findClass own = some m.cls := by rw [hvm]; exact hown
  have hins : (Cond.instantiable cls 6).before args s' = true := h _ (by simp [Bundle.ownAtoms])
  obtain ⟨vm₁, cX, kX, hfX, hkX, -, -, X₁, st1⟩ := Y.newCold hexec (own := own) (C := cls) (index := ik) (n := 6) hown' hk' hins hini'
    (g := F0 m pc ls rest) rfl (by rw [hb]; exact d0) (Nat.le_refl _) (Nat.le_refl _)
  generalize hT1 : (T.setVm vm₁).pushCell { cls := cX, slots := kX.instanceTypes.map defaultValue, vm := .none } = T1 at X₁ st1
  have hcat : (Value.ref T.heap.size).category = 1 := rfl
  have hcellA : T1.heap[T.heap.size]? = some (freshCell cX kX) := by rw [← hT1]; exact State.heap_pushCell_size _ _
  have d3' : decode c.code (pc + 3) = .ok (.dup, 1) := by rw [hb]; exact d3
  have d4' : decode c.code (pc + 4) = .ok (.ldc is, 2) := by rw [hb]; exact d4
  have hstr' : vk_R own is text sa s' := vk_R.warm hW0 hstr
  obtain ⟨U, hsteps, hrun, hend, hW, hsame, ce, hce, hO⟩ := X₁.ctorThrowS hexec htr (own := own) (cls := cls) (names := names) (ic := ic) hown' hcls hnames h (fun x hx => nomatch hx) hfX hkX hcellA (by rw [hhp, hT]; exact Nat.le_refl _) (msg := .ref sa) rfl
    (g := { method := m, pc := pc + 6, locals := ls, stack := .ref sa :: .ref T.heap.size :: .ref T.heap.size :: rest, locked := none }) rfl hsize rfl rfl (rest := rest) rfl
    (by rw [hb]; exact d6) (by rw [hb]; exact d9) hout hRframes (by simp only [List.map_cons, List.sum_cons, hcat]; omega) hlocks
  obtain ⟨f1, f2⟩ := vx_frame hsame
  rw [hhp] at f1 f2
  have hWs : s.WarmedH U.vm := State.WarmedH.trans hW0 hW
  have hcl : s.vm.findClass cls = some ce.cls := by
    have h9 := hO.cls
    rw [hvm] at h9
    exact h9
  have hall : s.sameButNew ({ U with vm := s.vm } : State) locs mc ms := by
    subst hA
    obtain ⟨e1, e2⟩ := hsame
    rw [State.setFrames_setFrames] at e1
    have h2 : (T.setVm s.vm).sameButNew ({ U with vm := s.vm } : State) [] (0 + 1) (0 + 6) := ⟨e1, e2⟩
    have h3 := X.same.trans h2
    rw [List.append_nil] at h3
    exact h3.mono hc hs
  refine ⟨U, ?_, .threw T.heap.size, hrun, hend, Or.inr ⟨T.heap.size, rfl, cls, ce, locs, hx U hWs.alike f1 (fun q hq => f2 q hq (fun z hz => nomatch hz)), hce, hO.vm, hcl, hWs, hall, hf⟩⟩
  refine st1 _ ?_
  show Steps p.tables e below (T1.setTop { method := m, pc := pc + 3, locals := ls, stack := .ref T.heap.size :: rest, locked := none }) _
  jvm_step X₁.here [X₁.here.top, hexec, d3', Value.category]
  exact X₁.ldcString hexec (own := own) (text := text) (index := is) (a := sa) hown' hstr'.1 hstr'.2
    (g := { method := m, pc := pc + 4, locals := ls, stack := .ref T.heap.size :: .ref T.heap.size :: rest, locked := none }) rfl d4' _ hsteps
/-- 'throw new E("text")', the text by a wide index -/
theorem vx_throwSW {cc : ByteArray} {pc : Nat} (hexec : p.tables.exec = Jvm.exec) (hb : c.code = cc) (hl : l.stackTraces = false) {own cls text : String} {names : List String} {ik is ic mc ms sa : Nat} {A : Nat → Prop}
    (hown : s.vm.findClass own = some m.cls) (hcls : Bundle.fit cls = true) (hnames : ∀ n ∈ names, Bundle.fit n = true)
    (hk : (Cond.classLink own ik cls).before args s = true) (hini : (Cond.initialized cls).before args s = true) (hstr : vk_R own is text sa s) (hat : ∀ w ∈ vx_atS own ic cls names, w.before args s = true)
    (hgood : ∀ w ∈ Cond.classLink own ik cls :: Cond.initialized cls :: vx_atS own ic cls names, vx_ot w = true)
    (hU : vx_Zq Bundle.tN "UNASSIGNED_STACK" Bundle.steD A s s.heap) (hN : vx_Zq Bundle.tN "SUPPRESSED_SENTINEL" Bundle.listD A s s.heap) (hS : va_S A s.heap H locs) (hsize : ls.size = c.maxLocals)
    (d0 : decode cc pc = .ok (.new ik, 3)) (d3 : decode cc (pc + 3) = .ok (.dup, 1)) (d4 : decode cc (pc + 4) = .ok (.ldc_w is, 3)) (d7 : decode cc (pc + 7) = .ok (.invokespecial ic, 3)) (d10 : decode cc (pc + 10) = .ok (.athrow, 1))
    (hout : ∀ x ∈ c.exceptionTable.toList, covers x (pc + 10) = false)
    (hRframes : names.length + 3 < R.frames) (hRlocals : (rest.map fun v => v.category).sum + (13 * (names.length + 1) + 43) ≤ R.locals) (hRcells : cells + 1 ≤ R.cells) (hRslots : slots + 6 ≤ R.slots) (hlocks : meth.locks = false)
    (hx : ∀ t : State, s.vm.Alike t.vm → H.size ≤ t.heap.size → (∀ q : Nat, q < H.size → t.heap[q]? = H[q]?) → XC cls s t)
    (hf : ∀ z ∈ locs, free z.base) (hc : cells + 1 ≤ mc) (hs : slots + 6 ≤ ms) :
    W p l e R s m args below meth c H locs cells slots (vx_MQ below Qc XC args s mc ms free) (F0 m pc ls rest) := by
  intro T hT X
  have htr : e.platform.stackTraces = false := (show e.platform.stackTraces = l.stackTraces by rw [X.admits.platform]).trans hl
  have Y := vx_rebase X (R' := { frames := R.frames, locals := R.locals, cells := 1, slots := 6 }) (Nat.le_refl _) (Nat.le_refl _) hRcells hRslots
  obtain ⟨s', hA⟩ : ∃ z, z = (T.setVm s.vm).setFrames (.invoking m args :: below) := ⟨_, rfl⟩
  rw [← hA] at Y
  have hvm : s'.vm = s.vm := by rw [hA]; rfl
  have hhp : s'.heap = H := by rw [hA]; exact hT
  have hW0 : s.WarmedH s'.vm := by rw [hvm]; exact State.WarmedH.refl s
  have hat' : ∀ w ∈ vx_atS own ic cls names, w.before args s' = true := fun w hw => vx_ot_at hW0 hvm.symm (hgood w (List.mem_cons_of_mem _ (List.mem_cons_of_mem _ hw))) (hat w hw)
  have hk' : (Cond.classLink own ik cls).before args s' = true := vx_ot_at hW0 hvm.symm (hgood _ List.mem_cons_self) hk
  have hini' : (Cond.initialized cls).before args s' = true := vx_ot_at hW0 hvm.symm (hgood _ (List.mem_cons_of_mem _ List.mem_cons_self)) hini
  have hU' : vx_Zq Bundle.tN "UNASSIGNED_STACK" Bundle.steD A s' s'.heap := by rw [hhp]; exact vx_Zq.moved hW0.alike (hU.kept hS.2.1)
  have hN' : vx_Zq Bundle.tN "SUPPRESSED_SENTINEL" Bundle.listD A s' s'.heap := by rw [hhp]; exact vx_Zq.moved hW0.alike (hN.kept hS.2.1)
  have h : ∀ w ∈ Bundle.ownAtoms own ic cls names, w.before args s' = true := vx_own hat' (vx_isRefq hU'.1) (vx_isRefq hN'.1) hU'.2.word hN'.2.word
  have hown' : s'.vm.findClass own = some m.cls := by rw [hvm]; exact hown
  have hins : (Cond.instantiable cls 6).before args s' = true := h _ (by simp [Bundle.ownAtoms])
  obtain ⟨vm₁, cX, kX, hfX, hkX, -, -, X₁, st1⟩ := Y.newCold hexec (own := own) (C := cls) (index := ik) (n := 6) hown' hk' hins hini'
    (g := F0 m pc ls rest) rfl (by rw [hb]; exact d0) (Nat.le_refl _) (Nat.le_refl _)
  generalize hT1 : (T.setVm vm₁).pushCell { cls := cX, slots := kX.instanceTypes.map defaultValue, vm := .none } = T1 at X₁ st1
  have hcat : (Value.ref T.heap.size).category = 1 := rfl
  have hcellA : T1.heap[T.heap.size]? = some (freshCell cX kX) := by rw [← hT1]; exact State.heap_pushCell_size _ _
  have d3' : decode c.code (pc + 3) = .ok (.dup, 1) := by rw [hb]; exact d3
  have d4' : decode c.code (pc + 4) = .ok (.ldc_w is, 3) := by rw [hb]; exact d4
  have hstr' : vk_R own is text sa s' := vk_R.warm hW0 hstr
  obtain ⟨U, hsteps, hrun, hend, hW, hsame, ce, hce, hO⟩ := X₁.ctorThrowS hexec htr (own := own) (cls := cls) (names := names) (ic := ic) hown' hcls hnames h (fun x hx => nomatch hx) hfX hkX hcellA (by rw [hhp, hT]; exact Nat.le_refl _) (msg := .ref sa) rfl
    (g := { method := m, pc := pc + 7, locals := ls, stack := .ref sa :: .ref T.heap.size :: .ref T.heap.size :: rest, locked := none }) rfl hsize rfl rfl (rest := rest) rfl
    (by rw [hb]; exact d7) (by rw [hb]; exact d10) hout hRframes (by simp only [List.map_cons, List.sum_cons, hcat]; omega) hlocks
  obtain ⟨f1, f2⟩ := vx_frame hsame
  rw [hhp] at f1 f2
  have hWs : s.WarmedH U.vm := State.WarmedH.trans hW0 hW
  have hcl : s.vm.findClass cls = some ce.cls := by
    have h9 := hO.cls
    rw [hvm] at h9
    exact h9
  have hall : s.sameButNew ({ U with vm := s.vm } : State) locs mc ms := by
    subst hA
    obtain ⟨e1, e2⟩ := hsame
    rw [State.setFrames_setFrames] at e1
    have h2 : (T.setVm s.vm).sameButNew ({ U with vm := s.vm } : State) [] (0 + 1) (0 + 6) := ⟨e1, e2⟩
    have h3 := X.same.trans h2
    rw [List.append_nil] at h3
    exact h3.mono hc hs
  refine ⟨U, ?_, .threw T.heap.size, hrun, hend, Or.inr ⟨T.heap.size, rfl, cls, ce, locs, hx U hWs.alike f1 (fun q hq => f2 q hq (fun z hz => nomatch hz)), hce, hO.vm, hcl, hWs, hall, hf⟩⟩
  refine st1 _ ?_
  show Steps p.tables e below (T1.setTop { method := m, pc := pc + 3, locals := ls, stack := .ref T.heap.size :: rest, locked := none }) _
  jvm_step X₁.here [X₁.here.top, hexec, d3', Value.category]
  exact X₁.ldcStringW hexec (own := own) (text := text) (index := is) (a := sa) hown' hstr'.1 hstr'.2
    (g := { method := m, pc := pc + 4, locals := ls, stack := .ref T.heap.size :: .ref T.heap.size :: rest, locked := none }) rfl d4' _ hsteps
end Ends
section Bodies
variable {l : Launch}
theorem vx_ofW {y : MethodName} {ws ws' : List Cond} {rm : Room} {Pc : Array Value → State → Prop} {Qc : Array Value → State → Outcome → State → Prop} {XC : String → State → State → Prop} {mc ms : Nat} {free : Addr → Prop} {cc : ByteArray} {maxL : Nat} {ret : Option FieldType}
    (hy : plainName y.cls = true) (hw : ws = Cond.code y cc maxL ret :: ws')
    (body : ∀ p e s m args below meth c s₁, BodyLoose p l y (headSpec ws rm) cc maxL ret e s m args below meth c s₁ → c.maxLocals = maxL → (∀ x ∈ c.exceptionTable.toList, False) → Pc args s →
      W p l e (headSpec ws rm).room s m args below meth c s.heap [] 0 0 (vx_MQ below Qc XC args s mc ms free) (entryFrame m args maxL)) : vx_Met l y ws rm Pc Qc XC mc ms free := by
  refine MetFree.of_bodyS (code := cc) (maxLocals := maxL) (ret := ret) hy ?_ ?_
  · intro args s m h hn
    obtain ⟨meth, c, h1, h2, h3, h4, h5, h6, -, -⟩ := Cond.code_spec hn (atoms_spec (ws := ws) h _ (by rw [hw]; exact List.mem_cons_self))
    exact ⟨meth, c, h1, h2, h3, h4, h5, h6⟩
  · intro p e s m args below meth c s₁ B hml hP _
    have hh0 : s₁.heap = s.heap := by rw [B.state]; rfl
    have ht : ∀ x ∈ c.exceptionTable.toList, False := by
      obtain ⟨meth9, c9, h1, h2, -, -, -, -, h7, -⟩ := Cond.code_spec B.named (atoms_spec (ws := ws) B.pre _ (by rw [hw]; exact List.mem_cons_self))
      cases Option.some.inj (h1.symm.trans B.method)
      cases Option.some.inj (h2.symm.trans (Stand.of_body B).code)
      intro x hx
      rw [Array.isEmpty_iff.mp h7] at hx
      cases hx
    obtain ⟨t, a1, o, b1, b2, b3⟩ := body p e s m args below meth c s₁ B hml ht hP s₁ hh0 (Stand.of_body B)
    exact ⟨t, o, a1, b1, b2, b3⟩
/-- the table of a body with handlers -/
theorem vx_table {p : Program} {x y : MethodName} {S : Spec} {cc bytes : ByteArray} {maxL maxL' : Nat} {ret ret' : Option FieldType} {e : Env} {s s₁ : State} {m : MethodId} {args : Array Value} {below : List Frame} {meth : Method} {c : Code} {hh : List (Nat × Nat × Nat × Nat)}
    (B : BodyLoose p l y S cc maxL ret e s m args below meth c s₁) (h : (Cond.codeWith y bytes maxL' ret' hh).before args s = true) : c.exceptionTable.toList = tableOf hh := by
  obtain ⟨m9, meth9, c9, hn9, h1, h2, -, -, h6, -⟩ := Cond.codeWith_spec h
  cases Option.some.inj (hn9.symm.trans B.named)
  cases Option.some.inj (h1.symm.trans B.method)
  cases Option.some.inj (h2.symm.trans (Stand.of_body B).code)
  rw [← h6, table_eq]
end Bodies
end VXA
/-! ===== END ===== -/
/-! ===== BEGIN a static call of a method with an exception table ===== -/
section VXS
variable {p : Program} {l : Launch} {e : Env} {R : Room} {s : State} {m : MethodId} {args : Array Value} {below : List Frame} {meth : Method} {c : Code} {T : State} {H : Heap} {locs : List Loc} {cells slots : Nat}
abbrev vx_CSW (R : Room) (s : State) (args : Array Value) (own : String) (index : Nat) (y : MethodName) (bytes : ByteArray) (maxL : Nat) (ret : Option FieldType) (hh : List (Nat × Nat × Nat × Nat)) (ws : List Cond) (rm : Room) (mc ms n : Nat) : Prop :=
  (rm.cells = mc ∧ rm.slots = ms ∧ rm.frames + 1 ≤ R.frames ∧ 8 + (maxL + 11) + rm.locals ≤ R.locals ∧ (∀ w ∈ ws, ∀ (a' : Array Value) (U : State), s.WarmedH U.vm → w.before a' U = true) ∧ Cond.codeWith y bytes maxL ret hh ∈ ws) ∧
  (Cond.codeWith y bytes maxL ret hh).before args s = true ∧ (Cond.initialized y.cls).before args s = true ∧ (y.cls ≠ "java/lang/invoke/MethodHandle" ∧ y.cls ≠ "java/lang/invoke/VarHandle") ∧
  (∀ sig, parseMethodDescriptor y.desc = some sig → n = sig.parameters.length) ∧ (Cond.methodLink own index y).before args s = true ∧ (Cond.static y).before args s = true
theorem vx_cwSW {own : String} {index maxL mc ms : Nat} {y : MethodName} {bytes : ByteArray} {ret : Option FieldType} {hh : List (Nat × Nat × Nat × Nat)} {Ts ws ws' : List Cond} {rm : Room} (n : Nat) (ht : ∀ w ∈ Ts, w.before args s = true) (hT : GoodIn Ts (va_wsS own index y ws)) (hw : ws = Cond.codeWith y bytes maxL ret hh :: ws') (hrc : rm.cells = mc) (hrs : rm.slots = ms)
    (hd : y.cls ≠ "java/lang/invoke/MethodHandle" ∧ y.cls ≠ "java/lang/invoke/VarHandle" ∧ (parseMethodDescriptor y.desc).map (fun d => d.parameters.length) = some n) (hR : rm.frames + 1 ≤ R.frames ∧ 8 + (maxL + 11) + rm.locals ≤ R.locals) :
    vx_CSW R s args own index y bytes maxL ret hh ws rm mc ms n := by
  have ok : ∀ w ∈ va_wsS own index y ws, w.before args s = true := fun w h => ht w (hT w h).1
  have hG : GoodIn Ts ws := fun w h => hT w (by unfold va_wsS; exact List.mem_append_right _ h)
  have hc : Cond.codeWith y bytes maxL ret hh ∈ ws := by rw [hw]; exact List.mem_cons_self
  refine ⟨⟨hrc, hrs, hR.1, hR.2, pay_in ht hG, hc⟩, ht _ (hG _ hc).1, ok _ (by simp [va_wsS]), ⟨hd.1, hd.2.1⟩, fun sig h => ?_, ok _ (by simp [va_wsS]), ok _ (by simp [va_wsS])⟩
  have h2 := hd.2.2
  rw [h] at h2
  exact (Option.some.inj h2).symm
theorem vx_callSW (X : Stand p l e R s m args below meth c T locs cells slots) (hexec : p.tables.exec = Jvm.exec) {own : String} {index : Nat} {y : MethodName} {bytes : ByteArray} {maxL : Nat} {ret : Option FieldType} {hh : List (Nat × Nat × Nat × Nat)}
    (hown : s.vm.findClass own = some m.cls) (hlink : (Cond.methodLink own index y).before args s = true) (hstat : (Cond.static y).before args s = true) (hinit : (Cond.initialized y.cls).before args s = true)
    (hcode : (Cond.codeWith y bytes maxL ret hh).before args s = true) (hy : y.cls ≠ "java/lang/invoke/MethodHandle" ∧ y.cls ≠ "java/lang/invoke/VarHandle")
    {W9 : Nat} {Pre : Pt → Array Value → Prop} {Post : Pt → Array Value → Option Value → Pt → Prop} (hK : Back l R p e below s args y 3 W9 Pre Post)
    {g : JFrame} (hg : g.method = m) (hsize : g.locals.size = c.maxLocals) {argsL rest : List Value} (hlen : ∀ sig, parseMethodDescriptor y.desc = some sig → argsL.length = sig.parameters.length)
    (hstack : g.stack = argsL.reverse ++ rest) (hW : 2 * g.monitorRoom + (rest.map fun v => v.category).sum ≤ W9) (hdg : decode c.code g.pc = .ok (.invokestatic index, 3))
    (hpre : ∀ vm₁, s.WarmedH vm₁ → Pre ⟨T.setVm vm₁, locs, cells, slots⟩ argsL.toArray) :
    ∃ (v : Option Value) (vm₁ : Vm) (B : Pt), s.WarmedH vm₁ ∧ Stand p l e R s m args below meth c B.U B.locs B.cells B.slots ∧ Post ⟨T.setVm vm₁, locs, cells, slots⟩ argsL.toArray v B ∧
      ∀ target, Steps p.tables e below (B.U.setTop { g with pc := g.pc + 3, stack := v.toList ++ rest }) target → Steps p.tables e below (T.setTop g) target := by
  obtain ⟨mk, methM, cM, hnamed, hmethM, -, -, -, -, -, -, hsigM⟩ := Cond.codeWith_spec hcode
  have hstatic : methM.isStatic = true := Cond.static_spec hnamed hmethM hstat
  obtain ⟨kP, hkP, -⟩ := className_of_methodNamed hnamed
  have hinitP : kP.init = .initialized := Cond.initialized_spec (findClass_of_methodNamed hnamed) hkP hinit
  obtain ⟨vm₁, X₁, hstep₁⟩ := X.invokestatic hexec hown hlink hnamed hmethM hstatic hkP hinitP hy (g := g) hg (argsL := argsL) (rest := rest) (hlen _ hsigM) hstack hdg
  obtain ⟨v, B, X', hpost, hsteps⟩ := hK m meth c ⟨T.setVm vm₁, locs, cells, slots⟩ { g with stack := rest } (.invokestatic index) mk argsL.toArray X₁ hg hsize hdg hW (X₁.named hnamed) (hpre vm₁ X₁.warmed)
  exact ⟨v, vm₁, B, X₁.warmed, X', hpost, fun target h => hstep₁ _ fun acts => by rw [doInvoke_state]; exact hsteps.trans h⟩
theorem vx_runSW {y : MethodName} {bytes cc : ByteArray} {maxL nL mc ms n index : Nat} {ret : Option FieldType} {hh : List (Nat × Nat × Nat × Nat)} {ws : List Cond} {rm : Room} {Pc : Array Value → State → Prop} {Qc : Array Value → State → Outcome → State → Prop} {free : Addr → Prop} {Ts : List Cond} {own : String} {As rest : List Value} {g : JFrame}
    (S : CallFix p m c cc nL s args Ts own) (hM : Met l y ws rm Pc Qc mc ms free) (cw : vx_CSW R s args own index y bytes maxL ret hh ws rm mc ms n) (hp : PreS s H Pc As)
    (hg : g.method = m) (hn : As.length = n) (hsize : g.locals.size = nL) (hstack : g.stack = As.reverse ++ rest) (hW : 2 * g.monitorRoom + (rest.map fun v => v.category).sum ≤ 8) (hdg : decode cc g.pc = .ok (.invokestatic index, 3)) (hf : cells + mc ≤ R.cells ∧ slots + ms ≤ R.slots) :
    va_Run p l e R s m args below meth c H locs cells slots mc ms g rest (Qc As.toArray) (free) := by
  obtain ⟨⟨hrc, hrs, hfr, hlo, hws, hcw⟩, hcode, hini, hy, hlen, hl, hstt⟩ := cw
  have hK : Back l R p e below s args y 3 8 (PreOf R mc ms Pc) (PostOf Qc mc ms free) := va_backW (hh := hh) (bytes := bytes) (maxL := maxL) (ret := ret) hM hp.1 hrc hrs hfr hlo hws hcw (fun a' U hW => word_at hW (Or.inl (by first | rfl | simp [Cond.onTables, Cond.keeps, Cond.steady])) hini)
  obtain ⟨hx, hb, hml, ho, -⟩ := S
  intro T hT X
  obtain ⟨v, vm₁, ⟨U', l2, c2, s2⟩, hW₁, X', ⟨g', mk, t, L, e1, e2, hq, h1, hL, h2, h3⟩, st⟩ := vx_callSW X hx (hh := hh) (bytes := bytes) (maxL := maxL) (ret := ret) ho hl hstt hini hcode hy hK hg (hsize.trans hml.symm) (argsL := As) (rest := rest) (fun sig h => hn.trans (hlen sig h)) hstack hW (by rw [hb]; exact hdg)
    (fun vm₁ hW₁ => ⟨hf.1, hf.2, hp.2 (T.setVm vm₁) hT hW₁⟩)
  dsimp only [Pt.U, Pt.locs, Pt.cells, Pt.slots] at X' e1 e2 h1 h2 h3 st
  subst h1; subst h2; subst h3
  exact ⟨v, (T.setVm vm₁).calling g' mk As.toArray, t, U', L, hT, X', hL, e1, e2, hq, st⟩
/-- a thing of a world lies in the heap -/
theorem vx_lt {D : va_G} {cl : List vw_C} {ws : va_W} {H1 : Heap} (h : va_P D cl ws H1) {k : Nat} {q : Nat × va_E} (hk : ws[k]? = some q) : q.1 < H1.size := (h k q hk).lt
end VXS
/-! ===== END ===== -/
/-! ===== BEGIN methods with a table of their own: called by a name, returning or throwing ===== -/
section VXH
/-! vx_backW, vx_callVX, vx_callSX, vx_callVW, vx_runVW, vx_runVX, vx_runSX, vx_ofWH follow the same proofs as their sisters above (Free/Laws.lean, Shelf42/LK1.lean); vx_outP calls Shelf42/NT130.lean (outThrough). -/
section
variable {l : Launch} {R : Room} {p : Program} {e : Env} {below : List Frame} {s : State} {sargs : Array Value} {y : MethodName} {len W9 : Nat}
theorem vx_backW {ws : List Cond} {rm : Room} {Pc : Array Value → State → Prop} {Qc : Array Value → State → Outcome → State → Prop} {XC : String → State → State → Prop} {mc ms : Nat} {free : Addr → Prop} {bytes : ByteArray} {maxL : Nat} {ret : Option FieldType} {hh : List (Nat × Nat × Nat × Nat)}
    (hM : vx_Met l y ws rm Pc Qc XC mc ms free) (hblind : FrameBlind Pc) (hrc : rm.cells = mc) (hrs : rm.slots = ms)
    (hframes : rm.frames + 1 ≤ R.frames) (hlocals : W9 + (maxL + 11) + rm.locals ≤ R.locals)
    (hws : ∀ w ∈ ws, ∀ a' U, s.WarmedH U.vm → w.before a' U = true) (hcode : Cond.codeWith y bytes maxL ret hh ∈ ws) (hinit : ∀ a' U, s.WarmedH U.vm → (Cond.initialized y.cls).before a' U = true) :
    vx_Back l R p e below s sargs y len W9 (PreOf R mc ms Pc) (PostOf Qc mc ms free) (vx_Post XC mc ms free) := by
  intro m meth c A g ig mk a X hg hsize hdg hW hn hp
  have h1 : (headSpec ws rm).pre.before a A.U = true := atoms_intro fun w hw => hws w hw _ _ X.warmed
  have h2 : (Cond.codeWith y bytes maxL ret hh).before a A.U = true := hws _ hcode _ _ X.warmed
  have h3 : (Cond.initialized y.cls).before a A.U = true := hinit _ _ X.warmed
  have h4 : A.cells + (headSpec ws rm).room.cells ≤ R.cells := by rw [show (headSpec ws rm).room.cells = mc from hrc]; exact hp.1
  have h5 : A.slots + (headSpec ws rm).room.slots ≤ R.slots := by rw [show (headSpec ws rm).room.slots = ms from hrs]; exact hp.2.1
  have hPc : Pc a (A.U.calling g mk a) := hblind _ _ _ _ hp.2.2
  obtain ⟨U, Ls, c0, s0⟩ := A
  dsimp only [Pt.U, Pt.locs, Pt.cells, Pt.slots] at h1 h2 h3 h4 h5 X hn hPc ⊢
  obtain ⟨m9, methY, cY, hn9, hmY, hcY, -, hlY, -⟩ := Cond.codeWith_spec h2
  cases Option.some.inj (hn9.symm.trans hn)
  obtain ⟨kY, hkY, -⟩ := className_of_methodNamed hn
  have hinitY : kY.init = .initialized := Cond.initialized_spec (findClass_of_methodNamed hn) hkY h3
  have h : At U g.method c below := by rw [hg]; exact X.here
  have hlocals9 : W9 + (maxL + 11) + (headSpec ws rm).room.locals ≤ R.locals := hlocals
  have happ : (headSpec ws rm).appliesLoose y e.platform (U.calling g mk a) = true :=
    Spec.appliesLoose_calling (g := g) h hdg hn hkY hinitY
      (X.room_calling (g := g) (R' := (headSpec ws rm).room) hsize hmY hcY hframes (by rw [hlY]; omega) h4 h5) h1
  obtain ⟨mid, hmid⟩ := h.above
  have hfr : (U.setTop g).frames = (.java g :: mid) ++ below := by rw [State.frames_setTop' g h.top, hmid]; rfl
  obtain ⟨o, s₂, hsteps, -, hend, hq⟩ := Steps.callFree hM p X.admits X.cas X.clock (acts := []) hfr happ hPc trivial
  have hq' : vx_Q Qc XC mc ms free a (U.calling g mk a) o s₂ := hq
  rw [State.frames_setTop' g h.top] at hend
  obtain ⟨g₀, hg0⟩ := Option.isSome_iff_exists.mp h.top
  obtain ⟨r, hr⟩ := State.topJava?_eq_some.mp hg0
  have hr' : (({ U with heap := s₂.heap, slotsUsed := s₂.slotsUsed } : State).setVm s₂.vm).frames = .java g₀ :: r := hr
  rcases hq' with ⟨hqc, L, hfe, hL⟩ | ⟨q, rfl, E, ce, L, hx, hce, hcv, hcl, hW₂, hsm, hL⟩
  · obtain ⟨⟨v, rfl⟩, hW₂, e2, q2, q3, q4, q5, q6⟩ := id hfe
    have e3 : s₂ = ({ (U.calling g mk a).setFrames s₂.frames with heap := s₂.heap, slotsUsed := s₂.slotsUsed } : State).setVm s₂.vm := by
      have : s₂ = ({ s₂ with vm := (U.calling g mk a).vm } : State).setVm s₂.vm := rfl
      rw [e2] at this
      exact this
    obtain ⟨c₂, i₂, len₂, hc₂, hd₂, hf₂⟩ := hend
    have hW' : U.WarmedH s₂.vm := hW₂
    have hcc : c₂ = c := by
      have h1 : s₂.code? g.method = U.code? g.method := by
        rw [State.code?_eq, State.code?_eq, hW'.alike.method?]
      exact Option.some.inj (hc₂.symm.trans (h1.trans h.code))
    subst hcc
    have hlen : len₂ = len := by rw [hdg] at hd₂; cases hd₂; rfl
    subst hlen
    have hs₂ : s₂ = (({ U with heap := s₂.heap, slotsUsed := s₂.slotsUsed } : State).setVm s₂.vm).setTop { g with pc := g.pc + len₂, stack := v.toList ++ g.stack } := by
      refine e3.trans ?_
      rw [hf₂, State.calling_eq h.top, State.setFrames_setFrames, State.setTop_of_frames _ hr', hr]
      rfl
    have hsame : U.sameButNew ({ U with heap := s₂.heap, slotsUsed := s₂.slotsUsed } : State) L mc ms := by
      refine ⟨?_, q2, q3, q4, q5, q6⟩
      obtain ⟨t, ht, -⟩ := State.frames_cons hr
      show ({ U with heap := s₂.heap, slotsUsed := s₂.slotsUsed } : State) = { U.setFrames U.frames with heap := s₂.heap, slotsUsed := s₂.slotsUsed }
      rw [State.setFrames_self ht]
    subst hg
    refine Or.inl ⟨v, ⟨(({ U with heap := s₂.heap, slotsUsed := s₂.slotsUsed } : State).setVm s₂.vm), Ls ++ L, c0 + mc, s0 + ms⟩,
      ⟨X.admits, X.cas, X.clock, X.frames, X.room, X.hears, X.method, X.code, (X.here.setHeapUsed s₂.heap s₂.slotsUsed).setVm hW'.alike, X.tail, State.WarmedH.trans X.warmed hW', X.limits, X.bytes, X.same.trans (hsame.setVm s.vm)⟩,
      ⟨g, mk, s₂, L, rfl, rfl, hqc, rfl, hL, rfl, rfl⟩, ?_⟩
    show Steps p.tables e below _ ((({ U with heap := s₂.heap, slotsUsed := s₂.slotsUsed } : State).setVm s₂.vm).setTop { g with pc := g.pc + len₂, stack := v.toList ++ g.stack })
    rw [← hs₂]
    exact hsteps
  · obtain ⟨e2, q2, q3, q4, q5, q6⟩ := id hsm
    have e3 : s₂ = ({ (U.calling g mk a).setFrames s₂.frames with heap := s₂.heap, slotsUsed := s₂.slotsUsed } : State).setVm s₂.vm := by
      have : s₂ = ({ s₂ with vm := (U.calling g mk a).vm } : State).setVm s₂.vm := rfl
      rw [e2] at this
      exact this
    have hf₂ : s₂.frames = .throwing q :: .java g :: U.frames.tail := hend
    have hW' : U.WarmedH s₂.vm := hW₂
    have hs₂ : s₂ = ((({ U with heap := s₂.heap, slotsUsed := s₂.slotsUsed } : State).setVm s₂.vm).setTop g).pushFrame (.throwing q) := by
      refine e3.trans ?_
      rw [hf₂, State.calling_eq h.top, State.setFrames_setFrames, State.pushFrame, State.frames_setTop _ hr', State.setTop_of_frames _ hr', State.setFrames_setFrames, hr]
      rfl
    have hsame : U.sameButNew ({ U with heap := s₂.heap, slotsUsed := s₂.slotsUsed } : State) L mc ms := by
      refine ⟨?_, q2, q3, q4, q5, q6⟩
      obtain ⟨t, ht, -⟩ := State.frames_cons hr
      show ({ U with heap := s₂.heap, slotsUsed := s₂.slotsUsed } : State) = { U.setFrames U.frames with heap := s₂.heap, slotsUsed := s₂.slotsUsed }
      rw [State.setFrames_self ht]
    subst hg
    refine Or.inr ⟨q, ⟨(({ U with heap := s₂.heap, slotsUsed := s₂.slotsUsed } : State).setVm s₂.vm), Ls ++ L, c0 + mc, s0 + ms⟩,
      ⟨X.admits, X.cas, X.clock, X.frames, X.room, X.hears, X.method, X.code, (X.here.setHeapUsed s₂.heap s₂.slotsUsed).setVm hW'.alike, X.tail, State.WarmedH.trans X.warmed hW', X.limits, X.bytes, X.same.trans (hsame.setVm s.vm)⟩,
      ⟨g, mk, s₂, L, E, ce, rfl, rfl, hx, hce, hcv, hcl, rfl, hL, rfl, rfl⟩, ?_⟩
    show Steps p.tables e below _ (((({ U with heap := s₂.heap, slotsUsed := s₂.slotsUsed } : State).setVm s₂.vm).setTop g).pushFrame (.throwing q))
    rw [← hs₂]
    exact hsteps
end
variable {p : Program} {l : Launch} {e : Env} {R : Room} {s : State} {m : MethodId} {args : Array Value} {below : List Frame} {meth : Method} {c : Code} {T : State} {H : Heap} {locs : List Loc} {cells slots : Nat}
theorem vx_callVX (X : Stand p l e R s m args below meth c T locs cells slots) (hexec : p.tables.exec = Jvm.exec) {own C : String} {index : Nat} {y : MethodName} {bytes : ByteArray} {maxL : Nat} {ret : Option FieldType} {hh : List (Nat × Nat × Nat × Nat)}
    (hown : s.vm.findClass own = some m.cls) (hlink : (Cond.methodLink own index y).before args s = true) (hinst : (Cond.instanceMethod y).before args s = true) (hsel : (Cond.selects C y y).before args s = true)
    (hcode : (Cond.codeWith y bytes maxL ret hh).before args s = true) (hy : y.cls ≠ "java/lang/invoke/MethodHandle" ∧ y.cls ≠ "java/lang/invoke/VarHandle")
    {W9 : Nat} {Pre : Pt → Array Value → Prop} {Post : Pt → Array Value → Option Value → Pt → Prop} {PostX : Pt → Array Value → Addr → Pt → Prop} (hK : vx_Back l R p e below s args y 3 W9 Pre Post PostX)
    {b : Addr} {cellB : Cell} (hcell : T.heap[b]? = some cellB) (hobj : cellB.vm.isStatics = false) (hcls : s.vm.findClass C = some cellB.cls)
    {g : JFrame} (hg : g.method = m) (hsize : g.locals.size = c.maxLocals) {argsL rest : List Value} (hlen : ∀ sig, parseMethodDescriptor y.desc = some sig → argsL.length = sig.parameters.length)
    (hstack : g.stack = argsL.reverse ++ .ref b :: rest) (hW : 2 * g.monitorRoom + (rest.map fun v => v.category).sum ≤ W9) (hdg : decode c.code g.pc = .ok (.invokevirtual index, 3))
    (hpre : ∀ vm₁, s.WarmedH vm₁ → Pre ⟨T.setVm vm₁, locs, cells, slots⟩ (Value.ref b :: argsL).toArray) :
    (∃ (v : Option Value) (vm₁ : Vm) (B : Pt), s.WarmedH vm₁ ∧ Stand p l e R s m args below meth c B.U B.locs B.cells B.slots ∧ Post ⟨T.setVm vm₁, locs, cells, slots⟩ (Value.ref b :: argsL).toArray v B ∧
      ∀ target, Steps p.tables e below (B.U.setTop { g with pc := g.pc + 3, stack := v.toList ++ rest }) target → Steps p.tables e below (T.setTop g) target) ∨
    (∃ (q : Addr) (vm₁ : Vm) (B : Pt), s.WarmedH vm₁ ∧ Stand p l e R s m args below meth c B.U B.locs B.cells B.slots ∧ PostX ⟨T.setVm vm₁, locs, cells, slots⟩ (Value.ref b :: argsL).toArray q B ∧
      Steps p.tables e below (T.setTop g) ((B.U.setTop { g with stack := rest }).pushFrame (.throwing q))) := by
  obtain ⟨mk, methM, hnamed, hmethM, hstM, habM⟩ := Cond.instanceMethod_spec hinst
  obtain ⟨m8, methM', cM, hn8, hmethM', -, -, -, -, -, -, hsigM⟩ := Cond.codeWith_spec hcode
  cases Option.some.inj (hn8.symm.trans hnamed)
  cases hmethM.symm.trans hmethM'
  obtain ⟨c2, r2, m2, q1, q2, q3, q4, kP, hkP, hkPi⟩ := Cond.selects_spec hsel
  cases hcls.symm.trans q1
  cases (State.methodFound?_of_named hnamed hy).symm.trans q2
  cases hnamed.symm.trans q3
  have hselP : selectMethod e.platform s.vm cellB.cls mk = .method mk := by rw [Launch.admits_selectMethod X.admits]; exact q4
  obtain ⟨vm₁, X₁, hstep₁⟩ := X.invokevirtual hexec hown hlink hnamed hmethM hstM hkP hkPi hy (a := b) (cell := cellB) hcell
    (fun z h => by rw [h] at hobj; cases hobj) hselP hmethM habM hkP hkPi (g := g) hg (argsL := argsL) (rest := rest) (hlen _ hsigM) hstack hdg
  rcases hK m meth c ⟨T.setVm vm₁, locs, cells, slots⟩ { g with stack := rest } (.invokevirtual index) mk (Value.ref b :: argsL).toArray X₁ hg hsize hdg hW (X₁.named hnamed) (hpre vm₁ X₁.warmed) with ⟨v, B, X', hpost, hsteps⟩ | ⟨q, B, X', hpost, hsteps⟩
  · exact Or.inl ⟨v, vm₁, B, X₁.warmed, X', hpost, fun target h => hstep₁ _ fun acts => by rw [doInvoke_state]; exact hsteps.trans h⟩
  · exact Or.inr ⟨q, vm₁, B, X₁.warmed, X', hpost, hstep₁ _ fun acts => by rw [doInvoke_state]; exact hsteps⟩
theorem vx_callSX (X : Stand p l e R s m args below meth c T locs cells slots) (hexec : p.tables.exec = Jvm.exec) {own : String} {index : Nat} {y : MethodName} {bytes : ByteArray} {maxL : Nat} {ret : Option FieldType} {hh : List (Nat × Nat × Nat × Nat)}
    (hown : s.vm.findClass own = some m.cls) (hlink : (Cond.methodLink own index y).before args s = true) (hstat : (Cond.static y).before args s = true) (hinit : (Cond.initialized y.cls).before args s = true)
    (hcode : (Cond.codeWith y bytes maxL ret hh).before args s = true) (hy : y.cls ≠ "java/lang/invoke/MethodHandle" ∧ y.cls ≠ "java/lang/invoke/VarHandle")
    {W9 : Nat} {Pre : Pt → Array Value → Prop} {Post : Pt → Array Value → Option Value → Pt → Prop} {PostX : Pt → Array Value → Addr → Pt → Prop} (hK : vx_Back l R p e below s args y 3 W9 Pre Post PostX)
    {g : JFrame} (hg : g.method = m) (hsize : g.locals.size = c.maxLocals) {argsL rest : List Value} (hlen : ∀ sig, parseMethodDescriptor y.desc = some sig → argsL.length = sig.parameters.length)
    (hstack : g.stack = argsL.reverse ++ rest) (hW : 2 * g.monitorRoom + (rest.map fun v => v.category).sum ≤ W9) (hdg : decode c.code g.pc = .ok (.invokestatic index, 3))
    (hpre : ∀ vm₁, s.WarmedH vm₁ → Pre ⟨T.setVm vm₁, locs, cells, slots⟩ argsL.toArray) :
    (∃ (v : Option Value) (vm₁ : Vm) (B : Pt), s.WarmedH vm₁ ∧ Stand p l e R s m args below meth c B.U B.locs B.cells B.slots ∧ Post ⟨T.setVm vm₁, locs, cells, slots⟩ argsL.toArray v B ∧
      ∀ target, Steps p.tables e below (B.U.setTop { g with pc := g.pc + 3, stack := v.toList ++ rest }) target → Steps p.tables e below (T.setTop g) target) ∨
    (∃ (q : Addr) (vm₁ : Vm) (B : Pt), s.WarmedH vm₁ ∧ Stand p l e R s m args below meth c B.U B.locs B.cells B.slots ∧ PostX ⟨T.setVm vm₁, locs, cells, slots⟩ argsL.toArray q B ∧
      Steps p.tables e below (T.setTop g) ((B.U.setTop { g with stack := rest }).pushFrame (.throwing q))) := by
  obtain ⟨mk, methM, cM, hnamed, hmethM, -, -, -, -, -, -, hsigM⟩ := Cond.codeWith_spec hcode
  have hstatic : methM.isStatic = true := Cond.static_spec hnamed hmethM hstat
  obtain ⟨kP, hkP, -⟩ := className_of_methodNamed hnamed
  have hinitP : kP.init = .initialized := Cond.initialized_spec (findClass_of_methodNamed hnamed) hkP hinit
  obtain ⟨vm₁, X₁, hstep₁⟩ := X.invokestatic hexec hown hlink hnamed hmethM hstatic hkP hinitP hy (g := g) hg (argsL := argsL) (rest := rest) (hlen _ hsigM) hstack hdg
  rcases hK m meth c ⟨T.setVm vm₁, locs, cells, slots⟩ { g with stack := rest } (.invokestatic index) mk argsL.toArray X₁ hg hsize hdg hW (X₁.named hnamed) (hpre vm₁ X₁.warmed) with ⟨v, B, X', hpost, hsteps⟩ | ⟨q, B, X', hpost, hsteps⟩
  · exact Or.inl ⟨v, vm₁, B, X₁.warmed, X', hpost, fun target h => hstep₁ _ fun acts => by rw [doInvoke_state]; exact hsteps.trans h⟩
  · exact Or.inr ⟨q, vm₁, B, X₁.warmed, X', hpost, hstep₁ _ fun acts => by rw [doInvoke_state]; exact hsteps⟩
theorem vx_callVW (X : Stand p l e R s m args below meth c T locs cells slots) (hexec : p.tables.exec = Jvm.exec) {own C : String} {index : Nat} {y : MethodName} {bytes : ByteArray} {maxL : Nat} {ret : Option FieldType} {hh : List (Nat × Nat × Nat × Nat)}
    (hown : s.vm.findClass own = some m.cls) (hlink : (Cond.methodLink own index y).before args s = true) (hinst : (Cond.instanceMethod y).before args s = true) (hsel : (Cond.selects C y y).before args s = true)
    (hcode : (Cond.codeWith y bytes maxL ret hh).before args s = true) (hy : y.cls ≠ "java/lang/invoke/MethodHandle" ∧ y.cls ≠ "java/lang/invoke/VarHandle")
    {W9 : Nat} {Pre : Pt → Array Value → Prop} {Post : Pt → Array Value → Option Value → Pt → Prop} (hK : Back l R p e below s args y 3 W9 Pre Post)
    {b : Addr} {cellB : Cell} (hcell : T.heap[b]? = some cellB) (hobj : cellB.vm.isStatics = false) (hcls : s.vm.findClass C = some cellB.cls)
    {g : JFrame} (hg : g.method = m) (hsize : g.locals.size = c.maxLocals) {argsL rest : List Value} (hlen : ∀ sig, parseMethodDescriptor y.desc = some sig → argsL.length = sig.parameters.length)
    (hstack : g.stack = argsL.reverse ++ .ref b :: rest) (hW : 2 * g.monitorRoom + (rest.map fun v => v.category).sum ≤ W9) (hdg : decode c.code g.pc = .ok (.invokevirtual index, 3))
    (hpre : ∀ vm₁, s.WarmedH vm₁ → Pre ⟨T.setVm vm₁, locs, cells, slots⟩ (Value.ref b :: argsL).toArray) :
    ∃ (v : Option Value) (vm₁ : Vm) (B : Pt), s.WarmedH vm₁ ∧ Stand p l e R s m args below meth c B.U B.locs B.cells B.slots ∧ Post ⟨T.setVm vm₁, locs, cells, slots⟩ (Value.ref b :: argsL).toArray v B ∧
      ∀ target, Steps p.tables e below (B.U.setTop { g with pc := g.pc + 3, stack := v.toList ++ rest }) target → Steps p.tables e below (T.setTop g) target := by
  obtain ⟨mk, methM, hnamed, hmethM, hstM, habM⟩ := Cond.instanceMethod_spec hinst
  obtain ⟨m8, methM', cM, hn8, hmethM', -, -, -, -, -, -, hsigM⟩ := Cond.codeWith_spec hcode
  cases Option.some.inj (hn8.symm.trans hnamed)
  cases hmethM.symm.trans hmethM'
  obtain ⟨c2, r2, m2, q1, q2, q3, q4, kP, hkP, hkPi⟩ := Cond.selects_spec hsel
  cases hcls.symm.trans q1
  cases (State.methodFound?_of_named hnamed hy).symm.trans q2
  cases hnamed.symm.trans q3
  have hselP : selectMethod e.platform s.vm cellB.cls mk = .method mk := by rw [Launch.admits_selectMethod X.admits]; exact q4
  obtain ⟨vm₁, X₁, hstep₁⟩ := X.invokevirtual hexec hown hlink hnamed hmethM hstM hkP hkPi hy (a := b) (cell := cellB) hcell
    (fun z h => by rw [h] at hobj; cases hobj) hselP hmethM habM hkP hkPi (g := g) hg (argsL := argsL) (rest := rest) (hlen _ hsigM) hstack hdg
  obtain ⟨v, B, X', hpost, hsteps⟩ := hK m meth c ⟨T.setVm vm₁, locs, cells, slots⟩ { g with stack := rest } (.invokevirtual index) mk (Value.ref b :: argsL).toArray X₁ hg hsize hdg hW (X₁.named hnamed) (hpre vm₁ X₁.warmed)
  exact ⟨v, vm₁, B, X₁.warmed, X', hpost, fun target h => hstep₁ _ fun acts => by rw [doInvoke_state]; exact hsteps.trans h⟩
abbrev vx_CVW (R : Room) (s : State) (args : Array Value) (own C : String) (index : Nat) (y : MethodName) (bytes : ByteArray) (maxL : Nat) (ret : Option FieldType) (hh : List (Nat × Nat × Nat × Nat)) (ws : List Cond) (rm : Room) (mc ms n : Nat) : Prop :=
  (rm.cells = mc ∧ rm.slots = ms ∧ rm.frames + 1 ≤ R.frames ∧ 8 + (maxL + 11) + rm.locals ≤ R.locals ∧ (∀ w ∈ ws, ∀ (a' : Array Value) (U : State), s.WarmedH U.vm → w.before a' U = true) ∧ Cond.codeWith y bytes maxL ret hh ∈ ws) ∧
  (Cond.codeWith y bytes maxL ret hh).before args s = true ∧ (Cond.initialized y.cls).before args s = true ∧ (y.cls ≠ "java/lang/invoke/MethodHandle" ∧ y.cls ≠ "java/lang/invoke/VarHandle") ∧
  (∀ sig, parseMethodDescriptor y.desc = some sig → n = sig.parameters.length) ∧ (Cond.methodLink own index y).before args s = true ∧ (Cond.instanceMethod y).before args s = true ∧ (Cond.selects C y y).before args s = true
theorem vx_cwVW {own C : String} {index maxL mc ms : Nat} {y : MethodName} {bytes : ByteArray} {ret : Option FieldType} {hh : List (Nat × Nat × Nat × Nat)} {Ts ws ws' : List Cond} {rm : Room} (n : Nat) (ht : ∀ w ∈ Ts, w.before args s = true) (hT : GoodIn Ts (wsV own index C y ws)) (hw : ws = Cond.codeWith y bytes maxL ret hh :: ws') (hrc : rm.cells = mc) (hrs : rm.slots = ms)
    (hd : y.cls = C ∧ y.cls ≠ "java/lang/invoke/MethodHandle" ∧ y.cls ≠ "java/lang/invoke/VarHandle" ∧ (parseMethodDescriptor y.desc).map (fun d => d.parameters.length) = some n) (hR : rm.frames + 1 ≤ R.frames ∧ 8 + (maxL + 11) + rm.locals ≤ R.locals) :
    vx_CVW R s args own C index y bytes maxL ret hh ws rm mc ms n := by
  obtain ⟨hC, hd⟩ := hd
  subst hC
  have ok : ∀ w ∈ wsV own index y.cls y ws, w.before args s = true := fun w h => ht w (hT w h).1
  have hG : GoodIn Ts ws := fun w h => hT w (by unfold wsV; exact List.mem_append_right _ h)
  have hc : Cond.codeWith y bytes maxL ret hh ∈ ws := by rw [hw]; exact List.mem_cons_self
  refine ⟨⟨hrc, hrs, hR.1, hR.2, pay_in ht hG, hc⟩, ht _ (hG _ hc).1, ok _ (by simp [wsV]), ⟨hd.1, hd.2.1⟩, fun sig h => ?_, ok _ (by simp [wsV]), ok _ (by simp [wsV]), ok _ (by simp [wsV])⟩
  have h2 := hd.2.2
  rw [h] at h2
  exact (Option.some.inj h2).symm
theorem vx_runVW {y : MethodName} {bytes cc : ByteArray} {maxL nL mc ms n index : Nat} {ret : Option FieldType} {hh : List (Nat × Nat × Nat × Nat)} {ws : List Cond} {rm : Room} {Pc : Array Value → State → Prop} {Qc : Array Value → State → Outcome → State → Prop} {free : Addr → Prop} {Ts : List Cond} {own C : String} {b : Addr} {As rest : List Value} {g : JFrame}
    (S : CallFix p m c cc nL s args Ts own) (hM : Met l y ws rm Pc Qc mc ms free) (cw : vx_CVW R s args own C index y bytes maxL ret hh ws rm mc ms n) (hp : PreV s H C b Pc As)
    (hg : g.method = m) (hn : As.length = n) (hsize : g.locals.size = nL) (hstack : g.stack = As.reverse ++ .ref b :: rest) (hW : 2 * g.monitorRoom + (rest.map fun v => v.category).sum ≤ 8) (hdg : decode cc g.pc = .ok (.invokevirtual index, 3)) (hf : cells + mc ≤ R.cells ∧ slots + ms ≤ R.slots) :
    va_Run p l e R s m args below meth c H locs cells slots mc ms g rest (Qc (Value.ref b :: As).toArray) free := by
  obtain ⟨⟨hrc, hrs, hfr, hlo, hws, hcw⟩, hcode, hini, hy, hlen, hl, hin, hse⟩ := cw
  have hK : Back l R p e below s args y 3 8 (PreOf R mc ms Pc) (PostOf Qc mc ms free) := va_backW (hh := hh) (bytes := bytes) (maxL := maxL) (ret := ret) hM hp.1 hrc hrs hfr hlo hws hcw (fun a' U hW => word_at hW (Or.inl (by first | rfl | simp [Cond.onTables, Cond.keeps, Cond.steady])) hini)
  obtain ⟨hx, hb, hml, ho, -⟩ := S
  obtain ⟨-, ⟨cellB, hcB, hoB, hclB⟩, hPc⟩ := hp
  intro T hT X
  obtain ⟨v, vm₁, ⟨U', l2, c2, s2⟩, hW₁, X', ⟨g', mk, t, L, e1, e2, hq, h1, hL, h2, h3⟩, st⟩ := vx_callVW X hx (C := C) (hh := hh) (bytes := bytes) (maxL := maxL) (ret := ret) ho hl hin hse hcode hy hK (by rw [hT]; exact hcB) hoB hclB hg (hsize.trans hml.symm) (argsL := As) (rest := rest) (fun sig h => hn.trans (hlen sig h)) hstack hW (by rw [hb]; exact hdg)
    (fun vm₁ hW₁ => ⟨hf.1, hf.2, hPc (T.setVm vm₁) hT hW₁⟩)
  dsimp only [Pt.U, Pt.locs, Pt.cells, Pt.slots] at X' e1 e2 h1 h2 h3 st
  subst h1; subst h2; subst h3
  exact ⟨v, (T.setVm vm₁).calling g' mk (Value.ref b :: As).toArray, t, U', L, hT, X', hL, e1, e2, hq, st⟩
section
variable {y : MethodName} {bytes cc : ByteArray} {maxL nL mc ms n index : Nat} {ret : Option FieldType} {ws : List Cond} {rm : Room} {Pc : Array Value → State → Prop} {Qc : Array Value → State → Outcome → State → Prop} {XC : String → State → State → Prop} {free : Addr → Prop} {Ts : List Cond} {own C : String} {b : Addr} {As rest : List Value} {g : JFrame}
theorem vx_runVX {hh : List (Nat × Nat × Nat × Nat)} (S : CallFix p m c cc nL s args Ts own) (hM : vx_Met l y ws rm Pc Qc XC mc ms free) (cw : vx_CVW R s args own C index y bytes maxL ret hh ws rm mc ms n) (hp : PreV s H C b Pc As)
    (hg : g.method = m) (hn : As.length = n) (hsize : g.locals.size = nL) (hstack : g.stack = As.reverse ++ .ref b :: rest) (hW : 2 * g.monitorRoom + (rest.map fun v => v.category).sum ≤ 8) (hdg : decode cc g.pc = .ok (.invokevirtual index, 3)) (hf : cells + mc ≤ R.cells ∧ slots + ms ≤ R.slots) :
    vx_Run p l e R s m args below meth c H locs cells slots mc ms g rest (Qc (Value.ref b :: As).toArray) XC free := by
  obtain ⟨⟨hrc, hrs, hfr, hlo, hws, hcw⟩, hcode, hini, hy, hlen, hl, hin, hse⟩ := cw
  have hK : vx_Back l R p e below s args y 3 8 (PreOf R mc ms Pc) (PostOf Qc mc ms free) (vx_Post XC mc ms free) := vx_backW (hh := hh) (bytes := bytes) (maxL := maxL) (ret := ret) hM hp.1 hrc hrs hfr hlo hws hcw (fun a' U hW => word_at hW (Or.inl (by first | rfl | simp [Cond.onTables, Cond.keeps, Cond.steady])) hini)
  obtain ⟨hx, hb, hml, ho, -⟩ := S
  obtain ⟨-, ⟨cellB, hcB, hoB, hclB⟩, hPc⟩ := hp
  intro T hT X
  rcases vx_callVX X hx (C := C) (hh := hh) (bytes := bytes) (maxL := maxL) (ret := ret) ho hl hin hse hcode hy hK (by rw [hT]; exact hcB) hoB hclB hg (hsize.trans hml.symm) (argsL := As) (rest := rest) (fun sig h => hn.trans (hlen sig h)) hstack hW (by rw [hb]; exact hdg)
    (fun vm₁ hW₁ => ⟨hf.1, hf.2, hPc (T.setVm vm₁) hT hW₁⟩) with ⟨v, vm₁, ⟨U', l2, c2, s2⟩, hW₁, X', ⟨g', mk, t, L, e1, e2, hq, h1, hL, h2, h3⟩, st⟩ | ⟨q, vm₁, ⟨U', l2, c2, s2⟩, hW₁, X', ⟨g', mk, t, L, E, ce, e1, e2, hq, hce, hcv, hcl, h1, hL, h2, h3⟩, st⟩
  · dsimp only [Pt.U, Pt.locs, Pt.cells, Pt.slots] at X' e1 e2 h1 h2 h3 st
    subst h1; subst h2; subst h3
    exact Or.inl ⟨v, (T.setVm vm₁).calling g' mk (Value.ref b :: As).toArray, t, U', L, hT, X', hL, e1, e2, hq, st⟩
  · dsimp only [Pt.U, Pt.locs, Pt.cells, Pt.slots] at X' e1 e2 h1 h2 h3 st hcl
    subst h1; subst h2; subst h3
    exact Or.inr ⟨q, (T.setVm vm₁).calling g' mk (Value.ref b :: As).toArray, t, U', L, E, ce, hT, X', hL, e1, e2, hq, hce, hcv, vx_cls hW₁ hcl, st⟩
theorem vx_runSX {hh : List (Nat × Nat × Nat × Nat)} (S : CallFix p m c cc nL s args Ts own) (hM : vx_Met l y ws rm Pc Qc XC mc ms free) (cw : vx_CSW R s args own index y bytes maxL ret hh ws rm mc ms n) (hp : PreS s H Pc As)
    (hg : g.method = m) (hn : As.length = n) (hsize : g.locals.size = nL) (hstack : g.stack = As.reverse ++ rest) (hW : 2 * g.monitorRoom + (rest.map fun v => v.category).sum ≤ 8) (hdg : decode cc g.pc = .ok (.invokestatic index, 3)) (hf : cells + mc ≤ R.cells ∧ slots + ms ≤ R.slots) :
    vx_Run p l e R s m args below meth c H locs cells slots mc ms g rest (Qc As.toArray) XC free := by
  obtain ⟨⟨hrc, hrs, hfr, hlo, hws, hcw⟩, hcode, hini, hy, hlen, hl, hstt⟩ := cw
  have hK : vx_Back l R p e below s args y 3 8 (PreOf R mc ms Pc) (PostOf Qc mc ms free) (vx_Post XC mc ms free) := vx_backW (hh := hh) (bytes := bytes) (maxL := maxL) (ret := ret) hM hp.1 hrc hrs hfr hlo hws hcw (fun a' U hW => word_at hW (Or.inl (by first | rfl | simp [Cond.onTables, Cond.keeps, Cond.steady])) hini)
  obtain ⟨hx, hb, hml, ho, -⟩ := S
  intro T hT X
  rcases vx_callSX X hx (hh := hh) (bytes := bytes) (maxL := maxL) (ret := ret) ho hl hstt hini hcode hy hK hg (hsize.trans hml.symm) (argsL := As) (rest := rest) (fun sig h => hn.trans (hlen sig h)) hstack hW (by rw [hb]; exact hdg)
    (fun vm₁ hW₁ => ⟨hf.1, hf.2, hp.2 (T.setVm vm₁) hT hW₁⟩) with ⟨v, vm₁, ⟨U', l2, c2, s2⟩, hW₁, X', ⟨g', mk, t, L, e1, e2, hq, h1, hL, h2, h3⟩, st⟩ | ⟨q, vm₁, ⟨U', l2, c2, s2⟩, hW₁, X', ⟨g', mk, t, L, E, ce, e1, e2, hq, hce, hcv, hcl, h1, hL, h2, h3⟩, st⟩
  · dsimp only [Pt.U, Pt.locs, Pt.cells, Pt.slots] at X' e1 e2 h1 h2 h3 st
    subst h1; subst h2; subst h3
    exact Or.inl ⟨v, (T.setVm vm₁).calling g' mk As.toArray, t, U', L, hT, X', hL, e1, e2, hq, st⟩
  · dsimp only [Pt.U, Pt.locs, Pt.cells, Pt.slots] at X' e1 e2 h1 h2 h3 st hcl
    subst h1; subst h2; subst h3
    exact Or.inr ⟨q, (T.setVm vm₁).calling g' mk As.toArray, t, U', L, E, ce, hT, X', hL, e1, e2, hq, hce, hcv, vx_cls hW₁ hcl, st⟩
end
end VXH
theorem vx_ofWH {l : Launch} {y : MethodName} {ws ws' : List Cond} {rm : Room} {Pc : Array Value → State → Prop} {Qc : Array Value → State → Outcome → State → Prop} {XC : String → State → State → Prop} {mc ms : Nat} {free : Addr → Prop} {cc : ByteArray} {maxL : Nat} {ret : Option FieldType} {hh : List (Nat × Nat × Nat × Nat)}
    (hy : plainName y.cls = true) (hw : ws = Cond.codeWith y cc maxL ret hh :: ws')
    (body : ∀ p e s m args below meth c s₁, BodyLoose p l y (headSpec ws rm) cc maxL ret e s m args below meth c s₁ → c.maxLocals = maxL → Pc args s →
      W p l e (headSpec ws rm).room s m args below meth c s.heap [] 0 0 (vx_MQ below Qc XC args s mc ms free) (entryFrame m args maxL)) : vx_Met l y ws rm Pc Qc XC mc ms free := by
  refine MetFree.of_bodyS (code := cc) (maxLocals := maxL) (ret := ret) hy ?_ ?_
  · intro args s m h hn
    obtain ⟨m9, meth, c, hn9, h1, h2, h3, h4, -, h5, h6, -⟩ := Cond.codeWith_spec (atoms_spec (ws := ws) h _ (by rw [hw]; exact List.mem_cons_self))
    cases hn.symm.trans hn9
    exact ⟨meth, c, h1, h2, h3, h4, h5, h6⟩
  · intro p e s m args below meth c s₁ B hml hP _
    have hh0 : s₁.heap = s.heap := by rw [B.state]; rfl
    obtain ⟨t, a1, o, b1, b2, b3⟩ := body p e s m args below meth c s₁ B hml hP s₁ hh0 (Stand.of_body B)
    exact ⟨t, o, a1, b1, b2, b3⟩
/-! ===== END ===== -/
end
section
/-! THE SMALL MACHINE: over decoded instructions, a fixed world of cells (an address is a number of a cell), ints and longs as they are; calls, own throws, catches. -/
abbrev mC : Type := (Nat × (Nat → Int32)) ⊕ ((Nat × (Nat → Int64)) ⊕ (Nat × List Value))
abbrev mH : Type := List mC
abbrev mL : Type := List (Nat × Value)
abbrev mS : Type := Nat × mL × List Value × mH
/-- a row of code: pc, instruction, length, two numbers (what its index stands for) -/
abbrev mI : Type := Nat × Instr × Nat × Nat × Nat
def m_lg (lv : mL) (i : Nat) : Option Value := (lv.find? (fun q => q.1 == i)).map (fun q => q.2)
/-- in the order of their numbers -/
def m_ins (f : mL) (i : Nat) (v : Value) : mL := f.takeWhile (fun q => decide (q.1 < i)) ++ (i, v) :: f.dropWhile (fun q => decide (q.1 < i))
def m_ls (lv : mL) (i : Nat) (v : Value) : mL := m_ins (lv.filter (fun q => !(q.1 == i) && !(q.1 + 1 == i && q.2.category == 2))) i v
def m_ls2 (lv : mL) (i : Nat) (v : Value) : mL := m_ins (lv.filter (fun q => !(q.1 == i) && (!(q.1 == i + 1) && !(q.1 + 1 == i && q.2.category == 2)))) i v
/-- a value of a field's type -/
def m_nf : FieldType → Value → Bool
  | .int, .int _ => true
  | .long, .long _ => true
  | .boolean, .int x => x == 0 || x == 1
  | .object _, .ref _ => true
  | .array _, .ref _ => true
  | _, _ => false
def m_ldi (lv : mL) (i : Nat) (k : Int32 → Option mS) : Option mS := match m_lg lv i with
  | some (.int x) => k x
  | _ => none
def m_ldl (lv : mL) (i : Nat) (k : Int64 → Option mS) : Option mS := match m_lg lv i with
  | some (.long x) => k x
  | _ => none
def m_ldr (lv : mL) (i : Nat) (k : Nat → Option mS) : Option mS := match m_lg lv i with
  | some (.ref x) => k x
  | _ => none
def m_i (st : List Value) (k : Int32 → List Value → Option mS) : Option mS := match st with
  | .int x :: r => k x r
  | _ => none
def m_l (st : List Value) (k : Int64 → List Value → Option mS) : Option mS := match st with
  | .long x :: r => k x r
  | _ => none
def m_r (st : List Value) (k : Nat → List Value → Option mS) : Option mS := match st with
  | .ref x :: r => k x r
  | _ => none
def m_ii (st : List Value) (k : Int32 → Int32 → List Value → Option mS) : Option mS := m_i st fun y r => m_i r fun x r => k x y r
def m_ll (st : List Value) (k : Int64 → Int64 → List Value → Option mS) : Option mS := m_l st fun y r => m_l r fun x r => k x y r
def m_obj (h : mH) (r : Nat) (k : Nat → List Value → Option mS) : Option mS := match h[r]? with
  | some (.inr (.inr (c, fs))) => k c fs
  | _ => none
def m_arr (h : mH) (r : Nat) (k : Nat → (Nat → Int32) → Option mS) : Option mS := match h[r]? with
  | some (.inl (n, f)) => k n f
  | _ => none
def m_arl (h : mH) (r : Nat) (k : Nat → (Nat → Int64) → Option mS) : Option mS := match h[r]? with
  | some (.inr (.inl (n, f))) => k n f
  | _ => none
def m_tg (pc : Nat) (off : Int) : Nat := ((pc : Int) + off).toNat
/-- the number that the script's cell bears; texts stand behind it -/
abbrev m_scr : Nat := 1000000
def m_opt {α β : Type} (o : Option α) (k : α → Option β) : Option β := match o with
  | some a => k a
  | none => none
/-- the type of a field -/
abbrev m_FT : Type := Nat → Nat → Option FieldType
def m_sw (off : Option Int) (dflt : Int) : Int := match off with
  | some o => o
  | none => dflt
def m_loc (ft : m_FT) (X : Nat × (Nat → Int32)) (ins : Instr) (a b pc : Nat) (lv : mL) (st : List Value) (h : mH) : Option mS :=
  match ins with
  | .aload_n k => m_ldr lv k fun x => some (pc + 1, lv, .ref x :: st, h)
  | .aload i => m_ldr lv i fun x => some (pc + 2, lv, .ref x :: st, h)
  | .iload_n k => m_ldi lv k fun x => some (pc + 1, lv, .int x :: st, h)
  | .iload i => m_ldi lv i fun x => some (pc + 2, lv, .int x :: st, h)
  | .lload_n k => m_ldl lv k fun x => some (pc + 1, lv, .long x :: st, h)
  | .istore_n k => m_i st fun x r => some (pc + 1, m_ls lv k (.int x), r, h)
  | .istore i => m_i st fun x r => some (pc + 2, m_ls lv i (.int x), r, h)
  | .lstore_n k => m_l st fun x r => some (pc + 1, m_ls2 lv k (.long x), r, h)
  | .iinc i n => m_ldi lv i fun x => some (pc + 3, m_ls lv i (.int (x + Int32.ofInt n)), st, h)
  | .iconst n => some (pc + 1, lv, .int (Int32.ofInt n) :: st, h)
  | .bipush n => some (pc + 2, lv, .int (Int8.ofInt n).toInt32 :: st, h)
  | .sipush n => some (pc + 3, lv, .int (Int16.ofInt n).toInt32 :: st, h)
  | .lconst n => some (pc + 1, lv, .long (Int64.ofNat n) :: st, h)
  | .ldc _ => if a = 0 then some (pc + 2, lv, .int (Int32.ofNat b) :: st, h) else some (pc + 2, lv, .ref (m_scr + 1 + b) :: st, h)
  | .ldc_w _ => some (pc + 3, lv, .int (Int32.ofNat b) :: st, h)
  | .ldc2_w _ => some (pc + 3, lv, .long (if a = 0 then Int64.ofNat b else -1) :: st, h)
  | .iadd => m_ii st fun x y r => some (pc + 1, lv, .int (x + y) :: r, h)
  | .isub => m_ii st fun x y r => some (pc + 1, lv, .int (x - y) :: r, h)
  | .imul => m_ii st fun x y r => some (pc + 1, lv, .int (x * y) :: r, h)
  | .idiv => m_ii st fun x y r => if y = 0 then none else some (pc + 1, lv, .int (x / y) :: r, h)
  | .irem => m_ii st fun x y r => if y = 0 then none else some (pc + 1, lv, .int (x - x / y * y) :: r, h)
  | .iand => m_ii st fun x y r => some (pc + 1, lv, .int (x &&& y) :: r, h)
  | .ishr => m_ii st fun x y r => some (pc + 1, lv, .int (x >>> (y &&& 31)) :: r, h)
  | .ineg => m_i st fun x r => some (pc + 1, lv, .int (-x) :: r, h)
  | .ladd => m_ll st fun x y r => some (pc + 1, lv, .long (x + y) :: r, h)
  | .lsub => m_ll st fun x y r => some (pc + 1, lv, .long (x - y) :: r, h)
  | .lmul => m_ll st fun x y r => some (pc + 1, lv, .long (x * y) :: r, h)
  | .lcmp => m_ll st fun x y r => some (pc + 1, lv, .int (lg_cmp x y) :: r, h)
  | .i2l => m_i st fun x r => some (pc + 1, lv, .long x.toInt64 :: r, h)
  | .l2i => m_l st fun x r => some (pc + 1, lv, .int x.toInt32 :: r, h)
  | .dup => match st with
    | v :: r => if v.category = 1 then some (pc + 1, lv, v :: v :: r, h) else none
    | _ => none
  | .dup2 => match st with
    | v :: w :: r => if v.category = 1 ∧ w.category = 1 then some (pc + 1, lv, v :: w :: v :: w :: r, h) else none
    | _ => none
  | .pop => match st with
    | v :: r => if v.category = 1 then some (pc + 1, lv, r, h) else none
    | _ => none
  | .goto off => if 0 ≤ (pc : Int) + off then some (m_tg pc off, lv, st, h) else none
  | .ifCond .eq off => m_i st fun x r => some (if x = 0 then m_tg pc off else pc + 3, lv, r, h)
  | .ifCond .ne off => m_i st fun x r => some (if ¬ x = 0 then m_tg pc off else pc + 3, lv, r, h)
  | .ifCond .lt off => m_i st fun x r => some (if x < 0 then m_tg pc off else pc + 3, lv, r, h)
  | .ifCond .ge off => m_i st fun x r => some (if 0 ≤ x then m_tg pc off else pc + 3, lv, r, h)
  | .ifCond .gt off => m_i st fun x r => some (if 0 < x then m_tg pc off else pc + 3, lv, r, h)
  | .ifCond .le off => m_i st fun x r => some (if x ≤ 0 then m_tg pc off else pc + 3, lv, r, h)
  | .if_icmp .eq off => m_ii st fun x y r => some (if x = y then m_tg pc off else pc + 3, lv, r, h)
  | .if_icmp .ne off => m_ii st fun x y r => some (if ¬ x = y then m_tg pc off else pc + 3, lv, r, h)
  | .if_icmp .lt off => m_ii st fun x y r => some (if x < y then m_tg pc off else pc + 3, lv, r, h)
  | .if_icmp .ge off => m_ii st fun x y r => some (if y ≤ x then m_tg pc off else pc + 3, lv, r, h)
  | .if_icmp .gt off => m_ii st fun x y r => some (if y < x then m_tg pc off else pc + 3, lv, r, h)
  | .if_icmp .le off => m_ii st fun x y r => some (if x ≤ y then m_tg pc off else pc + 3, lv, r, h)
  | .tableswitch dflt lo hi offs => m_i st fun x r => if x.toInt < lo ∨ hi < x.toInt then some (m_tg pc dflt, lv, r, h) else m_opt offs[(x.toInt - lo).toNat]? fun off => some (m_tg pc off, lv, r, h)
  | .lookupswitch dflt ps => m_i st fun x r => some (m_tg pc (Op.lookupswitch.offset ps.toList dflt x.toInt), lv, r, h)
  | .getfield _ => m_r st fun q r => m_obj h q fun c fs => if c = a then m_opt fs[b]? fun v => some (pc + 3, lv, v :: r, h) else none
  | .putfield _ => match st with
    | v :: .ref q :: r => m_obj h q fun c fs => if c = a ∧ b < fs.length then m_opt (ft a b) fun ty => if m_nf ty v = true then some (pc + 3, lv, r, h.set q (.inr (.inr (c, fs.set b v)))) else none else none
    | _ => none
  | .iaload => m_i st fun j r => m_r r fun q r => if q = m_scr then (if j < 0 ∨ X.1 ≤ j.toNatClampNeg then none else some (pc + 1, lv, .int (X.2 j.toNatClampNeg) :: r, h)) else m_arr h q fun n f => if j < 0 ∨ n ≤ j.toNatClampNeg then none else some (pc + 1, lv, .int (f j.toNatClampNeg) :: r, h)
  | .iastore => m_i st fun x r => m_i r fun j r => m_r r fun q r => m_arr h q fun n f => if j < 0 ∨ n ≤ j.toNatClampNeg then none else some (pc + 1, lv, r, h.set q (.inl (n, upd f j.toNatClampNeg x)))
  | .laload => m_i st fun j r => m_r r fun q r => m_arl h q fun n f => if j < 0 ∨ n ≤ j.toNatClampNeg then none else some (pc + 1, lv, .long (f j.toNatClampNeg) :: r, h)
  | .lastore => m_l st fun x r => m_i r fun j r => m_r r fun q r => m_arl h q fun n f => if j < 0 ∨ n ≤ j.toNatClampNeg then none else some (pc + 1, lv, r, h.set q (.inr (.inl (n, vp_updL f j.toNatClampNeg x))))
  | .arraylength => m_r st fun q r => if q = m_scr then some (pc + 1, lv, .int (Int32.ofNat X.1) :: r, h) else match h[q]? with
    | some (.inl (n, _)) => some (pc + 1, lv, .int (Int32.ofNat n) :: r, h)
    | some (.inr (.inl (n, _))) => some (pc + 1, lv, .int (Int32.ofNat n) :: r, h)
    | _ => none
  | _ => none
end
section
/-! printed by wip/whole/gen_tables.py: class rows, field table, method table (decoded) -/
def RX0 : String := "GasContract$Compiler"
def TX0 : u_T := fun k => match k with
  | 0 => ("GasContract$Compiler", "tokens", "LGasContract$Tokens;", true)
  | 1 => ("GasContract$Compiler", "draft", "LGasContract$Contract;", true)
  | 2 => ("GasContract$Compiler", "at", "I", false)
  | 3 => ("GasContract$Compiler", "fault", "I", false)
  | 4 => ("GasContract$Compiler", "functionNames", "[I", true)
  | 5 => ("GasContract$Compiler", "variableNames", "[I", true)
  | 6 => ("GasContract$Compiler", "variableTypes", "[I", true)
  | _ => ("GasContract$Compiler", "variableCount", "I", false)
def tyX0 : Nat → FieldType := fun k => match k with
  | 0 => .object "GasContract$Tokens"
  | 1 => .object "GasContract$Contract"
  | 2 => .int
  | 3 => .int
  | 4 => .array .int
  | 5 => .array .int
  | 6 => .array .int
  | _ => .int
theorem nmX0 : ∀ a, a < 8 → ∀ b, b < 8 → a ≠ b → (TX0 a).2.1 ≠ (TX0 b).2.1 := by decide +kernel
theorem tyX0_ok : ∀ k, k < 8 → parseFieldDescriptor (TX0 k).2.2.1 = some (tyX0 k) := by decide +kernel
def RX1 : String := "GasContract$Contract"
def TX1 : u_T := fun k => match k with
  | 0 => ("GasContract$Contract", "marks", "[I", true)
  | 1 => ("GasContract$Contract", "arguments", "[I", true)
  | 2 => ("GasContract$Contract", "size", "I", false)
  | 3 => ("GasContract$Contract", "entries", "[I", true)
  | 4 => ("GasContract$Contract", "parameters", "[I", true)
  | _ => ("GasContract$Contract", "functionCount", "I", false)
def tyX1 : Nat → FieldType := fun k => match k with
  | 0 => .array .int
  | 1 => .array .int
  | 2 => .int
  | 3 => .array .int
  | 4 => .array .int
  | _ => .int
theorem nmX1 : ∀ a, a < 6 → ∀ b, b < 6 → a ≠ b → (TX1 a).2.1 ≠ (TX1 b).2.1 := by decide +kernel
theorem tyX1_ok : ∀ k, k < 6 → parseFieldDescriptor (TX1 k).2.2.1 = some (tyX1 k) := by decide +kernel
def RX2 : String := "GasContract$Machine"
def TX2 : u_T := fun k => match k with
  | 0 => ("GasContract$Machine", "store", "LGasContract$Store;", true)
  | 1 => ("GasContract$Machine", "contract", "LGasContract$Contract;", true)
  | 2 => ("GasContract$Machine", "stack", "[I", true)
  | 3 => ("GasContract$Machine", "top", "I", false)
  | 4 => ("GasContract$Machine", "variables", "[I", true)
  | 5 => ("GasContract$Machine", "returns", "[I", true)
  | 6 => ("GasContract$Machine", "calls", "I", false)
  | 7 => ("GasContract$Machine", "next", "I", false)
  | 8 => ("GasContract$Machine", "outcome", "I", false)
  | 9 => ("GasContract$Machine", "cost", "I", false)
  | _ => ("GasContract$Machine", "given", "I", false)
def tyX2 : Nat → FieldType := fun k => match k with
  | 0 => .object "GasContract$Store"
  | 1 => .object "GasContract$Contract"
  | 2 => .array .int
  | 3 => .int
  | 4 => .array .int
  | 5 => .array .int
  | 6 => .int
  | 7 => .int
  | 8 => .int
  | 9 => .int
  | _ => .int
theorem nmX2 : ∀ a, a < 11 → ∀ b, b < 11 → a ≠ b → (TX2 a).2.1 ≠ (TX2 b).2.1 := by decide +kernel
theorem tyX2_ok : ∀ k, k < 11 → parseFieldDescriptor (TX2 k).2.2.1 = some (tyX2 k) := by decide +kernel
def RX4 : String := "GasContract$Store"
def TX4 : u_T := fun k => match k with
  | 0 => ("GasContract$Store", "keys", "[I", true)
  | 1 => ("GasContract$Store", "values", "[I", true)
  | 2 => ("GasContract$Store", "size", "I", false)
  | 3 => ("GasContract$Store", "keptKeys", "[I", true)
  | 4 => ("GasContract$Store", "keptValues", "[I", true)
  | _ => ("GasContract$Store", "keptSize", "I", false)
def tyX4 : Nat → FieldType := fun k => match k with
  | 0 => .array .int
  | 1 => .array .int
  | 2 => .int
  | 3 => .array .int
  | 4 => .array .int
  | _ => .int
theorem nmX4 : ∀ a, a < 6 → ∀ b, b < 6 → a ≠ b → (TX4 a).2.1 ≠ (TX4 b).2.1 := by decide +kernel
theorem tyX4_ok : ∀ k, k < 6 → parseFieldDescriptor (TX4 k).2.2.1 = some (tyX4 k) := by decide +kernel
def RX5 : String := "GasContract$Tokens"
def TX5 : u_T := fun k => match k with
  | 0 => ("GasContract$Tokens", "marks", "[I", true)
  | 1 => ("GasContract$Tokens", "places", "[I", true)
  | 2 => ("GasContract$Tokens", "stops", "[I", true)
  | 3 => ("GasContract$Tokens", "numbers", "[I", true)
  | 4 => ("GasContract$Tokens", "size", "I", false)
  | 5 => ("GasContract$Tokens", "signs", "[I", false)
  | 6 => ("GasContract$Tokens", "length", "I", false)
  | 7 => ("GasContract$Tokens", "stop", "I", false)
  | _ => ("GasContract$Tokens", "number", "I", false)
def tyX5 : Nat → FieldType := fun k => match k with
  | 0 => .array .int
  | 1 => .array .int
  | 2 => .array .int
  | 3 => .array .int
  | 4 => .int
  | 5 => .array .int
  | 6 => .int
  | 7 => .int
  | _ => .int
theorem nmX5 : ∀ a, a < 9 → ∀ b, b < 9 → a ≠ b → (TX5 a).2.1 ≠ (TX5 b).2.1 := by decide +kernel
theorem tyX5_ok : ∀ k, k < 9 → parseFieldDescriptor (TX5 k).2.2.1 = some (tyX5 k) := by decide +kernel
def RX6 : String := "GasContract"
def TX6 : u_T := fun k => match k with
  | 0 => ("GasContract", "text", "[I", true)
  | 1 => ("GasContract", "length", "I", false)
  | 2 => ("GasContract", "compiler", "LGasContract$Compiler;", true)
  | 3 => ("GasContract", "machine", "LGasContract$Machine;", true)
  | 4 => ("GasContract", "compiled", "Z", false)
  | 5 => ("GasContract", "given", "I", false)
  | 6 => ("GasContract", "charged", "I", false)
  | _ => ("GasContract", "transactions", "I", false)
def tyX6 : Nat → FieldType := fun k => match k with
  | 0 => .array .int
  | 1 => .int
  | 2 => .object "GasContract$Compiler"
  | 3 => .object "GasContract$Machine"
  | 4 => .boolean
  | 5 => .int
  | 6 => .int
  | _ => .int
theorem nmX6 : ∀ a, a < 8 → ∀ b, b < 8 → a ≠ b → (TX6 a).2.1 ≠ (TX6 b).2.1 := by decide +kernel
theorem tyX6_ok : ∀ k, k < 8 → parseFieldDescriptor (TX6 k).2.2.1 = some (tyX6 k) := by decide +kernel
def RX7 : String := "GasContractModel"
def TX7 : u_T := fun k => match k with
  | 0 => ("GasContractModel", "thrown", "I", false)
  | 1 => ("GasContractModel", "signs", "[I", true)
  | 2 => ("GasContractModel", "size", "I", false)
  | 3 => ("GasContractModel", "kind", "I", false)
  | 4 => ("GasContractModel", "at", "I", false)
  | 5 => ("GasContractModel", "behind", "I", false)
  | 6 => ("GasContractModel", "number", "I", false)
  | 7 => ("GasContractModel", "fault", "I", false)
  | 8 => ("GasContractModel", "pile", "[I", true)
  | 9 => ("GasContractModel", "height", "I", false)
  | 10 => ("GasContractModel", "notes", "[I", true)
  | 11 => ("GasContractModel", "noted", "I", false)
  | 12 => ("GasContractModel", "types", "[I", true)
  | 13 => ("GasContractModel", "typed", "I", false)
  | 14 => ("GasContractModel", "depth", "I", false)
  | 15 => ("GasContractModel", "functions", "I", false)
  | 16 => ("GasContractModel", "names", "[I", true)
  | 17 => ("GasContractModel", "lengths", "[I", true)
  | 18 => ("GasContractModel", "starts", "[I", true)
  | 19 => ("GasContractModel", "parameters", "[I", true)
  | 20 => ("GasContractModel", "variables", "I", false)
  | 21 => ("GasContractModel", "variableNames", "[I", true)
  | 22 => ("GasContractModel", "variableLengths", "[I", true)
  | 23 => ("GasContractModel", "variableTypes", "[I", true)
  | 24 => ("GasContractModel", "steps", "I", false)
  | 25 => ("GasContractModel", "step", "[I", true)
  | 26 => ("GasContractModel", "part", "[I", true)
  | 27 => ("GasContractModel", "contract", "I", false)
  | 28 => ("GasContractModel", "contractStarts", "[I", true)
  | 29 => ("GasContractModel", "contractParameters", "[I", true)
  | 30 => ("GasContractModel", "contractStep", "[I", true)
  | 31 => ("GasContractModel", "contractPart", "[I", true)
  | 32 => ("GasContractModel", "stored", "I", false)
  | 33 => ("GasContractModel", "keys", "[I", true)
  | 34 => ("GasContractModel", "values", "[I", true)
  | 35 => ("GasContractModel", "wasStored", "I", false)
  | 36 => ("GasContractModel", "wasKeys", "[I", true)
  | 37 => ("GasContractModel", "wasValues", "[I", true)
  | 38 => ("GasContractModel", "cost", "J", false)
  | 39 => ("GasContractModel", "worth", "[I", true)
  | 40 => ("GasContractModel", "worths", "I", false)
  | 41 => ("GasContractModel", "calls", "I", false)
  | 42 => ("GasContractModel", "back", "[I", true)
  | 43 => ("GasContractModel", "locals", "[I", true)
  | 44 => ("GasContractModel", "gave", "I", false)
  | 45 => ("GasContractModel", "charged", "I", false)
  | _ => ("GasContractModel", "transactions", "I", false)
def tyX7 : Nat → FieldType := fun k => match k with
  | 0 => .int
  | 1 => .array .int
  | 2 => .int
  | 3 => .int
  | 4 => .int
  | 5 => .int
  | 6 => .int
  | 7 => .int
  | 8 => .array .int
  | 9 => .int
  | 10 => .array .int
  | 11 => .int
  | 12 => .array .int
  | 13 => .int
  | 14 => .int
  | 15 => .int
  | 16 => .array .int
  | 17 => .array .int
  | 18 => .array .int
  | 19 => .array .int
  | 20 => .int
  | 21 => .array .int
  | 22 => .array .int
  | 23 => .array .int
  | 24 => .int
  | 25 => .array .int
  | 26 => .array .int
  | 27 => .int
  | 28 => .array .int
  | 29 => .array .int
  | 30 => .array .int
  | 31 => .array .int
  | 32 => .int
  | 33 => .array .int
  | 34 => .array .int
  | 35 => .int
  | 36 => .array .int
  | 37 => .array .int
  | 38 => .long
  | 39 => .array .int
  | 40 => .int
  | 41 => .int
  | 42 => .array .int
  | 43 => .array .int
  | 44 => .int
  | 45 => .int
  | _ => .int
theorem nmX7 : ∀ a, a < 47 → ∀ b, b < 47 → a ≠ b → (TX7 a).2.1 ≠ (TX7 b).2.1 := by decide +kernel
theorem tyX7_ok : ∀ k, k < 47 → parseFieldDescriptor (TX7 k).2.2.1 = some (tyX7 k) := by decide +kernel
abbrev m_cl : List vw_C := [(RX0, TX0, 8), (RX1, TX1, 6), (RX2, TX2, 11), (RX4, TX4, 6), (RX5, TX5, 9), (RX6, TX6, 8), (RX7, TX7, 47)]
def m_cn : List String := [RX0, RX1, RX2, RX4, RX5, RX6, RX7, "GasContractLaw", "java/util/Arrays"]
def m_ftL : List (List FieldType) := [[.object "GasContract$Tokens", .object "GasContract$Contract", .int, .int, .array .int, .array .int, .array .int, .int], [.array .int, .array .int, .int, .array .int, .array .int, .int], [.object "GasContract$Store", .object "GasContract$Contract", .array .int, .int, .array .int, .array .int, .int, .int, .int, .int, .int], [.array .int, .array .int, .int, .array .int, .array .int, .int], [.array .int, .array .int, .array .int, .array .int, .int, .array .int, .int, .int, .int], [.array .int, .int, .object "GasContract$Compiler", .object "GasContract$Machine", .boolean, .int, .int, .int], [.int, .array .int, .int, .int, .int, .int, .int, .int, .array .int, .int, .array .int, .int, .array .int, .int, .int, .int, .array .int, .array .int, .array .int, .array .int, .int, .array .int, .array .int, .array .int, .int, .array .int, .array .int, .int, .array .int, .array .int, .array .int, .array .int, .int, .array .int, .array .int, .int, .array .int, .array .int, .long, .array .int, .int, .int, .array .int, .array .int, .int, .int, .int]]
def m_ft : m_FT := fun c k => (m_ftL[c]?).bind (fun l => l[k]?)
theorem m_lay0 : u_ws RX0 TX0 8 = [113, 115, 117, 119, 121, 123, 125, 127].filterMap (fun i => tables_1[i]?) := by decide +kernel
theorem m_lay1 : u_ws RX1 TX1 6 = [91, 93, 95, 97, 99, 101].filterMap (fun i => tables_1[i]?) := by decide +kernel
theorem m_lay2 : u_ws RX2 TX2 11 = [179, 181, 183, 185, 187, 189, 191, 193, 195, 197, 199].filterMap (fun i => tables_1[i]?) := by decide +kernel
theorem m_lay3 : u_ws RX4 TX4 6 = [149, 151, 153, 155, 157, 159].filterMap (fun i => tables_1[i]?) := by decide +kernel
theorem m_lay4 : u_ws RX5 TX5 9 = [56, 58, 60, 62, 64, 66, 68, 70, 72].filterMap (fun i => tables_1[i]?) := by decide +kernel
theorem m_lay5 : u_ws RX6 TX6 8 = [210, 212, 214, 216, 218, 220, 222, 224].filterMap (fun i => tables_1[i]?) := by decide +kernel
theorem m_lay6 : u_ws RX7 TX7 47 = [1076, 1078, 1080, 1082, 1084, 1086, 1088, 1090, 1092, 1094, 1096, 1098, 1100, 1102, 1104, 1106, 1108, 1110, 1112, 1114, 1116, 1118, 1120, 1122, 1124, 1126, 1128, 1130, 1132, 1134, 1136, 1138, 1140, 1142, 1144, 1146, 1148, 1150, 1152, 1154, 1156, 1158, 1160, 1162, 1164, 1166, 1168].filterMap (fun i => tables_1[i]?) := by decide +kernel
/-- owner, index, class, field, by nest, place among the words -/
def m_fldL : List (Nat × Nat × Nat × Nat × Bool × Nat) := [(0, 12, 0, 0, false, 104), (0, 21, 0, 1, false, 105), (0, 25, 0, 2, false, 107), (0, 29, 0, 3, false, 108), (0, 32, 0, 4, false, 109), (0, 36, 0, 5, false, 110), (0, 39, 0, 6, false, 111), (0, 42, 0, 7, false, 112), (0, 74, 1, 5, true, 89), (0, 146, 1, 2, true, 85), (1, 9, 1, 0, false, 82), (1, 15, 1, 1, false, 83), (1, 18, 1, 2, false, 84), (1, 22, 1, 3, false, 86), (1, 25, 1, 4, false, 87), (1, 28, 1, 5, false, 88), (2, 12, 2, 0, false, 164), (2, 21, 2, 1, false, 166), (2, 25, 2, 2, false, 168), (2, 29, 2, 3, false, 169), (2, 33, 2, 4, false, 170), (2, 36, 2, 5, false, 171), (2, 39, 2, 6, false, 172), (2, 42, 2, 7, false, 173), (2, 45, 2, 8, false, 174), (2, 48, 2, 9, false, 175), (2, 51, 2, 10, false, 177), (3, 9, 3, 0, false, 142), (3, 15, 3, 1, false, 143), (3, 18, 3, 2, false, 144), (3, 22, 3, 3, false, 146), (3, 25, 3, 4, false, 147), (3, 28, 3, 5, false, 148), (4, 9, 4, 0, false, 47), (4, 15, 4, 1, false, 48), (4, 18, 4, 2, false, 49), (4, 21, 4, 3, false, 50), (4, 24, 4, 4, false, 51), (4, 28, 4, 5, false, 52), (4, 31, 4, 6, false, 53), (4, 34, 4, 7, false, 54), (4, 37, 4, 8, false, 55), (5, 9, 5, 0, false, 202), (5, 13, 5, 1, false, 203), (5, 20, 5, 2, false, 204), (5, 27, 5, 3, false, 205), (5, 31, 5, 4, false, 206), (5, 35, 5, 5, false, 207), (5, 38, 5, 6, false, 208), (5, 41, 5, 7, false, 209), (5, 66, 2, 1, true, 167), (5, 70, 0, 1, true, 106), (5, 84, 1, 5, true, 90), (5, 103, 2, 0, true, 165), (5, 119, 2, 10, true, 178), (5, 120, 2, 9, true, 176), (5, 128, 3, 2, true, 145), (6, 7, 6, 1, false, 1030), (6, 13, 6, 8, false, 1037), (6, 16, 6, 10, false, 1039), (6, 19, 6, 12, false, 1041), (6, 22, 6, 16, false, 1045), (6, 25, 6, 17, false, 1046), (6, 28, 6, 18, false, 1047), (6, 31, 6, 19, false, 1048), (6, 34, 6, 21, false, 1050), (6, 37, 6, 22, false, 1051), (6, 40, 6, 23, false, 1052), (6, 43, 6, 25, false, 1054), (6, 46, 6, 26, false, 1055), (6, 49, 6, 28, false, 1057), (6, 52, 6, 29, false, 1058), (6, 55, 6, 30, false, 1059), (6, 58, 6, 31, false, 1060), (6, 61, 6, 33, false, 1062), (6, 64, 6, 34, false, 1063), (6, 67, 6, 36, false, 1065), (6, 70, 6, 37, false, 1066), (6, 73, 6, 39, false, 1068), (6, 76, 6, 42, false, 1071), (6, 79, 6, 43, false, 1072), (6, 82, 6, 0, false, 1029), (6, 86, 6, 2, false, 1031), (6, 133, 6, 5, false, 1034), (6, 142, 6, 3, false, 1032), (6, 145, 6, 6, false, 1035), (6, 148, 6, 4, false, 1033), (6, 168, 6, 7, false, 1036), (6, 171, 6, 9, false, 1038), (6, 178, 6, 11, false, 1040), (6, 181, 6, 13, false, 1042), (6, 184, 6, 24, false, 1053), (6, 193, 6, 14, false, 1043), (6, 196, 6, 15, false, 1044), (6, 202, 6, 20, false, 1049), (6, 308, 6, 27, false, 1056), (6, 311, 6, 40, false, 1069), (6, 314, 6, 32, false, 1061), (6, 321, 6, 41, false, 1070), (6, 348, 6, 35, false, 1064), (6, 351, 6, 38, false, 1067), (6, 361, 6, 46, false, 1075), (6, 364, 6, 44, false, 1073), (6, 367, 6, 45, false, 1074)]
def mK0 : List mI := [(0, .aload_n 0, 1, 0, 0), (1, .getfield 12, 3, 0, 0), (4, .aload_n 1, 1, 0, 0), (5, .iload_n 2, 1, 0, 0), (6, .invokevirtual 45, 3, 61, 2), (9, .aload_n 0, 1, 0, 0), (10, .getfield 21, 3, 0, 1), (13, .invokevirtual 49, 3, 31, 0), (16, .aload_n 0, 1, 0, 0), (17, .iconst 0, 1, 0, 0), (18, .putfield 25, 3, 0, 2), (21, .aload_n 0, 1, 0, 0), (22, .iconst (-1), 1, 0, 0), (23, .putfield 29, 3, 0, 3), (26, .iconst 0, 1, 0, 0), (27, .istore_n 3, 1, 0, 0), (28, .iload_n 3, 1, 0, 0), (29, .bipush 8, 2, 0, 0), (31, .if_icmp .gt 44, 3, 0, 0), (34, .iload_n 3, 1, 0, 0), (35, .ifCond .eq 10, 3, 0, 0), (38, .aload_n 0, 1, 0, 0), (39, .invokevirtual 52, 3, 1, 0), (42, .ifCond .eq 33, 3, 0, 0), (45, .aload_n 0, 1, 0, 0), (46, .invokevirtual 56, 3, 2, 0), (49, .aload_n 0, 1, 0, 0), (50, .invokevirtual 59, 3, 5, 0), (53, .aload_n 0, 1, 0, 0), (54, .iconst 0, 1, 0, 0), (55, .invokevirtual 62, 3, 11, 1), (58, .aload_n 0, 1, 0, 0), (59, .getfield 21, 3, 0, 1), (62, .bipush 42, 2, 0, 0), (64, .iconst 0, 1, 0, 0), (65, .invokevirtual 68, 3, 34, 2), (68, .pop, 1, 0, 0), (69, .iinc 3 1, 3, 0, 0), (72, .goto (-44), 3, 0, 0), (75, .goto 9, 3, 0, 0), (78, .astore_n 3, 1, 0, 0), (79, .aload_n 0, 1, 0, 0), (80, .getfield 29, 3, 0, 3), (83, .ireturn, 1, 0, 0), (84, .iconst (-1), 1, 0, 0), (85, .ireturn, 1, 0, 0)]
def mK1 : List mI := [(0, .aload_n 0, 1, 0, 0), (1, .getfield 12, 3, 0, 0), (4, .aload_n 0, 1, 0, 0), (5, .getfield 25, 3, 0, 2), (8, .invokevirtual 149, 3, 73, 1), (11, .ireturn, 1, 0, 0)]
def mK2 : List mI := [(0, .aload_n 0, 1, 0, 0), (1, .getfield 21, 3, 0, 1), (4, .getfield 74, 3, 1, 5), (7, .istore_n 1, 1, 0, 0), (8, .aload_n 0, 1, 0, 0), (9, .invokevirtual 52, 3, 1, 0), (12, .bipush 25, 2, 0, 0), (14, .if_icmp .ne 9, 3, 0, 0), (17, .iload_n 1, 1, 0, 0), (18, .bipush 8, 2, 0, 0), (20, .if_icmp .lt 12, 3, 0, 0), (23, .aload_n 0, 1, 0, 0), (24, .aload_n 0, 1, 0, 0), (25, .getfield 25, 3, 0, 2), (28, .invokevirtual 77, 3, 3, 1), (31, .return_, 1, 0, 0), (32, .aload_n 0, 1, 0, 0), (33, .dup, 1, 0, 0), (34, .getfield 25, 3, 0, 2), (37, .iconst 1, 1, 0, 0), (38, .iadd, 1, 0, 0), (39, .putfield 25, 3, 0, 2), (42, .aload_n 0, 1, 0, 0), (43, .invokevirtual 52, 3, 1, 0), (46, .iconst 2, 1, 0, 0), (47, .if_icmp .ne 15, 3, 0, 0), (50, .aload_n 0, 1, 0, 0), (51, .aload_n 0, 1, 0, 0), (52, .getfield 25, 3, 0, 2), (55, .invokevirtual 80, 3, 4, 1), (58, .iconst (-1), 1, 0, 0), (59, .if_icmp .eq 11, 3, 0, 0), (62, .aload_n 0, 1, 0, 0), (63, .aload_n 0, 1, 0, 0), (64, .getfield 25, 3, 0, 2), (67, .invokevirtual 77, 3, 3, 1), (70, .aload_n 0, 1, 0, 0), (71, .getfield 32, 3, 0, 4), (74, .iload_n 1, 1, 0, 0), (75, .aload_n 0, 1, 0, 0), (76, .getfield 25, 3, 0, 2), (79, .iastore, 1, 0, 0), (80, .aload_n 0, 1, 0, 0), (81, .getfield 21, 3, 0, 1), (84, .invokevirtual 84, 3, 32, 0), (87, .aload_n 0, 1, 0, 0), (88, .iconst 0, 1, 0, 0), (89, .putfield 42, 3, 0, 7), (92, .aload_n 0, 1, 0, 0), (93, .dup, 1, 0, 0), (94, .getfield 25, 3, 0, 2), (97, .iconst 1, 1, 0, 0), (98, .iadd, 1, 0, 0), (99, .putfield 25, 3, 0, 2), (102, .return_, 1, 0, 0)]
def mK3 : List mI := [(0, .aload_n 0, 1, 0, 0), (1, .aload_n 0, 1, 0, 0), (2, .getfield 12, 3, 0, 0), (5, .iload_n 1, 1, 0, 0), (6, .invokevirtual 184, 3, 74, 1), (9, .putfield 29, 3, 0, 3), (12, .new 72, 3, 0, 11), (15, .dup, 1, 0, 0), (16, .ldc 187, 2, 1, 11), (18, .invokespecial 189, 3, 0, 0), (21, .athrow, 1, 0, 0)]
def mK4 : List mI := [(0, .iconst 0, 1, 0, 0), (1, .istore_n 2, 1, 0, 0), (2, .iload_n 2, 1, 0, 0), (3, .aload_n 0, 1, 0, 0), (4, .getfield 21, 3, 0, 1), (7, .getfield 74, 3, 1, 5), (10, .if_icmp .ge 28, 3, 0, 0), (13, .aload_n 0, 1, 0, 0), (14, .getfield 12, 3, 0, 0), (17, .aload_n 0, 1, 0, 0), (18, .getfield 32, 3, 0, 4), (21, .iload_n 2, 1, 0, 0), (22, .iaload, 1, 0, 0), (23, .iload_n 1, 1, 0, 0), (24, .invokevirtual 180, 3, 75, 2), (27, .ifCond .eq 5, 3, 0, 0), (30, .iload_n 2, 1, 0, 0), (31, .ireturn, 1, 0, 0), (32, .iinc 2 1, 3, 0, 0), (35, .goto (-33), 3, 0, 0), (38, .iconst (-1), 1, 0, 0), (39, .ireturn, 1, 0, 0)]
def mK5 : List mI := [(0, .aload_n 0, 1, 0, 0), (1, .iconst 4, 1, 0, 0), (2, .invokevirtual 87, 3, 6, 1), (5, .aload_n 0, 1, 0, 0), (6, .invokevirtual 52, 3, 1, 0), (9, .iconst 2, 1, 0, 0), (10, .if_icmp .ne 43, 3, 0, 0), (13, .aload_n 0, 1, 0, 0), (14, .invokevirtual 90, 3, 7, 0), (17, .iconst 1, 1, 0, 0), (18, .istore_n 1, 1, 0, 0), (19, .iload_n 1, 1, 0, 0), (20, .iconst 3, 1, 0, 0), (21, .if_icmp .ge 32, 3, 0, 0), (24, .aload_n 0, 1, 0, 0), (25, .invokevirtual 52, 3, 1, 0), (28, .bipush 10, 2, 0, 0), (30, .if_icmp .ne 23, 3, 0, 0), (33, .aload_n 0, 1, 0, 0), (34, .dup, 1, 0, 0), (35, .getfield 25, 3, 0, 2), (38, .iconst 1, 1, 0, 0), (39, .iadd, 1, 0, 0), (40, .putfield 25, 3, 0, 2), (43, .aload_n 0, 1, 0, 0), (44, .invokevirtual 90, 3, 7, 0), (47, .iinc 1 1, 3, 0, 0), (50, .goto (-31), 3, 0, 0), (53, .aload_n 0, 1, 0, 0), (54, .iconst 5, 1, 0, 0), (55, .invokevirtual 87, 3, 6, 1), (58, .return_, 1, 0, 0)]
def mK6 : List mI := [(0, .aload_n 0, 1, 0, 0), (1, .invokevirtual 52, 3, 1, 0), (4, .iload_n 1, 1, 0, 0), (5, .if_icmp .eq 11, 3, 0, 0), (8, .aload_n 0, 1, 0, 0), (9, .aload_n 0, 1, 0, 0), (10, .getfield 25, 3, 0, 2), (13, .invokevirtual 77, 3, 3, 1), (16, .aload_n 0, 1, 0, 0), (17, .dup, 1, 0, 0), (18, .getfield 25, 3, 0, 2), (21, .iconst 1, 1, 0, 0), (22, .iadd, 1, 0, 0), (23, .putfield 25, 3, 0, 2), (26, .return_, 1, 0, 0)]
def mK7 : List mI := [(0, .aload_n 0, 1, 0, 0), (1, .invokevirtual 93, 3, 8, 0), (4, .aload_n 0, 1, 0, 0), (5, .aload_n 0, 1, 0, 0), (6, .getfield 25, 3, 0, 2), (9, .iconst 0, 1, 0, 0), (10, .invokevirtual 96, 3, 10, 2), (13, .aload_n 0, 1, 0, 0), (14, .getfield 21, 3, 0, 1), (17, .invokevirtual 100, 3, 33, 0), (20, .aload_n 0, 1, 0, 0), (21, .dup, 1, 0, 0), (22, .getfield 25, 3, 0, 2), (25, .iconst 1, 1, 0, 0), (26, .iadd, 1, 0, 0), (27, .putfield 25, 3, 0, 2), (30, .return_, 1, 0, 0)]
def mK8 : List mI := [(0, .aload_n 0, 1, 0, 0), (1, .invokevirtual 52, 3, 1, 0), (4, .iconst 2, 1, 0, 0), (5, .if_icmp .ne 24, 3, 0, 0), (8, .aload_n 0, 1, 0, 0), (9, .aload_n 0, 1, 0, 0), (10, .getfield 25, 3, 0, 2), (13, .invokevirtual 130, 3, 9, 1), (16, .iconst (-1), 1, 0, 0), (17, .if_icmp .ne 12, 3, 0, 0), (20, .aload_n 0, 1, 0, 0), (21, .getfield 42, 3, 0, 7), (24, .bipush 8, 2, 0, 0), (26, .if_icmp .lt 11, 3, 0, 0), (29, .aload_n 0, 1, 0, 0), (30, .aload_n 0, 1, 0, 0), (31, .getfield 25, 3, 0, 2), (34, .invokevirtual 77, 3, 3, 1), (37, .return_, 1, 0, 0)]
def mK9 : List mI := [(0, .iconst 0, 1, 0, 0), (1, .istore_n 2, 1, 0, 0), (2, .iload_n 2, 1, 0, 0), (3, .aload_n 0, 1, 0, 0), (4, .getfield 42, 3, 0, 7), (7, .if_icmp .ge 28, 3, 0, 0), (10, .aload_n 0, 1, 0, 0), (11, .getfield 12, 3, 0, 0), (14, .aload_n 0, 1, 0, 0), (15, .getfield 36, 3, 0, 5), (18, .iload_n 2, 1, 0, 0), (19, .iaload, 1, 0, 0), (20, .iload_n 1, 1, 0, 0), (21, .invokevirtual 180, 3, 75, 2), (24, .ifCond .eq 5, 3, 0, 0), (27, .iload_n 2, 1, 0, 0), (28, .ireturn, 1, 0, 0), (29, .iinc 2 1, 3, 0, 0), (32, .goto (-30), 3, 0, 0), (35, .iconst (-1), 1, 0, 0), (36, .ireturn, 1, 0, 0)]
def mK10 : List mI := [(0, .aload_n 0, 1, 0, 0), (1, .getfield 42, 3, 0, 7), (4, .bipush 8, 2, 0, 0), (6, .if_icmp .ge 33, 3, 0, 0), (9, .aload_n 0, 1, 0, 0), (10, .getfield 36, 3, 0, 5), (13, .aload_n 0, 1, 0, 0), (14, .getfield 42, 3, 0, 7), (17, .iload_n 1, 1, 0, 0), (18, .iastore, 1, 0, 0), (19, .aload_n 0, 1, 0, 0), (20, .getfield 39, 3, 0, 6), (23, .aload_n 0, 1, 0, 0), (24, .getfield 42, 3, 0, 7), (27, .iload_n 2, 1, 0, 0), (28, .iastore, 1, 0, 0), (29, .aload_n 0, 1, 0, 0), (30, .dup, 1, 0, 0), (31, .getfield 42, 3, 0, 7), (34, .iconst 1, 1, 0, 0), (35, .iadd, 1, 0, 0), (36, .putfield 42, 3, 0, 7), (39, .return_, 1, 0, 0)]
def mK11 : List mI := [(0, .aload_n 0, 1, 0, 0), (1, .bipush 6, 2, 0, 0), (3, .iload_n 1, 1, 0, 0), (4, .invokevirtual 103, 3, 12, 2), (7, .istore_n 2, 1, 0, 0), (8, .iconst 0, 1, 0, 0), (9, .istore_n 3, 1, 0, 0), (10, .iload_n 3, 1, 0, 0), (11, .sipush 600, 3, 0, 0), (14, .if_icmp .ge 23, 3, 0, 0), (17, .aload_n 0, 1, 0, 0), (18, .invokevirtual 52, 3, 1, 0), (21, .bipush 7, 2, 0, 0), (23, .if_icmp .eq 14, 3, 0, 0), (26, .aload_n 0, 1, 0, 0), (27, .iload_n 2, 1, 0, 0), (28, .invokevirtual 106, 3, 13, 1), (31, .iinc 3 1, 3, 0, 0), (34, .goto (-24), 3, 0, 0), (37, .aload_n 0, 1, 0, 0), (38, .bipush 7, 2, 0, 0), (40, .invokevirtual 87, 3, 6, 1), (43, .return_, 1, 0, 0)]
def mK12 : List mI := [(0, .aload_n 0, 1, 0, 0), (1, .invokevirtual 52, 3, 1, 0), (4, .iload_n 1, 1, 0, 0), (5, .if_icmp .ne 9, 3, 0, 0), (8, .iload_n 2, 1, 0, 0), (9, .bipush 16, 2, 0, 0), (11, .if_icmp .lt 11, 3, 0, 0), (14, .aload_n 0, 1, 0, 0), (15, .aload_n 0, 1, 0, 0), (16, .getfield 25, 3, 0, 2), (19, .invokevirtual 77, 3, 3, 1), (22, .aload_n 0, 1, 0, 0), (23, .dup, 1, 0, 0), (24, .getfield 25, 3, 0, 2), (27, .iconst 1, 1, 0, 0), (28, .iadd, 1, 0, 0), (29, .putfield 25, 3, 0, 2), (32, .iload_n 2, 1, 0, 0), (33, .iconst 1, 1, 0, 0), (34, .iadd, 1, 0, 0), (35, .ireturn, 1, 0, 0)]
def mK13 : List mI := [(0, .aload_n 0, 1, 0, 0), (1, .invokevirtual 52, 3, 1, 0), (4, .lookupswitch 126 #[(2, 76), (26, 68), (27, 84), (29, 92), (31, 100), (32, 108), (33, 117)], 68, 0, 0), (72, .aload_n 0, 1, 0, 0), (73, .iload_n 1, 1, 0, 0), (74, .invokevirtual 109, 3, 14, 1), (77, .goto 61, 3, 0, 0), (80, .aload_n 0, 1, 0, 0), (81, .iload_n 1, 1, 0, 0), (82, .invokevirtual 112, 3, 25, 1), (85, .goto 53, 3, 0, 0), (88, .aload_n 0, 1, 0, 0), (89, .iload_n 1, 1, 0, 0), (90, .invokevirtual 115, 3, 26, 1), (93, .goto 45, 3, 0, 0), (96, .aload_n 0, 1, 0, 0), (97, .iload_n 1, 1, 0, 0), (98, .invokevirtual 118, 3, 27, 1), (101, .goto 37, 3, 0, 0), (104, .aload_n 0, 1, 0, 0), (105, .iload_n 1, 1, 0, 0), (106, .invokevirtual 121, 3, 29, 1), (109, .goto 29, 3, 0, 0), (112, .aload_n 0, 1, 0, 0), (113, .iconst 0, 1, 0, 0), (114, .iload_n 1, 1, 0, 0), (115, .invokevirtual 124, 3, 30, 2), (118, .goto 20, 3, 0, 0), (121, .aload_n 0, 1, 0, 0), (122, .iconst 1, 1, 0, 0), (123, .iload_n 1, 1, 0, 0), (124, .invokevirtual 124, 3, 30, 2), (127, .goto 11, 3, 0, 0), (130, .aload_n 0, 1, 0, 0), (131, .aload_n 0, 1, 0, 0), (132, .getfield 25, 3, 0, 2), (135, .invokevirtual 77, 3, 3, 1), (138, .return_, 1, 0, 0)]
def mK14 : List mI := [(0, .aload_n 0, 1, 0, 0), (1, .dup, 1, 0, 0), (2, .getfield 25, 3, 0, 2), (5, .iconst 1, 1, 0, 0), (6, .iadd, 1, 0, 0), (7, .putfield 25, 3, 0, 2), (10, .aload_n 0, 1, 0, 0), (11, .invokevirtual 93, 3, 8, 0), (14, .aload_n 0, 1, 0, 0), (15, .getfield 25, 3, 0, 2), (18, .istore_n 2, 1, 0, 0), (19, .aload_n 0, 1, 0, 0), (20, .dup, 1, 0, 0), (21, .getfield 25, 3, 0, 2), (24, .iconst 1, 1, 0, 0), (25, .iadd, 1, 0, 0), (26, .putfield 25, 3, 0, 2), (29, .aload_n 0, 1, 0, 0), (30, .bipush 12, 2, 0, 0), (32, .invokevirtual 87, 3, 6, 1), (35, .aload_n 0, 1, 0, 0), (36, .iconst 0, 1, 0, 0), (37, .iload_n 1, 1, 0, 0), (38, .invokevirtual 127, 3, 15, 2), (41, .istore_n 3, 1, 0, 0), (42, .aload_n 0, 1, 0, 0), (43, .iload_n 2, 1, 0, 0), (44, .iload_n 3, 1, 0, 0), (45, .invokevirtual 96, 3, 10, 2), (48, .aload_n 0, 1, 0, 0), (49, .getfield 21, 3, 0, 1), (52, .bipush 39, 2, 0, 0), (54, .aload_n 0, 1, 0, 0), (55, .getfield 42, 3, 0, 7), (58, .iconst 1, 1, 0, 0), (59, .isub, 1, 0, 0), (60, .invokevirtual 68, 3, 34, 2), (63, .pop, 1, 0, 0), (64, .aload_n 0, 1, 0, 0), (65, .bipush 11, 2, 0, 0), (67, .invokevirtual 87, 3, 6, 1), (70, .return_, 1, 0, 0)]
def mK15 : List mI := [(0, .iload_n 1, 1, 0, 0), (1, .iconst 4, 1, 0, 0), (2, .if_icmp .le 9, 3, 0, 0), (5, .aload_n 0, 1, 0, 0), (6, .iload_n 2, 1, 0, 0), (7, .invokevirtual 152, 3, 16, 1), (10, .ireturn, 1, 0, 0), (11, .aload_n 0, 1, 0, 0), (12, .iload_n 1, 1, 0, 0), (13, .iconst 1, 1, 0, 0), (14, .iadd, 1, 0, 0), (15, .iload_n 2, 1, 0, 0), (16, .invokevirtual 127, 3, 15, 2), (19, .istore_n 3, 1, 0, 0), (20, .iload_n 1, 1, 0, 0), (21, .iconst 2, 1, 0, 0), (22, .if_icmp .ne 7, 3, 0, 0), (25, .iconst 1, 1, 0, 0), (26, .goto 6, 3, 0, 0), (29, .sipush 600, 3, 0, 0), (32, .istore 4, 2, 0, 0), (34, .iconst 0, 1, 0, 0), (35, .istore 5, 2, 0, 0), (37, .iload 5, 2, 0, 0), (39, .iload 4, 2, 0, 0), (41, .if_icmp .ge 142, 3, 0, 0), (44, .aload_n 0, 1, 0, 0), (45, .invokevirtual 52, 3, 1, 0), (48, .invokestatic 155, 3, 23, 1), (51, .iload_n 1, 1, 0, 0), (52, .if_icmp .ne 131, 3, 0, 0), (55, .aload_n 0, 1, 0, 0), (56, .getfield 25, 3, 0, 2), (59, .istore 6, 2, 0, 0), (61, .aload_n 0, 1, 0, 0), (62, .invokevirtual 52, 3, 1, 0), (65, .istore 7, 2, 0, 0), (67, .iload 7, 2, 0, 0), (69, .bipush 23, 2, 0, 0), (71, .if_icmp .eq 10, 3, 0, 0), (74, .iload 7, 2, 0, 0), (76, .bipush 24, 2, 0, 0), (78, .if_icmp .ne 7, 3, 0, 0), (81, .iconst 1, 1, 0, 0), (82, .goto 4, 3, 0, 0), (85, .iconst 0, 1, 0, 0), (86, .istore 8, 2, 0, 0), (88, .aload_n 0, 1, 0, 0), (89, .dup, 1, 0, 0), (90, .getfield 25, 3, 0, 2), (93, .iconst 1, 1, 0, 0), (94, .iadd, 1, 0, 0), (95, .putfield 25, 3, 0, 2), (98, .iload 8, 2, 0, 0), (100, .ifCond .eq 16, 3, 0, 0), (103, .aload_n 0, 1, 0, 0), (104, .getfield 21, 3, 0, 1), (107, .iload 7, 2, 0, 0), (109, .iconst 0, 1, 0, 0), (110, .invokevirtual 68, 3, 34, 2), (113, .goto 4, 3, 0, 0), (116, .iconst (-1), 1, 0, 0), (117, .istore 9, 2, 0, 0), (119, .aload_n 0, 1, 0, 0), (120, .iload_n 1, 1, 0, 0), (121, .iconst 1, 1, 0, 0), (122, .iadd, 1, 0, 0), (123, .iload_n 2, 1, 0, 0), (124, .invokevirtual 127, 3, 15, 2), (127, .istore 10, 2, 0, 0), (129, .iload 7, 2, 0, 0), (131, .iload_n 3, 1, 0, 0), (132, .iload 10, 2, 0, 0), (134, .invokestatic 158, 3, 24, 3), (137, .istore_n 3, 1, 0, 0), (138, .iload_n 3, 1, 0, 0), (139, .iconst (-1), 1, 0, 0), (140, .if_icmp .ne 9, 3, 0, 0), (143, .aload_n 0, 1, 0, 0), (144, .iload 6, 2, 0, 0), (146, .invokevirtual 77, 3, 3, 1), (149, .iload 8, 2, 0, 0), (151, .ifCond .eq 15, 3, 0, 0), (154, .aload_n 0, 1, 0, 0), (155, .getfield 21, 3, 0, 1), (158, .iload 9, 2, 0, 0), (160, .invokevirtual 143, 3, 37, 1), (163, .goto 14, 3, 0, 0), (166, .aload_n 0, 1, 0, 0), (167, .getfield 21, 3, 0, 1), (170, .iload 7, 2, 0, 0), (172, .iconst 0, 1, 0, 0), (173, .invokevirtual 68, 3, 34, 2), (176, .pop, 1, 0, 0), (177, .iinc 5 1, 3, 0, 0), (180, .goto (-143), 3, 0, 0), (183, .iload_n 3, 1, 0, 0), (184, .ireturn, 1, 0, 0)]
def mK16 : List mI := [(0, .aload_n 0, 1, 0, 0), (1, .getfield 25, 3, 0, 2), (4, .istore_n 2, 1, 0, 0), (5, .aload_n 0, 1, 0, 0), (6, .invokevirtual 52, 3, 1, 0), (9, .lookupswitch 223 #[(2, 161), (3, 93), (4, 200), (18, 75), (22, 84), (28, 194), (34, 122), (35, 122)], 75, 0, 0), (84, .aload_n 0, 1, 0, 0), (85, .iconst 0, 1, 0, 0), (86, .bipush 37, 2, 0, 0), (88, .iload_n 1, 1, 0, 0), (89, .invokevirtual 162, 3, 17, 3), (92, .ireturn, 1, 0, 0), (93, .aload_n 0, 1, 0, 0), (94, .iconst 1, 1, 0, 0), (95, .bipush 22, 2, 0, 0), (97, .iload_n 1, 1, 0, 0), (98, .invokevirtual 162, 3, 17, 3), (101, .ireturn, 1, 0, 0), (102, .aload_n 0, 1, 0, 0), (103, .dup, 1, 0, 0), (104, .getfield 25, 3, 0, 2), (107, .iconst 1, 1, 0, 0), (108, .iadd, 1, 0, 0), (109, .putfield 25, 3, 0, 2), (112, .aload_n 0, 1, 0, 0), (113, .getfield 21, 3, 0, 1), (116, .iconst 3, 1, 0, 0), (117, .aload_n 0, 1, 0, 0), (118, .getfield 12, 3, 0, 0), (121, .iload_n 2, 1, 0, 0), (122, .invokevirtual 165, 3, 76, 1), (125, .invokevirtual 68, 3, 34, 2), (128, .pop, 1, 0, 0), (129, .iconst 0, 1, 0, 0), (130, .ireturn, 1, 0, 0), (131, .aload_n 0, 1, 0, 0), (132, .dup, 1, 0, 0), (133, .getfield 25, 3, 0, 2), (136, .iconst 1, 1, 0, 0), (137, .iadd, 1, 0, 0), (138, .putfield 25, 3, 0, 2), (141, .aload_n 0, 1, 0, 0), (142, .getfield 21, 3, 0, 1), (145, .iconst 3, 1, 0, 0), (146, .aload_n 0, 1, 0, 0), (147, .getfield 12, 3, 0, 0), (150, .iload_n 2, 1, 0, 0), (151, .invokevirtual 149, 3, 73, 1), (154, .bipush 34, 2, 0, 0), (156, .if_icmp .ne 7, 3, 0, 0), (159, .iconst 1, 1, 0, 0), (160, .goto 4, 3, 0, 0), (163, .iconst 0, 1, 0, 0), (164, .invokevirtual 68, 3, 34, 2), (167, .pop, 1, 0, 0), (168, .iconst 1, 1, 0, 0), (169, .ireturn, 1, 0, 0), (170, .aload_n 0, 1, 0, 0), (171, .dup, 1, 0, 0), (172, .getfield 25, 3, 0, 2), (175, .iconst 1, 1, 0, 0), (176, .iadd, 1, 0, 0), (177, .putfield 25, 3, 0, 2), (180, .aload_n 0, 1, 0, 0), (181, .invokevirtual 52, 3, 1, 0), (184, .iconst 4, 1, 0, 0), (185, .if_icmp .ne 12, 3, 0, 0), (188, .aload_n 0, 1, 0, 0), (189, .iload_n 2, 1, 0, 0), (190, .iload_n 1, 1, 0, 0), (191, .invokevirtual 168, 3, 19, 2), (194, .goto 8, 3, 0, 0), (197, .aload_n 0, 1, 0, 0), (198, .iload_n 2, 1, 0, 0), (199, .invokevirtual 171, 3, 20, 1), (202, .ireturn, 1, 0, 0), (203, .aload_n 0, 1, 0, 0), (204, .iload_n 1, 1, 0, 0), (205, .invokevirtual 174, 3, 22, 1), (208, .ireturn, 1, 0, 0), (209, .aload_n 0, 1, 0, 0), (210, .iconst 4, 1, 0, 0), (211, .iload_n 1, 1, 0, 0), (212, .invokevirtual 103, 3, 12, 2), (215, .istore_n 3, 1, 0, 0), (216, .aload_n 0, 1, 0, 0), (217, .iconst 0, 1, 0, 0), (218, .iload_n 3, 1, 0, 0), (219, .invokevirtual 127, 3, 15, 2), (222, .istore 4, 2, 0, 0), (224, .aload_n 0, 1, 0, 0), (225, .iconst 5, 1, 0, 0), (226, .invokevirtual 87, 3, 6, 1), (229, .iload 4, 2, 0, 0), (231, .ireturn, 1, 0, 0), (232, .aload_n 0, 1, 0, 0), (233, .iload_n 2, 1, 0, 0), (234, .invokevirtual 77, 3, 3, 1), (237, .iconst 0, 1, 0, 0), (238, .ireturn, 1, 0, 0)]
def mK17 : List mI := [(0, .aload_n 0, 1, 0, 0), (1, .getfield 25, 3, 0, 2), (4, .istore 4, 2, 0, 0), (6, .aload_n 0, 1, 0, 0), (7, .aload_n 0, 1, 0, 0), (8, .invokevirtual 52, 3, 1, 0), (11, .iload_n 3, 1, 0, 0), (12, .invokevirtual 103, 3, 12, 2), (15, .istore 5, 2, 0, 0), (17, .aload_n 0, 1, 0, 0), (18, .iload_n 1, 1, 0, 0), (19, .aload_n 0, 1, 0, 0), (20, .iload 5, 2, 0, 0), (22, .invokevirtual 152, 3, 16, 1), (25, .iload 4, 2, 0, 0), (27, .invokevirtual 136, 3, 18, 3), (30, .aload_n 0, 1, 0, 0), (31, .getfield 21, 3, 0, 1), (34, .iload_n 2, 1, 0, 0), (35, .iconst 0, 1, 0, 0), (36, .invokevirtual 68, 3, 34, 2), (39, .pop, 1, 0, 0), (40, .iload_n 1, 1, 0, 0), (41, .ireturn, 1, 0, 0)]
def mK18 : List mI := [(0, .iload_n 2, 1, 0, 0), (1, .iload_n 1, 1, 0, 0), (2, .if_icmp .eq 8, 3, 0, 0), (5, .aload_n 0, 1, 0, 0), (6, .iload_n 3, 1, 0, 0), (7, .invokevirtual 77, 3, 3, 1), (10, .return_, 1, 0, 0)]
def mK19 : List mI := [(0, .aload_n 0, 1, 0, 0), (1, .iload_n 1, 1, 0, 0), (2, .invokevirtual 80, 3, 4, 1), (5, .istore_n 3, 1, 0, 0), (6, .iload_n 3, 1, 0, 0), (7, .iconst (-1), 1, 0, 0), (8, .if_icmp .ne 8, 3, 0, 0), (11, .aload_n 0, 1, 0, 0), (12, .iload_n 1, 1, 0, 0), (13, .invokevirtual 77, 3, 3, 1), (16, .aload_n 0, 1, 0, 0), (17, .iconst 4, 1, 0, 0), (18, .iload_n 2, 1, 0, 0), (19, .invokevirtual 103, 3, 12, 2), (22, .istore 4, 2, 0, 0), (24, .iconst 0, 1, 0, 0), (25, .istore 5, 2, 0, 0), (27, .aload_n 0, 1, 0, 0), (28, .invokevirtual 52, 3, 1, 0), (31, .iconst 5, 1, 0, 0), (32, .if_icmp .eq 7, 3, 0, 0), (35, .iconst 1, 1, 0, 0), (36, .goto 4, 3, 0, 0), (39, .iconst 0, 1, 0, 0), (40, .istore 6, 2, 0, 0), (42, .iconst 0, 1, 0, 0), (43, .istore 7, 2, 0, 0), (45, .iload 7, 2, 0, 0), (47, .sipush 600, 3, 0, 0), (50, .if_icmp .ge 61, 3, 0, 0), (53, .iload 6, 2, 0, 0), (55, .ifCond .eq 56, 3, 0, 0), (58, .aload_n 0, 1, 0, 0), (59, .iconst 0, 1, 0, 0), (60, .aload_n 0, 1, 0, 0), (61, .iconst 0, 1, 0, 0), (62, .iload 4, 2, 0, 0), (64, .invokevirtual 127, 3, 15, 2), (67, .iload_n 1, 1, 0, 0), (68, .invokevirtual 136, 3, 18, 3), (71, .iinc 5 1, 3, 0, 0), (74, .aload_n 0, 1, 0, 0), (75, .invokevirtual 52, 3, 1, 0), (78, .bipush 10, 2, 0, 0), (80, .if_icmp .ne 7, 3, 0, 0), (83, .iconst 1, 1, 0, 0), (84, .goto 4, 3, 0, 0), (87, .iconst 0, 1, 0, 0), (88, .istore 6, 2, 0, 0), (90, .iload 6, 2, 0, 0), (92, .ifCond .eq 13, 3, 0, 0), (95, .aload_n 0, 1, 0, 0), (96, .dup, 1, 0, 0), (97, .getfield 25, 3, 0, 2), (100, .iconst 1, 1, 0, 0), (101, .iadd, 1, 0, 0), (102, .putfield 25, 3, 0, 2), (105, .iinc 7 1, 3, 0, 0), (108, .goto (-63), 3, 0, 0), (111, .aload_n 0, 1, 0, 0), (112, .iconst 5, 1, 0, 0), (113, .invokevirtual 87, 3, 6, 1), (116, .iload 5, 2, 0, 0), (118, .aload_n 0, 1, 0, 0), (119, .getfield 21, 3, 0, 1), (122, .iload_n 3, 1, 0, 0), (123, .invokevirtual 177, 3, 35, 1), (126, .if_icmp .eq 8, 3, 0, 0), (129, .aload_n 0, 1, 0, 0), (130, .iload_n 1, 1, 0, 0), (131, .invokevirtual 77, 3, 3, 1), (134, .aload_n 0, 1, 0, 0), (135, .getfield 21, 3, 0, 1), (138, .bipush 38, 2, 0, 0), (140, .iload_n 3, 1, 0, 0), (141, .invokevirtual 68, 3, 34, 2), (144, .pop, 1, 0, 0), (145, .iconst 0, 1, 0, 0), (146, .ireturn, 1, 0, 0)]
def mK20 : List mI := [(0, .aload_n 0, 1, 0, 0), (1, .iload_n 1, 1, 0, 0), (2, .invokevirtual 130, 3, 9, 1), (5, .istore_n 2, 1, 0, 0), (6, .iload_n 2, 1, 0, 0), (7, .iconst (-1), 1, 0, 0), (8, .if_icmp .ne 8, 3, 0, 0), (11, .aload_n 0, 1, 0, 0), (12, .iload_n 1, 1, 0, 0), (13, .invokevirtual 77, 3, 3, 1), (16, .aload_n 0, 1, 0, 0), (17, .getfield 21, 3, 0, 1), (20, .bipush 36, 2, 0, 0), (22, .iload_n 2, 1, 0, 0), (23, .invokevirtual 68, 3, 34, 2), (26, .pop, 1, 0, 0), (27, .aload_n 0, 1, 0, 0), (28, .iload_n 2, 1, 0, 0), (29, .invokevirtual 133, 3, 21, 1), (32, .ireturn, 1, 0, 0)]
def mK21 : List mI := [(0, .iload_n 1, 1, 0, 0), (1, .ifCond .lt 20, 3, 0, 0), (4, .iload_n 1, 1, 0, 0), (5, .aload_n 0, 1, 0, 0), (6, .getfield 42, 3, 0, 7), (9, .if_icmp .ge 12, 3, 0, 0), (12, .aload_n 0, 1, 0, 0), (13, .getfield 39, 3, 0, 6), (16, .iload_n 1, 1, 0, 0), (17, .iaload, 1, 0, 0), (18, .goto 4, 3, 0, 0), (21, .iconst 0, 1, 0, 0), (22, .ireturn, 1, 0, 0)]
def mK22 : List mI := [(0, .aload_n 0, 1, 0, 0), (1, .getfield 25, 3, 0, 2), (4, .istore_n 2, 1, 0, 0), (5, .aload_n 0, 1, 0, 0), (6, .dup, 1, 0, 0), (7, .getfield 25, 3, 0, 2), (10, .iconst 1, 1, 0, 0), (11, .iadd, 1, 0, 0), (12, .putfield 25, 3, 0, 2), (15, .aload_n 0, 1, 0, 0), (16, .bipush 8, 2, 0, 0), (18, .iload_n 1, 1, 0, 0), (19, .invokevirtual 103, 3, 12, 2), (22, .istore_n 3, 1, 0, 0), (23, .aload_n 0, 1, 0, 0), (24, .iconst 0, 1, 0, 0), (25, .aload_n 0, 1, 0, 0), (26, .iconst 0, 1, 0, 0), (27, .iload_n 3, 1, 0, 0), (28, .invokevirtual 127, 3, 15, 2), (31, .iload_n 2, 1, 0, 0), (32, .invokevirtual 136, 3, 18, 3), (35, .aload_n 0, 1, 0, 0), (36, .bipush 9, 2, 0, 0), (38, .invokevirtual 87, 3, 6, 1), (41, .aload_n 0, 1, 0, 0), (42, .getfield 21, 3, 0, 1), (45, .bipush 28, 2, 0, 0), (47, .iconst 0, 1, 0, 0), (48, .invokevirtual 68, 3, 34, 2), (51, .pop, 1, 0, 0), (52, .iconst 0, 1, 0, 0), (53, .ireturn, 1, 0, 0)]
def mK23 : List mI := [(0, .iload_n 0, 1, 0, 0), (1, .tableswitch 73 13 24 #[67, 67, 67, 67, 69, 69, 71, 71, 71, 73, 65, 63], 63, 0, 0), (64, .iconst 0, 1, 0, 0), (65, .ireturn, 1, 0, 0), (66, .iconst 1, 1, 0, 0), (67, .ireturn, 1, 0, 0), (68, .iconst 2, 1, 0, 0), (69, .ireturn, 1, 0, 0), (70, .iconst 3, 1, 0, 0), (71, .ireturn, 1, 0, 0), (72, .iconst 4, 1, 0, 0), (73, .ireturn, 1, 0, 0), (74, .iconst (-1), 1, 0, 0), (75, .ireturn, 1, 0, 0)]
def mK24 : List mI := [(0, .iload_n 1, 1, 0, 0), (1, .iload_n 2, 1, 0, 0), (2, .if_icmp .eq 5, 3, 0, 0), (5, .iconst (-1), 1, 0, 0), (6, .ireturn, 1, 0, 0), (7, .iload_n 0, 1, 0, 0), (8, .tableswitch 87 13 24 #[64, 64, 77, 77, 87, 87, 87, 87, 87, 87, 66, 66], 64, 0, 0), (72, .iconst 1, 1, 0, 0), (73, .ireturn, 1, 0, 0), (74, .iload_n 1, 1, 0, 0), (75, .iconst 1, 1, 0, 0), (76, .if_icmp .ne 7, 3, 0, 0), (79, .iconst 1, 1, 0, 0), (80, .goto 4, 3, 0, 0), (83, .iconst (-1), 1, 0, 0), (84, .ireturn, 1, 0, 0), (85, .iload_n 1, 1, 0, 0), (86, .ifCond .ne 7, 3, 0, 0), (89, .iconst 1, 1, 0, 0), (90, .goto 4, 3, 0, 0), (93, .iconst (-1), 1, 0, 0), (94, .ireturn, 1, 0, 0), (95, .iload_n 1, 1, 0, 0), (96, .ifCond .ne 7, 3, 0, 0), (99, .iconst 0, 1, 0, 0), (100, .goto 4, 3, 0, 0), (103, .iconst (-1), 1, 0, 0), (104, .ireturn, 1, 0, 0)]
def mK25 : List mI := [(0, .aload_n 0, 1, 0, 0), (1, .getfield 25, 3, 0, 2), (4, .istore_n 2, 1, 0, 0), (5, .aload_n 0, 1, 0, 0), (6, .iload_n 2, 1, 0, 0), (7, .invokevirtual 130, 3, 9, 1), (10, .istore_n 3, 1, 0, 0), (11, .iload_n 3, 1, 0, 0), (12, .iconst (-1), 1, 0, 0), (13, .if_icmp .ne 8, 3, 0, 0), (16, .aload_n 0, 1, 0, 0), (17, .iload_n 2, 1, 0, 0), (18, .invokevirtual 77, 3, 3, 1), (21, .aload_n 0, 1, 0, 0), (22, .dup, 1, 0, 0), (23, .getfield 25, 3, 0, 2), (26, .iconst 1, 1, 0, 0), (27, .iadd, 1, 0, 0), (28, .putfield 25, 3, 0, 2), (31, .aload_n 0, 1, 0, 0), (32, .bipush 12, 2, 0, 0), (34, .invokevirtual 87, 3, 6, 1), (37, .aload_n 0, 1, 0, 0), (38, .iconst 0, 1, 0, 0), (39, .iload_n 1, 1, 0, 0), (40, .invokevirtual 127, 3, 15, 2), (43, .istore 4, 2, 0, 0), (45, .aload_n 0, 1, 0, 0), (46, .aload_n 0, 1, 0, 0), (47, .iload_n 3, 1, 0, 0), (48, .invokevirtual 133, 3, 21, 1), (51, .iload 4, 2, 0, 0), (53, .iload_n 2, 1, 0, 0), (54, .invokevirtual 136, 3, 18, 3), (57, .aload_n 0, 1, 0, 0), (58, .getfield 21, 3, 0, 1), (61, .bipush 39, 2, 0, 0), (63, .iload_n 3, 1, 0, 0), (64, .invokevirtual 68, 3, 34, 2), (67, .pop, 1, 0, 0), (68, .aload_n 0, 1, 0, 0), (69, .bipush 11, 2, 0, 0), (71, .invokevirtual 87, 3, 6, 1), (74, .return_, 1, 0, 0)]
def mK26 : List mI := [(0, .aload_n 0, 1, 0, 0), (1, .getfield 25, 3, 0, 2), (4, .istore_n 2, 1, 0, 0), (5, .aload_n 0, 1, 0, 0), (6, .dup, 1, 0, 0), (7, .getfield 25, 3, 0, 2), (10, .iconst 1, 1, 0, 0), (11, .iadd, 1, 0, 0), (12, .putfield 25, 3, 0, 2), (15, .aload_n 0, 1, 0, 0), (16, .bipush 8, 2, 0, 0), (18, .iload_n 1, 1, 0, 0), (19, .invokevirtual 103, 3, 12, 2), (22, .istore_n 3, 1, 0, 0), (23, .aload_n 0, 1, 0, 0), (24, .iconst 0, 1, 0, 0), (25, .aload_n 0, 1, 0, 0), (26, .iconst 0, 1, 0, 0), (27, .iload_n 3, 1, 0, 0), (28, .invokevirtual 127, 3, 15, 2), (31, .iload_n 2, 1, 0, 0), (32, .invokevirtual 136, 3, 18, 3), (35, .aload_n 0, 1, 0, 0), (36, .bipush 9, 2, 0, 0), (38, .invokevirtual 87, 3, 6, 1), (41, .aload_n 0, 1, 0, 0), (42, .bipush 12, 2, 0, 0), (44, .invokevirtual 87, 3, 6, 1), (47, .aload_n 0, 1, 0, 0), (48, .iconst 0, 1, 0, 0), (49, .aload_n 0, 1, 0, 0), (50, .iconst 0, 1, 0, 0), (51, .iload_n 1, 1, 0, 0), (52, .invokevirtual 127, 3, 15, 2), (55, .iload_n 2, 1, 0, 0), (56, .invokevirtual 136, 3, 18, 3), (59, .aload_n 0, 1, 0, 0), (60, .getfield 21, 3, 0, 1), (63, .bipush 27, 2, 0, 0), (65, .iconst 0, 1, 0, 0), (66, .invokevirtual 68, 3, 34, 2), (69, .pop, 1, 0, 0), (70, .aload_n 0, 1, 0, 0), (71, .bipush 11, 2, 0, 0), (73, .invokevirtual 87, 3, 6, 1), (76, .return_, 1, 0, 0)]
def mK27 : List mI := [(0, .aload_n 0, 1, 0, 0), (1, .iload_n 1, 1, 0, 0), (2, .invokevirtual 140, 3, 28, 1), (5, .istore_n 2, 1, 0, 0), (6, .aload_n 0, 1, 0, 0), (7, .iload_n 1, 1, 0, 0), (8, .invokevirtual 62, 3, 11, 1), (11, .aload_n 0, 1, 0, 0), (12, .invokevirtual 52, 3, 1, 0), (15, .bipush 30, 2, 0, 0), (17, .if_icmp .eq 12, 3, 0, 0), (20, .aload_n 0, 1, 0, 0), (21, .getfield 21, 3, 0, 1), (24, .iload_n 2, 1, 0, 0), (25, .invokevirtual 143, 3, 37, 1), (28, .return_, 1, 0, 0), (29, .aload_n 0, 1, 0, 0), (30, .dup, 1, 0, 0), (31, .getfield 25, 3, 0, 2), (34, .iconst 1, 1, 0, 0), (35, .iadd, 1, 0, 0), (36, .putfield 25, 3, 0, 2), (39, .aload_n 0, 1, 0, 0), (40, .getfield 21, 3, 0, 1), (43, .bipush 41, 2, 0, 0), (45, .iconst 0, 1, 0, 0), (46, .invokevirtual 68, 3, 34, 2), (49, .istore_n 3, 1, 0, 0), (50, .aload_n 0, 1, 0, 0), (51, .getfield 21, 3, 0, 1), (54, .iload_n 2, 1, 0, 0), (55, .invokevirtual 143, 3, 37, 1), (58, .aload_n 0, 1, 0, 0), (59, .iload_n 1, 1, 0, 0), (60, .invokevirtual 62, 3, 11, 1), (63, .aload_n 0, 1, 0, 0), (64, .getfield 21, 3, 0, 1), (67, .iload_n 3, 1, 0, 0), (68, .invokevirtual 143, 3, 37, 1), (71, .return_, 1, 0, 0)]
def mK28 : List mI := [(0, .aload_n 0, 1, 0, 0), (1, .getfield 25, 3, 0, 2), (4, .istore_n 2, 1, 0, 0), (5, .aload_n 0, 1, 0, 0), (6, .dup, 1, 0, 0), (7, .getfield 25, 3, 0, 2), (10, .iconst 1, 1, 0, 0), (11, .iadd, 1, 0, 0), (12, .putfield 25, 3, 0, 2), (15, .aload_n 0, 1, 0, 0), (16, .iconst 1, 1, 0, 0), (17, .aload_n 0, 1, 0, 0), (18, .iconst 0, 1, 0, 0), (19, .iload_n 1, 1, 0, 0), (20, .invokevirtual 127, 3, 15, 2), (23, .iload_n 2, 1, 0, 0), (24, .invokevirtual 136, 3, 18, 3), (27, .aload_n 0, 1, 0, 0), (28, .getfield 21, 3, 0, 1), (31, .bipush 40, 2, 0, 0), (33, .iconst 0, 1, 0, 0), (34, .invokevirtual 68, 3, 34, 2), (37, .ireturn, 1, 0, 0)]
def mK29 : List mI := [(0, .aload_n 0, 1, 0, 0), (1, .getfield 21, 3, 0, 1), (4, .getfield 146, 3, 1, 2), (7, .istore_n 2, 1, 0, 0), (8, .aload_n 0, 1, 0, 0), (9, .iload_n 1, 1, 0, 0), (10, .invokevirtual 140, 3, 28, 1), (13, .istore_n 3, 1, 0, 0), (14, .aload_n 0, 1, 0, 0), (15, .iload_n 1, 1, 0, 0), (16, .invokevirtual 62, 3, 11, 1), (19, .aload_n 0, 1, 0, 0), (20, .getfield 21, 3, 0, 1), (23, .bipush 41, 2, 0, 0), (25, .iload_n 2, 1, 0, 0), (26, .invokevirtual 68, 3, 34, 2), (29, .pop, 1, 0, 0), (30, .aload_n 0, 1, 0, 0), (31, .getfield 21, 3, 0, 1), (34, .iload_n 3, 1, 0, 0), (35, .invokevirtual 143, 3, 37, 1), (38, .return_, 1, 0, 0)]
def mK30 : List mI := [(0, .aload_n 0, 1, 0, 0), (1, .getfield 25, 3, 0, 2), (4, .istore_n 3, 1, 0, 0), (5, .aload_n 0, 1, 0, 0), (6, .dup, 1, 0, 0), (7, .getfield 25, 3, 0, 2), (10, .iconst 1, 1, 0, 0), (11, .iadd, 1, 0, 0), (12, .putfield 25, 3, 0, 2), (15, .aload_n 0, 1, 0, 0), (16, .iload_n 1, 1, 0, 0), (17, .aload_n 0, 1, 0, 0), (18, .iconst 0, 1, 0, 0), (19, .iload_n 2, 1, 0, 0), (20, .invokevirtual 127, 3, 15, 2), (23, .iload_n 3, 1, 0, 0), (24, .invokevirtual 136, 3, 18, 3), (27, .aload_n 0, 1, 0, 0), (28, .getfield 21, 3, 0, 1), (31, .aload_n 0, 1, 0, 0), (32, .getfield 12, 3, 0, 0), (35, .iload_n 3, 1, 0, 0), (36, .invokevirtual 149, 3, 73, 1), (39, .iconst 0, 1, 0, 0), (40, .invokevirtual 68, 3, 34, 2), (43, .pop, 1, 0, 0), (44, .aload_n 0, 1, 0, 0), (45, .bipush 11, 2, 0, 0), (47, .invokevirtual 87, 3, 6, 1), (50, .return_, 1, 0, 0)]
def mK31 : List mI := [(0, .aload_n 0, 1, 0, 0), (1, .iconst 0, 1, 0, 0), (2, .putfield 18, 3, 1, 2), (5, .aload_n 0, 1, 0, 0), (6, .iconst 0, 1, 0, 0), (7, .putfield 28, 3, 1, 5), (10, .return_, 1, 0, 0)]
def mK32 : List mI := [(0, .aload_n 0, 1, 0, 0), (1, .getfield 28, 3, 1, 5), (4, .bipush 8, 2, 0, 0), (6, .if_icmp .ge 36, 3, 0, 0), (9, .aload_n 0, 1, 0, 0), (10, .getfield 22, 3, 1, 3), (13, .aload_n 0, 1, 0, 0), (14, .getfield 28, 3, 1, 5), (17, .aload_n 0, 1, 0, 0), (18, .getfield 18, 3, 1, 2), (21, .iastore, 1, 0, 0), (22, .aload_n 0, 1, 0, 0), (23, .getfield 25, 3, 1, 4), (26, .aload_n 0, 1, 0, 0), (27, .getfield 28, 3, 1, 5), (30, .iconst 0, 1, 0, 0), (31, .iastore, 1, 0, 0), (32, .aload_n 0, 1, 0, 0), (33, .dup, 1, 0, 0), (34, .getfield 28, 3, 1, 5), (37, .iconst 1, 1, 0, 0), (38, .iadd, 1, 0, 0), (39, .putfield 28, 3, 1, 5), (42, .return_, 1, 0, 0)]
def mK33 : List mI := [(0, .aload_n 0, 1, 0, 0), (1, .getfield 28, 3, 1, 5), (4, .ifCond .le 18, 3, 0, 0), (7, .aload_n 0, 1, 0, 0), (8, .getfield 25, 3, 1, 4), (11, .aload_n 0, 1, 0, 0), (12, .getfield 28, 3, 1, 5), (15, .iconst 1, 1, 0, 0), (16, .isub, 1, 0, 0), (17, .dup2, 1, 0, 0), (18, .iaload, 1, 0, 0), (19, .iconst 1, 1, 0, 0), (20, .iadd, 1, 0, 0), (21, .iastore, 1, 0, 0), (22, .return_, 1, 0, 0)]
def mK34 : List mI := [(0, .aload_n 0, 1, 0, 0), (1, .getfield 18, 3, 1, 2), (4, .sipush 600, 3, 0, 0), (7, .if_icmp .ge 33, 3, 0, 0), (10, .aload_n 0, 1, 0, 0), (11, .getfield 9, 3, 1, 0), (14, .aload_n 0, 1, 0, 0), (15, .getfield 18, 3, 1, 2), (18, .iload_n 1, 1, 0, 0), (19, .iastore, 1, 0, 0), (20, .aload_n 0, 1, 0, 0), (21, .getfield 15, 3, 1, 1), (24, .aload_n 0, 1, 0, 0), (25, .getfield 18, 3, 1, 2), (28, .iload_n 2, 1, 0, 0), (29, .iastore, 1, 0, 0), (30, .aload_n 0, 1, 0, 0), (31, .dup, 1, 0, 0), (32, .getfield 18, 3, 1, 2), (35, .iconst 1, 1, 0, 0), (36, .iadd, 1, 0, 0), (37, .putfield 18, 3, 1, 2), (40, .aload_n 0, 1, 0, 0), (41, .getfield 18, 3, 1, 2), (44, .iconst 1, 1, 0, 0), (45, .isub, 1, 0, 0), (46, .ireturn, 1, 0, 0)]
def mK35 : List mI := [(0, .aload_n 0, 1, 0, 0), (1, .iload_n 1, 1, 0, 0), (2, .invokevirtual 37, 3, 36, 1), (5, .ifCond .eq 12, 3, 0, 0), (8, .aload_n 0, 1, 0, 0), (9, .getfield 25, 3, 1, 4), (12, .iload_n 1, 1, 0, 0), (13, .iaload, 1, 0, 0), (14, .goto 4, 3, 0, 0), (17, .iconst 0, 1, 0, 0), (18, .ireturn, 1, 0, 0)]
def mK36 : List mI := [(0, .iload_n 1, 1, 0, 0), (1, .ifCond .lt 15, 3, 0, 0), (4, .iload_n 1, 1, 0, 0), (5, .aload_n 0, 1, 0, 0), (6, .getfield 28, 3, 1, 5), (9, .if_icmp .ge 7, 3, 0, 0), (12, .iconst 1, 1, 0, 0), (13, .goto 4, 3, 0, 0), (16, .iconst 0, 1, 0, 0), (17, .ireturn, 1, 0, 0)]
def mK37 : List mI := [(0, .iload_n 1, 1, 0, 0), (1, .ifCond .lt 21, 3, 0, 0), (4, .iload_n 1, 1, 0, 0), (5, .aload_n 0, 1, 0, 0), (6, .getfield 18, 3, 1, 2), (9, .if_icmp .ge 13, 3, 0, 0), (12, .aload_n 0, 1, 0, 0), (13, .getfield 15, 3, 1, 1), (16, .iload_n 1, 1, 0, 0), (17, .aload_n 0, 1, 0, 0), (18, .getfield 18, 3, 1, 2), (21, .iastore, 1, 0, 0), (22, .return_, 1, 0, 0)]
def mK38 : List mI := [(0, .aload_n 0, 1, 0, 0), (1, .aload_n 1, 1, 0, 0), (2, .getfield 18, 3, 1, 2), (5, .putfield 18, 3, 1, 2), (8, .aload_n 0, 1, 0, 0), (9, .aload_n 1, 1, 0, 0), (10, .getfield 28, 3, 1, 5), (13, .putfield 28, 3, 1, 5), (16, .aload_n 1, 1, 0, 0), (17, .getfield 9, 3, 1, 0), (20, .iconst 0, 1, 0, 0), (21, .aload_n 0, 1, 0, 0), (22, .getfield 9, 3, 1, 0), (25, .iconst 0, 1, 0, 0), (26, .sipush 600, 3, 0, 0), (29, .invokestatic 31, 3, 1000, 5), (32, .aload_n 1, 1, 0, 0), (33, .getfield 15, 3, 1, 1), (36, .iconst 0, 1, 0, 0), (37, .aload_n 0, 1, 0, 0), (38, .getfield 15, 3, 1, 1), (41, .iconst 0, 1, 0, 0), (42, .sipush 600, 3, 0, 0), (45, .invokestatic 31, 3, 1000, 5), (48, .aload_n 1, 1, 0, 0), (49, .getfield 22, 3, 1, 3), (52, .iconst 0, 1, 0, 0), (53, .aload_n 0, 1, 0, 0), (54, .getfield 22, 3, 1, 3), (57, .iconst 0, 1, 0, 0), (58, .bipush 8, 2, 0, 0), (60, .invokestatic 31, 3, 1000, 5), (63, .aload_n 1, 1, 0, 0), (64, .getfield 25, 3, 1, 4), (67, .iconst 0, 1, 0, 0), (68, .aload_n 0, 1, 0, 0), (69, .getfield 25, 3, 1, 4), (72, .iconst 0, 1, 0, 0), (73, .bipush 8, 2, 0, 0), (75, .invokestatic 31, 3, 1000, 5), (78, .return_, 1, 0, 0)]
def mK39 : List mI := [(0, .aload_n 0, 1, 0, 0), (1, .iload_n 1, 1, 0, 0), (2, .invokevirtual 37, 3, 36, 1), (5, .ifCond .eq 12, 3, 0, 0), (8, .aload_n 0, 1, 0, 0), (9, .getfield 22, 3, 1, 3), (12, .iload_n 1, 1, 0, 0), (13, .iaload, 1, 0, 0), (14, .goto 4, 3, 0, 0), (17, .iconst 0, 1, 0, 0), (18, .ireturn, 1, 0, 0)]
def mK40 : List mI := [(0, .iload_n 1, 1, 0, 0), (1, .ifCond .lt 20, 3, 0, 0), (4, .iload_n 1, 1, 0, 0), (5, .aload_n 0, 1, 0, 0), (6, .getfield 18, 3, 1, 2), (9, .if_icmp .ge 12, 3, 0, 0), (12, .aload_n 0, 1, 0, 0), (13, .getfield 9, 3, 1, 0), (16, .iload_n 1, 1, 0, 0), (17, .iaload, 1, 0, 0), (18, .goto 5, 3, 0, 0), (21, .bipush 42, 2, 0, 0), (23, .ireturn, 1, 0, 0)]
def mK41 : List mI := [(0, .iload_n 1, 1, 0, 0), (1, .ifCond .lt 20, 3, 0, 0), (4, .iload_n 1, 1, 0, 0), (5, .aload_n 0, 1, 0, 0), (6, .getfield 18, 3, 1, 2), (9, .if_icmp .ge 12, 3, 0, 0), (12, .aload_n 0, 1, 0, 0), (13, .getfield 15, 3, 1, 1), (16, .iload_n 1, 1, 0, 0), (17, .iaload, 1, 0, 0), (18, .goto 4, 3, 0, 0), (21, .iconst 0, 1, 0, 0), (22, .ireturn, 1, 0, 0)]
def mK42 : List mI := [(0, .aload_n 0, 1, 0, 0), (1, .iconst 0, 1, 0, 0), (2, .putfield 29, 3, 2, 3), (5, .aload_n 0, 1, 0, 0), (6, .iconst 0, 1, 0, 0), (7, .putfield 39, 3, 2, 6), (10, .aload_n 0, 1, 0, 0), (11, .iconst 0, 1, 0, 0), (12, .putfield 42, 3, 2, 7), (15, .aload_n 0, 1, 0, 0), (16, .iconst 0, 1, 0, 0), (17, .putfield 48, 3, 2, 9), (20, .aload_n 0, 1, 0, 0), (21, .iconst 0, 1, 0, 0), (22, .putfield 51, 3, 2, 10), (25, .aload_n 0, 1, 0, 0), (26, .iconst 3, 1, 0, 0), (27, .putfield 45, 3, 2, 8), (30, .aload_n 0, 1, 0, 0), (31, .aload_n 0, 1, 0, 0), (32, .getfield 21, 3, 2, 1), (35, .iload_n 1, 1, 0, 0), (36, .invokevirtual 54, 3, 35, 1), (39, .iload_n 3, 1, 0, 0), (40, .iload 4, 2, 0, 0), (42, .iload 5, 2, 0, 0), (44, .invokevirtual 58, 3, 43, 4), (47, .aload_n 0, 1, 0, 0), (48, .iload_n 1, 1, 0, 0), (49, .invokevirtual 62, 3, 45, 1), (52, .iconst 0, 1, 0, 0), (53, .istore 6, 2, 0, 0), (55, .iload 6, 2, 0, 0), (57, .ldc 66, 2, 0, 1000000), (59, .if_icmp .ge 91, 3, 0, 0), (62, .aload_n 0, 1, 0, 0), (63, .getfield 45, 3, 2, 8), (66, .iconst 3, 1, 0, 0), (67, .if_icmp .ne 83, 3, 0, 0), (70, .aload_n 0, 1, 0, 0), (71, .getfield 21, 3, 2, 1), (74, .aload_n 0, 1, 0, 0), (75, .getfield 42, 3, 2, 7), (78, .invokevirtual 67, 3, 40, 1), (81, .istore 7, 2, 0, 0), (83, .aload_n 0, 1, 0, 0), (84, .getfield 21, 3, 2, 1), (87, .aload_n 0, 1, 0, 0), (88, .getfield 42, 3, 2, 7), (91, .invokevirtual 70, 3, 41, 1), (94, .istore 8, 2, 0, 0), (96, .aload_n 0, 1, 0, 0), (97, .dup, 1, 0, 0), (98, .getfield 42, 3, 2, 7), (101, .iconst 1, 1, 0, 0), (102, .iadd, 1, 0, 0), (103, .putfield 42, 3, 2, 7), (106, .aload_n 0, 1, 0, 0), (107, .dup, 1, 0, 0), (108, .getfield 48, 3, 2, 9), (111, .iload 7, 2, 0, 0), (113, .invokestatic 73, 3, 48, 1), (116, .iadd, 1, 0, 0), (117, .putfield 48, 3, 2, 9), (120, .aload_n 0, 1, 0, 0), (121, .getfield 48, 3, 2, 9), (124, .iload_n 2, 1, 0, 0), (125, .if_icmp .le 11, 3, 0, 0), (128, .aload_n 0, 1, 0, 0), (129, .iconst 1, 1, 0, 0), (130, .putfield 45, 3, 2, 8), (133, .goto 11, 3, 0, 0), (136, .aload_n 0, 1, 0, 0), (137, .iload 7, 2, 0, 0), (139, .iload 8, 2, 0, 0), (141, .invokevirtual 76, 3, 49, 2), (144, .iinc 6 1, 3, 0, 0), (147, .goto (-92), 3, 0, 0), (150, .aload_n 0, 1, 0, 0), (151, .getfield 45, 3, 2, 8), (154, .iconst 3, 1, 0, 0), (155, .if_icmp .ne 7, 3, 0, 0), (158, .iconst 1, 1, 0, 0), (159, .goto 7, 3, 0, 0), (162, .aload_n 0, 1, 0, 0), (163, .getfield 45, 3, 2, 8), (166, .ireturn, 1, 0, 0)]
def mK43 : List mI := [(0, .iload_n 1, 1, 0, 0), (1, .ifCond .le 8, 3, 0, 0), (4, .aload_n 0, 1, 0, 0), (5, .iload_n 2, 1, 0, 0), (6, .invokevirtual 80, 3, 44, 1), (9, .iload_n 1, 1, 0, 0), (10, .iconst 1, 1, 0, 0), (11, .if_icmp .le 8, 3, 0, 0), (14, .aload_n 0, 1, 0, 0), (15, .iload_n 3, 1, 0, 0), (16, .invokevirtual 80, 3, 44, 1), (19, .iload_n 1, 1, 0, 0), (20, .iconst 2, 1, 0, 0), (21, .if_icmp .le 9, 3, 0, 0), (24, .aload_n 0, 1, 0, 0), (25, .iload 4, 2, 0, 0), (27, .invokevirtual 80, 3, 44, 1), (30, .return_, 1, 0, 0)]
def mK44 : List mI := [(0, .aload_n 0, 1, 0, 0), (1, .getfield 29, 3, 2, 3), (4, .aload_n 0, 1, 0, 0), (5, .getfield 25, 3, 2, 2), (8, .arraylength, 1, 0, 0), (9, .if_icmp .ge 23, 3, 0, 0), (12, .aload_n 0, 1, 0, 0), (13, .getfield 25, 3, 2, 2), (16, .aload_n 0, 1, 0, 0), (17, .getfield 29, 3, 2, 3), (20, .iload_n 1, 1, 0, 0), (21, .iastore, 1, 0, 0), (22, .aload_n 0, 1, 0, 0), (23, .dup, 1, 0, 0), (24, .getfield 29, 3, 2, 3), (27, .iconst 1, 1, 0, 0), (28, .iadd, 1, 0, 0), (29, .putfield 29, 3, 2, 3), (32, .return_, 1, 0, 0)]
def mK45 : List mI := [(0, .aload_n 0, 1, 0, 0), (1, .getfield 39, 3, 2, 6), (4, .bipush 12, 2, 0, 0), (6, .if_icmp .lt 9, 3, 0, 0), (9, .aload_n 0, 1, 0, 0), (10, .iconst 1, 1, 0, 0), (11, .putfield 45, 3, 2, 8), (14, .return_, 1, 0, 0), (15, .aload_n 0, 1, 0, 0), (16, .getfield 36, 3, 2, 5), (19, .aload_n 0, 1, 0, 0), (20, .getfield 39, 3, 2, 6), (23, .aload_n 0, 1, 0, 0), (24, .getfield 42, 3, 2, 7), (27, .iastore, 1, 0, 0), (28, .aload_n 0, 1, 0, 0), (29, .dup, 1, 0, 0), (30, .getfield 39, 3, 2, 6), (33, .iconst 1, 1, 0, 0), (34, .iadd, 1, 0, 0), (35, .putfield 39, 3, 2, 6), (38, .aload_n 0, 1, 0, 0), (39, .getfield 39, 3, 2, 6), (42, .iconst 1, 1, 0, 0), (43, .isub, 1, 0, 0), (44, .bipush 8, 2, 0, 0), (46, .imul, 1, 0, 0), (47, .istore_n 2, 1, 0, 0), (48, .aload_n 0, 1, 0, 0), (49, .getfield 33, 3, 2, 4), (52, .iload_n 2, 1, 0, 0), (53, .iload_n 2, 1, 0, 0), (54, .bipush 8, 2, 0, 0), (56, .iadd, 1, 0, 0), (57, .iconst 0, 1, 0, 0), (58, .invokestatic 117, 3, 155, 4), (61, .aload_n 0, 1, 0, 0), (62, .getfield 21, 3, 2, 1), (65, .iload_n 1, 1, 0, 0), (66, .invokevirtual 54, 3, 35, 1), (69, .iconst 1, 1, 0, 0), (70, .isub, 1, 0, 0), (71, .istore_n 3, 1, 0, 0), (72, .iload_n 3, 1, 0, 0), (73, .ifCond .lt 18, 3, 0, 0), (76, .aload_n 0, 1, 0, 0), (77, .iload_n 3, 1, 0, 0), (78, .aload_n 0, 1, 0, 0), (79, .invokevirtual 86, 3, 46, 0), (82, .invokevirtual 90, 3, 47, 2), (85, .iinc 3 (-1), 3, 0, 0), (88, .goto (-16), 3, 0, 0), (91, .aload_n 0, 1, 0, 0), (92, .aload_n 0, 1, 0, 0), (93, .getfield 21, 3, 2, 1), (96, .iload_n 1, 1, 0, 0), (97, .invokevirtual 123, 3, 39, 1), (100, .putfield 42, 3, 2, 7), (103, .return_, 1, 0, 0)]
def mK46 : List mI := [(0, .aload_n 0, 1, 0, 0), (1, .getfield 29, 3, 2, 3), (4, .ifCond .gt 5, 3, 0, 0), (7, .iconst 0, 1, 0, 0), (8, .ireturn, 1, 0, 0), (9, .aload_n 0, 1, 0, 0), (10, .dup, 1, 0, 0), (11, .getfield 29, 3, 2, 3), (14, .iconst 1, 1, 0, 0), (15, .isub, 1, 0, 0), (16, .putfield 29, 3, 2, 3), (19, .aload_n 0, 1, 0, 0), (20, .getfield 25, 3, 2, 2), (23, .aload_n 0, 1, 0, 0), (24, .getfield 29, 3, 2, 3), (27, .iaload, 1, 0, 0), (28, .ireturn, 1, 0, 0)]
def mK47 : List mI := [(0, .aload_n 0, 1, 0, 0), (1, .getfield 39, 3, 2, 6), (4, .iconst 1, 1, 0, 0), (5, .isub, 1, 0, 0), (6, .bipush 8, 2, 0, 0), (8, .imul, 1, 0, 0), (9, .iload_n 1, 1, 0, 0), (10, .iadd, 1, 0, 0), (11, .istore_n 3, 1, 0, 0), (12, .iload_n 3, 1, 0, 0), (13, .ifCond .lt 19, 3, 0, 0), (16, .iload_n 3, 1, 0, 0), (17, .aload_n 0, 1, 0, 0), (18, .getfield 33, 3, 2, 4), (21, .arraylength, 1, 0, 0), (22, .if_icmp .ge 10, 3, 0, 0), (25, .aload_n 0, 1, 0, 0), (26, .getfield 33, 3, 2, 4), (29, .iload_n 3, 1, 0, 0), (30, .iload_n 2, 1, 0, 0), (31, .iastore, 1, 0, 0), (32, .return_, 1, 0, 0)]
def mK48 : List mI := [(0, .iload_n 0, 1, 0, 0), (1, .lookupswitch 80 #[(3, 67), (27, 75), (28, 69), (36, 67), (38, 72), (41, 78), (42, 78)], 67, 0, 0), (68, .iconst 1, 1, 0, 0), (69, .ireturn, 1, 0, 0), (70, .bipush 20, 2, 0, 0), (72, .ireturn, 1, 0, 0), (73, .bipush 10, 2, 0, 0), (75, .ireturn, 1, 0, 0), (76, .bipush 40, 2, 0, 0), (78, .ireturn, 1, 0, 0), (79, .iconst 0, 1, 0, 0), (80, .ireturn, 1, 0, 0), (81, .iconst 2, 1, 0, 0), (82, .ireturn, 1, 0, 0)]
def mK49 : List mI := [(0, .iload_n 1, 1, 0, 0), (1, .tableswitch 340 3 42 #[175, 340, 340, 340, 340, 340, 340, 340, 340, 340, 340, 340, 340, 340, 340, 340, 340, 340, 340, 219, 322, 331, 340, 340, 250, 232, 340, 340, 340, 265, 284, 340, 340, 183, 207, 257, 195, 307, 299, 276], 175, 0, 0), (176, .aload_n 0, 1, 0, 0), (177, .iload_n 2, 1, 0, 0), (178, .invokevirtual 80, 3, 44, 1), (181, .goto 165, 3, 0, 0), (184, .aload_n 0, 1, 0, 0), (185, .aload_n 0, 1, 0, 0), (186, .iload_n 2, 1, 0, 0), (187, .invokevirtual 83, 3, 50, 1), (190, .invokevirtual 80, 3, 44, 1), (193, .goto 153, 3, 0, 0), (196, .aload_n 0, 1, 0, 0), (197, .iload_n 2, 1, 0, 0), (198, .aload_n 0, 1, 0, 0), (199, .invokevirtual 86, 3, 46, 0), (202, .invokevirtual 90, 3, 47, 2), (205, .goto 141, 3, 0, 0), (208, .aload_n 0, 1, 0, 0), (209, .aload_n 0, 1, 0, 0), (210, .invokevirtual 86, 3, 46, 0), (213, .ineg, 1, 0, 0), (214, .invokevirtual 80, 3, 44, 1), (217, .goto 129, 3, 0, 0), (220, .aload_n 0, 1, 0, 0), (221, .iconst 1, 1, 0, 0), (222, .aload_n 0, 1, 0, 0), (223, .invokevirtual 86, 3, 46, 0), (226, .isub, 1, 0, 0), (227, .invokevirtual 80, 3, 44, 1), (230, .goto 116, 3, 0, 0), (233, .aload_n 0, 1, 0, 0), (234, .aload_n 0, 1, 0, 0), (235, .getfield 12, 3, 2, 0), (238, .aload_n 0, 1, 0, 0), (239, .invokevirtual 86, 3, 46, 0), (242, .invokevirtual 93, 3, 56, 1), (245, .invokevirtual 80, 3, 44, 1), (248, .goto 98, 3, 0, 0), (251, .aload_n 0, 1, 0, 0), (252, .invokevirtual 96, 3, 51, 0), (255, .goto 91, 3, 0, 0), (258, .aload_n 0, 1, 0, 0), (259, .iload_n 2, 1, 0, 0), (260, .invokevirtual 62, 3, 45, 1), (263, .goto 83, 3, 0, 0), (266, .aload_n 0, 1, 0, 0), (267, .aload_n 0, 1, 0, 0), (268, .invokevirtual 86, 3, 46, 0), (271, .invokevirtual 99, 3, 52, 1), (274, .goto 72, 3, 0, 0), (277, .aload_n 0, 1, 0, 0), (278, .iconst 0, 1, 0, 0), (279, .invokevirtual 99, 3, 52, 1), (282, .goto 64, 3, 0, 0), (285, .aload_n 0, 1, 0, 0), (286, .invokevirtual 86, 3, 46, 0), (289, .ifCond .ne 57, 3, 0, 0), (292, .aload_n 0, 1, 0, 0), (293, .iconst 2, 1, 0, 0), (294, .putfield 45, 3, 2, 8), (297, .goto 49, 3, 0, 0), (300, .aload_n 0, 1, 0, 0), (301, .iload_n 2, 1, 0, 0), (302, .putfield 42, 3, 2, 7), (305, .goto 41, 3, 0, 0), (308, .aload_n 0, 1, 0, 0), (309, .invokevirtual 86, 3, 46, 0), (312, .ifCond .ne 34, 3, 0, 0), (315, .aload_n 0, 1, 0, 0), (316, .iload_n 2, 1, 0, 0), (317, .putfield 42, 3, 2, 7), (320, .goto 26, 3, 0, 0), (323, .aload_n 0, 1, 0, 0), (324, .iconst 0, 1, 0, 0), (325, .iload_n 2, 1, 0, 0), (326, .invokevirtual 102, 3, 53, 2), (329, .goto 17, 3, 0, 0), (332, .aload_n 0, 1, 0, 0), (333, .iconst 1, 1, 0, 0), (334, .iload_n 2, 1, 0, 0), (335, .invokevirtual 102, 3, 53, 2), (338, .goto 8, 3, 0, 0), (341, .aload_n 0, 1, 0, 0), (342, .iload_n 1, 1, 0, 0), (343, .invokevirtual 105, 3, 54, 1), (346, .return_, 1, 0, 0)]
def mK50 : List mI := [(0, .aload_n 0, 1, 0, 0), (1, .getfield 39, 3, 2, 6), (4, .iconst 1, 1, 0, 0), (5, .isub, 1, 0, 0), (6, .bipush 8, 2, 0, 0), (8, .imul, 1, 0, 0), (9, .iload_n 1, 1, 0, 0), (10, .iadd, 1, 0, 0), (11, .istore_n 2, 1, 0, 0), (12, .iload_n 2, 1, 0, 0), (13, .ifCond .lt 21, 3, 0, 0), (16, .iload_n 2, 1, 0, 0), (17, .aload_n 0, 1, 0, 0), (18, .getfield 33, 3, 2, 4), (21, .arraylength, 1, 0, 0), (22, .if_icmp .ge 12, 3, 0, 0), (25, .aload_n 0, 1, 0, 0), (26, .getfield 33, 3, 2, 4), (29, .iload_n 2, 1, 0, 0), (30, .iaload, 1, 0, 0), (31, .goto 4, 3, 0, 0), (34, .iconst 0, 1, 0, 0), (35, .ireturn, 1, 0, 0)]
def mK51 : List mI := [(0, .aload_n 0, 1, 0, 0), (1, .invokevirtual 86, 3, 46, 0), (4, .istore_n 1, 1, 0, 0), (5, .aload_n 0, 1, 0, 0), (6, .invokevirtual 86, 3, 46, 0), (9, .istore_n 2, 1, 0, 0), (10, .aload_n 0, 1, 0, 0), (11, .getfield 12, 3, 2, 0), (14, .iload_n 2, 1, 0, 0), (15, .iload_n 1, 1, 0, 0), (16, .invokevirtual 114, 3, 59, 2), (19, .ifCond .ne 8, 3, 0, 0), (22, .aload_n 0, 1, 0, 0), (23, .iconst 1, 1, 0, 0), (24, .putfield 45, 3, 2, 8), (27, .return_, 1, 0, 0)]
def mK52 : List mI := [(0, .aload_n 0, 1, 0, 0), (1, .dup, 1, 0, 0), (2, .getfield 39, 3, 2, 6), (5, .iconst 1, 1, 0, 0), (6, .isub, 1, 0, 0), (7, .putfield 39, 3, 2, 6), (10, .aload_n 0, 1, 0, 0), (11, .getfield 39, 3, 2, 6), (14, .ifCond .gt 14, 3, 0, 0), (17, .aload_n 0, 1, 0, 0), (18, .iload_n 1, 1, 0, 0), (19, .putfield 51, 3, 2, 10), (22, .aload_n 0, 1, 0, 0), (23, .iconst 0, 1, 0, 0), (24, .putfield 45, 3, 2, 8), (27, .return_, 1, 0, 0), (28, .aload_n 0, 1, 0, 0), (29, .iload_n 1, 1, 0, 0), (30, .invokevirtual 80, 3, 44, 1), (33, .aload_n 0, 1, 0, 0), (34, .aload_n 0, 1, 0, 0), (35, .getfield 36, 3, 2, 5), (38, .aload_n 0, 1, 0, 0), (39, .getfield 39, 3, 2, 6), (42, .iaload, 1, 0, 0), (43, .putfield 42, 3, 2, 7), (46, .return_, 1, 0, 0)]
def mK53 : List mI := [(0, .aload_n 0, 1, 0, 0), (1, .invokevirtual 86, 3, 46, 0), (4, .istore_n 3, 1, 0, 0), (5, .iload_n 3, 1, 0, 0), (6, .iload_n 1, 1, 0, 0), (7, .if_icmp .ne 13, 3, 0, 0), (10, .aload_n 0, 1, 0, 0), (11, .iload_n 3, 1, 0, 0), (12, .invokevirtual 80, 3, 44, 1), (15, .aload_n 0, 1, 0, 0), (16, .iload_n 2, 1, 0, 0), (17, .putfield 42, 3, 2, 7), (20, .return_, 1, 0, 0)]
def mK54 : List mI := [(0, .aload_n 0, 1, 0, 0), (1, .invokevirtual 86, 3, 46, 0), (4, .istore_n 2, 1, 0, 0), (5, .aload_n 0, 1, 0, 0), (6, .invokevirtual 86, 3, 46, 0), (9, .istore_n 3, 1, 0, 0), (10, .iload_n 2, 1, 0, 0), (11, .ifCond .ne 23, 3, 0, 0), (14, .iload_n 1, 1, 0, 0), (15, .bipush 20, 2, 0, 0), (17, .if_icmp .eq 9, 3, 0, 0), (20, .iload_n 1, 1, 0, 0), (21, .bipush 21, 2, 0, 0), (23, .if_icmp .ne 11, 3, 0, 0), (26, .aload_n 0, 1, 0, 0), (27, .iconst 1, 1, 0, 0), (28, .putfield 45, 3, 2, 8), (31, .goto 13, 3, 0, 0), (34, .aload_n 0, 1, 0, 0), (35, .iload_n 1, 1, 0, 0), (36, .iload_n 3, 1, 0, 0), (37, .iload_n 2, 1, 0, 0), (38, .invokestatic 110, 3, 55, 3), (41, .invokevirtual 80, 3, 44, 1), (44, .return_, 1, 0, 0)]
def mK55 : List mI := [(0, .iload_n 0, 1, 0, 0), (1, .tableswitch 131 13 21 #[87, 98, 109, 120, 51, 55, 59, 63, 75], 51, 0, 0), (52, .iload_n 1, 1, 0, 0), (53, .iload_n 2, 1, 0, 0), (54, .iadd, 1, 0, 0), (55, .ireturn, 1, 0, 0), (56, .iload_n 1, 1, 0, 0), (57, .iload_n 2, 1, 0, 0), (58, .isub, 1, 0, 0), (59, .ireturn, 1, 0, 0), (60, .iload_n 1, 1, 0, 0), (61, .iload_n 2, 1, 0, 0), (62, .imul, 1, 0, 0), (63, .ireturn, 1, 0, 0), (64, .iload_n 2, 1, 0, 0), (65, .ifCond .ne 7, 3, 0, 0), (68, .iconst 0, 1, 0, 0), (69, .goto 6, 3, 0, 0), (72, .iload_n 1, 1, 0, 0), (73, .iload_n 2, 1, 0, 0), (74, .idiv, 1, 0, 0), (75, .ireturn, 1, 0, 0), (76, .iload_n 2, 1, 0, 0), (77, .ifCond .ne 7, 3, 0, 0), (80, .iconst 0, 1, 0, 0), (81, .goto 6, 3, 0, 0), (84, .iload_n 1, 1, 0, 0), (85, .iload_n 2, 1, 0, 0), (86, .irem, 1, 0, 0), (87, .ireturn, 1, 0, 0), (88, .iload_n 1, 1, 0, 0), (89, .iload_n 2, 1, 0, 0), (90, .if_icmp .ne 7, 3, 0, 0), (93, .iconst 1, 1, 0, 0), (94, .goto 4, 3, 0, 0), (97, .iconst 0, 1, 0, 0), (98, .ireturn, 1, 0, 0), (99, .iload_n 1, 1, 0, 0), (100, .iload_n 2, 1, 0, 0), (101, .if_icmp .eq 7, 3, 0, 0), (104, .iconst 1, 1, 0, 0), (105, .goto 4, 3, 0, 0), (108, .iconst 0, 1, 0, 0), (109, .ireturn, 1, 0, 0), (110, .iload_n 1, 1, 0, 0), (111, .iload_n 2, 1, 0, 0), (112, .if_icmp .ge 7, 3, 0, 0), (115, .iconst 1, 1, 0, 0), (116, .goto 4, 3, 0, 0), (119, .iconst 0, 1, 0, 0), (120, .ireturn, 1, 0, 0), (121, .iload_n 1, 1, 0, 0), (122, .iload_n 2, 1, 0, 0), (123, .if_icmp .gt 7, 3, 0, 0), (126, .iconst 1, 1, 0, 0), (127, .goto 4, 3, 0, 0), (130, .iconst 0, 1, 0, 0), (131, .ireturn, 1, 0, 0), (132, .iconst 0, 1, 0, 0), (133, .ireturn, 1, 0, 0)]
def mK56 : List mI := [(0, .aload_n 0, 1, 0, 0), (1, .iload_n 1, 1, 0, 0), (2, .invokevirtual 31, 3, 57, 1), (5, .istore_n 2, 1, 0, 0), (6, .iload_n 2, 1, 0, 0), (7, .iconst (-1), 1, 0, 0), (8, .if_icmp .ne 7, 3, 0, 0), (11, .iconst 0, 1, 0, 0), (12, .goto 9, 3, 0, 0), (15, .aload_n 0, 1, 0, 0), (16, .getfield 15, 3, 3, 1), (19, .iload_n 2, 1, 0, 0), (20, .iaload, 1, 0, 0), (21, .ireturn, 1, 0, 0)]
def mK57 : List mI := [(0, .iconst 0, 1, 0, 0), (1, .istore_n 2, 1, 0, 0), (2, .iload_n 2, 1, 0, 0), (3, .aload_n 0, 1, 0, 0), (4, .getfield 18, 3, 3, 2), (7, .if_icmp .ge 21, 3, 0, 0), (10, .aload_n 0, 1, 0, 0), (11, .getfield 9, 3, 3, 0), (14, .iload_n 2, 1, 0, 0), (15, .iaload, 1, 0, 0), (16, .iload_n 1, 1, 0, 0), (17, .if_icmp .ne 5, 3, 0, 0), (20, .iload_n 2, 1, 0, 0), (21, .ireturn, 1, 0, 0), (22, .iinc 2 1, 3, 0, 0), (25, .goto (-23), 3, 0, 0), (28, .iconst (-1), 1, 0, 0), (29, .ireturn, 1, 0, 0)]
def mK58 : List mI := [(0, .aload_n 0, 1, 0, 0), (1, .getfield 9, 3, 3, 0), (4, .iconst 0, 1, 0, 0), (5, .aload_n 0, 1, 0, 0), (6, .getfield 22, 3, 3, 3), (9, .iconst 0, 1, 0, 0), (10, .aload_n 0, 1, 0, 0), (11, .getfield 18, 3, 3, 2), (14, .invokestatic 35, 3, 1000, 5), (17, .aload_n 0, 1, 0, 0), (18, .getfield 15, 3, 3, 1), (21, .iconst 0, 1, 0, 0), (22, .aload_n 0, 1, 0, 0), (23, .getfield 25, 3, 3, 4), (26, .iconst 0, 1, 0, 0), (27, .aload_n 0, 1, 0, 0), (28, .getfield 18, 3, 3, 2), (31, .invokestatic 35, 3, 1000, 5), (34, .aload_n 0, 1, 0, 0), (35, .aload_n 0, 1, 0, 0), (36, .getfield 18, 3, 3, 2), (39, .putfield 28, 3, 3, 5), (42, .return_, 1, 0, 0)]
def mK59 : List mI := [(0, .aload_n 0, 1, 0, 0), (1, .iload_n 1, 1, 0, 0), (2, .invokevirtual 31, 3, 57, 1), (5, .istore_n 3, 1, 0, 0), (6, .iload_n 3, 1, 0, 0), (7, .iconst (-1), 1, 0, 0), (8, .if_icmp .eq 59, 3, 0, 0), (11, .iload_n 2, 1, 0, 0), (12, .ifCond .ne 46, 3, 0, 0), (15, .aload_n 0, 1, 0, 0), (16, .dup, 1, 0, 0), (17, .getfield 18, 3, 3, 2), (20, .iconst 1, 1, 0, 0), (21, .isub, 1, 0, 0), (22, .putfield 18, 3, 3, 2), (25, .aload_n 0, 1, 0, 0), (26, .getfield 9, 3, 3, 0), (29, .iload_n 3, 1, 0, 0), (30, .aload_n 0, 1, 0, 0), (31, .getfield 9, 3, 3, 0), (34, .aload_n 0, 1, 0, 0), (35, .getfield 18, 3, 3, 2), (38, .iaload, 1, 0, 0), (39, .iastore, 1, 0, 0), (40, .aload_n 0, 1, 0, 0), (41, .getfield 15, 3, 3, 1), (44, .iload_n 3, 1, 0, 0), (45, .aload_n 0, 1, 0, 0), (46, .getfield 15, 3, 3, 1), (49, .aload_n 0, 1, 0, 0), (50, .getfield 18, 3, 3, 2), (53, .iaload, 1, 0, 0), (54, .iastore, 1, 0, 0), (55, .goto 10, 3, 0, 0), (58, .aload_n 0, 1, 0, 0), (59, .getfield 15, 3, 3, 1), (62, .iload_n 3, 1, 0, 0), (63, .iload_n 2, 1, 0, 0), (64, .iastore, 1, 0, 0), (65, .iconst 1, 1, 0, 0), (66, .ireturn, 1, 0, 0), (67, .iload_n 2, 1, 0, 0), (68, .ifCond .ne 5, 3, 0, 0), (71, .iconst 1, 1, 0, 0), (72, .ireturn, 1, 0, 0), (73, .aload_n 0, 1, 0, 0), (74, .getfield 18, 3, 3, 2), (77, .bipush 32, 2, 0, 0), (79, .if_icmp .lt 5, 3, 0, 0), (82, .iconst 0, 1, 0, 0), (83, .ireturn, 1, 0, 0), (84, .aload_n 0, 1, 0, 0), (85, .getfield 9, 3, 3, 0), (88, .aload_n 0, 1, 0, 0), (89, .getfield 18, 3, 3, 2), (92, .iload_n 1, 1, 0, 0), (93, .iastore, 1, 0, 0), (94, .aload_n 0, 1, 0, 0), (95, .getfield 15, 3, 3, 1), (98, .aload_n 0, 1, 0, 0), (99, .getfield 18, 3, 3, 2), (102, .iload_n 2, 1, 0, 0), (103, .iastore, 1, 0, 0), (104, .aload_n 0, 1, 0, 0), (105, .dup, 1, 0, 0), (106, .getfield 18, 3, 3, 2), (109, .iconst 1, 1, 0, 0), (110, .iadd, 1, 0, 0), (111, .putfield 18, 3, 3, 2), (114, .iconst 1, 1, 0, 0), (115, .ireturn, 1, 0, 0)]
def mK60 : List mI := [(0, .aload_n 0, 1, 0, 0), (1, .getfield 22, 3, 3, 3), (4, .iconst 0, 1, 0, 0), (5, .aload_n 0, 1, 0, 0), (6, .getfield 9, 3, 3, 0), (9, .iconst 0, 1, 0, 0), (10, .aload_n 0, 1, 0, 0), (11, .getfield 28, 3, 3, 5), (14, .invokestatic 35, 3, 1000, 5), (17, .aload_n 0, 1, 0, 0), (18, .getfield 25, 3, 3, 4), (21, .iconst 0, 1, 0, 0), (22, .aload_n 0, 1, 0, 0), (23, .getfield 15, 3, 3, 1), (26, .iconst 0, 1, 0, 0), (27, .aload_n 0, 1, 0, 0), (28, .getfield 28, 3, 3, 5), (31, .invokestatic 35, 3, 1000, 5), (34, .aload_n 0, 1, 0, 0), (35, .aload_n 0, 1, 0, 0), (36, .getfield 28, 3, 3, 5), (39, .putfield 18, 3, 3, 2), (42, .return_, 1, 0, 0)]
def mK61 : List mI := [(0, .aload_n 0, 1, 0, 0), (1, .aload_n 1, 1, 0, 0), (2, .putfield 28, 3, 4, 5), (5, .aload_n 0, 1, 0, 0), (6, .iload_n 2, 1, 0, 0), (7, .putfield 31, 3, 4, 6), (10, .aload_n 0, 1, 0, 0), (11, .iconst 0, 1, 0, 0), (12, .putfield 24, 3, 4, 4), (15, .aload_n 0, 1, 0, 0), (16, .iconst 0, 1, 0, 0), (17, .putfield 34, 3, 4, 7), (20, .iconst 1, 1, 0, 0), (21, .istore_n 3, 1, 0, 0), (22, .iconst 0, 1, 0, 0), (23, .istore 4, 2, 0, 0), (25, .iload 4, 2, 0, 0), (27, .sipush 600, 3, 0, 0), (30, .if_icmp .gt 96, 3, 0, 0), (33, .iload_n 3, 1, 0, 0), (34, .ifCond .eq 92, 3, 0, 0), (37, .aload_n 0, 1, 0, 0), (38, .aload_n 0, 1, 0, 0), (39, .getfield 34, 3, 4, 7), (42, .invokevirtual 40, 3, 62, 1), (45, .istore 5, 2, 0, 0), (47, .aload_n 0, 1, 0, 0), (48, .iload 5, 2, 0, 0), (50, .invokevirtual 44, 3, 64, 1), (53, .istore 6, 2, 0, 0), (55, .aload_n 0, 1, 0, 0), (56, .getfield 9, 3, 4, 0), (59, .iload 4, 2, 0, 0), (61, .iload 6, 2, 0, 0), (63, .iastore, 1, 0, 0), (64, .aload_n 0, 1, 0, 0), (65, .getfield 15, 3, 4, 1), (68, .iload 4, 2, 0, 0), (70, .iload 5, 2, 0, 0), (72, .iastore, 1, 0, 0), (73, .aload_n 0, 1, 0, 0), (74, .getfield 18, 3, 4, 2), (77, .iload 4, 2, 0, 0), (79, .aload_n 0, 1, 0, 0), (80, .getfield 34, 3, 4, 7), (83, .iastore, 1, 0, 0), (84, .aload_n 0, 1, 0, 0), (85, .getfield 21, 3, 4, 3), (88, .iload 4, 2, 0, 0), (90, .aload_n 0, 1, 0, 0), (91, .getfield 37, 3, 4, 8), (94, .iastore, 1, 0, 0), (95, .aload_n 0, 1, 0, 0), (96, .iload 4, 2, 0, 0), (98, .iconst 1, 1, 0, 0), (99, .iadd, 1, 0, 0), (100, .putfield 24, 3, 4, 4), (103, .iload 6, 2, 0, 0), (105, .ifCond .eq 13, 3, 0, 0), (108, .iload 6, 2, 0, 0), (110, .iconst 1, 1, 0, 0), (111, .if_icmp .eq 7, 3, 0, 0), (114, .iconst 1, 1, 0, 0), (115, .goto 4, 3, 0, 0), (118, .iconst 0, 1, 0, 0), (119, .istore_n 3, 1, 0, 0), (120, .iinc 4 1, 3, 0, 0), (123, .goto (-98), 3, 0, 0), (126, .return_, 1, 0, 0)]
def mK62 : List mI := [(0, .iload_n 1, 1, 0, 0), (1, .istore_n 2, 1, 0, 0), (2, .iload_n 2, 1, 0, 0), (3, .aload_n 0, 1, 0, 0), (4, .getfield 31, 3, 4, 6), (7, .if_icmp .ge 29, 3, 0, 0), (10, .aload_n 0, 1, 0, 0), (11, .iload_n 2, 1, 0, 0), (12, .invokevirtual 49, 3, 63, 1), (15, .bipush 32, 2, 0, 0), (17, .if_icmp .eq 13, 3, 0, 0), (20, .aload_n 0, 1, 0, 0), (21, .iload_n 2, 1, 0, 0), (22, .invokevirtual 49, 3, 63, 1), (25, .bipush 10, 2, 0, 0), (27, .if_icmp .ne 9, 3, 0, 0), (30, .iinc 2 1, 3, 0, 0), (33, .goto (-31), 3, 0, 0), (36, .iload_n 2, 1, 0, 0), (37, .ireturn, 1, 0, 0)]
def mK63 : List mI := [(0, .iload_n 1, 1, 0, 0), (1, .ifCond .lt 29, 3, 0, 0), (4, .iload_n 1, 1, 0, 0), (5, .aload_n 0, 1, 0, 0), (6, .getfield 31, 3, 4, 6), (9, .if_icmp .ge 21, 3, 0, 0), (12, .iload_n 1, 1, 0, 0), (13, .aload_n 0, 1, 0, 0), (14, .getfield 28, 3, 4, 5), (17, .arraylength, 1, 0, 0), (18, .if_icmp .ge 12, 3, 0, 0), (21, .aload_n 0, 1, 0, 0), (22, .getfield 28, 3, 4, 5), (25, .iload_n 1, 1, 0, 0), (26, .iaload, 1, 0, 0), (27, .goto 4, 3, 0, 0), (30, .iconst 0, 1, 0, 0), (31, .ireturn, 1, 0, 0)]
def mK64 : List mI := [(0, .aload_n 0, 1, 0, 0), (1, .iload_n 1, 1, 0, 0), (2, .invokevirtual 49, 3, 63, 1), (5, .istore_n 2, 1, 0, 0), (6, .aload_n 0, 1, 0, 0), (7, .iconst 0, 1, 0, 0), (8, .putfield 37, 3, 4, 8), (11, .aload_n 0, 1, 0, 0), (12, .iload_n 1, 1, 0, 0), (13, .putfield 34, 3, 4, 7), (16, .iload_n 1, 1, 0, 0), (17, .aload_n 0, 1, 0, 0), (18, .getfield 31, 3, 4, 6), (21, .if_icmp .lt 5, 3, 0, 0), (24, .iconst 0, 1, 0, 0), (25, .ireturn, 1, 0, 0), (26, .iload_n 2, 1, 0, 0), (27, .invokestatic 52, 3, 65, 1), (30, .ifCond .eq 22, 3, 0, 0), (33, .aload_n 0, 1, 0, 0), (34, .aload_n 0, 1, 0, 0), (35, .iload_n 1, 1, 0, 0), (36, .invokevirtual 56, 3, 66, 1), (39, .putfield 34, 3, 4, 7), (42, .aload_n 0, 1, 0, 0), (43, .iload_n 1, 1, 0, 0), (44, .aload_n 0, 1, 0, 0), (45, .getfield 34, 3, 4, 7), (48, .invokevirtual 59, 3, 68, 2), (51, .ireturn, 1, 0, 0), (52, .iload_n 2, 1, 0, 0), (53, .invokestatic 63, 3, 67, 1), (56, .ifCond .eq 9, 3, 0, 0), (59, .aload_n 0, 1, 0, 0), (60, .iload_n 1, 1, 0, 0), (61, .invokevirtual 66, 3, 70, 1), (64, .ireturn, 1, 0, 0), (65, .iload_n 2, 1, 0, 0), (66, .aload_n 0, 1, 0, 0), (67, .iload_n 1, 1, 0, 0), (68, .iconst 1, 1, 0, 0), (69, .iadd, 1, 0, 0), (70, .invokevirtual 49, 3, 63, 1), (73, .invokestatic 69, 3, 71, 2), (76, .istore_n 3, 1, 0, 0), (77, .iload_n 3, 1, 0, 0), (78, .iconst 1, 1, 0, 0), (79, .if_icmp .eq 12, 3, 0, 0), (82, .aload_n 0, 1, 0, 0), (83, .iload_n 1, 1, 0, 0), (84, .iconst 2, 1, 0, 0), (85, .iadd, 1, 0, 0), (86, .putfield 34, 3, 4, 7), (89, .iload_n 3, 1, 0, 0), (90, .ireturn, 1, 0, 0), (91, .aload_n 0, 1, 0, 0), (92, .iload_n 1, 1, 0, 0), (93, .iconst 1, 1, 0, 0), (94, .iadd, 1, 0, 0), (95, .putfield 34, 3, 4, 7), (98, .iload_n 2, 1, 0, 0), (99, .invokestatic 72, 3, 72, 1), (102, .ireturn, 1, 0, 0)]
def mK65 : List mI := [(0, .iload_n 0, 1, 0, 0), (1, .bipush 97, 2, 0, 0), (3, .if_icmp .lt 13, 3, 0, 0), (6, .iload_n 0, 1, 0, 0), (7, .bipush 122, 2, 0, 0), (9, .if_icmp .gt 7, 3, 0, 0), (12, .iconst 1, 1, 0, 0), (13, .goto 4, 3, 0, 0), (16, .iconst 0, 1, 0, 0), (17, .ireturn, 1, 0, 0)]
def mK66 : List mI := [(0, .iload_n 1, 1, 0, 0), (1, .istore_n 2, 1, 0, 0), (2, .iload_n 2, 1, 0, 0), (3, .aload_n 0, 1, 0, 0), (4, .getfield 31, 3, 4, 6), (7, .if_icmp .ge 31, 3, 0, 0), (10, .aload_n 0, 1, 0, 0), (11, .iload_n 2, 1, 0, 0), (12, .invokevirtual 49, 3, 63, 1), (15, .invokestatic 52, 3, 65, 1), (18, .ifCond .ne 14, 3, 0, 0), (21, .aload_n 0, 1, 0, 0), (22, .iload_n 2, 1, 0, 0), (23, .invokevirtual 49, 3, 63, 1), (26, .invokestatic 63, 3, 67, 1), (29, .ifCond .eq 9, 3, 0, 0), (32, .iinc 2 1, 3, 0, 0), (35, .goto (-33), 3, 0, 0), (38, .iload_n 2, 1, 0, 0), (39, .ireturn, 1, 0, 0)]
def mK67 : List mI := [(0, .iload_n 0, 1, 0, 0), (1, .bipush 48, 2, 0, 0), (3, .if_icmp .lt 13, 3, 0, 0), (6, .iload_n 0, 1, 0, 0), (7, .bipush 57, 2, 0, 0), (9, .if_icmp .gt 7, 3, 0, 0), (12, .iconst 1, 1, 0, 0), (13, .goto 4, 3, 0, 0), (16, .iconst 0, 1, 0, 0), (17, .ireturn, 1, 0, 0)]
def mK68 : List mI := [(0, .iload_n 2, 1, 0, 0), (1, .iload_n 1, 1, 0, 0), (2, .isub, 1, 0, 0), (3, .tableswitch 214 2 7 #[37, 69, 86, 133, 180, 197], 37, 0, 0), (40, .aload_n 0, 1, 0, 0), (41, .ldc 87, 2, 1, 0), (43, .iload_n 1, 1, 0, 0), (44, .invokevirtual 89, 3, 69, 2), (47, .ifCond .eq 8, 3, 0, 0), (50, .bipush 25, 2, 0, 0), (52, .goto 19, 3, 0, 0), (55, .aload_n 0, 1, 0, 0), (56, .ldc 93, 2, 1, 1), (58, .iload_n 1, 1, 0, 0), (59, .invokevirtual 89, 3, 69, 2), (62, .ifCond .eq 8, 3, 0, 0), (65, .bipush 29, 2, 0, 0), (67, .goto 4, 3, 0, 0), (70, .iconst 2, 1, 0, 0), (71, .ireturn, 1, 0, 0), (72, .aload_n 0, 1, 0, 0), (73, .ldc 95, 2, 1, 2), (75, .iload_n 1, 1, 0, 0), (76, .invokevirtual 89, 3, 69, 2), (79, .ifCond .eq 8, 3, 0, 0), (82, .bipush 26, 2, 0, 0), (84, .goto 4, 3, 0, 0), (87, .iconst 2, 1, 0, 0), (88, .ireturn, 1, 0, 0), (89, .aload_n 0, 1, 0, 0), (90, .ldc 97, 2, 1, 3), (92, .iload_n 1, 1, 0, 0), (93, .invokevirtual 89, 3, 69, 2), (96, .ifCond .eq 8, 3, 0, 0), (99, .bipush 28, 2, 0, 0), (101, .goto 34, 3, 0, 0), (104, .aload_n 0, 1, 0, 0), (105, .ldc 99, 2, 1, 4), (107, .iload_n 1, 1, 0, 0), (108, .invokevirtual 89, 3, 69, 2), (111, .ifCond .eq 8, 3, 0, 0), (114, .bipush 30, 2, 0, 0), (116, .goto 19, 3, 0, 0), (119, .aload_n 0, 1, 0, 0), (120, .ldc 101, 2, 1, 5), (122, .iload_n 1, 1, 0, 0), (123, .invokevirtual 89, 3, 69, 2), (126, .ifCond .eq 8, 3, 0, 0), (129, .bipush 34, 2, 0, 0), (131, .goto 4, 3, 0, 0), (134, .iconst 2, 1, 0, 0), (135, .ireturn, 1, 0, 0), (136, .aload_n 0, 1, 0, 0), (137, .ldc 103, 2, 1, 6), (139, .iload_n 1, 1, 0, 0), (140, .invokevirtual 89, 3, 69, 2), (143, .ifCond .eq 8, 3, 0, 0), (146, .bipush 27, 2, 0, 0), (148, .goto 34, 3, 0, 0), (151, .aload_n 0, 1, 0, 0), (152, .ldc 105, 2, 1, 7), (154, .iload_n 1, 1, 0, 0), (155, .invokevirtual 89, 3, 69, 2), (158, .ifCond .eq 8, 3, 0, 0), (161, .bipush 31, 2, 0, 0), (163, .goto 19, 3, 0, 0), (166, .aload_n 0, 1, 0, 0), (167, .ldc 107, 2, 1, 8), (169, .iload_n 1, 1, 0, 0), (170, .invokevirtual 89, 3, 69, 2), (173, .ifCond .eq 8, 3, 0, 0), (176, .bipush 35, 2, 0, 0), (178, .goto 4, 3, 0, 0), (181, .iconst 2, 1, 0, 0), (182, .ireturn, 1, 0, 0), (183, .aload_n 0, 1, 0, 0), (184, .ldc 109, 2, 1, 9), (186, .iload_n 1, 1, 0, 0), (187, .invokevirtual 89, 3, 69, 2), (190, .ifCond .eq 8, 3, 0, 0), (193, .bipush 32, 2, 0, 0), (195, .goto 4, 3, 0, 0), (198, .iconst 2, 1, 0, 0), (199, .ireturn, 1, 0, 0), (200, .aload_n 0, 1, 0, 0), (201, .ldc 111, 2, 1, 10), (203, .iload_n 1, 1, 0, 0), (204, .invokevirtual 89, 3, 69, 2), (207, .ifCond .eq 8, 3, 0, 0), (210, .bipush 33, 2, 0, 0), (212, .goto 4, 3, 0, 0), (215, .iconst 2, 1, 0, 0), (216, .ireturn, 1, 0, 0), (217, .iconst 2, 1, 0, 0), (218, .ireturn, 1, 0, 0)]
def mK69 : List mI := [(0, .iconst 0, 1, 0, 0), (1, .istore_n 3, 1, 0, 0), (2, .iload_n 3, 1, 0, 0), (3, .aload_n 1, 1, 0, 0), (4, .invokevirtual 113, 3, 1002, 0), (7, .if_icmp .ge 26, 3, 0, 0), (10, .aload_n 0, 1, 0, 0), (11, .iload_n 2, 1, 0, 0), (12, .iload_n 3, 1, 0, 0), (13, .iadd, 1, 0, 0), (14, .invokevirtual 49, 3, 63, 1), (17, .aload_n 1, 1, 0, 0), (18, .iload_n 3, 1, 0, 0), (19, .invokevirtual 118, 3, 1003, 1), (22, .if_icmp .eq 5, 3, 0, 0), (25, .iconst 0, 1, 0, 0), (26, .ireturn, 1, 0, 0), (27, .iinc 3 1, 3, 0, 0), (30, .goto (-28), 3, 0, 0), (33, .iconst 1, 1, 0, 0), (34, .ireturn, 1, 0, 0)]
def mK70 : List mI := [(0, .lconst 0, 1, 0, 0), (1, .lstore_n 2, 1, 0, 0), (2, .iload_n 1, 1, 0, 0), (3, .istore 4, 2, 0, 0), (5, .iload 4, 2, 0, 0), (7, .aload_n 0, 1, 0, 0), (8, .getfield 31, 3, 4, 6), (11, .if_icmp .ge 44, 3, 0, 0), (14, .aload_n 0, 1, 0, 0), (15, .iload 4, 2, 0, 0), (17, .invokevirtual 49, 3, 63, 1), (20, .invokestatic 63, 3, 67, 1), (23, .ifCond .eq 32, 3, 0, 0), (26, .lload_n 2, 1, 0, 0), (27, .ldc2_w 75, 3, 0, 10), (30, .lmul, 1, 0, 0), (31, .aload_n 0, 1, 0, 0), (32, .iload 4, 2, 0, 0), (34, .invokevirtual 49, 3, 63, 1), (37, .bipush 48, 2, 0, 0), (39, .isub, 1, 0, 0), (40, .i2l, 1, 0, 0), (41, .ladd, 1, 0, 0), (42, .ldc2_w 77, 3, 0, 2147483648), (45, .invokestatic 79, 3, 1001, 2), (48, .lstore_n 2, 1, 0, 0), (49, .iinc 4 1, 3, 0, 0), (52, .goto (-47), 3, 0, 0), (55, .aload_n 0, 1, 0, 0), (56, .iload 4, 2, 0, 0), (58, .putfield 34, 3, 4, 7), (61, .lload_n 2, 1, 0, 0), (62, .ldc2_w 85, 3, 0, 2147483647), (65, .lcmp, 1, 0, 0), (66, .ifCond .le 5, 3, 0, 0), (69, .iconst 1, 1, 0, 0), (70, .ireturn, 1, 0, 0), (71, .aload_n 0, 1, 0, 0), (72, .lload_n 2, 1, 0, 0), (73, .l2i, 1, 0, 0), (74, .putfield 37, 3, 4, 8), (77, .iconst 3, 1, 0, 0), (78, .ireturn, 1, 0, 0)]
def mK71 : List mI := [(0, .iload_n 1, 1, 0, 0), (1, .bipush 61, 2, 0, 0), (3, .if_icmp .ne 38, 3, 0, 0), (6, .iload_n 0, 1, 0, 0), (7, .bipush 61, 2, 0, 0), (9, .if_icmp .ne 8, 3, 0, 0), (12, .bipush 13, 2, 0, 0), (14, .goto 26, 3, 0, 0), (17, .iload_n 0, 1, 0, 0), (18, .bipush 33, 2, 0, 0), (20, .if_icmp .ne 8, 3, 0, 0), (23, .bipush 14, 2, 0, 0), (25, .goto 15, 3, 0, 0), (28, .iload_n 0, 1, 0, 0), (29, .bipush 60, 2, 0, 0), (31, .if_icmp .ne 8, 3, 0, 0), (34, .bipush 16, 2, 0, 0), (36, .goto 4, 3, 0, 0), (39, .iconst 1, 1, 0, 0), (40, .ireturn, 1, 0, 0), (41, .iload_n 0, 1, 0, 0), (42, .bipush 38, 2, 0, 0), (44, .if_icmp .ne 12, 3, 0, 0), (47, .iload_n 1, 1, 0, 0), (48, .bipush 38, 2, 0, 0), (50, .if_icmp .ne 6, 3, 0, 0), (53, .bipush 23, 2, 0, 0), (55, .ireturn, 1, 0, 0), (56, .iload_n 0, 1, 0, 0), (57, .bipush 124, 2, 0, 0), (59, .if_icmp .ne 14, 3, 0, 0), (62, .iload_n 1, 1, 0, 0), (63, .bipush 124, 2, 0, 0), (65, .if_icmp .ne 8, 3, 0, 0), (68, .bipush 24, 2, 0, 0), (70, .goto 4, 3, 0, 0), (73, .iconst 1, 1, 0, 0), (74, .ireturn, 1, 0, 0)]
def mK72 : List mI := [(0, .iload_n 0, 1, 0, 0), (1, .lookupswitch 185 #[(33, 182), (37, 179), (40, 139), (41, 141), (42, 173), (43, 167), (44, 155), (45, 170), (47, 176), (59, 158), (60, 164), (61, 161), (91, 149), (93, 152), (123, 143), (125, 146)], 139, 0, 0), (140, .iconst 4, 1, 0, 0), (141, .ireturn, 1, 0, 0), (142, .iconst 5, 1, 0, 0), (143, .ireturn, 1, 0, 0), (144, .bipush 6, 2, 0, 0), (146, .ireturn, 1, 0, 0), (147, .bipush 7, 2, 0, 0), (149, .ireturn, 1, 0, 0), (150, .bipush 8, 2, 0, 0), (152, .ireturn, 1, 0, 0), (153, .bipush 9, 2, 0, 0), (155, .ireturn, 1, 0, 0), (156, .bipush 10, 2, 0, 0), (158, .ireturn, 1, 0, 0), (159, .bipush 11, 2, 0, 0), (161, .ireturn, 1, 0, 0), (162, .bipush 12, 2, 0, 0), (164, .ireturn, 1, 0, 0), (165, .bipush 15, 2, 0, 0), (167, .ireturn, 1, 0, 0), (168, .bipush 17, 2, 0, 0), (170, .ireturn, 1, 0, 0), (171, .bipush 18, 2, 0, 0), (173, .ireturn, 1, 0, 0), (174, .bipush 19, 2, 0, 0), (176, .ireturn, 1, 0, 0), (177, .bipush 20, 2, 0, 0), (179, .ireturn, 1, 0, 0), (180, .bipush 21, 2, 0, 0), (182, .ireturn, 1, 0, 0), (183, .bipush 22, 2, 0, 0), (185, .ireturn, 1, 0, 0), (186, .iconst 1, 1, 0, 0), (187, .ireturn, 1, 0, 0)]
def mK73 : List mI := [(0, .iload_n 1, 1, 0, 0), (1, .ifCond .lt 20, 3, 0, 0), (4, .iload_n 1, 1, 0, 0), (5, .aload_n 0, 1, 0, 0), (6, .getfield 24, 3, 4, 4), (9, .if_icmp .ge 12, 3, 0, 0), (12, .aload_n 0, 1, 0, 0), (13, .getfield 9, 3, 4, 0), (16, .iload_n 1, 1, 0, 0), (17, .iaload, 1, 0, 0), (18, .goto 4, 3, 0, 0), (21, .iconst 0, 1, 0, 0), (22, .ireturn, 1, 0, 0)]
def mK74 : List mI := [(0, .iload_n 1, 1, 0, 0), (1, .ifCond .lt 20, 3, 0, 0), (4, .iload_n 1, 1, 0, 0), (5, .aload_n 0, 1, 0, 0), (6, .getfield 24, 3, 4, 4), (9, .if_icmp .ge 12, 3, 0, 0), (12, .aload_n 0, 1, 0, 0), (13, .getfield 15, 3, 4, 1), (16, .iload_n 1, 1, 0, 0), (17, .iaload, 1, 0, 0), (18, .goto 7, 3, 0, 0), (21, .aload_n 0, 1, 0, 0), (22, .getfield 31, 3, 4, 6), (25, .ireturn, 1, 0, 0)]
def mK75 : List mI := [(0, .iload_n 1, 1, 0, 0), (1, .ifCond .lt 23, 3, 0, 0), (4, .iload_n 1, 1, 0, 0), (5, .aload_n 0, 1, 0, 0), (6, .getfield 24, 3, 4, 4), (9, .if_icmp .ge 15, 3, 0, 0), (12, .iload_n 2, 1, 0, 0), (13, .ifCond .lt 11, 3, 0, 0), (16, .iload_n 2, 1, 0, 0), (17, .aload_n 0, 1, 0, 0), (18, .getfield 24, 3, 4, 4), (21, .if_icmp .lt 5, 3, 0, 0), (24, .iconst 0, 1, 0, 0), (25, .ireturn, 1, 0, 0), (26, .aload_n 0, 1, 0, 0), (27, .getfield 15, 3, 4, 1), (30, .iload_n 1, 1, 0, 0), (31, .iaload, 1, 0, 0), (32, .istore_n 3, 1, 0, 0), (33, .aload_n 0, 1, 0, 0), (34, .getfield 15, 3, 4, 1), (37, .iload_n 2, 1, 0, 0), (38, .iaload, 1, 0, 0), (39, .istore 4, 2, 0, 0), (41, .aload_n 0, 1, 0, 0), (42, .getfield 18, 3, 4, 2), (45, .iload_n 1, 1, 0, 0), (46, .iaload, 1, 0, 0), (47, .iload_n 3, 1, 0, 0), (48, .isub, 1, 0, 0), (49, .istore 5, 2, 0, 0), (51, .aload_n 0, 1, 0, 0), (52, .getfield 18, 3, 4, 2), (55, .iload_n 2, 1, 0, 0), (56, .iaload, 1, 0, 0), (57, .iload 4, 2, 0, 0), (59, .isub, 1, 0, 0), (60, .iload 5, 2, 0, 0), (62, .if_icmp .eq 5, 3, 0, 0), (65, .iconst 0, 1, 0, 0), (66, .ireturn, 1, 0, 0), (67, .iconst 0, 1, 0, 0), (68, .istore 6, 2, 0, 0), (70, .iload 6, 2, 0, 0), (72, .iload 5, 2, 0, 0), (74, .if_icmp .ge 31, 3, 0, 0), (77, .aload_n 0, 1, 0, 0), (78, .iload_n 3, 1, 0, 0), (79, .iload 6, 2, 0, 0), (81, .iadd, 1, 0, 0), (82, .invokevirtual 49, 3, 63, 1), (85, .aload_n 0, 1, 0, 0), (86, .iload 4, 2, 0, 0), (88, .iload 6, 2, 0, 0), (90, .iadd, 1, 0, 0), (91, .invokevirtual 49, 3, 63, 1), (94, .if_icmp .eq 5, 3, 0, 0), (97, .iconst 0, 1, 0, 0), (98, .ireturn, 1, 0, 0), (99, .iinc 6 1, 3, 0, 0), (102, .goto (-32), 3, 0, 0), (105, .iconst 1, 1, 0, 0), (106, .ireturn, 1, 0, 0)]
def mK76 : List mI := [(0, .iload_n 1, 1, 0, 0), (1, .ifCond .lt 20, 3, 0, 0), (4, .iload_n 1, 1, 0, 0), (5, .aload_n 0, 1, 0, 0), (6, .getfield 24, 3, 4, 4), (9, .if_icmp .ge 12, 3, 0, 0), (12, .aload_n 0, 1, 0, 0), (13, .getfield 21, 3, 4, 3), (16, .iload_n 1, 1, 0, 0), (17, .iaload, 1, 0, 0), (18, .goto 4, 3, 0, 0), (21, .iconst 0, 1, 0, 0), (22, .ireturn, 1, 0, 0)]
def mK77 : List mI := [(0, .aload_n 0, 1, 0, 0), (1, .getfield 20, 3, 5, 2), (4, .aload_n 0, 1, 0, 0), (5, .getfield 9, 3, 5, 0), (8, .aload_n 0, 1, 0, 0), (9, .getfield 13, 3, 5, 1), (12, .invokevirtual 62, 3, 0, 2), (15, .istore_n 1, 1, 0, 0), (16, .iload_n 1, 1, 0, 0), (17, .iconst (-1), 1, 0, 0), (18, .if_icmp .ne 25, 3, 0, 0), (21, .aload_n 0, 1, 0, 0), (22, .getfield 27, 3, 5, 3), (25, .getfield 66, 3, 2, 1), (28, .aload_n 0, 1, 0, 0), (29, .getfield 20, 3, 5, 2), (32, .getfield 70, 3, 0, 1), (35, .invokevirtual 73, 3, 38, 1), (38, .aload_n 0, 1, 0, 0), (39, .iconst 1, 1, 0, 0), (40, .putfield 31, 3, 5, 4), (43, .iload_n 1, 1, 0, 0), (44, .ireturn, 1, 0, 0)]
def mK78 : List mI := [(0, .aload_n 0, 1, 0, 0), (1, .getfield 27, 3, 5, 3), (4, .getfield 103, 3, 2, 0), (7, .iload_n 1, 1, 0, 0), (8, .invokevirtual 125, 3, 56, 1), (11, .ireturn, 1, 0, 0)]
def mK79 : List mI := [(0, .aload_n 0, 1, 0, 0), (1, .getfield 27, 3, 5, 3), (4, .getfield 103, 3, 2, 0), (7, .getfield 128, 3, 3, 2), (10, .ireturn, 1, 0, 0)]
def mK80 : List mI := [(0, .iconst 0, 1, 0, 0), (1, .istore_n 2, 1, 0, 0), (2, .iconst 0, 1, 0, 0), (3, .istore_n 3, 1, 0, 0), (4, .iload_n 3, 1, 0, 0), (5, .bipush 32, 2, 0, 0), (7, .if_icmp .ge 43, 3, 0, 0), (10, .iload_n 1, 1, 0, 0), (11, .iload_n 3, 1, 0, 0), (12, .ishr, 1, 0, 0), (13, .sipush 255, 3, 0, 0), (16, .iand, 1, 0, 0), (17, .istore 4, 2, 0, 0), (19, .iload 4, 2, 0, 0), (21, .bipush 127, 2, 0, 0), (23, .if_icmp .le 13, 3, 0, 0), (26, .new 44, 3, 1, 12), (29, .dup, 1, 0, 0), (30, .ldc 46, 2, 1, 12), (32, .invokespecial 48, 3, 0, 0), (35, .athrow, 1, 0, 0), (36, .iload 4, 2, 0, 0), (38, .ifCond .eq 6, 3, 0, 0), (41, .iinc 2 1, 3, 0, 0), (44, .iinc 3 8, 3, 0, 0), (47, .goto (-43), 3, 0, 0), (50, .aload_n 0, 1, 0, 0), (51, .getfield 13, 3, 5, 1), (54, .iload_n 2, 1, 0, 0), (55, .iadd, 1, 0, 0), (56, .sipush 600, 3, 0, 0), (59, .if_icmp .le 13, 3, 0, 0), (62, .new 51, 3, 2, 13), (65, .dup, 1, 0, 0), (66, .ldc 53, 2, 1, 13), (68, .invokespecial 55, 3, 0, 0), (71, .athrow, 1, 0, 0), (72, .iconst 0, 1, 0, 0), (73, .istore_n 3, 1, 0, 0), (74, .iload_n 3, 1, 0, 0), (75, .bipush 32, 2, 0, 0), (77, .if_icmp .ge 20, 3, 0, 0), (80, .aload_n 0, 1, 0, 0), (81, .iload_n 1, 1, 0, 0), (82, .iload_n 3, 1, 0, 0), (83, .ishr, 1, 0, 0), (84, .sipush 255, 3, 0, 0), (87, .iand, 1, 0, 0), (88, .invokevirtual 56, 3, 81, 1), (91, .iinc 3 8, 3, 0, 0), (94, .goto (-20), 3, 0, 0), (97, .aload_n 0, 1, 0, 0), (98, .getfield 13, 3, 5, 1), (101, .ireturn, 1, 0, 0)]
def mK81 : List mI := [(0, .iload_n 1, 1, 0, 0), (1, .ifCond .eq 33, 3, 0, 0), (4, .aload_n 0, 1, 0, 0), (5, .getfield 13, 3, 5, 1), (8, .sipush 600, 3, 0, 0), (11, .if_icmp .ge 23, 3, 0, 0), (14, .aload_n 0, 1, 0, 0), (15, .getfield 9, 3, 5, 0), (18, .aload_n 0, 1, 0, 0), (19, .getfield 13, 3, 5, 1), (22, .iload_n 1, 1, 0, 0), (23, .iastore, 1, 0, 0), (24, .aload_n 0, 1, 0, 0), (25, .dup, 1, 0, 0), (26, .getfield 13, 3, 5, 1), (29, .iconst 1, 1, 0, 0), (30, .iadd, 1, 0, 0), (31, .putfield 13, 3, 5, 1), (34, .return_, 1, 0, 0)]
def mK82 : List mI := [(0, .iload_n 1, 1, 0, 0), (1, .ifCond .lt 11, 3, 0, 0), (4, .iload_n 1, 1, 0, 0), (5, .aload_n 0, 1, 0, 0), (6, .getfield 13, 3, 5, 1), (9, .if_icmp .le 13, 3, 0, 0), (12, .new 44, 3, 1, 14), (15, .dup, 1, 0, 0), (16, .ldc 60, 2, 1, 14), (18, .invokespecial 48, 3, 0, 0), (21, .athrow, 1, 0, 0), (22, .aload_n 0, 1, 0, 0), (23, .iload_n 1, 1, 0, 0), (24, .putfield 13, 3, 5, 1), (27, .return_, 1, 0, 0)]
def mK83 : List mI := [(0, .aload_n 0, 1, 0, 0), (1, .getfield 31, 3, 5, 4), (4, .ifCond .ne 13, 3, 0, 0), (7, .new 79, 3, 0, 15), (10, .dup, 1, 0, 0), (11, .ldc 81, 2, 1, 15), (13, .invokespecial 83, 3, 0, 0), (16, .athrow, 1, 0, 0), (17, .iload_n 1, 1, 0, 0), (18, .iconst (-1), 1, 0, 0), (19, .if_icmp .ne 14, 3, 0, 0), (22, .aload_n 0, 1, 0, 0), (23, .getfield 27, 3, 5, 3), (26, .getfield 66, 3, 2, 1), (29, .getfield 84, 3, 1, 5), (32, .ireturn, 1, 0, 0), (33, .aload_n 0, 1, 0, 0), (34, .getfield 27, 3, 5, 3), (37, .getfield 66, 3, 2, 1), (40, .iload_n 1, 1, 0, 0), (41, .invokevirtual 87, 3, 36, 1), (44, .ifCond .ne 13, 3, 0, 0), (47, .new 91, 3, 3, 16), (50, .dup, 1, 0, 0), (51, .ldc 93, 2, 1, 16), (53, .invokespecial 95, 3, 0, 0), (56, .athrow, 1, 0, 0), (57, .aload_n 0, 1, 0, 0), (58, .getfield 27, 3, 5, 3), (61, .getfield 66, 3, 2, 1), (64, .iload_n 1, 1, 0, 0), (65, .invokevirtual 96, 3, 35, 1), (68, .ireturn, 1, 0, 0)]
def mK84 : List mI := [(0, .aload_n 0, 1, 0, 0), (1, .getfield 31, 3, 5, 4), (4, .ifCond .ne 13, 3, 0, 0), (7, .new 79, 3, 0, 15), (10, .dup, 1, 0, 0), (11, .ldc 81, 2, 1, 15), (13, .invokespecial 83, 3, 0, 0), (16, .athrow, 1, 0, 0), (17, .aload_n 0, 1, 0, 0), (18, .getfield 27, 3, 5, 3), (21, .getfield 66, 3, 2, 1), (24, .iload_n 1, 1, 0, 0), (25, .invokevirtual 87, 3, 36, 1), (28, .ifCond .ne 13, 3, 0, 0), (31, .new 91, 3, 3, 16), (34, .dup, 1, 0, 0), (35, .ldc 93, 2, 1, 16), (37, .invokespecial 95, 3, 0, 0), (40, .athrow, 1, 0, 0), (41, .iload_n 2, 1, 0, 0), (42, .ifCond .lt 9, 3, 0, 0), (45, .iload_n 2, 1, 0, 0), (46, .ldc 100, 2, 0, 50000), (48, .if_icmp .le 13, 3, 0, 0), (51, .new 44, 3, 1, 17), (54, .dup, 1, 0, 0), (55, .ldc 101, 2, 1, 17), (57, .invokespecial 48, 3, 0, 0), (60, .athrow, 1, 0, 0), (61, .aload_n 0, 1, 0, 0), (62, .getfield 27, 3, 5, 3), (65, .getfield 103, 3, 2, 0), (68, .invokevirtual 107, 3, 58, 0), (71, .aload_n 0, 1, 0, 0), (72, .getfield 27, 3, 5, 3), (75, .iload_n 1, 1, 0, 0), (76, .iload_n 2, 1, 0, 0), (77, .iload_n 3, 1, 0, 0), (78, .iload 4, 2, 0, 0), (80, .iload 5, 2, 0, 0), (82, .invokevirtual 112, 3, 42, 5), (85, .istore 6, 2, 0, 0), (87, .iload 6, 2, 0, 0), (89, .ifCond .ne 7, 3, 0, 0), (92, .iconst 1, 1, 0, 0), (93, .goto 4, 3, 0, 0), (96, .iconst 0, 1, 0, 0), (97, .istore 7, 2, 0, 0), (99, .iload 7, 2, 0, 0), (101, .ifCond .ne 13, 3, 0, 0), (104, .aload_n 0, 1, 0, 0), (105, .getfield 27, 3, 5, 3), (108, .getfield 103, 3, 2, 0), (111, .invokevirtual 116, 3, 60, 0), (114, .aload_n 0, 1, 0, 0), (115, .iload 7, 2, 0, 0), (117, .ifCond .eq 13, 3, 0, 0), (120, .aload_n 0, 1, 0, 0), (121, .getfield 27, 3, 5, 3), (124, .getfield 119, 3, 2, 10), (127, .goto 4, 3, 0, 0), (130, .iconst 0, 1, 0, 0), (131, .putfield 35, 3, 5, 5), (134, .aload_n 0, 1, 0, 0), (135, .iload 7, 2, 0, 0), (137, .ifCond .eq 13, 3, 0, 0), (140, .aload_n 0, 1, 0, 0), (141, .getfield 27, 3, 5, 3), (144, .getfield 120, 3, 2, 9), (147, .goto 4, 3, 0, 0), (150, .iload_n 2, 1, 0, 0), (151, .putfield 38, 3, 5, 6), (154, .aload_n 0, 1, 0, 0), (155, .dup, 1, 0, 0), (156, .getfield 41, 3, 5, 7), (159, .iconst 1, 1, 0, 0), (160, .iadd, 1, 0, 0), (161, .putfield 41, 3, 5, 7), (164, .iload 6, 2, 0, 0), (166, .ireturn, 1, 0, 0)]
def mK85 : List mI := [(0, .iload_n 1, 1, 0, 0), (1, .tableswitch 42 0 2 #[27, 32, 37], 27, 0, 0), (28, .aload_n 0, 1, 0, 0), (29, .getfield 35, 3, 5, 5), (32, .ireturn, 1, 0, 0), (33, .aload_n 0, 1, 0, 0), (34, .getfield 38, 3, 5, 6), (37, .ireturn, 1, 0, 0), (38, .aload_n 0, 1, 0, 0), (39, .getfield 41, 3, 5, 7), (42, .ireturn, 1, 0, 0), (43, .new 44, 3, 1, 18), (46, .dup, 1, 0, 0), (47, .ldc 123, 2, 1, 18), (49, .invokespecial 48, 3, 0, 0), (52, .athrow, 1, 0, 0)]
def mK86 : List mI := [(0, .aload_n 0, 1, 0, 0), (1, .getfield 82, 3, 6, 0), (4, .ireturn, 1, 0, 0)]
def mK87 : List mI := [(0, .iconst 0, 1, 0, 0), (1, .istore_n 2, 1, 0, 0), (2, .iconst 1, 1, 0, 0), (3, .istore_n 3, 1, 0, 0), (4, .iconst 0, 1, 0, 0), (5, .istore 4, 2, 0, 0), (7, .iload 4, 2, 0, 0), (9, .iconst 4, 1, 0, 0), (10, .if_icmp .ge 53, 3, 0, 0), (13, .iload_n 1, 1, 0, 0), (14, .bipush 8, 2, 0, 0), (16, .iload 4, 2, 0, 0), (18, .imul, 1, 0, 0), (19, .ishr, 1, 0, 0), (20, .sipush 255, 3, 0, 0), (23, .iand, 1, 0, 0), (24, .istore 5, 2, 0, 0), (26, .iload_n 3, 1, 0, 0), (27, .ifCond .eq 15, 3, 0, 0), (30, .iload 5, 2, 0, 0), (32, .sipush 128, 3, 0, 0), (35, .if_icmp .ge 7, 3, 0, 0), (38, .iconst 1, 1, 0, 0), (39, .goto 4, 3, 0, 0), (42, .iconst 0, 1, 0, 0), (43, .istore_n 3, 1, 0, 0), (44, .iload 5, 2, 0, 0), (46, .ifCond .le 9, 3, 0, 0), (49, .iload_n 2, 1, 0, 0), (50, .iconst 1, 1, 0, 0), (51, .iadd, 1, 0, 0), (52, .goto 4, 3, 0, 0), (55, .iload_n 2, 1, 0, 0), (56, .istore_n 2, 1, 0, 0), (57, .iinc 4 1, 3, 0, 0), (60, .goto (-53), 3, 0, 0), (63, .aload_n 0, 1, 0, 0), (64, .iload_n 3, 1, 0, 0), (65, .ifCond .ne 7, 3, 0, 0), (68, .iconst 1, 1, 0, 0), (69, .goto 4, 3, 0, 0), (72, .iconst 0, 1, 0, 0), (73, .aload_n 0, 1, 0, 0), (74, .getfield 86, 3, 6, 2), (77, .iload_n 2, 1, 0, 0), (78, .iadd, 1, 0, 0), (79, .sipush 600, 3, 0, 0), (82, .if_icmp .le 7, 3, 0, 0), (85, .iconst 1, 1, 0, 0), (86, .goto 4, 3, 0, 0), (89, .iconst 0, 1, 0, 0), (90, .iconst 0, 1, 0, 0), (91, .invokevirtual 89, 3, 88, 3), (94, .ifCond .eq 5, 3, 0, 0), (97, .iconst 0, 1, 0, 0), (98, .ireturn, 1, 0, 0), (99, .iconst 0, 1, 0, 0), (100, .istore 4, 2, 0, 0), (102, .iload 4, 2, 0, 0), (104, .iconst 4, 1, 0, 0), (105, .if_icmp .ge 48, 3, 0, 0), (108, .iload_n 1, 1, 0, 0), (109, .bipush 8, 2, 0, 0), (111, .iload 4, 2, 0, 0), (113, .imul, 1, 0, 0), (114, .ishr, 1, 0, 0), (115, .sipush 255, 3, 0, 0), (118, .iand, 1, 0, 0), (119, .istore 5, 2, 0, 0), (121, .iload 5, 2, 0, 0), (123, .ifCond .le 24, 3, 0, 0), (126, .aload_n 0, 1, 0, 0), (127, .getfield 7, 3, 6, 1), (130, .aload_n 0, 1, 0, 0), (131, .getfield 86, 3, 6, 2), (134, .iload 5, 2, 0, 0), (136, .iastore, 1, 0, 0), (137, .aload_n 0, 1, 0, 0), (138, .dup, 1, 0, 0), (139, .getfield 86, 3, 6, 2), (142, .iconst 1, 1, 0, 0), (143, .iadd, 1, 0, 0), (144, .putfield 86, 3, 6, 2), (147, .iinc 4 1, 3, 0, 0), (150, .goto (-48), 3, 0, 0), (153, .aload_n 0, 1, 0, 0), (154, .getfield 86, 3, 6, 2), (157, .ireturn, 1, 0, 0)]
def mK88 : List mI := [(0, .aload_n 0, 1, 0, 0), (1, .iload_n 1, 1, 0, 0), (2, .ifCond .eq 7, 3, 0, 0), (5, .iconst 1, 1, 0, 0), (6, .goto 20, 3, 0, 0), (9, .iload_n 2, 1, 0, 0), (10, .ifCond .eq 7, 3, 0, 0), (13, .iconst 2, 1, 0, 0), (14, .goto 12, 3, 0, 0), (17, .iload_n 3, 1, 0, 0), (18, .ifCond .eq 7, 3, 0, 0), (21, .iconst 3, 1, 0, 0), (22, .goto 4, 3, 0, 0), (25, .iconst 0, 1, 0, 0), (26, .putfield 82, 3, 6, 0), (29, .aload_n 0, 1, 0, 0), (30, .getfield 82, 3, 6, 0), (33, .ifCond .le 7, 3, 0, 0), (36, .iconst 1, 1, 0, 0), (37, .goto 4, 3, 0, 0), (40, .iconst 0, 1, 0, 0), (41, .ireturn, 1, 0, 0)]
def mK89 : List mI := [(0, .aload_n 0, 1, 0, 0), (1, .iload_n 1, 1, 0, 0), (2, .iconst 0, 1, 0, 0), (3, .aload_n 0, 1, 0, 0), (4, .getfield 86, 3, 6, 2), (7, .invokestatic 93, 3, 90, 3), (10, .ifCond .ne 7, 3, 0, 0), (13, .iconst 1, 1, 0, 0), (14, .goto 4, 3, 0, 0), (17, .iconst 0, 1, 0, 0), (18, .iconst 0, 1, 0, 0), (19, .iconst 0, 1, 0, 0), (20, .invokevirtual 89, 3, 88, 3), (23, .ifCond .ne 8, 3, 0, 0), (26, .aload_n 0, 1, 0, 0), (27, .iload_n 1, 1, 0, 0), (28, .putfield 86, 3, 6, 2), (31, .return_, 1, 0, 0)]
def mK90 : List mI := [(0, .iload_n 0, 1, 0, 0), (1, .iload_n 1, 1, 0, 0), (2, .if_icmp .lt 12, 3, 0, 0), (5, .iload_n 0, 1, 0, 0), (6, .iload_n 2, 1, 0, 0), (7, .if_icmp .gt 7, 3, 0, 0), (10, .iconst 1, 1, 0, 0), (11, .goto 4, 3, 0, 0), (14, .iconst 0, 1, 0, 0), (15, .ireturn, 1, 0, 0)]
def mK91 : List mI := [(0, .aload_n 0, 1, 0, 0), (1, .iconst 0, 1, 0, 0), (2, .putfield 82, 3, 6, 0), (5, .aload_n 0, 1, 0, 0), (6, .iconst (-1), 1, 0, 0), (7, .putfield 168, 3, 6, 7), (10, .aload_n 0, 1, 0, 0), (11, .iconst 0, 1, 0, 0), (12, .putfield 171, 3, 6, 9), (15, .aload_n 0, 1, 0, 0), (16, .iconst 0, 1, 0, 0), (17, .putfield 178, 3, 6, 11), (20, .aload_n 0, 1, 0, 0), (21, .iconst 0, 1, 0, 0), (22, .putfield 181, 3, 6, 13), (25, .aload_n 0, 1, 0, 0), (26, .iconst 0, 1, 0, 0), (27, .putfield 193, 3, 6, 14), (30, .aload_n 0, 1, 0, 0), (31, .iconst 0, 1, 0, 0), (32, .putfield 196, 3, 6, 15), (35, .aload_n 0, 1, 0, 0), (36, .iconst 0, 1, 0, 0), (37, .putfield 184, 3, 6, 24), (40, .aload_n 0, 1, 0, 0), (41, .iconst 0, 1, 0, 0), (42, .putfield 133, 3, 6, 5), (45, .aload_n 0, 1, 0, 0), (46, .invokevirtual 187, 3, 92, 0), (49, .aload_n 0, 1, 0, 0), (50, .bipush 40, 2, 0, 0), (52, .invokevirtual 174, 3, 100, 1), (55, .aload_n 0, 1, 0, 0), (56, .getfield 171, 3, 6, 9), (59, .ifCond .le 36, 3, 0, 0), (62, .aload_n 0, 1, 0, 0), (63, .getfield 168, 3, 6, 7), (66, .ifCond .ge 29, 3, 0, 0), (69, .aload_n 0, 1, 0, 0), (70, .dup, 1, 0, 0), (71, .getfield 171, 3, 6, 9), (74, .iconst 1, 1, 0, 0), (75, .isub, 1, 0, 0), (76, .putfield 171, 3, 6, 9), (79, .aload_n 0, 1, 0, 0), (80, .aload_n 0, 1, 0, 0), (81, .getfield 13, 3, 6, 8), (84, .aload_n 0, 1, 0, 0), (85, .getfield 171, 3, 6, 9), (88, .iaload, 1, 0, 0), (89, .invokevirtual 305, 3, 101, 1), (92, .goto (-37), 3, 0, 0), (95, .aload_n 0, 1, 0, 0), (96, .getfield 168, 3, 6, 7), (99, .ifCond .lt 8, 3, 0, 0), (102, .aload_n 0, 1, 0, 0), (103, .getfield 168, 3, 6, 7), (106, .ireturn, 1, 0, 0), (107, .aload_n 0, 1, 0, 0), (108, .aload_n 0, 1, 0, 0), (109, .getfield 196, 3, 6, 15), (112, .putfield 308, 3, 6, 27), (115, .iconst 0, 1, 0, 0), (116, .istore_n 1, 1, 0, 0), (117, .iload_n 1, 1, 0, 0), (118, .aload_n 0, 1, 0, 0), (119, .getfield 196, 3, 6, 15), (122, .if_icmp .ge 33, 3, 0, 0), (125, .aload_n 0, 1, 0, 0), (126, .getfield 49, 3, 6, 28), (129, .iload_n 1, 1, 0, 0), (130, .aload_n 0, 1, 0, 0), (131, .getfield 28, 3, 6, 18), (134, .iload_n 1, 1, 0, 0), (135, .iaload, 1, 0, 0), (136, .iastore, 1, 0, 0), (137, .aload_n 0, 1, 0, 0), (138, .getfield 52, 3, 6, 29), (141, .iload_n 1, 1, 0, 0), (142, .aload_n 0, 1, 0, 0), (143, .getfield 31, 3, 6, 19), (146, .iload_n 1, 1, 0, 0), (147, .iaload, 1, 0, 0), (148, .iastore, 1, 0, 0), (149, .iinc 1 1, 3, 0, 0), (152, .goto (-35), 3, 0, 0), (155, .iconst 0, 1, 0, 0), (156, .istore_n 1, 1, 0, 0), (157, .iload_n 1, 1, 0, 0), (158, .aload_n 0, 1, 0, 0), (159, .getfield 184, 3, 6, 24), (162, .if_icmp .ge 33, 3, 0, 0), (165, .aload_n 0, 1, 0, 0), (166, .getfield 55, 3, 6, 30), (169, .iload_n 1, 1, 0, 0), (170, .aload_n 0, 1, 0, 0), (171, .getfield 43, 3, 6, 25), (174, .iload_n 1, 1, 0, 0), (175, .iaload, 1, 0, 0), (176, .iastore, 1, 0, 0), (177, .aload_n 0, 1, 0, 0), (178, .getfield 58, 3, 6, 31), (181, .iload_n 1, 1, 0, 0), (182, .aload_n 0, 1, 0, 0), (183, .getfield 46, 3, 6, 26), (186, .iload_n 1, 1, 0, 0), (187, .iaload, 1, 0, 0), (188, .iastore, 1, 0, 0), (189, .iinc 1 1, 3, 0, 0), (192, .goto (-35), 3, 0, 0), (195, .iconst (-1), 1, 0, 0), (196, .ireturn, 1, 0, 0)]
def mK92 : List mI := [(0, .aload_n 0, 1, 0, 0), (1, .aload_n 0, 1, 0, 0), (2, .getfield 133, 3, 6, 5), (5, .invokevirtual 97, 3, 93, 1), (8, .bipush 32, 2, 0, 0), (10, .if_icmp .eq 16, 3, 0, 0), (13, .aload_n 0, 1, 0, 0), (14, .aload_n 0, 1, 0, 0), (15, .getfield 133, 3, 6, 5), (18, .invokevirtual 97, 3, 93, 1), (21, .bipush 10, 2, 0, 0), (23, .if_icmp .ne 16, 3, 0, 0), (26, .aload_n 0, 1, 0, 0), (27, .dup, 1, 0, 0), (28, .getfield 133, 3, 6, 5), (31, .iconst 1, 1, 0, 0), (32, .iadd, 1, 0, 0), (33, .putfield 133, 3, 6, 5), (36, .goto (-36), 3, 0, 0), (39, .aload_n 0, 1, 0, 0), (40, .aload_n 0, 1, 0, 0), (41, .getfield 133, 3, 6, 5), (44, .putfield 148, 3, 6, 4), (47, .aload_n 0, 1, 0, 0), (48, .getfield 148, 3, 6, 4), (51, .aload_n 0, 1, 0, 0), (52, .getfield 86, 3, 6, 2), (55, .if_icmp .lt 19, 3, 0, 0), (58, .aload_n 0, 1, 0, 0), (59, .iconst 0, 1, 0, 0), (60, .putfield 142, 3, 6, 3), (63, .aload_n 0, 1, 0, 0), (64, .aload_n 0, 1, 0, 0), (65, .getfield 86, 3, 6, 2), (68, .putfield 148, 3, 6, 4), (71, .goto 90, 3, 0, 0), (74, .aload_n 0, 1, 0, 0), (75, .aload_n 0, 1, 0, 0), (76, .getfield 148, 3, 6, 4), (79, .invokevirtual 155, 3, 94, 1), (82, .ifCond .eq 57, 3, 0, 0), (85, .aload_n 0, 1, 0, 0), (86, .aload_n 0, 1, 0, 0), (87, .getfield 133, 3, 6, 5), (90, .invokevirtual 155, 3, 94, 1), (93, .ifCond .ne 14, 3, 0, 0), (96, .aload_n 0, 1, 0, 0), (97, .aload_n 0, 1, 0, 0), (98, .getfield 133, 3, 6, 5), (101, .invokevirtual 101, 3, 95, 1), (104, .ifCond .eq 16, 3, 0, 0), (107, .aload_n 0, 1, 0, 0), (108, .dup, 1, 0, 0), (109, .getfield 133, 3, 6, 5), (112, .iconst 1, 1, 0, 0), (113, .iadd, 1, 0, 0), (114, .putfield 133, 3, 6, 5), (117, .goto (-32), 3, 0, 0), (120, .aload_n 0, 1, 0, 0), (121, .aload_n 0, 1, 0, 0), (122, .aload_n 0, 1, 0, 0), (123, .getfield 148, 3, 6, 4), (126, .aload_n 0, 1, 0, 0), (127, .getfield 133, 3, 6, 5), (130, .invokevirtual 158, 3, 96, 2), (133, .putfield 142, 3, 6, 3), (136, .goto 25, 3, 0, 0), (139, .aload_n 0, 1, 0, 0), (140, .aload_n 0, 1, 0, 0), (141, .getfield 148, 3, 6, 4), (144, .invokevirtual 101, 3, 95, 1), (147, .ifCond .eq 10, 3, 0, 0), (150, .aload_n 0, 1, 0, 0), (151, .invokevirtual 162, 3, 97, 0), (154, .goto 7, 3, 0, 0), (157, .aload_n 0, 1, 0, 0), (158, .invokevirtual 165, 3, 98, 0), (161, .return_, 1, 0, 0)]
def mK93 : List mI := [(0, .iload_n 1, 1, 0, 0), (1, .aload_n 0, 1, 0, 0), (2, .getfield 86, 3, 6, 2), (5, .if_icmp .ge 12, 3, 0, 0), (8, .aload_n 0, 1, 0, 0), (9, .getfield 7, 3, 6, 1), (12, .iload_n 1, 1, 0, 0), (13, .iaload, 1, 0, 0), (14, .goto 4, 3, 0, 0), (17, .iconst 0, 1, 0, 0), (18, .ireturn, 1, 0, 0)]
def mK94 : List mI := [(0, .aload_n 0, 1, 0, 0), (1, .iload_n 1, 1, 0, 0), (2, .invokevirtual 97, 3, 93, 1), (5, .bipush 97, 2, 0, 0), (7, .bipush 122, 2, 0, 0), (9, .invokestatic 93, 3, 90, 3), (12, .ireturn, 1, 0, 0)]
def mK95 : List mI := [(0, .aload_n 0, 1, 0, 0), (1, .iload_n 1, 1, 0, 0), (2, .invokevirtual 97, 3, 93, 1), (5, .bipush 48, 2, 0, 0), (7, .bipush 57, 2, 0, 0), (9, .invokestatic 93, 3, 90, 3), (12, .ireturn, 1, 0, 0)]
def mK96 : List mI := [(0, .lconst 0, 1, 0, 0), (1, .lstore_n 3, 1, 0, 0), (2, .iload_n 1, 1, 0, 0), (3, .istore 5, 2, 0, 0), (5, .iload 5, 2, 0, 0), (7, .iload_n 2, 1, 0, 0), (8, .if_icmp .ge 60, 3, 0, 0), (11, .iload_n 2, 1, 0, 0), (12, .iload_n 1, 1, 0, 0), (13, .isub, 1, 0, 0), (14, .bipush 7, 2, 0, 0), (16, .if_icmp .gt 12, 3, 0, 0), (19, .aload_n 0, 1, 0, 0), (20, .iload 5, 2, 0, 0), (22, .invokevirtual 101, 3, 95, 1), (25, .ifCond .eq 9, 3, 0, 0), (28, .ldc2_w 105, 3, 1, 0), (31, .goto 30, 3, 0, 0), (34, .lload_n 3, 1, 0, 0), (35, .lconst 0, 1, 0, 0), (36, .lcmp, 1, 0, 0), (37, .ifCond .ge 7, 3, 0, 0), (40, .lload_n 3, 1, 0, 0), (41, .goto 20, 3, 0, 0), (44, .lload_n 3, 1, 0, 0), (45, .ldc2_w 107, 3, 0, 27), (48, .lmul, 1, 0, 0), (49, .aload_n 0, 1, 0, 0), (50, .iload 5, 2, 0, 0), (52, .invokevirtual 97, 3, 93, 1), (55, .i2l, 1, 0, 0), (56, .ladd, 1, 0, 0), (57, .ldc2_w 109, 3, 0, 96), (60, .lsub, 1, 0, 0), (61, .lstore_n 3, 1, 0, 0), (62, .iinc 5 1, 3, 0, 0), (65, .goto (-60), 3, 0, 0), (68, .lload_n 3, 1, 0, 0), (69, .ldc2_w 111, 3, 0, 176), (72, .lcmp, 1, 0, 0), (73, .ifCond .ne 6, 3, 0, 0), (76, .bipush 24, 2, 0, 0), (78, .ireturn, 1, 0, 0), (79, .lload_n 3, 1, 0, 0), (80, .ldc2_w 113, 3, 0, 8903), (83, .lcmp, 1, 0, 0), (84, .ifCond .ne 6, 3, 0, 0), (87, .bipush 25, 2, 0, 0), (89, .ireturn, 1, 0, 0), (90, .lload_n 3, 1, 0, 0), (91, .ldc2_w 115, 3, 0, 10502465), (94, .lcmp, 1, 0, 0), (95, .ifCond .ne 6, 3, 0, 0), (98, .bipush 26, 2, 0, 0), (100, .ireturn, 1, 0, 0), (101, .lload_n 3, 1, 0, 0), (102, .ldc2_w 117, 3, 0, 247162), (105, .lcmp, 1, 0, 0), (106, .ifCond .ne 6, 3, 0, 0), (109, .bipush 27, 2, 0, 0), (111, .ireturn, 1, 0, 0), (112, .lload_n 3, 1, 0, 0), (113, .ldc2_w 119, 3, 0, 249), (116, .lcmp, 1, 0, 0), (117, .ifCond .ne 6, 3, 0, 0), (120, .bipush 28, 2, 0, 0), (122, .ireturn, 1, 0, 0), (123, .lload_n 3, 1, 0, 0), (124, .ldc2_w 121, 3, 0, 107681), (127, .lcmp, 1, 0, 0), (128, .ifCond .ne 6, 3, 0, 0), (131, .bipush 29, 2, 0, 0), (133, .ireturn, 1, 0, 0), (134, .lload_n 3, 1, 0, 0), (135, .ldc2_w 123, 3, 0, 12387497), (138, .lcmp, 1, 0, 0), (139, .ifCond .ne 6, 3, 0, 0), (142, .bipush 30, 2, 0, 0), (144, .ireturn, 1, 0, 0), (145, .lload_n 3, 1, 0, 0), (146, .ldc2_w 125, 3, 0, 261347000), (149, .lcmp, 1, 0, 0), (150, .ifCond .ne 6, 3, 0, 0), (153, .bipush 31, 2, 0, 0), (155, .ireturn, 1, 0, 0), (156, .lload_n 3, 1, 0, 0), (157, .ldc2_w 127, 3, 0, 7054768229), (160, .lcmp, 1, 0, 0), (161, .ifCond .ne 6, 3, 0, 0), (164, .bipush 32, 2, 0, 0), (166, .ireturn, 1, 0, 0), (167, .lload_n 3, 1, 0, 0), (168, .ldc2_w 129, 3, 0, 407354), (171, .lcmp, 1, 0, 0), (172, .ifCond .ne 6, 3, 0, 0), (175, .bipush 33, 2, 0, 0), (177, .ireturn, 1, 0, 0), (178, .lload_n 3, 1, 0, 0), (179, .ldc2_w 131, 3, 0, 3217595), (182, .lcmp, 1, 0, 0), (183, .ifCond .ne 6, 3, 0, 0), (186, .bipush 34, 2, 0, 0), (188, .ireturn, 1, 0, 0), (189, .iconst 1, 1, 0, 0), (190, .ireturn, 1, 0, 0)]
def mK97 : List mI := [(0, .lconst 0, 1, 0, 0), (1, .lstore_n 1, 1, 0, 0), (2, .aload_n 0, 1, 0, 0), (3, .aload_n 0, 1, 0, 0), (4, .getfield 133, 3, 6, 5), (7, .invokevirtual 101, 3, 95, 1), (10, .ifCond .eq 48, 3, 0, 0), (13, .lload_n 1, 1, 0, 0), (14, .ldc2_w 136, 3, 0, 2147483647), (17, .lcmp, 1, 0, 0), (18, .ifCond .le 7, 3, 0, 0), (21, .lload_n 1, 1, 0, 0), (22, .goto 22, 3, 0, 0), (25, .lload_n 1, 1, 0, 0), (26, .ldc2_w 138, 3, 0, 10), (29, .lmul, 1, 0, 0), (30, .aload_n 0, 1, 0, 0), (31, .aload_n 0, 1, 0, 0), (32, .getfield 133, 3, 6, 5), (35, .invokevirtual 97, 3, 93, 1), (38, .i2l, 1, 0, 0), (39, .ladd, 1, 0, 0), (40, .ldc2_w 140, 3, 0, 48), (43, .lsub, 1, 0, 0), (44, .lstore_n 1, 1, 0, 0), (45, .aload_n 0, 1, 0, 0), (46, .dup, 1, 0, 0), (47, .getfield 133, 3, 6, 5), (50, .iconst 1, 1, 0, 0), (51, .iadd, 1, 0, 0), (52, .putfield 133, 3, 6, 5), (55, .goto (-53), 3, 0, 0), (58, .aload_n 0, 1, 0, 0), (59, .lload_n 1, 1, 0, 0), (60, .ldc2_w 136, 3, 0, 2147483647), (63, .lcmp, 1, 0, 0), (64, .ifCond .le 8, 3, 0, 0), (67, .bipush 35, 2, 0, 0), (69, .goto 4, 3, 0, 0), (72, .iconst 2, 1, 0, 0), (73, .putfield 142, 3, 6, 3), (76, .aload_n 0, 1, 0, 0), (77, .lload_n 1, 1, 0, 0), (78, .l2i, 1, 0, 0), (79, .putfield 145, 3, 6, 6), (82, .return_, 1, 0, 0)]
def mK98 : List mI := [(0, .aload_n 0, 1, 0, 0), (1, .aload_n 0, 1, 0, 0), (2, .getfield 148, 3, 6, 4), (5, .invokevirtual 97, 3, 93, 1), (8, .lookupswitch 361 #[(33, 254), (37, 324), (38, 335), (40, 156), (41, 166), (42, 302), (43, 280), (44, 219), (45, 291), (47, 313), (59, 230), (60, 267), (61, 241), (91, 197), (93, 208), (123, 176), (124, 348), (125, 186)], 156, 0, 0), (164, .aload_n 0, 1, 0, 0), (165, .iconst 3, 1, 0, 0), (166, .iconst 0, 1, 0, 0), (167, .iconst 0, 1, 0, 0), (168, .invokevirtual 151, 3, 99, 3), (171, .goto 206, 3, 0, 0), (174, .aload_n 0, 1, 0, 0), (175, .iconst 4, 1, 0, 0), (176, .iconst 0, 1, 0, 0), (177, .iconst 0, 1, 0, 0), (178, .invokevirtual 151, 3, 99, 3), (181, .goto 196, 3, 0, 0), (184, .aload_n 0, 1, 0, 0), (185, .iconst 5, 1, 0, 0), (186, .iconst 0, 1, 0, 0), (187, .iconst 0, 1, 0, 0), (188, .invokevirtual 151, 3, 99, 3), (191, .goto 186, 3, 0, 0), (194, .aload_n 0, 1, 0, 0), (195, .bipush 6, 2, 0, 0), (197, .iconst 0, 1, 0, 0), (198, .iconst 0, 1, 0, 0), (199, .invokevirtual 151, 3, 99, 3), (202, .goto 175, 3, 0, 0), (205, .aload_n 0, 1, 0, 0), (206, .bipush 7, 2, 0, 0), (208, .iconst 0, 1, 0, 0), (209, .iconst 0, 1, 0, 0), (210, .invokevirtual 151, 3, 99, 3), (213, .goto 164, 3, 0, 0), (216, .aload_n 0, 1, 0, 0), (217, .bipush 8, 2, 0, 0), (219, .iconst 0, 1, 0, 0), (220, .iconst 0, 1, 0, 0), (221, .invokevirtual 151, 3, 99, 3), (224, .goto 153, 3, 0, 0), (227, .aload_n 0, 1, 0, 0), (228, .bipush 9, 2, 0, 0), (230, .iconst 0, 1, 0, 0), (231, .iconst 0, 1, 0, 0), (232, .invokevirtual 151, 3, 99, 3), (235, .goto 142, 3, 0, 0), (238, .aload_n 0, 1, 0, 0), (239, .bipush 10, 2, 0, 0), (241, .iconst 0, 1, 0, 0), (242, .iconst 0, 1, 0, 0), (243, .invokevirtual 151, 3, 99, 3), (246, .goto 131, 3, 0, 0), (249, .aload_n 0, 1, 0, 0), (250, .bipush 11, 2, 0, 0), (252, .bipush 61, 2, 0, 0), (254, .bipush 12, 2, 0, 0), (256, .invokevirtual 151, 3, 99, 3), (259, .goto 118, 3, 0, 0), (262, .aload_n 0, 1, 0, 0), (263, .bipush 21, 2, 0, 0), (265, .bipush 61, 2, 0, 0), (267, .bipush 13, 2, 0, 0), (269, .invokevirtual 151, 3, 99, 3), (272, .goto 105, 3, 0, 0), (275, .aload_n 0, 1, 0, 0), (276, .bipush 14, 2, 0, 0), (278, .bipush 61, 2, 0, 0), (280, .bipush 15, 2, 0, 0), (282, .invokevirtual 151, 3, 99, 3), (285, .goto 92, 3, 0, 0), (288, .aload_n 0, 1, 0, 0), (289, .bipush 16, 2, 0, 0), (291, .iconst 0, 1, 0, 0), (292, .iconst 0, 1, 0, 0), (293, .invokevirtual 151, 3, 99, 3), (296, .goto 81, 3, 0, 0), (299, .aload_n 0, 1, 0, 0), (300, .bipush 17, 2, 0, 0), (302, .iconst 0, 1, 0, 0), (303, .iconst 0, 1, 0, 0), (304, .invokevirtual 151, 3, 99, 3), (307, .goto 70, 3, 0, 0), (310, .aload_n 0, 1, 0, 0), (311, .bipush 18, 2, 0, 0), (313, .iconst 0, 1, 0, 0), (314, .iconst 0, 1, 0, 0), (315, .invokevirtual 151, 3, 99, 3), (318, .goto 59, 3, 0, 0), (321, .aload_n 0, 1, 0, 0), (322, .bipush 19, 2, 0, 0), (324, .iconst 0, 1, 0, 0), (325, .iconst 0, 1, 0, 0), (326, .invokevirtual 151, 3, 99, 3), (329, .goto 48, 3, 0, 0), (332, .aload_n 0, 1, 0, 0), (333, .bipush 20, 2, 0, 0), (335, .iconst 0, 1, 0, 0), (336, .iconst 0, 1, 0, 0), (337, .invokevirtual 151, 3, 99, 3), (340, .goto 37, 3, 0, 0), (343, .aload_n 0, 1, 0, 0), (344, .bipush 35, 2, 0, 0), (346, .bipush 38, 2, 0, 0), (348, .bipush 22, 2, 0, 0), (350, .invokevirtual 151, 3, 99, 3), (353, .goto 24, 3, 0, 0), (356, .aload_n 0, 1, 0, 0), (357, .bipush 35, 2, 0, 0), (359, .bipush 124, 2, 0, 0), (361, .bipush 23, 2, 0, 0), (363, .invokevirtual 151, 3, 99, 3), (366, .goto 11, 3, 0, 0), (369, .aload_n 0, 1, 0, 0), (370, .bipush 35, 2, 0, 0), (372, .iconst 0, 1, 0, 0), (373, .iconst 0, 1, 0, 0), (374, .invokevirtual 151, 3, 99, 3), (377, .return_, 1, 0, 0)]
def mK99 : List mI := [(0, .iload_n 2, 1, 0, 0), (1, .ifCond .le 21, 3, 0, 0), (4, .aload_n 0, 1, 0, 0), (5, .aload_n 0, 1, 0, 0), (6, .getfield 148, 3, 6, 4), (9, .iconst 1, 1, 0, 0), (10, .iadd, 1, 0, 0), (11, .invokevirtual 97, 3, 93, 1), (14, .iload_n 2, 1, 0, 0), (15, .if_icmp .ne 7, 3, 0, 0), (18, .iconst 1, 1, 0, 0), (19, .goto 4, 3, 0, 0), (22, .iconst 0, 1, 0, 0), (23, .istore 4, 2, 0, 0), (25, .aload_n 0, 1, 0, 0), (26, .iload 4, 2, 0, 0), (28, .ifCond .eq 7, 3, 0, 0), (31, .iload_n 3, 1, 0, 0), (32, .goto 4, 3, 0, 0), (35, .iload_n 1, 1, 0, 0), (36, .putfield 142, 3, 6, 3), (39, .aload_n 0, 1, 0, 0), (40, .iload 4, 2, 0, 0), (42, .ifCond .eq 12, 3, 0, 0), (45, .aload_n 0, 1, 0, 0), (46, .getfield 148, 3, 6, 4), (49, .iconst 2, 1, 0, 0), (50, .iadd, 1, 0, 0), (51, .goto 9, 3, 0, 0), (54, .aload_n 0, 1, 0, 0), (55, .getfield 148, 3, 6, 4), (58, .iconst 1, 1, 0, 0), (59, .iadd, 1, 0, 0), (60, .putfield 133, 3, 6, 5), (63, .return_, 1, 0, 0)]
def mK100 : List mI := [(0, .aload_n 0, 1, 0, 0), (1, .getfield 13, 3, 6, 8), (4, .aload_n 0, 1, 0, 0), (5, .getfield 171, 3, 6, 9), (8, .iload_n 1, 1, 0, 0), (9, .iastore, 1, 0, 0), (10, .aload_n 0, 1, 0, 0), (11, .dup, 1, 0, 0), (12, .getfield 171, 3, 6, 9), (15, .iconst 1, 1, 0, 0), (16, .iadd, 1, 0, 0), (17, .putfield 171, 3, 6, 9), (20, .return_, 1, 0, 0)]
def mK101 : List mI := [(0, .iload_n 1, 1, 0, 0), (1, .bipush 40, 2, 0, 0), (3, .if_icmp .ge 11, 3, 0, 0), (6, .aload_n 0, 1, 0, 0), (7, .iload_n 1, 1, 0, 0), (8, .invokevirtual 287, 3, 102, 1), (11, .goto 104, 3, 0, 0), (14, .iload_n 1, 1, 0, 0), (15, .sipush 300, 3, 0, 0), (18, .if_icmp .lt 25, 3, 0, 0), (21, .aload_n 0, 1, 0, 0), (22, .iload_n 1, 1, 0, 0), (23, .sipush 300, 3, 0, 0), (26, .isub, 1, 0, 0), (27, .invokevirtual 287, 3, 102, 1), (30, .aload_n 0, 1, 0, 0), (31, .dup, 1, 0, 0), (32, .getfield 193, 3, 6, 14), (35, .iconst 1, 1, 0, 0), (36, .isub, 1, 0, 0), (37, .putfield 193, 3, 6, 14), (40, .goto 75, 3, 0, 0), (43, .iload_n 1, 1, 0, 0), (44, .sipush 200, 3, 0, 0), (47, .if_icmp .lt 15, 3, 0, 0), (50, .aload_n 0, 1, 0, 0), (51, .iload_n 1, 1, 0, 0), (52, .sipush 200, 3, 0, 0), (55, .isub, 1, 0, 0), (56, .invokevirtual 290, 3, 104, 1), (59, .goto 56, 3, 0, 0), (62, .iload_n 1, 1, 0, 0), (63, .bipush 85, 2, 0, 0), (65, .if_icmp .lt 11, 3, 0, 0), (68, .aload_n 0, 1, 0, 0), (69, .iload_n 1, 1, 0, 0), (70, .invokevirtual 293, 3, 105, 1), (73, .goto 42, 3, 0, 0), (76, .iload_n 1, 1, 0, 0), (77, .bipush 70, 2, 0, 0), (79, .if_icmp .ge 9, 3, 0, 0), (82, .iload_n 1, 1, 0, 0), (83, .bipush 60, 2, 0, 0), (85, .if_icmp .ne 11, 3, 0, 0), (88, .aload_n 0, 1, 0, 0), (89, .iload_n 1, 1, 0, 0), (90, .invokevirtual 296, 3, 119, 1), (93, .goto 22, 3, 0, 0), (96, .iload_n 1, 1, 0, 0), (97, .bipush 53, 2, 0, 0), (99, .if_icmp .lt 11, 3, 0, 0), (102, .aload_n 0, 1, 0, 0), (103, .iload_n 1, 1, 0, 0), (104, .invokevirtual 299, 3, 124, 1), (107, .goto 8, 3, 0, 0), (110, .aload_n 0, 1, 0, 0), (111, .iload_n 1, 1, 0, 0), (112, .invokevirtual 302, 3, 132, 1), (115, .return_, 1, 0, 0)]
def mK102 : List mI := [(0, .aload_n 0, 1, 0, 0), (1, .getfield 142, 3, 6, 3), (4, .iload_n 1, 1, 0, 0), (5, .if_icmp .ne 10, 3, 0, 0), (8, .aload_n 0, 1, 0, 0), (9, .invokevirtual 187, 3, 92, 0), (12, .goto 11, 3, 0, 0), (15, .aload_n 0, 1, 0, 0), (16, .aload_n 0, 1, 0, 0), (17, .getfield 148, 3, 6, 4), (20, .invokevirtual 190, 3, 103, 1), (23, .return_, 1, 0, 0)]
def mK103 : List mI := [(0, .aload_n 0, 1, 0, 0), (1, .aload_n 0, 1, 0, 0), (2, .getfield 168, 3, 6, 7), (5, .ifCond .ge 7, 3, 0, 0), (8, .iload_n 1, 1, 0, 0), (9, .goto 7, 3, 0, 0), (12, .aload_n 0, 1, 0, 0), (13, .getfield 168, 3, 6, 7), (16, .putfield 168, 3, 6, 7), (19, .return_, 1, 0, 0)]
def mK104 : List mI := [(0, .aload_n 0, 1, 0, 0), (1, .getfield 142, 3, 6, 3), (4, .iload_n 1, 1, 0, 0), (5, .if_icmp .ne 12, 3, 0, 0), (8, .aload_n 0, 1, 0, 0), (9, .getfield 193, 3, 6, 14), (12, .bipush 16, 2, 0, 0), (14, .if_icmp .ne 12, 3, 0, 0), (17, .aload_n 0, 1, 0, 0), (18, .aload_n 0, 1, 0, 0), (19, .getfield 148, 3, 6, 4), (22, .invokevirtual 190, 3, 103, 1), (25, .return_, 1, 0, 0), (26, .aload_n 0, 1, 0, 0), (27, .dup, 1, 0, 0), (28, .getfield 193, 3, 6, 14), (31, .iconst 1, 1, 0, 0), (32, .iadd, 1, 0, 0), (33, .putfield 193, 3, 6, 14), (36, .aload_n 0, 1, 0, 0), (37, .invokevirtual 187, 3, 92, 0), (40, .return_, 1, 0, 0)]
def mK105 : List mI := [(0, .iload_n 1, 1, 0, 0), (1, .tableswitch 214 85 91 #[43, 50, 214, 134, 110, 190, 156], 43, 0, 0), (44, .aload_n 0, 1, 0, 0), (45, .invokevirtual 281, 3, 106, 0), (48, .goto 171, 3, 0, 0), (51, .aload_n 0, 1, 0, 0), (52, .invokevirtual 238, 3, 115, 0), (55, .istore_n 2, 1, 0, 0), (56, .aload_n 0, 1, 0, 0), (57, .invokevirtual 238, 3, 115, 0), (60, .istore_n 3, 1, 0, 0), (61, .aload_n 0, 1, 0, 0), (62, .dup, 1, 0, 0), (63, .getfield 193, 3, 6, 14), (66, .iconst 1, 1, 0, 0), (67, .isub, 1, 0, 0), (68, .putfield 193, 3, 6, 14), (71, .aload_n 0, 1, 0, 0), (72, .iload_n 3, 1, 0, 0), (73, .bipush 17, 2, 0, 0), (75, .if_icmp .ne 7, 3, 0, 0), (78, .iconst 1, 1, 0, 0), (79, .goto 4, 3, 0, 0), (82, .iconst 2, 1, 0, 0), (83, .iload_n 2, 1, 0, 0), (84, .invokevirtual 241, 3, 116, 2), (87, .aload_n 0, 1, 0, 0), (88, .iconst 3, 1, 0, 0), (89, .iload_n 3, 1, 0, 0), (90, .invokevirtual 221, 3, 109, 2), (93, .aload_n 0, 1, 0, 0), (94, .iload_n 3, 1, 0, 0), (95, .bipush 17, 2, 0, 0), (97, .if_icmp .ne 7, 3, 0, 0), (100, .iconst 1, 1, 0, 0), (101, .goto 4, 3, 0, 0), (104, .iconst 2, 1, 0, 0), (105, .invokevirtual 275, 3, 110, 1), (108, .goto 111, 3, 0, 0), (111, .aload_n 0, 1, 0, 0), (112, .iconst 1, 1, 0, 0), (113, .aload_n 0, 1, 0, 0), (114, .invokevirtual 238, 3, 115, 0), (117, .invokevirtual 241, 3, 116, 2), (120, .aload_n 0, 1, 0, 0), (121, .bipush 7, 2, 0, 0), (123, .iconst 0, 1, 0, 0), (124, .invokevirtual 221, 3, 109, 2), (127, .aload_n 0, 1, 0, 0), (128, .iconst 1, 1, 0, 0), (129, .invokevirtual 275, 3, 110, 1), (132, .goto 87, 3, 0, 0), (135, .aload_n 0, 1, 0, 0), (136, .getfield 142, 3, 6, 3), (139, .iconst 4, 1, 0, 0), (140, .if_icmp .eq 79, 3, 0, 0), (143, .aload_n 0, 1, 0, 0), (144, .bipush 60, 2, 0, 0), (146, .bipush 91, 2, 0, 0), (148, .bipush 90, 2, 0, 0), (150, .iconst 0, 1, 0, 0), (151, .invokevirtual 217, 3, 108, 4), (154, .goto 65, 3, 0, 0), (157, .aload_n 0, 1, 0, 0), (158, .iconst 1, 1, 0, 0), (159, .aload_n 0, 1, 0, 0), (160, .getfield 16, 3, 6, 10), (163, .aload_n 0, 1, 0, 0), (164, .getfield 178, 3, 6, 11), (167, .iconst 2, 1, 0, 0), (168, .isub, 1, 0, 0), (169, .iaload, 1, 0, 0), (170, .invokevirtual 241, 3, 116, 2), (173, .aload_n 0, 1, 0, 0), (174, .getfield 16, 3, 6, 10), (177, .aload_n 0, 1, 0, 0), (178, .getfield 178, 3, 6, 11), (181, .iconst 1, 1, 0, 0), (182, .isub, 1, 0, 0), (183, .dup2, 1, 0, 0), (184, .iaload, 1, 0, 0), (185, .iconst 1, 1, 0, 0), (186, .iadd, 1, 0, 0), (187, .iastore, 1, 0, 0), (188, .goto 31, 3, 0, 0), (191, .aload_n 0, 1, 0, 0), (192, .getfield 142, 3, 6, 3), (195, .bipush 9, 2, 0, 0), (197, .if_icmp .ne 22, 3, 0, 0), (200, .aload_n 0, 1, 0, 0), (201, .bipush 9, 2, 0, 0), (203, .bipush 60, 2, 0, 0), (205, .bipush 91, 2, 0, 0), (207, .bipush 90, 2, 0, 0), (209, .invokevirtual 217, 3, 108, 4), (212, .goto 7, 3, 0, 0), (215, .aload_n 0, 1, 0, 0), (216, .invokevirtual 284, 3, 118, 0), (219, .return_, 1, 0, 0)]
def mK106 : List mI := [(0, .aload_n 0, 1, 0, 0), (1, .getfield 142, 3, 6, 3), (4, .lookupswitch 221 #[(1, 164), (2, 112), (3, 205), (17, 76), (21, 76), (27, 171), (33, 133), (34, 133)], 76, 0, 0), (80, .aload_n 0, 1, 0, 0), (81, .aload_n 0, 1, 0, 0), (82, .getfield 142, 3, 6, 3), (85, .invokevirtual 214, 3, 107, 1), (88, .aload_n 0, 1, 0, 0), (89, .aload_n 0, 1, 0, 0), (90, .getfield 148, 3, 6, 4), (93, .invokevirtual 214, 3, 107, 1), (96, .aload_n 0, 1, 0, 0), (97, .sipush 200, 3, 0, 0), (100, .aload_n 0, 1, 0, 0), (101, .getfield 142, 3, 6, 3), (104, .iadd, 1, 0, 0), (105, .bipush 85, 2, 0, 0), (107, .bipush 86, 2, 0, 0), (109, .iconst 0, 1, 0, 0), (110, .invokevirtual 217, 3, 108, 4), (113, .goto 120, 3, 0, 0), (116, .aload_n 0, 1, 0, 0), (117, .iconst 1, 1, 0, 0), (118, .aload_n 0, 1, 0, 0), (119, .getfield 145, 3, 6, 6), (122, .invokevirtual 221, 3, 109, 2), (125, .aload_n 0, 1, 0, 0), (126, .iconst 1, 1, 0, 0), (127, .invokevirtual 275, 3, 110, 1), (130, .aload_n 0, 1, 0, 0), (131, .invokevirtual 187, 3, 92, 0), (134, .goto 99, 3, 0, 0), (137, .aload_n 0, 1, 0, 0), (138, .iconst 1, 1, 0, 0), (139, .aload_n 0, 1, 0, 0), (140, .getfield 142, 3, 6, 3), (143, .bipush 33, 2, 0, 0), (145, .if_icmp .ne 7, 3, 0, 0), (148, .iconst 1, 1, 0, 0), (149, .goto 4, 3, 0, 0), (152, .iconst 0, 1, 0, 0), (153, .invokevirtual 221, 3, 109, 2), (156, .aload_n 0, 1, 0, 0), (157, .iconst 2, 1, 0, 0), (158, .invokevirtual 275, 3, 110, 1), (161, .aload_n 0, 1, 0, 0), (162, .invokevirtual 187, 3, 92, 0), (165, .goto 68, 3, 0, 0), (168, .aload_n 0, 1, 0, 0), (169, .invokevirtual 278, 3, 111, 0), (172, .goto 61, 3, 0, 0), (175, .aload_n 0, 1, 0, 0), (176, .aload_n 0, 1, 0, 0), (177, .getfield 148, 3, 6, 4), (180, .invokevirtual 214, 3, 107, 1), (183, .aload_n 0, 1, 0, 0), (184, .bipush 89, 2, 0, 0), (186, .sipush 308, 3, 0, 0), (189, .iconst 0, 1, 0, 0), (190, .iconst 0, 1, 0, 0), (191, .invokevirtual 217, 3, 108, 4), (194, .aload_n 0, 1, 0, 0), (195, .bipush 27, 2, 0, 0), (197, .sipush 207, 3, 0, 0), (200, .bipush 60, 2, 0, 0), (202, .iconst 0, 1, 0, 0), (203, .invokevirtual 217, 3, 108, 4), (206, .goto 27, 3, 0, 0), (209, .aload_n 0, 1, 0, 0), (210, .sipush 203, 3, 0, 0), (213, .bipush 60, 2, 0, 0), (215, .sipush 304, 3, 0, 0), (218, .iconst 0, 1, 0, 0), (219, .invokevirtual 217, 3, 108, 4), (222, .goto 11, 3, 0, 0), (225, .aload_n 0, 1, 0, 0), (226, .aload_n 0, 1, 0, 0), (227, .getfield 148, 3, 6, 4), (230, .invokevirtual 190, 3, 103, 1), (233, .return_, 1, 0, 0)]
def mK107 : List mI := [(0, .aload_n 0, 1, 0, 0), (1, .getfield 16, 3, 6, 10), (4, .aload_n 0, 1, 0, 0), (5, .getfield 178, 3, 6, 11), (8, .iload_n 1, 1, 0, 0), (9, .iastore, 1, 0, 0), (10, .aload_n 0, 1, 0, 0), (11, .dup, 1, 0, 0), (12, .getfield 178, 3, 6, 11), (15, .iconst 1, 1, 0, 0), (16, .iadd, 1, 0, 0), (17, .putfield 178, 3, 6, 11), (20, .return_, 1, 0, 0)]
def mK108 : List mI := [(0, .iload 4, 2, 0, 0), (2, .ifCond .le 9, 3, 0, 0), (5, .aload_n 0, 1, 0, 0), (6, .iload 4, 2, 0, 0), (8, .invokevirtual 174, 3, 100, 1), (11, .iload_n 3, 1, 0, 0), (12, .ifCond .le 8, 3, 0, 0), (15, .aload_n 0, 1, 0, 0), (16, .iload_n 3, 1, 0, 0), (17, .invokevirtual 174, 3, 100, 1), (20, .iload_n 2, 1, 0, 0), (21, .ifCond .le 8, 3, 0, 0), (24, .aload_n 0, 1, 0, 0), (25, .iload_n 2, 1, 0, 0), (26, .invokevirtual 174, 3, 100, 1), (29, .aload_n 0, 1, 0, 0), (30, .iload_n 1, 1, 0, 0), (31, .invokevirtual 174, 3, 100, 1), (34, .return_, 1, 0, 0)]
def mK109 : List mI := [(0, .aload_n 0, 1, 0, 0), (1, .getfield 43, 3, 6, 25), (4, .aload_n 0, 1, 0, 0), (5, .getfield 184, 3, 6, 24), (8, .iload_n 1, 1, 0, 0), (9, .iastore, 1, 0, 0), (10, .aload_n 0, 1, 0, 0), (11, .getfield 46, 3, 6, 26), (14, .aload_n 0, 1, 0, 0), (15, .getfield 184, 3, 6, 24), (18, .iload_n 2, 1, 0, 0), (19, .iastore, 1, 0, 0), (20, .aload_n 0, 1, 0, 0), (21, .dup, 1, 0, 0), (22, .getfield 184, 3, 6, 24), (25, .iconst 1, 1, 0, 0), (26, .iadd, 1, 0, 0), (27, .putfield 184, 3, 6, 24), (30, .return_, 1, 0, 0)]
def mK110 : List mI := [(0, .aload_n 0, 1, 0, 0), (1, .getfield 19, 3, 6, 12), (4, .aload_n 0, 1, 0, 0), (5, .getfield 181, 3, 6, 13), (8, .iload_n 1, 1, 0, 0), (9, .iastore, 1, 0, 0), (10, .aload_n 0, 1, 0, 0), (11, .dup, 1, 0, 0), (12, .getfield 181, 3, 6, 13), (15, .iconst 1, 1, 0, 0), (16, .iadd, 1, 0, 0), (17, .putfield 181, 3, 6, 13), (20, .return_, 1, 0, 0)]
def mK111 : List mI := [(0, .aload_n 0, 1, 0, 0), (1, .getfield 148, 3, 6, 4), (4, .istore_n 1, 1, 0, 0), (5, .aload_n 0, 1, 0, 0), (6, .getfield 133, 3, 6, 5), (9, .aload_n 0, 1, 0, 0), (10, .getfield 148, 3, 6, 4), (13, .isub, 1, 0, 0), (14, .istore_n 2, 1, 0, 0), (15, .aload_n 0, 1, 0, 0), (16, .invokevirtual 187, 3, 92, 0), (19, .aload_n 0, 1, 0, 0), (20, .getfield 142, 3, 6, 3), (23, .iconst 3, 1, 0, 0), (24, .if_icmp .eq 37, 3, 0, 0), (27, .aload_n 0, 1, 0, 0), (28, .iload_n 1, 1, 0, 0), (29, .iload_n 2, 1, 0, 0), (30, .invokevirtual 208, 3, 112, 2), (33, .istore_n 3, 1, 0, 0), (34, .iload_n 3, 1, 0, 0), (35, .ifCond .ge 9, 3, 0, 0), (38, .aload_n 0, 1, 0, 0), (39, .iload_n 1, 1, 0, 0), (40, .invokevirtual 190, 3, 103, 1), (43, .return_, 1, 0, 0), (44, .aload_n 0, 1, 0, 0), (45, .iconst 2, 1, 0, 0), (46, .iload_n 3, 1, 0, 0), (47, .invokevirtual 221, 3, 109, 2), (50, .aload_n 0, 1, 0, 0), (51, .aload_n 0, 1, 0, 0), (52, .getfield 40, 3, 6, 23), (55, .iload_n 3, 1, 0, 0), (56, .iaload, 1, 0, 0), (57, .invokevirtual 275, 3, 110, 1), (60, .return_, 1, 0, 0), (61, .aload_n 0, 1, 0, 0), (62, .iload_n 1, 1, 0, 0), (63, .iload_n 2, 1, 0, 0), (64, .invokevirtual 205, 3, 114, 2), (67, .istore_n 3, 1, 0, 0), (68, .iload_n 3, 1, 0, 0), (69, .ifCond .ge 9, 3, 0, 0), (72, .aload_n 0, 1, 0, 0), (73, .iload_n 1, 1, 0, 0), (74, .invokevirtual 190, 3, 103, 1), (77, .return_, 1, 0, 0), (78, .aload_n 0, 1, 0, 0), (79, .iload_n 3, 1, 0, 0), (80, .invokevirtual 214, 3, 107, 1), (83, .aload_n 0, 1, 0, 0), (84, .iload_n 1, 1, 0, 0), (85, .invokevirtual 214, 3, 107, 1), (88, .aload_n 0, 1, 0, 0), (89, .iconst 0, 1, 0, 0), (90, .invokevirtual 214, 3, 107, 1), (93, .aload_n 0, 1, 0, 0), (94, .sipush 203, 3, 0, 0), (97, .bipush 88, 2, 0, 0), (99, .bipush 87, 2, 0, 0), (101, .iconst 0, 1, 0, 0), (102, .invokevirtual 217, 3, 108, 4), (105, .return_, 1, 0, 0)]
def mK112 : List mI := [(0, .iconst (-1), 1, 0, 0), (1, .istore_n 3, 1, 0, 0), (2, .iconst 0, 1, 0, 0), (3, .istore 4, 2, 0, 0), (5, .iload 4, 2, 0, 0), (7, .aload_n 0, 1, 0, 0), (8, .getfield 202, 3, 6, 20), (11, .if_icmp .ge 43, 3, 0, 0), (14, .aload_n 0, 1, 0, 0), (15, .getfield 37, 3, 6, 22), (18, .iload 4, 2, 0, 0), (20, .iaload, 1, 0, 0), (21, .iload_n 2, 1, 0, 0), (22, .if_icmp .ne 24, 3, 0, 0), (25, .aload_n 0, 1, 0, 0), (26, .aload_n 0, 1, 0, 0), (27, .getfield 34, 3, 6, 21), (30, .iload 4, 2, 0, 0), (32, .iaload, 1, 0, 0), (33, .iload_n 1, 1, 0, 0), (34, .iload_n 2, 1, 0, 0), (35, .invokevirtual 199, 3, 113, 3), (38, .ifCond .eq 8, 3, 0, 0), (41, .iload 4, 2, 0, 0), (43, .goto 4, 3, 0, 0), (46, .iload_n 3, 1, 0, 0), (47, .istore_n 3, 1, 0, 0), (48, .iinc 4 1, 3, 0, 0), (51, .goto (-46), 3, 0, 0), (54, .iload_n 3, 1, 0, 0), (55, .ireturn, 1, 0, 0)]
def mK113 : List mI := [(0, .iconst 1, 1, 0, 0), (1, .istore 4, 2, 0, 0), (3, .iconst 0, 1, 0, 0), (4, .istore 5, 2, 0, 0), (6, .iload 5, 2, 0, 0), (8, .iload_n 3, 1, 0, 0), (9, .if_icmp .ge 42, 3, 0, 0), (12, .iload 4, 2, 0, 0), (14, .ifCond .eq 28, 3, 0, 0), (17, .aload_n 0, 1, 0, 0), (18, .getfield 7, 3, 6, 1), (21, .iload_n 1, 1, 0, 0), (22, .iload 5, 2, 0, 0), (24, .iadd, 1, 0, 0), (25, .iaload, 1, 0, 0), (26, .aload_n 0, 1, 0, 0), (27, .getfield 7, 3, 6, 1), (30, .iload_n 2, 1, 0, 0), (31, .iload 5, 2, 0, 0), (33, .iadd, 1, 0, 0), (34, .iaload, 1, 0, 0), (35, .if_icmp .ne 7, 3, 0, 0), (38, .iconst 1, 1, 0, 0), (39, .goto 4, 3, 0, 0), (42, .iconst 0, 1, 0, 0), (43, .istore 4, 2, 0, 0), (45, .iinc 5 1, 3, 0, 0), (48, .goto (-42), 3, 0, 0), (51, .iload 4, 2, 0, 0), (53, .ireturn, 1, 0, 0)]
def mK114 : List mI := [(0, .iconst (-1), 1, 0, 0), (1, .istore_n 3, 1, 0, 0), (2, .iconst 0, 1, 0, 0), (3, .istore 4, 2, 0, 0), (5, .iload 4, 2, 0, 0), (7, .aload_n 0, 1, 0, 0), (8, .getfield 196, 3, 6, 15), (11, .if_icmp .ge 43, 3, 0, 0), (14, .aload_n 0, 1, 0, 0), (15, .getfield 25, 3, 6, 17), (18, .iload 4, 2, 0, 0), (20, .iaload, 1, 0, 0), (21, .iload_n 2, 1, 0, 0), (22, .if_icmp .ne 24, 3, 0, 0), (25, .aload_n 0, 1, 0, 0), (26, .aload_n 0, 1, 0, 0), (27, .getfield 22, 3, 6, 16), (30, .iload 4, 2, 0, 0), (32, .iaload, 1, 0, 0), (33, .iload_n 1, 1, 0, 0), (34, .iload_n 2, 1, 0, 0), (35, .invokevirtual 199, 3, 113, 3), (38, .ifCond .eq 8, 3, 0, 0), (41, .iload 4, 2, 0, 0), (43, .goto 4, 3, 0, 0), (46, .iload_n 3, 1, 0, 0), (47, .istore_n 3, 1, 0, 0), (48, .iinc 4 1, 3, 0, 0), (51, .goto (-46), 3, 0, 0), (54, .iload_n 3, 1, 0, 0), (55, .ireturn, 1, 0, 0)]
def mK115 : List mI := [(0, .aload_n 0, 1, 0, 0), (1, .dup, 1, 0, 0), (2, .getfield 178, 3, 6, 11), (5, .iconst 1, 1, 0, 0), (6, .isub, 1, 0, 0), (7, .putfield 178, 3, 6, 11), (10, .aload_n 0, 1, 0, 0), (11, .getfield 16, 3, 6, 10), (14, .aload_n 0, 1, 0, 0), (15, .getfield 178, 3, 6, 11), (18, .iaload, 1, 0, 0), (19, .ireturn, 1, 0, 0)]
def mK116 : List mI := [(0, .aload_n 0, 1, 0, 0), (1, .invokevirtual 234, 3, 117, 0), (4, .iload_n 1, 1, 0, 0), (5, .if_icmp .eq 8, 3, 0, 0), (8, .aload_n 0, 1, 0, 0), (9, .iload_n 2, 1, 0, 0), (10, .invokevirtual 190, 3, 103, 1), (13, .return_, 1, 0, 0)]
def mK117 : List mI := [(0, .aload_n 0, 1, 0, 0), (1, .dup, 1, 0, 0), (2, .getfield 181, 3, 6, 13), (5, .iconst 1, 1, 0, 0), (6, .isub, 1, 0, 0), (7, .putfield 181, 3, 6, 13), (10, .aload_n 0, 1, 0, 0), (11, .getfield 19, 3, 6, 12), (14, .aload_n 0, 1, 0, 0), (15, .getfield 181, 3, 6, 13), (18, .iaload, 1, 0, 0), (19, .ireturn, 1, 0, 0)]
def mK118 : List mI := [(0, .aload_n 0, 1, 0, 0), (1, .getfield 142, 3, 6, 3), (4, .iconst 4, 1, 0, 0), (5, .if_icmp .eq 12, 3, 0, 0), (8, .aload_n 0, 1, 0, 0), (9, .aload_n 0, 1, 0, 0), (10, .getfield 148, 3, 6, 4), (13, .invokevirtual 190, 3, 103, 1), (16, .return_, 1, 0, 0), (17, .aload_n 0, 1, 0, 0), (18, .invokevirtual 238, 3, 115, 0), (21, .istore_n 1, 1, 0, 0), (22, .aload_n 0, 1, 0, 0), (23, .invokevirtual 238, 3, 115, 0), (26, .istore_n 2, 1, 0, 0), (27, .aload_n 0, 1, 0, 0), (28, .invokevirtual 238, 3, 115, 0), (31, .istore_n 3, 1, 0, 0), (32, .iload_n 1, 1, 0, 0), (33, .aload_n 0, 1, 0, 0), (34, .getfield 31, 3, 6, 19), (37, .iload_n 3, 1, 0, 0), (38, .iaload, 1, 0, 0), (39, .if_icmp .eq 8, 3, 0, 0), (42, .aload_n 0, 1, 0, 0), (43, .iload_n 2, 1, 0, 0), (44, .invokevirtual 190, 3, 103, 1), (47, .aload_n 0, 1, 0, 0), (48, .dup, 1, 0, 0), (49, .getfield 193, 3, 6, 14), (52, .iconst 1, 1, 0, 0), (53, .isub, 1, 0, 0), (54, .putfield 193, 3, 6, 14), (57, .aload_n 0, 1, 0, 0), (58, .invokevirtual 187, 3, 92, 0), (61, .aload_n 0, 1, 0, 0), (62, .bipush 8, 2, 0, 0), (64, .iload_n 3, 1, 0, 0), (65, .invokevirtual 221, 3, 109, 2), (68, .aload_n 0, 1, 0, 0), (69, .iconst 1, 1, 0, 0), (70, .invokevirtual 275, 3, 110, 1), (73, .return_, 1, 0, 0)]
def mK119 : List mI := [(0, .iload_n 1, 1, 0, 0), (1, .tableswitch 341 60 84 #[115, 341, 341, 341, 341, 341, 341, 341, 341, 341, 128, 157, 341, 324, 170, 199, 333, 341, 212, 236, 341, 249, 286, 341, 299], 115, 0, 0), (116, .aload_n 0, 1, 0, 0), (117, .bipush 71, 2, 0, 0), (119, .bipush 70, 2, 0, 0), (121, .iconst 0, 1, 0, 0), (122, .iconst 0, 1, 0, 0), (123, .invokevirtual 217, 3, 108, 4), (126, .goto 221, 3, 0, 0), (129, .aload_n 0, 1, 0, 0), (130, .aload_n 0, 1, 0, 0), (131, .getfield 142, 3, 6, 3), (134, .bipush 23, 2, 0, 0), (136, .if_icmp .ne 7, 3, 0, 0), (139, .iconst 1, 1, 0, 0), (140, .goto 4, 3, 0, 0), (143, .iconst 0, 1, 0, 0), (144, .bipush 73, 2, 0, 0), (146, .bipush 71, 2, 0, 0), (148, .bipush 72, 2, 0, 0), (150, .bipush 70, 2, 0, 0), (152, .invokevirtual 268, 3, 120, 5), (155, .goto 192, 3, 0, 0), (158, .aload_n 0, 1, 0, 0), (159, .bipush 75, 2, 0, 0), (161, .bipush 74, 2, 0, 0), (163, .iconst 0, 1, 0, 0), (164, .iconst 0, 1, 0, 0), (165, .invokevirtual 217, 3, 108, 4), (168, .goto 179, 3, 0, 0), (171, .aload_n 0, 1, 0, 0), (172, .aload_n 0, 1, 0, 0), (173, .getfield 142, 3, 6, 3), (176, .bipush 22, 2, 0, 0), (178, .if_icmp .ne 7, 3, 0, 0), (181, .iconst 1, 1, 0, 0), (182, .goto 4, 3, 0, 0), (185, .iconst 0, 1, 0, 0), (186, .bipush 76, 2, 0, 0), (188, .bipush 75, 2, 0, 0), (190, .bipush 77, 2, 0, 0), (192, .bipush 74, 2, 0, 0), (194, .invokevirtual 268, 3, 120, 5), (197, .goto 150, 3, 0, 0), (200, .aload_n 0, 1, 0, 0), (201, .bipush 79, 2, 0, 0), (203, .bipush 78, 2, 0, 0), (205, .iconst 0, 1, 0, 0), (206, .iconst 0, 1, 0, 0), (207, .invokevirtual 217, 3, 108, 4), (210, .goto 137, 3, 0, 0), (213, .aload_n 0, 1, 0, 0), (214, .aload_n 0, 1, 0, 0), (215, .getfield 142, 3, 6, 3), (218, .bipush 12, 2, 0, 0), (220, .bipush 15, 2, 0, 0), (222, .invokestatic 93, 3, 90, 3), (225, .bipush 79, 2, 0, 0), (227, .bipush 80, 2, 0, 0), (229, .iconst 0, 1, 0, 0), (230, .iconst 0, 1, 0, 0), (231, .invokevirtual 268, 3, 120, 5), (234, .goto 113, 3, 0, 0), (237, .aload_n 0, 1, 0, 0), (238, .bipush 82, 2, 0, 0), (240, .bipush 81, 2, 0, 0), (242, .iconst 0, 1, 0, 0), (243, .iconst 0, 1, 0, 0), (244, .invokevirtual 217, 3, 108, 4), (247, .goto 100, 3, 0, 0), (250, .aload_n 0, 1, 0, 0), (251, .aload_n 0, 1, 0, 0), (252, .getfield 142, 3, 6, 3), (255, .bipush 16, 2, 0, 0), (257, .if_icmp .eq 12, 3, 0, 0), (260, .aload_n 0, 1, 0, 0), (261, .getfield 142, 3, 6, 3), (264, .bipush 17, 2, 0, 0), (266, .if_icmp .ne 7, 3, 0, 0), (269, .iconst 1, 1, 0, 0), (270, .goto 4, 3, 0, 0), (273, .iconst 0, 1, 0, 0), (274, .bipush 82, 2, 0, 0), (276, .bipush 83, 2, 0, 0), (278, .iconst 0, 1, 0, 0), (279, .bipush 81, 2, 0, 0), (281, .invokevirtual 268, 3, 120, 5), (284, .goto 63, 3, 0, 0), (287, .aload_n 0, 1, 0, 0), (288, .bipush 85, 2, 0, 0), (290, .bipush 84, 2, 0, 0), (292, .iconst 0, 1, 0, 0), (293, .iconst 0, 1, 0, 0), (294, .invokevirtual 217, 3, 108, 4), (297, .goto 50, 3, 0, 0), (300, .aload_n 0, 1, 0, 0), (301, .aload_n 0, 1, 0, 0), (302, .getfield 142, 3, 6, 3), (305, .bipush 18, 2, 0, 0), (307, .bipush 20, 2, 0, 0), (309, .invokestatic 93, 3, 90, 3), (312, .bipush 85, 2, 0, 0), (314, .bipush 83, 2, 0, 0), (316, .iconst 0, 1, 0, 0), (317, .bipush 84, 2, 0, 0), (319, .invokevirtual 268, 3, 120, 5), (322, .goto 25, 3, 0, 0), (325, .aload_n 0, 1, 0, 0), (326, .bipush 6, 2, 0, 0), (328, .invokevirtual 244, 3, 121, 1), (331, .goto 16, 3, 0, 0), (334, .aload_n 0, 1, 0, 0), (335, .iconst 5, 1, 0, 0), (336, .invokevirtual 244, 3, 121, 1), (339, .goto 8, 3, 0, 0), (342, .aload_n 0, 1, 0, 0), (343, .iload_n 1, 1, 0, 0), (344, .invokevirtual 272, 3, 122, 1), (347, .return_, 1, 0, 0)]
def mK120 : List mI := [(0, .iload_n 1, 1, 0, 0), (1, .ifCond .ne 4, 3, 0, 0), (4, .return_, 1, 0, 0), (5, .aload_n 0, 1, 0, 0), (6, .aload_n 0, 1, 0, 0), (7, .getfield 142, 3, 6, 3), (10, .invokevirtual 214, 3, 107, 1), (13, .aload_n 0, 1, 0, 0), (14, .aload_n 0, 1, 0, 0), (15, .getfield 148, 3, 6, 4), (18, .invokevirtual 214, 3, 107, 1), (21, .iload 5, 2, 0, 0), (23, .ifCond .le 9, 3, 0, 0), (26, .aload_n 0, 1, 0, 0), (27, .iload 5, 2, 0, 0), (29, .invokevirtual 174, 3, 100, 1), (32, .aload_n 0, 1, 0, 0), (33, .aload_n 0, 1, 0, 0), (34, .getfield 142, 3, 6, 3), (37, .iload_n 2, 1, 0, 0), (38, .iload_n 3, 1, 0, 0), (39, .iload 4, 2, 0, 0), (41, .invokevirtual 217, 3, 108, 4), (44, .return_, 1, 0, 0)]
def mK121 : List mI := [(0, .aload_n 0, 1, 0, 0), (1, .aload_n 0, 1, 0, 0), (2, .getfield 184, 3, 6, 24), (5, .invokevirtual 214, 3, 107, 1), (8, .aload_n 0, 1, 0, 0), (9, .iload_n 1, 1, 0, 0), (10, .iconst 0, 1, 0, 0), (11, .invokevirtual 221, 3, 109, 2), (14, .return_, 1, 0, 0)]
def mK122 : List mI := [(0, .iload_n 1, 1, 0, 0), (1, .bipush 72, 2, 0, 0), (3, .if_icmp .eq 9, 3, 0, 0), (6, .iload_n 1, 1, 0, 0), (7, .bipush 77, 2, 0, 0), (9, .if_icmp .ne 10, 3, 0, 0), (12, .aload_n 0, 1, 0, 0), (13, .invokevirtual 238, 3, 115, 0), (16, .goto 4, 3, 0, 0), (19, .iconst (-1), 1, 0, 0), (20, .istore_n 2, 1, 0, 0), (21, .aload_n 0, 1, 0, 0), (22, .invokevirtual 238, 3, 115, 0), (25, .istore_n 3, 1, 0, 0), (26, .aload_n 0, 1, 0, 0), (27, .invokevirtual 238, 3, 115, 0), (30, .istore 4, 2, 0, 0), (32, .aload_n 0, 1, 0, 0), (33, .invokevirtual 234, 3, 117, 0), (36, .istore 5, 2, 0, 0), (38, .aload_n 0, 1, 0, 0), (39, .invokevirtual 234, 3, 117, 0), (42, .istore 6, 2, 0, 0), (44, .iload 4, 2, 0, 0), (46, .bipush 12, 2, 0, 0), (48, .if_icmp .eq 10, 3, 0, 0), (51, .iload 4, 2, 0, 0), (53, .bipush 13, 2, 0, 0), (55, .if_icmp .ne 7, 3, 0, 0), (58, .iconst 1, 1, 0, 0), (59, .goto 4, 3, 0, 0), (62, .iconst 0, 1, 0, 0), (63, .istore 7, 2, 0, 0), (65, .iload_n 2, 1, 0, 0), (66, .ifCond .lt 7, 3, 0, 0), (69, .iconst 2, 1, 0, 0), (70, .goto 4, 3, 0, 0), (73, .iconst 1, 1, 0, 0), (74, .istore 8, 2, 0, 0), (76, .iload 7, 2, 0, 0), (78, .ifCond .eq 13, 3, 0, 0), (81, .iload 6, 2, 0, 0), (83, .iload 5, 2, 0, 0), (85, .if_icmp .eq 25, 3, 0, 0), (88, .goto 17, 3, 0, 0), (91, .iload 6, 2, 0, 0), (93, .iload 8, 2, 0, 0), (95, .if_icmp .ne 10, 3, 0, 0), (98, .iload 5, 2, 0, 0), (100, .iload 8, 2, 0, 0), (102, .if_icmp .eq 8, 3, 0, 0), (105, .aload_n 0, 1, 0, 0), (106, .iload_n 3, 1, 0, 0), (107, .invokevirtual 190, 3, 103, 1), (110, .iload_n 2, 1, 0, 0), (111, .ifCond .lt 11, 3, 0, 0), (114, .aload_n 0, 1, 0, 0), (115, .iload_n 2, 1, 0, 0), (116, .invokevirtual 247, 3, 123, 1), (119, .goto 10, 3, 0, 0), (122, .aload_n 0, 1, 0, 0), (123, .iconst 4, 1, 0, 0), (124, .iload 4, 2, 0, 0), (126, .invokevirtual 221, 3, 109, 2), (129, .aload_n 0, 1, 0, 0), (130, .iload_n 1, 1, 0, 0), (131, .bipush 83, 2, 0, 0), (133, .if_icmp .ne 7, 3, 0, 0), (136, .iconst 1, 1, 0, 0), (137, .goto 4, 3, 0, 0), (140, .iconst 2, 1, 0, 0), (141, .invokevirtual 275, 3, 110, 1), (144, .return_, 1, 0, 0)]
def mK123 : List mI := [(0, .aload_n 0, 1, 0, 0), (1, .getfield 46, 3, 6, 26), (4, .iload_n 1, 1, 0, 0), (5, .aload_n 0, 1, 0, 0), (6, .getfield 184, 3, 6, 24), (9, .iastore, 1, 0, 0), (10, .return_, 1, 0, 0)]
def mK124 : List mI := [(0, .iload_n 1, 1, 0, 0), (1, .tableswitch 267 53 67 #[75, 82, 89, 120, 146, 127, 183, 267, 165, 241, 234, 248, 267, 223, 216], 75, 0, 0), (76, .aload_n 0, 1, 0, 0), (77, .invokevirtual 250, 3, 125, 0), (80, .goto 204, 3, 0, 0), (83, .aload_n 0, 1, 0, 0), (84, .invokevirtual 253, 3, 127, 0), (87, .goto 197, 3, 0, 0), (90, .aload_n 0, 1, 0, 0), (91, .invokevirtual 238, 3, 115, 0), (94, .istore_n 2, 1, 0, 0), (95, .aload_n 0, 1, 0, 0), (96, .invokevirtual 238, 3, 115, 0), (99, .istore_n 3, 1, 0, 0), (100, .aload_n 0, 1, 0, 0), (101, .aload_n 0, 1, 0, 0), (102, .getfield 40, 3, 6, 23), (105, .iload_n 3, 1, 0, 0), (106, .iaload, 1, 0, 0), (107, .iload_n 2, 1, 0, 0), (108, .invokevirtual 241, 3, 116, 2), (111, .aload_n 0, 1, 0, 0), (112, .bipush 9, 2, 0, 0), (114, .iload_n 3, 1, 0, 0), (115, .invokevirtual 221, 3, 109, 2), (118, .goto 166, 3, 0, 0), (121, .aload_n 0, 1, 0, 0), (122, .invokevirtual 256, 3, 128, 0), (125, .goto 159, 3, 0, 0), (128, .aload_n 0, 1, 0, 0), (129, .iconst 1, 1, 0, 0), (130, .aload_n 0, 1, 0, 0), (131, .getfield 16, 3, 6, 10), (134, .aload_n 0, 1, 0, 0), (135, .getfield 178, 3, 6, 11), (138, .iconst 1, 1, 0, 0), (139, .isub, 1, 0, 0), (140, .iaload, 1, 0, 0), (141, .invokevirtual 241, 3, 116, 2), (144, .goto 140, 3, 0, 0), (147, .aload_n 0, 1, 0, 0), (148, .iconst 1, 1, 0, 0), (149, .aload_n 0, 1, 0, 0), (150, .invokevirtual 238, 3, 115, 0), (153, .invokevirtual 241, 3, 116, 2), (156, .aload_n 0, 1, 0, 0), (157, .bipush 10, 2, 0, 0), (159, .iconst 0, 1, 0, 0), (160, .invokevirtual 221, 3, 109, 2), (163, .goto 121, 3, 0, 0), (166, .aload_n 0, 1, 0, 0), (167, .iconst 2, 1, 0, 0), (168, .aload_n 0, 1, 0, 0), (169, .invokevirtual 238, 3, 115, 0), (172, .invokevirtual 241, 3, 116, 2), (175, .aload_n 0, 1, 0, 0), (176, .bipush 11, 2, 0, 0), (178, .invokevirtual 244, 3, 121, 1), (181, .goto 103, 3, 0, 0), (184, .aload_n 0, 1, 0, 0), (185, .getfield 142, 3, 6, 3), (188, .bipush 29, 2, 0, 0), (190, .if_icmp .ne 18, 3, 0, 0), (193, .aload_n 0, 1, 0, 0), (194, .bipush 29, 2, 0, 0), (196, .bipush 67, 2, 0, 0), (198, .bipush 48, 2, 0, 0), (200, .bipush 66, 2, 0, 0), (202, .invokevirtual 217, 3, 108, 4), (205, .goto 79, 3, 0, 0), (208, .aload_n 0, 1, 0, 0), (209, .bipush 66, 2, 0, 0), (211, .invokevirtual 174, 3, 100, 1), (214, .goto 70, 3, 0, 0), (217, .aload_n 0, 1, 0, 0), (218, .invokevirtual 259, 3, 129, 0), (221, .goto 63, 3, 0, 0), (224, .aload_n 0, 1, 0, 0), (225, .aload_n 0, 1, 0, 0), (226, .invokevirtual 238, 3, 115, 0), (229, .invokevirtual 247, 3, 123, 1), (232, .goto 52, 3, 0, 0), (235, .aload_n 0, 1, 0, 0), (236, .invokevirtual 262, 3, 130, 0), (239, .goto 45, 3, 0, 0), (242, .aload_n 0, 1, 0, 0), (243, .invokevirtual 265, 3, 131, 0), (246, .goto 38, 3, 0, 0), (249, .aload_n 0, 1, 0, 0), (250, .iconst 1, 1, 0, 0), (251, .aload_n 0, 1, 0, 0), (252, .invokevirtual 238, 3, 115, 0), (255, .invokevirtual 241, 3, 116, 2), (258, .aload_n 0, 1, 0, 0), (259, .bipush 13, 2, 0, 0), (261, .iconst 0, 1, 0, 0), (262, .invokevirtual 221, 3, 109, 2), (265, .goto 19, 3, 0, 0), (268, .aload_n 0, 1, 0, 0), (269, .iconst 2, 1, 0, 0), (270, .aload_n 0, 1, 0, 0), (271, .invokevirtual 238, 3, 115, 0), (274, .invokevirtual 241, 3, 116, 2), (277, .aload_n 0, 1, 0, 0), (278, .bipush 14, 2, 0, 0), (280, .iconst 0, 1, 0, 0), (281, .invokevirtual 221, 3, 109, 2), (284, .return_, 1, 0, 0)]
def mK125 : List mI := [(0, .aload_n 0, 1, 0, 0), (1, .invokevirtual 238, 3, 115, 0), (4, .istore_n 1, 1, 0, 0), (5, .aload_n 0, 1, 0, 0), (6, .invokevirtual 238, 3, 115, 0), (9, .istore_n 2, 1, 0, 0), (10, .aload_n 0, 1, 0, 0), (11, .invokevirtual 234, 3, 117, 0), (14, .istore_n 3, 1, 0, 0), (15, .aload_n 0, 1, 0, 0), (16, .iload_n 2, 1, 0, 0), (17, .iload_n 1, 1, 0, 0), (18, .iload_n 3, 1, 0, 0), (19, .invokevirtual 211, 3, 126, 3), (22, .aload_n 0, 1, 0, 0), (23, .bipush 9, 2, 0, 0), (25, .aload_n 0, 1, 0, 0), (26, .getfield 202, 3, 6, 20), (29, .iconst 1, 1, 0, 0), (30, .isub, 1, 0, 0), (31, .invokevirtual 221, 3, 109, 2), (34, .return_, 1, 0, 0)]
def mK126 : List mI := [(0, .aload_n 0, 1, 0, 0), (1, .getfield 34, 3, 6, 21), (4, .aload_n 0, 1, 0, 0), (5, .getfield 202, 3, 6, 20), (8, .iload_n 1, 1, 0, 0), (9, .iastore, 1, 0, 0), (10, .aload_n 0, 1, 0, 0), (11, .getfield 37, 3, 6, 22), (14, .aload_n 0, 1, 0, 0), (15, .getfield 202, 3, 6, 20), (18, .iload_n 2, 1, 0, 0), (19, .iastore, 1, 0, 0), (20, .aload_n 0, 1, 0, 0), (21, .getfield 40, 3, 6, 23), (24, .aload_n 0, 1, 0, 0), (25, .getfield 202, 3, 6, 20), (28, .iload_n 3, 1, 0, 0), (29, .iastore, 1, 0, 0), (30, .aload_n 0, 1, 0, 0), (31, .dup, 1, 0, 0), (32, .getfield 202, 3, 6, 20), (35, .iconst 1, 1, 0, 0), (36, .iadd, 1, 0, 0), (37, .putfield 202, 3, 6, 20), (40, .return_, 1, 0, 0)]
def mK127 : List mI := [(0, .aload_n 0, 1, 0, 0), (1, .getfield 142, 3, 6, 3), (4, .iconst 1, 1, 0, 0), (5, .if_icmp .ne 32, 3, 0, 0), (8, .aload_n 0, 1, 0, 0), (9, .aload_n 0, 1, 0, 0), (10, .getfield 148, 3, 6, 4), (13, .aload_n 0, 1, 0, 0), (14, .getfield 133, 3, 6, 5), (17, .aload_n 0, 1, 0, 0), (18, .getfield 148, 3, 6, 4), (21, .isub, 1, 0, 0), (22, .invokevirtual 208, 3, 112, 2), (25, .ifCond .ge 12, 3, 0, 0), (28, .aload_n 0, 1, 0, 0), (29, .getfield 202, 3, 6, 20), (32, .bipush 8, 2, 0, 0), (34, .if_icmp .ne 12, 3, 0, 0), (37, .aload_n 0, 1, 0, 0), (38, .aload_n 0, 1, 0, 0), (39, .getfield 148, 3, 6, 4), (42, .invokevirtual 190, 3, 103, 1), (45, .return_, 1, 0, 0), (46, .aload_n 0, 1, 0, 0), (47, .aload_n 0, 1, 0, 0), (48, .getfield 148, 3, 6, 4), (51, .invokevirtual 214, 3, 107, 1), (54, .aload_n 0, 1, 0, 0), (55, .aload_n 0, 1, 0, 0), (56, .getfield 133, 3, 6, 5), (59, .aload_n 0, 1, 0, 0), (60, .getfield 148, 3, 6, 4), (63, .isub, 1, 0, 0), (64, .invokevirtual 214, 3, 107, 1), (67, .aload_n 0, 1, 0, 0), (68, .invokevirtual 187, 3, 92, 0), (71, .return_, 1, 0, 0)]
def mK128 : List mI := [(0, .aload_n 0, 1, 0, 0), (1, .aload_n 0, 1, 0, 0), (2, .getfield 148, 3, 6, 4), (5, .aload_n 0, 1, 0, 0), (6, .getfield 133, 3, 6, 5), (9, .aload_n 0, 1, 0, 0), (10, .getfield 148, 3, 6, 4), (13, .isub, 1, 0, 0), (14, .invokevirtual 208, 3, 112, 2), (17, .istore_n 1, 1, 0, 0), (18, .iload_n 1, 1, 0, 0), (19, .ifCond .ge 12, 3, 0, 0), (22, .aload_n 0, 1, 0, 0), (23, .aload_n 0, 1, 0, 0), (24, .getfield 148, 3, 6, 4), (27, .invokevirtual 190, 3, 103, 1), (30, .return_, 1, 0, 0), (31, .aload_n 0, 1, 0, 0), (32, .iload_n 1, 1, 0, 0), (33, .invokevirtual 214, 3, 107, 1), (36, .aload_n 0, 1, 0, 0), (37, .aload_n 0, 1, 0, 0), (38, .getfield 148, 3, 6, 4), (41, .invokevirtual 214, 3, 107, 1), (44, .aload_n 0, 1, 0, 0), (45, .invokevirtual 187, 3, 92, 0), (48, .return_, 1, 0, 0)]
def mK129 : List mI := [(0, .aload_n 0, 1, 0, 0), (1, .invokevirtual 238, 3, 115, 0), (4, .istore_n 1, 1, 0, 0), (5, .aload_n 0, 1, 0, 0), (6, .bipush 12, 2, 0, 0), (8, .invokevirtual 244, 3, 121, 1), (11, .aload_n 0, 1, 0, 0), (12, .iload_n 1, 1, 0, 0), (13, .invokevirtual 247, 3, 123, 1), (16, .return_, 1, 0, 0)]
def mK130 : List mI := [(0, .aload_n 0, 1, 0, 0), (1, .invokevirtual 238, 3, 115, 0), (4, .istore_n 1, 1, 0, 0), (5, .aload_n 0, 1, 0, 0), (6, .iconst 2, 1, 0, 0), (7, .aload_n 0, 1, 0, 0), (8, .invokevirtual 238, 3, 115, 0), (11, .invokevirtual 241, 3, 116, 2), (14, .aload_n 0, 1, 0, 0), (15, .iload_n 1, 1, 0, 0), (16, .invokevirtual 214, 3, 107, 1), (19, .aload_n 0, 1, 0, 0), (20, .bipush 11, 2, 0, 0), (22, .invokevirtual 244, 3, 121, 1), (25, .return_, 1, 0, 0)]
def mK131 : List mI := [(0, .aload_n 0, 1, 0, 0), (1, .invokevirtual 238, 3, 115, 0), (4, .istore_n 1, 1, 0, 0), (5, .aload_n 0, 1, 0, 0), (6, .bipush 12, 2, 0, 0), (8, .aload_n 0, 1, 0, 0), (9, .invokevirtual 238, 3, 115, 0), (12, .invokevirtual 221, 3, 109, 2), (15, .aload_n 0, 1, 0, 0), (16, .iload_n 1, 1, 0, 0), (17, .invokevirtual 247, 3, 123, 1), (20, .return_, 1, 0, 0)]
def mK132 : List mI := [(0, .iload_n 1, 1, 0, 0), (1, .tableswitch 326 40 50 #[59, 72, 102, 152, 162, 169, 190, 197, 235, 326, 251], 59, 0, 0), (60, .aload_n 0, 1, 0, 0), (61, .bipush 42, 2, 0, 0), (63, .bipush 41, 2, 0, 0), (65, .iconst 0, 1, 0, 0), (66, .iconst 0, 1, 0, 0), (67, .invokevirtual 217, 3, 108, 4), (70, .goto 261, 3, 0, 0), (73, .aload_n 0, 1, 0, 0), (74, .getfield 142, 3, 6, 3), (77, .bipush 24, 2, 0, 0), (79, .if_icmp .ne 16, 3, 0, 0), (82, .aload_n 0, 1, 0, 0), (83, .bipush 42, 2, 0, 0), (85, .bipush 41, 2, 0, 0), (87, .iconst 0, 1, 0, 0), (88, .iconst 0, 1, 0, 0), (89, .invokevirtual 217, 3, 108, 4), (92, .goto 239, 3, 0, 0), (95, .aload_n 0, 1, 0, 0), (96, .iconst 0, 1, 0, 0), (97, .invokevirtual 174, 3, 100, 1), (100, .goto 231, 3, 0, 0), (103, .aload_n 0, 1, 0, 0), (104, .getfield 142, 3, 6, 3), (107, .bipush 24, 2, 0, 0), (109, .if_icmp .ne 20, 3, 0, 0), (112, .aload_n 0, 1, 0, 0), (113, .getfield 196, 3, 6, 15), (116, .bipush 8, 2, 0, 0), (118, .if_icmp .ne 11, 3, 0, 0), (121, .aload_n 0, 1, 0, 0), (122, .aload_n 0, 1, 0, 0), (123, .getfield 148, 3, 6, 4), (126, .invokevirtual 190, 3, 103, 1), (129, .aload_n 0, 1, 0, 0), (130, .iconst 4, 1, 0, 0), (131, .bipush 48, 2, 0, 0), (133, .bipush 43, 2, 0, 0), (135, .iconst 0, 1, 0, 0), (136, .invokevirtual 217, 3, 108, 4), (139, .aload_n 0, 1, 0, 0), (140, .bipush 24, 2, 0, 0), (142, .bipush 44, 2, 0, 0), (144, .iconst 3, 1, 0, 0), (145, .bipush 45, 2, 0, 0), (147, .invokevirtual 217, 3, 108, 4), (150, .goto 181, 3, 0, 0), (153, .aload_n 0, 1, 0, 0), (154, .bipush 15, 2, 0, 0), (156, .iconst 0, 1, 0, 0), (157, .invokevirtual 221, 3, 109, 2), (160, .goto 171, 3, 0, 0), (163, .aload_n 0, 1, 0, 0), (164, .invokevirtual 225, 3, 133, 0), (167, .goto 164, 3, 0, 0), (170, .aload_n 0, 1, 0, 0), (171, .getfield 142, 3, 6, 3), (174, .iconst 1, 1, 0, 0), (175, .if_icmp .ne 156, 3, 0, 0), (178, .aload_n 0, 1, 0, 0), (179, .bipush 46, 2, 0, 0), (181, .bipush 47, 2, 0, 0), (183, .iconst 0, 1, 0, 0), (184, .iconst 0, 1, 0, 0), (185, .invokevirtual 217, 3, 108, 4), (188, .goto 143, 3, 0, 0), (191, .aload_n 0, 1, 0, 0), (192, .invokevirtual 228, 3, 134, 0), (195, .goto 136, 3, 0, 0), (198, .aload_n 0, 1, 0, 0), (199, .getfield 142, 3, 6, 3), (202, .bipush 9, 2, 0, 0), (204, .if_icmp .ne 127, 3, 0, 0), (207, .aload_n 0, 1, 0, 0), (208, .getfield 31, 3, 6, 19), (211, .aload_n 0, 1, 0, 0), (212, .getfield 196, 3, 6, 15), (215, .iconst 1, 1, 0, 0), (216, .isub, 1, 0, 0), (217, .iaload, 1, 0, 0), (218, .iconst 3, 1, 0, 0), (219, .if_icmp .ge 112, 3, 0, 0), (222, .aload_n 0, 1, 0, 0), (223, .bipush 9, 2, 0, 0), (225, .bipush 46, 2, 0, 0), (227, .bipush 47, 2, 0, 0), (229, .iconst 0, 1, 0, 0), (230, .invokevirtual 217, 3, 108, 4), (233, .goto 98, 3, 0, 0), (236, .aload_n 0, 1, 0, 0), (237, .sipush 205, 3, 0, 0), (240, .bipush 50, 2, 0, 0), (242, .sipush 306, 3, 0, 0), (245, .iconst 0, 1, 0, 0), (246, .invokevirtual 217, 3, 108, 4), (249, .goto 82, 3, 0, 0), (252, .aload_n 0, 1, 0, 0), (253, .getfield 142, 3, 6, 3), (256, .bipush 25, 2, 0, 0), (258, .if_icmp .eq 56, 3, 0, 0), (261, .aload_n 0, 1, 0, 0), (262, .getfield 142, 3, 6, 3), (265, .iconst 1, 1, 0, 0), (266, .if_icmp .eq 48, 3, 0, 0), (269, .aload_n 0, 1, 0, 0), (270, .getfield 142, 3, 6, 3), (273, .bipush 26, 2, 0, 0), (275, .if_icmp .eq 39, 3, 0, 0), (278, .aload_n 0, 1, 0, 0), (279, .getfield 142, 3, 6, 3), (282, .bipush 28, 2, 0, 0), (284, .if_icmp .eq 30, 3, 0, 0), (287, .aload_n 0, 1, 0, 0), (288, .getfield 142, 3, 6, 3), (291, .bipush 30, 2, 0, 0), (293, .if_icmp .eq 21, 3, 0, 0), (296, .aload_n 0, 1, 0, 0), (297, .getfield 142, 3, 6, 3), (300, .bipush 31, 2, 0, 0), (302, .if_icmp .eq 12, 3, 0, 0), (305, .aload_n 0, 1, 0, 0), (306, .getfield 142, 3, 6, 3), (309, .bipush 32, 2, 0, 0), (311, .if_icmp .ne 20, 3, 0, 0), (314, .aload_n 0, 1, 0, 0), (315, .bipush 52, 2, 0, 0), (317, .bipush 50, 2, 0, 0), (319, .iconst 0, 1, 0, 0), (320, .iconst 0, 1, 0, 0), (321, .invokevirtual 217, 3, 108, 4), (324, .goto 7, 3, 0, 0), (327, .aload_n 0, 1, 0, 0), (328, .invokevirtual 231, 3, 135, 0), (331, .return_, 1, 0, 0)]
def mK133 : List mI := [(0, .aload_n 0, 1, 0, 0), (1, .getfield 142, 3, 6, 3), (4, .iconst 1, 1, 0, 0), (5, .if_icmp .ne 23, 3, 0, 0), (8, .aload_n 0, 1, 0, 0), (9, .aload_n 0, 1, 0, 0), (10, .getfield 148, 3, 6, 4), (13, .aload_n 0, 1, 0, 0), (14, .getfield 133, 3, 6, 5), (17, .aload_n 0, 1, 0, 0), (18, .getfield 148, 3, 6, 4), (21, .isub, 1, 0, 0), (22, .invokevirtual 205, 3, 114, 2), (25, .ifCond .lt 12, 3, 0, 0), (28, .aload_n 0, 1, 0, 0), (29, .aload_n 0, 1, 0, 0), (30, .getfield 148, 3, 6, 4), (33, .invokevirtual 190, 3, 103, 1), (36, .return_, 1, 0, 0), (37, .aload_n 0, 1, 0, 0), (38, .getfield 22, 3, 6, 16), (41, .aload_n 0, 1, 0, 0), (42, .getfield 196, 3, 6, 15), (45, .aload_n 0, 1, 0, 0), (46, .getfield 148, 3, 6, 4), (49, .iastore, 1, 0, 0), (50, .aload_n 0, 1, 0, 0), (51, .getfield 25, 3, 6, 17), (54, .aload_n 0, 1, 0, 0), (55, .getfield 196, 3, 6, 15), (58, .aload_n 0, 1, 0, 0), (59, .getfield 133, 3, 6, 5), (62, .aload_n 0, 1, 0, 0), (63, .getfield 148, 3, 6, 4), (66, .isub, 1, 0, 0), (67, .iastore, 1, 0, 0), (68, .aload_n 0, 1, 0, 0), (69, .getfield 28, 3, 6, 18), (72, .aload_n 0, 1, 0, 0), (73, .getfield 196, 3, 6, 15), (76, .aload_n 0, 1, 0, 0), (77, .getfield 184, 3, 6, 24), (80, .iastore, 1, 0, 0), (81, .aload_n 0, 1, 0, 0), (82, .getfield 31, 3, 6, 19), (85, .aload_n 0, 1, 0, 0), (86, .getfield 196, 3, 6, 15), (89, .iconst 0, 1, 0, 0), (90, .iastore, 1, 0, 0), (91, .aload_n 0, 1, 0, 0), (92, .dup, 1, 0, 0), (93, .getfield 196, 3, 6, 15), (96, .iconst 1, 1, 0, 0), (97, .iadd, 1, 0, 0), (98, .putfield 196, 3, 6, 15), (101, .aload_n 0, 1, 0, 0), (102, .iconst 0, 1, 0, 0), (103, .putfield 202, 3, 6, 20), (106, .aload_n 0, 1, 0, 0), (107, .invokevirtual 187, 3, 92, 0), (110, .return_, 1, 0, 0)]
def mK134 : List mI := [(0, .aload_n 0, 1, 0, 0), (1, .getfield 142, 3, 6, 3), (4, .iconst 1, 1, 0, 0), (5, .if_icmp .ne 23, 3, 0, 0), (8, .aload_n 0, 1, 0, 0), (9, .aload_n 0, 1, 0, 0), (10, .getfield 148, 3, 6, 4), (13, .aload_n 0, 1, 0, 0), (14, .getfield 133, 3, 6, 5), (17, .aload_n 0, 1, 0, 0), (18, .getfield 148, 3, 6, 4), (21, .isub, 1, 0, 0), (22, .invokevirtual 208, 3, 112, 2), (25, .ifCond .lt 12, 3, 0, 0), (28, .aload_n 0, 1, 0, 0), (29, .aload_n 0, 1, 0, 0), (30, .getfield 148, 3, 6, 4), (33, .invokevirtual 190, 3, 103, 1), (36, .return_, 1, 0, 0), (37, .aload_n 0, 1, 0, 0), (38, .aload_n 0, 1, 0, 0), (39, .getfield 148, 3, 6, 4), (42, .aload_n 0, 1, 0, 0), (43, .getfield 133, 3, 6, 5), (46, .aload_n 0, 1, 0, 0), (47, .getfield 148, 3, 6, 4), (50, .isub, 1, 0, 0), (51, .iconst 1, 1, 0, 0), (52, .invokevirtual 211, 3, 126, 3), (55, .aload_n 0, 1, 0, 0), (56, .getfield 31, 3, 6, 19), (59, .aload_n 0, 1, 0, 0), (60, .getfield 196, 3, 6, 15), (63, .iconst 1, 1, 0, 0), (64, .isub, 1, 0, 0), (65, .dup2, 1, 0, 0), (66, .iaload, 1, 0, 0), (67, .iconst 1, 1, 0, 0), (68, .iadd, 1, 0, 0), (69, .iastore, 1, 0, 0), (70, .aload_n 0, 1, 0, 0), (71, .invokevirtual 187, 3, 92, 0), (74, .return_, 1, 0, 0)]
def mK135 : List mI := [(0, .aload_n 0, 1, 0, 0), (1, .getfield 142, 3, 6, 3), (4, .bipush 25, 2, 0, 0), (6, .if_icmp .eq 19, 3, 0, 0), (9, .aload_n 0, 1, 0, 0), (10, .getfield 142, 3, 6, 3), (13, .iconst 1, 1, 0, 0), (14, .if_icmp .eq 11, 3, 0, 0), (17, .aload_n 0, 1, 0, 0), (18, .aload_n 0, 1, 0, 0), (19, .getfield 148, 3, 6, 4), (22, .invokevirtual 214, 3, 107, 1), (25, .aload_n 0, 1, 0, 0), (26, .getfield 142, 3, 6, 3), (29, .lookupswitch 217 #[(1, 84), (25, 59), (26, 108), (28, 146), (30, 170), (31, 202)], 59, 0, 0), (88, .aload_n 0, 1, 0, 0), (89, .bipush 60, 2, 0, 0), (91, .bipush 53, 2, 0, 0), (93, .bipush 10, 2, 0, 0), (95, .iconst 0, 1, 0, 0), (96, .invokevirtual 217, 3, 108, 4), (99, .aload_n 0, 1, 0, 0), (100, .bipush 25, 2, 0, 0), (102, .bipush 54, 2, 0, 0), (104, .bipush 11, 2, 0, 0), (106, .iconst 0, 1, 0, 0), (107, .invokevirtual 217, 3, 108, 4), (110, .goto 148, 3, 0, 0), (113, .aload_n 0, 1, 0, 0), (114, .bipush 55, 2, 0, 0), (116, .bipush 10, 2, 0, 0), (118, .iconst 0, 1, 0, 0), (119, .iconst 0, 1, 0, 0), (120, .invokevirtual 217, 3, 108, 4), (123, .aload_n 0, 1, 0, 0), (124, .bipush 56, 2, 0, 0), (126, .bipush 11, 2, 0, 0), (128, .bipush 60, 2, 0, 0), (130, .iconst 0, 1, 0, 0), (131, .invokevirtual 217, 3, 108, 4), (134, .goto 124, 3, 0, 0), (137, .aload_n 0, 1, 0, 0), (138, .bipush 60, 2, 0, 0), (140, .bipush 57, 2, 0, 0), (142, .bipush 10, 2, 0, 0), (144, .iconst 0, 1, 0, 0), (145, .invokevirtual 217, 3, 108, 4), (148, .aload_n 0, 1, 0, 0), (149, .bipush 58, 2, 0, 0), (151, .sipush 308, 3, 0, 0), (154, .bipush 11, 2, 0, 0), (156, .iconst 0, 1, 0, 0), (157, .invokevirtual 217, 3, 108, 4), (160, .aload_n 0, 1, 0, 0), (161, .bipush 26, 2, 0, 0), (163, .sipush 207, 3, 0, 0), (166, .bipush 60, 2, 0, 0), (168, .iconst 0, 1, 0, 0), (169, .invokevirtual 217, 3, 108, 4), (172, .goto 86, 3, 0, 0), (175, .aload_n 0, 1, 0, 0), (176, .bipush 48, 2, 0, 0), (178, .bipush 59, 2, 0, 0), (180, .iconst 0, 1, 0, 0), (181, .iconst 0, 1, 0, 0), (182, .invokevirtual 217, 3, 108, 4), (185, .aload_n 0, 1, 0, 0), (186, .bipush 28, 2, 0, 0), (188, .bipush 60, 2, 0, 0), (190, .bipush 61, 2, 0, 0), (192, .iconst 0, 1, 0, 0), (193, .invokevirtual 217, 3, 108, 4), (196, .goto 62, 3, 0, 0), (199, .aload_n 0, 1, 0, 0), (200, .aload_n 0, 1, 0, 0), (201, .getfield 184, 3, 6, 24), (204, .invokevirtual 214, 3, 107, 1), (207, .aload_n 0, 1, 0, 0), (208, .bipush 48, 2, 0, 0), (210, .bipush 62, 2, 0, 0), (212, .iconst 0, 1, 0, 0), (213, .iconst 0, 1, 0, 0), (214, .invokevirtual 217, 3, 108, 4), (217, .aload_n 0, 1, 0, 0), (218, .bipush 30, 2, 0, 0), (220, .bipush 60, 2, 0, 0), (222, .bipush 63, 2, 0, 0), (224, .iconst 0, 1, 0, 0), (225, .invokevirtual 217, 3, 108, 4), (228, .goto 30, 3, 0, 0), (231, .aload_n 0, 1, 0, 0), (232, .bipush 31, 2, 0, 0), (234, .bipush 60, 2, 0, 0), (236, .bipush 64, 2, 0, 0), (238, .bipush 10, 2, 0, 0), (240, .invokevirtual 217, 3, 108, 4), (243, .goto 15, 3, 0, 0), (246, .aload_n 0, 1, 0, 0), (247, .bipush 32, 2, 0, 0), (249, .bipush 60, 2, 0, 0), (251, .bipush 65, 2, 0, 0), (253, .bipush 10, 2, 0, 0), (255, .invokevirtual 217, 3, 108, 4), (258, .return_, 1, 0, 0)]
def mK136 : List mI := [(0, .aload_n 0, 1, 0, 0), (1, .aload_n 0, 1, 0, 0), (2, .getfield 308, 3, 6, 27), (5, .ifCond .ne 7, 3, 0, 0), (8, .iconst 1, 1, 0, 0), (9, .goto 4, 3, 0, 0), (12, .iconst 0, 1, 0, 0), (13, .aload_n 0, 1, 0, 0), (14, .getfield 308, 3, 6, 27), (17, .ifCond .le 21, 3, 0, 0), (20, .iload_n 1, 1, 0, 0), (21, .iconst (-1), 1, 0, 0), (22, .aload_n 0, 1, 0, 0), (23, .getfield 308, 3, 6, 27), (26, .iconst 1, 1, 0, 0), (27, .isub, 1, 0, 0), (28, .invokestatic 93, 3, 90, 3), (31, .ifCond .ne 7, 3, 0, 0), (34, .iconst 1, 1, 0, 0), (35, .goto 4, 3, 0, 0), (38, .iconst 0, 1, 0, 0), (39, .iconst 0, 1, 0, 0), (40, .invokevirtual 89, 3, 88, 3), (43, .ifCond .eq 5, 3, 0, 0), (46, .iconst 0, 1, 0, 0), (47, .ireturn, 1, 0, 0), (48, .iload_n 1, 1, 0, 0), (49, .ifCond .ge 10, 3, 0, 0), (52, .aload_n 0, 1, 0, 0), (53, .getfield 308, 3, 6, 27), (56, .goto 9, 3, 0, 0), (59, .aload_n 0, 1, 0, 0), (60, .getfield 52, 3, 6, 29), (63, .iload_n 1, 1, 0, 0), (64, .iaload, 1, 0, 0), (65, .ireturn, 1, 0, 0)]
def mK137 : List mI := [(0, .aload_n 0, 1, 0, 0), (1, .iconst 0, 1, 0, 0), (2, .putfield 82, 3, 6, 0), (5, .iconst 0, 1, 0, 0), (6, .istore_n 2, 1, 0, 0), (7, .iconst 0, 1, 0, 0), (8, .istore_n 3, 1, 0, 0), (9, .iload_n 3, 1, 0, 0), (10, .aload_n 0, 1, 0, 0), (11, .getfield 314, 3, 6, 32), (14, .if_icmp .ge 30, 3, 0, 0), (17, .aload_n 0, 1, 0, 0), (18, .getfield 61, 3, 6, 33), (21, .iload_n 3, 1, 0, 0), (22, .iaload, 1, 0, 0), (23, .iload_n 1, 1, 0, 0), (24, .if_icmp .ne 12, 3, 0, 0), (27, .aload_n 0, 1, 0, 0), (28, .getfield 64, 3, 6, 34), (31, .iload_n 3, 1, 0, 0), (32, .iaload, 1, 0, 0), (33, .goto 4, 3, 0, 0), (36, .iload_n 2, 1, 0, 0), (37, .istore_n 2, 1, 0, 0), (38, .iinc 3 1, 3, 0, 0), (41, .goto (-32), 3, 0, 0), (44, .iload_n 2, 1, 0, 0), (45, .ireturn, 1, 0, 0)]
def mK138 : List mI := [(0, .aload_n 0, 1, 0, 0), (1, .iconst 0, 1, 0, 0), (2, .putfield 82, 3, 6, 0), (5, .aload_n 0, 1, 0, 0), (6, .getfield 314, 3, 6, 32), (9, .ireturn, 1, 0, 0)]
def mK139 : List mI := [(0, .aload_n 0, 1, 0, 0), (1, .getfield 308, 3, 6, 27), (4, .ifCond .le 7, 3, 0, 0), (7, .iconst 1, 1, 0, 0), (8, .goto 4, 3, 0, 0), (11, .iconst 0, 1, 0, 0), (12, .istore 6, 2, 0, 0), (14, .iload 6, 2, 0, 0), (16, .ifCond .eq 21, 3, 0, 0), (19, .iload_n 1, 1, 0, 0), (20, .iconst 0, 1, 0, 0), (21, .aload_n 0, 1, 0, 0), (22, .getfield 308, 3, 6, 27), (25, .iconst 1, 1, 0, 0), (26, .isub, 1, 0, 0), (27, .invokestatic 93, 3, 90, 3), (30, .ifCond .eq 7, 3, 0, 0), (33, .iconst 1, 1, 0, 0), (34, .goto 4, 3, 0, 0), (37, .iconst 0, 1, 0, 0), (38, .istore 7, 2, 0, 0), (40, .aload_n 0, 1, 0, 0), (41, .iload 6, 2, 0, 0), (43, .ifCond .ne 7, 3, 0, 0), (46, .iconst 1, 1, 0, 0), (47, .goto 4, 3, 0, 0), (50, .iconst 0, 1, 0, 0), (51, .iload 6, 2, 0, 0), (53, .ifCond .eq 12, 3, 0, 0), (56, .iload 7, 2, 0, 0), (58, .ifCond .ne 7, 3, 0, 0), (61, .iconst 1, 1, 0, 0), (62, .goto 4, 3, 0, 0), (65, .iconst 0, 1, 0, 0), (66, .iload_n 2, 1, 0, 0), (67, .iconst 0, 1, 0, 0), (68, .ldc_w 347, 3, 0, 50000), (71, .invokestatic 93, 3, 90, 3), (74, .ifCond .ne 7, 3, 0, 0), (77, .iconst 1, 1, 0, 0), (78, .goto 4, 3, 0, 0), (81, .iconst 0, 1, 0, 0), (82, .invokevirtual 89, 3, 88, 3), (85, .ifCond .eq 5, 3, 0, 0), (88, .iconst 0, 1, 0, 0), (89, .ireturn, 1, 0, 0), (90, .aload_n 0, 1, 0, 0), (91, .aload_n 0, 1, 0, 0), (92, .getfield 314, 3, 6, 32), (95, .putfield 348, 3, 6, 35), (98, .iconst 0, 1, 0, 0), (99, .istore 8, 2, 0, 0), (101, .iload 8, 2, 0, 0), (103, .aload_n 0, 1, 0, 0), (104, .getfield 314, 3, 6, 32), (107, .if_icmp .ge 37, 3, 0, 0), (110, .aload_n 0, 1, 0, 0), (111, .getfield 67, 3, 6, 36), (114, .iload 8, 2, 0, 0), (116, .aload_n 0, 1, 0, 0), (117, .getfield 61, 3, 6, 33), (120, .iload 8, 2, 0, 0), (122, .iaload, 1, 0, 0), (123, .iastore, 1, 0, 0), (124, .aload_n 0, 1, 0, 0), (125, .getfield 70, 3, 6, 37), (128, .iload 8, 2, 0, 0), (130, .aload_n 0, 1, 0, 0), (131, .getfield 64, 3, 6, 34), (134, .iload 8, 2, 0, 0), (136, .iaload, 1, 0, 0), (137, .iastore, 1, 0, 0), (138, .iinc 8 1, 3, 0, 0), (141, .goto (-40), 3, 0, 0), (144, .aload_n 0, 1, 0, 0), (145, .iconst 0, 1, 0, 0), (146, .putfield 311, 3, 6, 40), (149, .aload_n 0, 1, 0, 0), (150, .iconst 0, 1, 0, 0), (151, .putfield 321, 3, 6, 41), (154, .aload_n 0, 1, 0, 0), (155, .lconst 0, 1, 0, 0), (156, .putfield 351, 3, 6, 38), (159, .iconst 0, 1, 0, 0), (160, .istore 8, 2, 0, 0), (162, .iload 8, 2, 0, 0), (164, .aload_n 0, 1, 0, 0), (165, .getfield 52, 3, 6, 29), (168, .iload_n 1, 1, 0, 0), (169, .iaload, 1, 0, 0), (170, .if_icmp .ge 35, 3, 0, 0), (173, .aload_n 0, 1, 0, 0), (174, .iload 8, 2, 0, 0), (176, .ifCond .ne 7, 3, 0, 0), (179, .iload_n 3, 1, 0, 0), (180, .goto 16, 3, 0, 0), (183, .iload 8, 2, 0, 0), (185, .iconst 1, 1, 0, 0), (186, .if_icmp .ne 8, 3, 0, 0), (189, .iload 4, 2, 0, 0), (191, .goto 5, 3, 0, 0), (194, .iload 5, 2, 0, 0), (196, .invokevirtual 327, 3, 140, 1), (199, .iinc 8 1, 3, 0, 0), (202, .goto (-40), 3, 0, 0), (205, .aload_n 0, 1, 0, 0), (206, .iload_n 1, 1, 0, 0), (207, .iconst (-1), 1, 0, 0), (208, .invokevirtual 337, 3, 141, 2), (211, .istore 8, 2, 0, 0), (213, .iload 8, 2, 0, 0), (215, .ifCond .lt 49, 3, 0, 0), (218, .aload_n 0, 1, 0, 0), (219, .aload_n 0, 1, 0, 0), (220, .getfield 351, 3, 6, 38), (223, .aload_n 0, 1, 0, 0), (224, .getfield 55, 3, 6, 30), (227, .iload 8, 2, 0, 0), (229, .iaload, 1, 0, 0), (230, .invokestatic 355, 3, 143, 1), (233, .i2l, 1, 0, 0), (234, .ladd, 1, 0, 0), (235, .putfield 351, 3, 6, 38), (238, .aload_n 0, 1, 0, 0), (239, .getfield 351, 3, 6, 38), (242, .iload_n 2, 1, 0, 0), (243, .i2l, 1, 0, 0), (244, .lcmp, 1, 0, 0), (245, .ifCond .le 8, 3, 0, 0), (248, .bipush (-2), 2, 0, 0), (250, .goto 9, 3, 0, 0), (253, .aload_n 0, 1, 0, 0), (254, .iload 8, 2, 0, 0), (256, .invokevirtual 358, 3, 144, 1), (259, .istore 8, 2, 0, 0), (261, .goto (-48), 3, 0, 0), (264, .aload_n 0, 1, 0, 0), (265, .dup, 1, 0, 0), (266, .getfield 361, 3, 6, 46), (269, .iconst 1, 1, 0, 0), (270, .iadd, 1, 0, 0), (271, .putfield 361, 3, 6, 46), (274, .aload_n 0, 1, 0, 0), (275, .iload 8, 2, 0, 0), (277, .iconst (-1), 1, 0, 0), (278, .if_icmp .ne 10, 3, 0, 0), (281, .aload_n 0, 1, 0, 0), (282, .invokevirtual 324, 3, 142, 0), (285, .goto 4, 3, 0, 0), (288, .iconst 0, 1, 0, 0), (289, .putfield 364, 3, 6, 44), (292, .aload_n 0, 1, 0, 0), (293, .iload 8, 2, 0, 0), (295, .iconst (-1), 1, 0, 0), (296, .if_icmp .ne 11, 3, 0, 0), (299, .aload_n 0, 1, 0, 0), (300, .getfield 351, 3, 6, 38), (303, .l2i, 1, 0, 0), (304, .goto 4, 3, 0, 0), (307, .iload_n 2, 1, 0, 0), (308, .putfield 367, 3, 6, 45), (311, .iload 8, 2, 0, 0), (313, .iconst (-1), 1, 0, 0), (314, .if_icmp .ge 57, 3, 0, 0), (317, .aload_n 0, 1, 0, 0), (318, .aload_n 0, 1, 0, 0), (319, .getfield 348, 3, 6, 35), (322, .putfield 314, 3, 6, 32), (325, .iconst 0, 1, 0, 0), (326, .istore 9, 2, 0, 0), (328, .iload 9, 2, 0, 0), (330, .aload_n 0, 1, 0, 0), (331, .getfield 314, 3, 6, 32), (334, .if_icmp .ge 37, 3, 0, 0), (337, .aload_n 0, 1, 0, 0), (338, .getfield 61, 3, 6, 33), (341, .iload 9, 2, 0, 0), (343, .aload_n 0, 1, 0, 0), (344, .getfield 67, 3, 6, 36), (347, .iload 9, 2, 0, 0), (349, .iaload, 1, 0, 0), (350, .iastore, 1, 0, 0), (351, .aload_n 0, 1, 0, 0), (352, .getfield 64, 3, 6, 34), (355, .iload 9, 2, 0, 0), (357, .aload_n 0, 1, 0, 0), (358, .getfield 70, 3, 6, 37), (361, .iload 9, 2, 0, 0), (363, .iaload, 1, 0, 0), (364, .iastore, 1, 0, 0), (365, .iinc 9 1, 3, 0, 0), (368, .goto (-40), 3, 0, 0), (371, .iconst (-1), 1, 0, 0), (372, .iload 8, 2, 0, 0), (374, .isub, 1, 0, 0), (375, .ireturn, 1, 0, 0)]
def mK140 : List mI := [(0, .aload_n 0, 1, 0, 0), (1, .getfield 73, 3, 6, 39), (4, .aload_n 0, 1, 0, 0), (5, .getfield 311, 3, 6, 40), (8, .iload_n 1, 1, 0, 0), (9, .iastore, 1, 0, 0), (10, .aload_n 0, 1, 0, 0), (11, .dup, 1, 0, 0), (12, .getfield 311, 3, 6, 40), (15, .iconst 1, 1, 0, 0), (16, .iadd, 1, 0, 0), (17, .putfield 311, 3, 6, 40), (20, .return_, 1, 0, 0)]
def mK141 : List mI := [(0, .aload_n 0, 1, 0, 0), (1, .getfield 76, 3, 6, 42), (4, .aload_n 0, 1, 0, 0), (5, .getfield 321, 3, 6, 41), (8, .iload_n 2, 1, 0, 0), (9, .iastore, 1, 0, 0), (10, .iconst 0, 1, 0, 0), (11, .istore_n 3, 1, 0, 0), (12, .iload_n 3, 1, 0, 0), (13, .bipush 8, 2, 0, 0), (15, .if_icmp .ge 24, 3, 0, 0), (18, .aload_n 0, 1, 0, 0), (19, .getfield 79, 3, 6, 43), (22, .bipush 8, 2, 0, 0), (24, .aload_n 0, 1, 0, 0), (25, .getfield 321, 3, 6, 41), (28, .imul, 1, 0, 0), (29, .iload_n 3, 1, 0, 0), (30, .iadd, 1, 0, 0), (31, .iconst 0, 1, 0, 0), (32, .iastore, 1, 0, 0), (33, .iinc 3 1, 3, 0, 0), (36, .goto (-24), 3, 0, 0), (39, .aload_n 0, 1, 0, 0), (40, .getfield 52, 3, 6, 29), (43, .iload_n 1, 1, 0, 0), (44, .iaload, 1, 0, 0), (45, .iconst 1, 1, 0, 0), (46, .isub, 1, 0, 0), (47, .istore_n 3, 1, 0, 0), (48, .iload_n 3, 1, 0, 0), (49, .ifCond .lt 27, 3, 0, 0), (52, .aload_n 0, 1, 0, 0), (53, .getfield 79, 3, 6, 43), (56, .bipush 8, 2, 0, 0), (58, .aload_n 0, 1, 0, 0), (59, .getfield 321, 3, 6, 41), (62, .imul, 1, 0, 0), (63, .iload_n 3, 1, 0, 0), (64, .iadd, 1, 0, 0), (65, .aload_n 0, 1, 0, 0), (66, .invokevirtual 324, 3, 142, 0), (69, .iastore, 1, 0, 0), (70, .iinc 3 (-1), 3, 0, 0), (73, .goto (-25), 3, 0, 0), (76, .aload_n 0, 1, 0, 0), (77, .dup, 1, 0, 0), (78, .getfield 321, 3, 6, 41), (81, .iconst 1, 1, 0, 0), (82, .iadd, 1, 0, 0), (83, .putfield 321, 3, 6, 41), (86, .aload_n 0, 1, 0, 0), (87, .getfield 49, 3, 6, 28), (90, .iload_n 1, 1, 0, 0), (91, .iaload, 1, 0, 0), (92, .ireturn, 1, 0, 0)]
def mK142 : List mI := [(0, .aload_n 0, 1, 0, 0), (1, .dup, 1, 0, 0), (2, .getfield 311, 3, 6, 40), (5, .iconst 1, 1, 0, 0), (6, .isub, 1, 0, 0), (7, .putfield 311, 3, 6, 40), (10, .aload_n 0, 1, 0, 0), (11, .getfield 73, 3, 6, 39), (14, .aload_n 0, 1, 0, 0), (15, .getfield 311, 3, 6, 40), (18, .iaload, 1, 0, 0), (19, .ireturn, 1, 0, 0)]
def mK143 : List mI := [(0, .iload_n 0, 1, 0, 0), (1, .tableswitch 88 1 15 #[75, 75, 88, 88, 88, 88, 77, 80, 88, 83, 88, 86, 88, 88, 86], 75, 0, 0), (76, .iconst 1, 1, 0, 0), (77, .ireturn, 1, 0, 0), (78, .bipush 20, 2, 0, 0), (80, .ireturn, 1, 0, 0), (81, .bipush 10, 2, 0, 0), (83, .ireturn, 1, 0, 0), (84, .bipush 40, 2, 0, 0), (86, .ireturn, 1, 0, 0), (87, .iconst 0, 1, 0, 0), (88, .ireturn, 1, 0, 0), (89, .iconst 2, 1, 0, 0), (90, .ireturn, 1, 0, 0)]
def mK144 : List mI := [(0, .aload_n 0, 1, 0, 0), (1, .getfield 55, 3, 6, 30), (4, .iload_n 1, 1, 0, 0), (5, .iaload, 1, 0, 0), (6, .istore_n 2, 1, 0, 0), (7, .aload_n 0, 1, 0, 0), (8, .getfield 58, 3, 6, 31), (11, .iload_n 1, 1, 0, 0), (12, .iaload, 1, 0, 0), (13, .istore_n 3, 1, 0, 0), (14, .bipush 8, 2, 0, 0), (16, .aload_n 0, 1, 0, 0), (17, .getfield 321, 3, 6, 41), (20, .iconst 1, 1, 0, 0), (21, .isub, 1, 0, 0), (22, .imul, 1, 0, 0), (23, .istore 4, 2, 0, 0), (25, .iload_n 2, 1, 0, 0), (26, .tableswitch 319 1 14 #[70, 78, 94, 123, 170, 170, 210, 225, 248, 264, 286, 301, 319, 303], 70, 0, 0), (96, .aload_n 0, 1, 0, 0), (97, .iload_n 3, 1, 0, 0), (98, .invokevirtual 327, 3, 140, 1), (101, .goto 250, 3, 0, 0), (104, .aload_n 0, 1, 0, 0), (105, .aload_n 0, 1, 0, 0), (106, .getfield 79, 3, 6, 43), (109, .iload 4, 2, 0, 0), (111, .iload_n 3, 1, 0, 0), (112, .iadd, 1, 0, 0), (113, .iaload, 1, 0, 0), (114, .invokevirtual 327, 3, 140, 1), (117, .goto 234, 3, 0, 0), (120, .aload_n 0, 1, 0, 0), (121, .invokevirtual 324, 3, 142, 0), (124, .istore 5, 2, 0, 0), (126, .aload_n 0, 1, 0, 0), (127, .iload_n 3, 1, 0, 0), (128, .bipush 17, 2, 0, 0), (130, .if_icmp .ne 9, 3, 0, 0), (133, .iload 5, 2, 0, 0), (135, .ineg, 1, 0, 0), (136, .goto 7, 3, 0, 0), (139, .iconst 1, 1, 0, 0), (140, .iload 5, 2, 0, 0), (142, .isub, 1, 0, 0), (143, .invokevirtual 327, 3, 140, 1), (146, .goto 205, 3, 0, 0), (149, .aload_n 0, 1, 0, 0), (150, .invokevirtual 324, 3, 142, 0), (153, .istore 6, 2, 0, 0), (155, .aload_n 0, 1, 0, 0), (156, .invokevirtual 324, 3, 142, 0), (159, .istore 7, 2, 0, 0), (161, .iload 6, 2, 0, 0), (163, .ifCond .ne 18, 3, 0, 0), (166, .iload_n 3, 1, 0, 0), (167, .bipush 19, 2, 0, 0), (169, .if_icmp .eq 9, 3, 0, 0), (172, .iload_n 3, 1, 0, 0), (173, .bipush 20, 2, 0, 0), (175, .if_icmp .ne 6, 3, 0, 0), (178, .bipush (-2), 2, 0, 0), (180, .ireturn, 1, 0, 0), (181, .aload_n 0, 1, 0, 0), (182, .iload_n 3, 1, 0, 0), (183, .iload 7, 2, 0, 0), (185, .iload 6, 2, 0, 0), (187, .invokestatic 330, 3, 145, 3), (190, .invokevirtual 327, 3, 140, 1), (193, .goto 158, 3, 0, 0), (196, .aload_n 0, 1, 0, 0), (197, .getfield 73, 3, 6, 39), (200, .aload_n 0, 1, 0, 0), (201, .getfield 311, 3, 6, 40), (204, .iconst 1, 1, 0, 0), (205, .isub, 1, 0, 0), (206, .iaload, 1, 0, 0), (207, .iload_n 2, 1, 0, 0), (208, .bipush 6, 2, 0, 0), (210, .if_icmp .ne 7, 3, 0, 0), (213, .iconst 1, 1, 0, 0), (214, .goto 4, 3, 0, 0), (217, .iconst 0, 1, 0, 0), (218, .if_icmp .ne 5, 3, 0, 0), (221, .iload_n 3, 1, 0, 0), (222, .ireturn, 1, 0, 0), (223, .aload_n 0, 1, 0, 0), (224, .dup, 1, 0, 0), (225, .getfield 311, 3, 6, 40), (228, .iconst 1, 1, 0, 0), (229, .isub, 1, 0, 0), (230, .putfield 311, 3, 6, 40), (233, .goto 118, 3, 0, 0), (236, .aload_n 0, 1, 0, 0), (237, .aload_n 0, 1, 0, 0), (238, .aload_n 0, 1, 0, 0), (239, .invokevirtual 324, 3, 142, 0), (242, .invokevirtual 334, 3, 137, 1), (245, .invokevirtual 327, 3, 140, 1), (248, .goto 103, 3, 0, 0), (251, .aload_n 0, 1, 0, 0), (252, .getfield 321, 3, 6, 41), (255, .bipush 12, 2, 0, 0), (257, .if_icmp .ne 8, 3, 0, 0), (260, .bipush (-2), 2, 0, 0), (262, .goto 11, 3, 0, 0), (265, .aload_n 0, 1, 0, 0), (266, .iload_n 3, 1, 0, 0), (267, .iload_n 1, 1, 0, 0), (268, .iconst 1, 1, 0, 0), (269, .iadd, 1, 0, 0), (270, .invokevirtual 337, 3, 141, 2), (273, .ireturn, 1, 0, 0), (274, .aload_n 0, 1, 0, 0), (275, .getfield 79, 3, 6, 43), (278, .iload 4, 2, 0, 0), (280, .iload_n 3, 1, 0, 0), (281, .iadd, 1, 0, 0), (282, .aload_n 0, 1, 0, 0), (283, .invokevirtual 324, 3, 142, 0), (286, .iastore, 1, 0, 0), (287, .goto 64, 3, 0, 0), (290, .aload_n 0, 1, 0, 0), (291, .invokevirtual 324, 3, 142, 0), (294, .istore 8, 2, 0, 0), (296, .aload_n 0, 1, 0, 0), (297, .aload_n 0, 1, 0, 0), (298, .invokevirtual 324, 3, 142, 0), (301, .iload 8, 2, 0, 0), (303, .invokevirtual 340, 3, 147, 2), (306, .ifCond .ne 45, 3, 0, 0), (309, .bipush (-2), 2, 0, 0), (311, .ireturn, 1, 0, 0), (312, .aload_n 0, 1, 0, 0), (313, .invokevirtual 324, 3, 142, 0), (316, .ifCond .ne 7, 3, 0, 0), (319, .iload_n 3, 1, 0, 0), (320, .goto 6, 3, 0, 0), (323, .iload_n 1, 1, 0, 0), (324, .iconst 1, 1, 0, 0), (325, .iadd, 1, 0, 0), (326, .ireturn, 1, 0, 0), (327, .iload_n 3, 1, 0, 0), (328, .ireturn, 1, 0, 0), (329, .aload_n 0, 1, 0, 0), (330, .invokevirtual 324, 3, 142, 0), (333, .ifCond .ne 8, 3, 0, 0), (336, .bipush (-3), 2, 0, 0), (338, .goto 6, 3, 0, 0), (341, .iload_n 1, 1, 0, 0), (342, .iconst 1, 1, 0, 0), (343, .iadd, 1, 0, 0), (344, .ireturn, 1, 0, 0), (345, .aload_n 0, 1, 0, 0), (346, .iload_n 2, 1, 0, 0), (347, .invokevirtual 344, 3, 148, 1), (350, .ireturn, 1, 0, 0), (351, .iload_n 1, 1, 0, 0), (352, .iconst 1, 1, 0, 0), (353, .iadd, 1, 0, 0), (354, .ireturn, 1, 0, 0)]
def mK145 : List mI := [(0, .iload_n 0, 1, 0, 0), (1, .tableswitch 119 12 19 #[47, 61, 75, 89, 103, 107, 111, 115], 47, 0, 0), (48, .iload_n 1, 1, 0, 0), (49, .iload_n 2, 1, 0, 0), (50, .if_icmp .ne 7, 3, 0, 0), (53, .iconst 1, 1, 0, 0), (54, .goto 4, 3, 0, 0), (57, .iconst 0, 1, 0, 0), (58, .invokestatic 317, 3, 146, 1), (61, .ireturn, 1, 0, 0), (62, .iload_n 1, 1, 0, 0), (63, .iload_n 2, 1, 0, 0), (64, .if_icmp .eq 7, 3, 0, 0), (67, .iconst 1, 1, 0, 0), (68, .goto 4, 3, 0, 0), (71, .iconst 0, 1, 0, 0), (72, .invokestatic 317, 3, 146, 1), (75, .ireturn, 1, 0, 0), (76, .iload_n 1, 1, 0, 0), (77, .iload_n 2, 1, 0, 0), (78, .if_icmp .ge 7, 3, 0, 0), (81, .iconst 1, 1, 0, 0), (82, .goto 4, 3, 0, 0), (85, .iconst 0, 1, 0, 0), (86, .invokestatic 317, 3, 146, 1), (89, .ireturn, 1, 0, 0), (90, .iload_n 1, 1, 0, 0), (91, .iload_n 2, 1, 0, 0), (92, .if_icmp .gt 7, 3, 0, 0), (95, .iconst 1, 1, 0, 0), (96, .goto 4, 3, 0, 0), (99, .iconst 0, 1, 0, 0), (100, .invokestatic 317, 3, 146, 1), (103, .ireturn, 1, 0, 0), (104, .iload_n 1, 1, 0, 0), (105, .iload_n 2, 1, 0, 0), (106, .iadd, 1, 0, 0), (107, .ireturn, 1, 0, 0), (108, .iload_n 1, 1, 0, 0), (109, .iload_n 2, 1, 0, 0), (110, .isub, 1, 0, 0), (111, .ireturn, 1, 0, 0), (112, .iload_n 1, 1, 0, 0), (113, .iload_n 2, 1, 0, 0), (114, .imul, 1, 0, 0), (115, .ireturn, 1, 0, 0), (116, .iload_n 1, 1, 0, 0), (117, .iload_n 2, 1, 0, 0), (118, .idiv, 1, 0, 0), (119, .ireturn, 1, 0, 0), (120, .iload_n 1, 1, 0, 0), (121, .iload_n 2, 1, 0, 0), (122, .irem, 1, 0, 0), (123, .ireturn, 1, 0, 0)]
def mK146 : List mI := [(0, .iload_n 0, 1, 0, 0), (1, .ifCond .eq 7, 3, 0, 0), (4, .iconst 1, 1, 0, 0), (5, .goto 4, 3, 0, 0), (8, .iconst 0, 1, 0, 0), (9, .ireturn, 1, 0, 0)]
def mK147 : List mI := [(0, .aload_n 0, 1, 0, 0), (1, .getfield 314, 3, 6, 32), (4, .istore_n 3, 1, 0, 0), (5, .iconst 0, 1, 0, 0), (6, .istore 4, 2, 0, 0), (8, .iload 4, 2, 0, 0), (10, .aload_n 0, 1, 0, 0), (11, .getfield 314, 3, 6, 32), (14, .if_icmp .ge 27, 3, 0, 0), (17, .aload_n 0, 1, 0, 0), (18, .getfield 61, 3, 6, 33), (21, .iload 4, 2, 0, 0), (23, .iaload, 1, 0, 0), (24, .iload_n 1, 1, 0, 0), (25, .if_icmp .ne 8, 3, 0, 0), (28, .iload 4, 2, 0, 0), (30, .goto 4, 3, 0, 0), (33, .iload_n 3, 1, 0, 0), (34, .istore_n 3, 1, 0, 0), (35, .iinc 4 1, 3, 0, 0), (38, .goto (-30), 3, 0, 0), (41, .iload_n 2, 1, 0, 0), (42, .ifCond .ne 53, 3, 0, 0), (45, .iload_n 3, 1, 0, 0), (46, .aload_n 0, 1, 0, 0), (47, .getfield 314, 3, 6, 32), (50, .if_icmp .ge 43, 3, 0, 0), (53, .aload_n 0, 1, 0, 0), (54, .dup, 1, 0, 0), (55, .getfield 314, 3, 6, 32), (58, .iconst 1, 1, 0, 0), (59, .isub, 1, 0, 0), (60, .putfield 314, 3, 6, 32), (63, .aload_n 0, 1, 0, 0), (64, .getfield 61, 3, 6, 33), (67, .iload_n 3, 1, 0, 0), (68, .aload_n 0, 1, 0, 0), (69, .getfield 61, 3, 6, 33), (72, .aload_n 0, 1, 0, 0), (73, .getfield 314, 3, 6, 32), (76, .iaload, 1, 0, 0), (77, .iastore, 1, 0, 0), (78, .aload_n 0, 1, 0, 0), (79, .getfield 64, 3, 6, 34), (82, .iload_n 3, 1, 0, 0), (83, .aload_n 0, 1, 0, 0), (84, .getfield 64, 3, 6, 34), (87, .aload_n 0, 1, 0, 0), (88, .getfield 314, 3, 6, 32), (91, .iaload, 1, 0, 0), (92, .iastore, 1, 0, 0), (93, .iconst 1, 1, 0, 0), (94, .ireturn, 1, 0, 0), (95, .iload_n 3, 1, 0, 0), (96, .bipush 32, 2, 0, 0), (98, .if_icmp .ne 5, 3, 0, 0), (101, .iconst 0, 1, 0, 0), (102, .ireturn, 1, 0, 0), (103, .aload_n 0, 1, 0, 0), (104, .iload_n 3, 1, 0, 0), (105, .aload_n 0, 1, 0, 0), (106, .getfield 314, 3, 6, 32), (109, .if_icmp .ne 12, 3, 0, 0), (112, .aload_n 0, 1, 0, 0), (113, .getfield 314, 3, 6, 32), (116, .iconst 1, 1, 0, 0), (117, .iadd, 1, 0, 0), (118, .goto 7, 3, 0, 0), (121, .aload_n 0, 1, 0, 0), (122, .getfield 314, 3, 6, 32), (125, .putfield 314, 3, 6, 32), (128, .aload_n 0, 1, 0, 0), (129, .getfield 61, 3, 6, 33), (132, .iload_n 3, 1, 0, 0), (133, .iload_n 1, 1, 0, 0), (134, .iastore, 1, 0, 0), (135, .aload_n 0, 1, 0, 0), (136, .getfield 64, 3, 6, 34), (139, .iload_n 3, 1, 0, 0), (140, .iload_n 2, 1, 0, 0), (141, .iastore, 1, 0, 0), (142, .iconst 1, 1, 0, 0), (143, .ireturn, 1, 0, 0)]
def mK148 : List mI := [(0, .iload_n 1, 1, 0, 0), (1, .bipush 13, 2, 0, 0), (3, .if_icmp .ne 10, 3, 0, 0), (6, .aload_n 0, 1, 0, 0), (7, .invokevirtual 324, 3, 142, 0), (10, .goto 4, 3, 0, 0), (13, .iconst 0, 1, 0, 0), (14, .istore_n 2, 1, 0, 0), (15, .aload_n 0, 1, 0, 0), (16, .dup, 1, 0, 0), (17, .getfield 321, 3, 6, 41), (20, .iconst 1, 1, 0, 0), (21, .isub, 1, 0, 0), (22, .putfield 321, 3, 6, 41), (25, .aload_n 0, 1, 0, 0), (26, .iload_n 2, 1, 0, 0), (27, .invokevirtual 327, 3, 140, 1), (30, .aload_n 0, 1, 0, 0), (31, .getfield 76, 3, 6, 42), (34, .aload_n 0, 1, 0, 0), (35, .getfield 321, 3, 6, 41), (38, .iaload, 1, 0, 0), (39, .ireturn, 1, 0, 0)]
def mK149 : List mI := [(0, .aload_n 0, 1, 0, 0), (1, .iload_n 1, 1, 0, 0), (2, .iconst 0, 1, 0, 0), (3, .iconst 2, 1, 0, 0), (4, .invokestatic 93, 3, 90, 3), (7, .ifCond .ne 7, 3, 0, 0), (10, .iconst 1, 1, 0, 0), (11, .goto 4, 3, 0, 0), (14, .iconst 0, 1, 0, 0), (15, .iconst 0, 1, 0, 0), (16, .iconst 0, 1, 0, 0), (17, .invokevirtual 89, 3, 88, 3), (20, .ifCond .eq 5, 3, 0, 0), (23, .iconst 0, 1, 0, 0), (24, .ireturn, 1, 0, 0), (25, .iload_n 1, 1, 0, 0), (26, .ifCond .ne 10, 3, 0, 0), (29, .aload_n 0, 1, 0, 0), (30, .getfield 364, 3, 6, 44), (33, .goto 19, 3, 0, 0), (36, .iload_n 1, 1, 0, 0), (37, .iconst 1, 1, 0, 0), (38, .if_icmp .ne 10, 3, 0, 0), (41, .aload_n 0, 1, 0, 0), (42, .getfield 367, 3, 6, 45), (45, .goto 7, 3, 0, 0), (48, .aload_n 0, 1, 0, 0), (49, .getfield 361, 3, 6, 46), (52, .ireturn, 1, 0, 0)]
def mK150 : List mI := [(0, .aload_n 2, 1, 0, 0), (1, .iconst 0, 1, 0, 0), (2, .aload_n 0, 1, 0, 0), (3, .iload_n 1, 1, 0, 0), (4, .invokevirtual 7, 3, 80, 1), (7, .i2l, 1, 0, 0), (8, .lastore, 1, 0, 0), (9, .goto 9, 3, 0, 0), (12, .astore_n 3, 1, 0, 0), (13, .iconst 1, 1, 0, 0), (14, .ireturn, 1, 0, 0), (15, .astore_n 3, 1, 0, 0), (16, .iconst 2, 1, 0, 0), (17, .ireturn, 1, 0, 0), (18, .iconst 0, 1, 0, 0), (19, .ireturn, 1, 0, 0)]
def mK151 : List mI := [(0, .aload_n 0, 1, 0, 0), (1, .iload_n 1, 1, 0, 0), (2, .invokevirtual 17, 3, 82, 1), (5, .goto 6, 3, 0, 0), (8, .astore_n 2, 1, 0, 0), (9, .iconst 1, 1, 0, 0), (10, .ireturn, 1, 0, 0), (11, .iconst 0, 1, 0, 0), (12, .ireturn, 1, 0, 0)]
def mK152 : List mI := [(0, .aload_n 2, 1, 0, 0), (1, .iconst 0, 1, 0, 0), (2, .aload_n 0, 1, 0, 0), (3, .iload_n 1, 1, 0, 0), (4, .invokevirtual 21, 3, 83, 1), (7, .i2l, 1, 0, 0), (8, .lastore, 1, 0, 0), (9, .goto 9, 3, 0, 0), (12, .astore_n 3, 1, 0, 0), (13, .iconst 1, 1, 0, 0), (14, .ireturn, 1, 0, 0), (15, .astore_n 3, 1, 0, 0), (16, .iconst 2, 1, 0, 0), (17, .ireturn, 1, 0, 0), (18, .iconst 0, 1, 0, 0), (19, .ireturn, 1, 0, 0)]
def mK153 : List mI := [(0, .aload 6, 2, 0, 0), (2, .iconst 0, 1, 0, 0), (3, .aload_n 0, 1, 0, 0), (4, .iload_n 1, 1, 0, 0), (5, .iload_n 2, 1, 0, 0), (6, .iload_n 3, 1, 0, 0), (7, .iload 4, 2, 0, 0), (9, .iload 5, 2, 0, 0), (11, .invokevirtual 28, 3, 84, 5), (14, .i2l, 1, 0, 0), (15, .lastore, 1, 0, 0), (16, .goto 15, 3, 0, 0), (19, .astore 7, 2, 0, 0), (21, .iconst 1, 1, 0, 0), (22, .ireturn, 1, 0, 0), (23, .astore 7, 2, 0, 0), (25, .iconst 2, 1, 0, 0), (26, .ireturn, 1, 0, 0), (27, .astore 7, 2, 0, 0), (29, .iconst 3, 1, 0, 0), (30, .ireturn, 1, 0, 0), (31, .iconst 0, 1, 0, 0), (32, .ireturn, 1, 0, 0)]
def mK154 : List mI := [(0, .aload_n 2, 1, 0, 0), (1, .iconst 0, 1, 0, 0), (2, .aload_n 0, 1, 0, 0), (3, .iload_n 1, 1, 0, 0), (4, .invokevirtual 32, 3, 85, 1), (7, .i2l, 1, 0, 0), (8, .lastore, 1, 0, 0), (9, .goto 6, 3, 0, 0), (12, .astore_n 3, 1, 0, 0), (13, .iconst 1, 1, 0, 0), (14, .ireturn, 1, 0, 0), (15, .iconst 0, 1, 0, 0), (16, .ireturn, 1, 0, 0)]
def mK155 : List mI := [(0, .aload_n 0, 1, 0, 0), (1, .arraylength, 1, 0, 0), (2, .iload_n 1, 1, 0, 0), (3, .iload_n 2, 1, 0, 0), (4, .invokestatic 13, 3, 156, 3), (7, .iload_n 1, 1, 0, 0), (8, .istore 4, 2, 0, 0), (10, .iload 4, 2, 0, 0), (12, .iload_n 2, 1, 0, 0), (13, .if_icmp .ge 14, 3, 0, 0), (16, .aload_n 0, 1, 0, 0), (17, .iload 4, 2, 0, 0), (19, .iload_n 3, 1, 0, 0), (20, .iastore, 1, 0, 0), (21, .iinc 4 1, 3, 0, 0), (24, .goto (-14), 3, 0, 0), (27, .return_, 1, 0, 0)]
def mK156 : List mI := [(0, .iload_n 1, 1, 0, 0), (1, .iload_n 2, 1, 0, 0), (2, .if_icmp .le 44, 3, 0, 0), (8, .dup, 1, 0, 0), (12, .dup, 1, 0, 0), (13, .invokespecial 47, 3, 0, 0), (21, .iload_n 1, 1, 0, 0), (30, .iload_n 2, 1, 0, 0), (42, .invokespecial 65, 3, 0, 0), (45, .athrow, 1, 0, 0), (46, .iload_n 1, 1, 0, 0), (47, .ifCond .ge 12, 3, 0, 0), (53, .dup, 1, 0, 0), (54, .iload_n 1, 1, 0, 0), (55, .invokespecial 70, 3, 0, 0), (58, .athrow, 1, 0, 0), (59, .iload_n 2, 1, 0, 0), (60, .iload_n 0, 1, 0, 0), (61, .if_icmp .le 12, 3, 0, 0), (67, .dup, 1, 0, 0), (68, .iload_n 2, 1, 0, 0), (69, .invokespecial 70, 3, 0, 0), (72, .athrow, 1, 0, 0), (73, .return_, 1, 0, 0)]
def mK157 : List mI := [(0, .new 8, 3, 9, 0), (3, .dup, 1, 0, 0), (4, .invokespecial 35, 3, 0, 0), (7, .astore_n 1, 1, 0, 0), (8, .new 36, 3, 9, 0), (11, .dup, 1, 0, 0), (12, .invokespecial 38, 3, 0, 0), (15, .astore_n 2, 1, 0, 0), (16, .iconst 1, 1, 0, 0), (17, .newarray .long, 2, 0, 0), (19, .astore_n 3, 1, 0, 0), (20, .iconst 0, 1, 0, 0), (21, .istore 4, 2, 0, 0), (23, .iload 4, 2, 0, 0), (25, .aload_n 0, 1, 0, 0), (26, .arraylength, 1, 0, 0), (27, .bipush 6, 2, 0, 0), (29, .isub, 1, 0, 0), (30, .if_icmp .gt 423, 3, 0, 0), (33, .aload_n 0, 1, 0, 0), (34, .iload 4, 2, 0, 0), (36, .iaload, 1, 0, 0), (37, .bipush 7, 2, 0, 0), (39, .iand, 1, 0, 0), (40, .tableswitch 407 0 7 #[48, 104, 140, 153, 209, 313, 369, 394], 48, 0, 0), (88, .aload_n 1, 1, 0, 0), (89, .aload_n 0, 1, 0, 0), (90, .iload 4, 2, 0, 0), (92, .iconst 1, 1, 0, 0), (93, .iadd, 1, 0, 0), (94, .iaload, 1, 0, 0), (95, .aload_n 3, 1, 0, 0), (96, .invokestatic 39, 3, 150, 3), (99, .istore 5, 2, 0, 0), (101, .aload_n 2, 1, 0, 0), (102, .aload_n 0, 1, 0, 0), (103, .iload 4, 2, 0, 0), (105, .iconst 1, 1, 0, 0), (106, .iadd, 1, 0, 0), (107, .iaload, 1, 0, 0), (108, .invokevirtual 44, 3, 87, 1), (111, .istore 6, 2, 0, 0), (113, .aload_n 2, 1, 0, 0), (114, .invokevirtual 45, 3, 86, 0), (117, .iload 5, 2, 0, 0), (119, .if_icmp .eq 5, 3, 0, 0), (122, .iconst 0, 1, 0, 0), (123, .ireturn, 1, 0, 0), (124, .iload 5, 2, 0, 0), (126, .ifCond .ne 15, 3, 0, 0), (129, .aload_n 3, 1, 0, 0), (130, .iconst 0, 1, 0, 0), (131, .laload, 1, 0, 0), (132, .iload 6, 2, 0, 0), (134, .i2l, 1, 0, 0), (135, .lcmp, 1, 0, 0), (136, .ifCond .eq 5, 3, 0, 0), (139, .iconst 0, 1, 0, 0), (140, .ireturn, 1, 0, 0), (141, .goto 306, 3, 0, 0), (144, .aload_n 1, 1, 0, 0), (145, .aload_n 0, 1, 0, 0), (146, .iload 4, 2, 0, 0), (148, .iconst 1, 1, 0, 0), (149, .iadd, 1, 0, 0), (150, .iaload, 1, 0, 0), (151, .invokestatic 49, 3, 151, 2), (154, .istore 5, 2, 0, 0), (156, .aload_n 2, 1, 0, 0), (157, .aload_n 0, 1, 0, 0), (158, .iload 4, 2, 0, 0), (160, .iconst 1, 1, 0, 0), (161, .iadd, 1, 0, 0), (162, .iaload, 1, 0, 0), (163, .invokevirtual 52, 3, 89, 1), (166, .aload_n 2, 1, 0, 0), (167, .invokevirtual 45, 3, 86, 0), (170, .iload 5, 2, 0, 0), (172, .if_icmp .eq 5, 3, 0, 0), (175, .iconst 0, 1, 0, 0), (176, .ireturn, 1, 0, 0), (177, .goto 270, 3, 0, 0), (180, .aload_n 1, 1, 0, 0), (181, .invokevirtual 53, 3, 77, 0), (184, .aload_n 2, 1, 0, 0), (185, .invokevirtual 56, 3, 91, 0), (188, .if_icmp .eq 259, 3, 0, 0), (191, .iconst 0, 1, 0, 0), (192, .ireturn, 1, 0, 0), (193, .aload_n 1, 1, 0, 0), (194, .aload_n 0, 1, 0, 0), (195, .iload 4, 2, 0, 0), (197, .iconst 1, 1, 0, 0), (198, .iadd, 1, 0, 0), (199, .iaload, 1, 0, 0), (200, .aload_n 3, 1, 0, 0), (201, .invokestatic 57, 3, 152, 3), (204, .istore 5, 2, 0, 0), (206, .aload_n 2, 1, 0, 0), (207, .aload_n 0, 1, 0, 0), (208, .iload 4, 2, 0, 0), (210, .iconst 1, 1, 0, 0), (211, .iadd, 1, 0, 0), (212, .iaload, 1, 0, 0), (213, .invokevirtual 59, 3, 136, 1), (216, .istore 6, 2, 0, 0), (218, .aload_n 2, 1, 0, 0), (219, .invokevirtual 45, 3, 86, 0), (222, .iload 5, 2, 0, 0), (224, .if_icmp .eq 5, 3, 0, 0), (227, .iconst 0, 1, 0, 0), (228, .ireturn, 1, 0, 0), (229, .iload 5, 2, 0, 0), (231, .ifCond .ne 15, 3, 0, 0), (234, .aload_n 3, 1, 0, 0), (235, .iconst 0, 1, 0, 0), (236, .laload, 1, 0, 0), (237, .iload 6, 2, 0, 0), (239, .i2l, 1, 0, 0), (240, .lcmp, 1, 0, 0), (241, .ifCond .eq 5, 3, 0, 0), (244, .iconst 0, 1, 0, 0), (245, .ireturn, 1, 0, 0), (246, .goto 201, 3, 0, 0), (249, .aload_n 1, 1, 0, 0), (250, .aload_n 0, 1, 0, 0), (251, .iload 4, 2, 0, 0), (253, .iconst 1, 1, 0, 0), (254, .iadd, 1, 0, 0), (255, .iaload, 1, 0, 0), (256, .aload_n 0, 1, 0, 0), (257, .iload 4, 2, 0, 0), (259, .iconst 2, 1, 0, 0), (260, .iadd, 1, 0, 0), (261, .iaload, 1, 0, 0), (262, .aload_n 0, 1, 0, 0), (263, .iload 4, 2, 0, 0), (265, .iconst 3, 1, 0, 0), (266, .iadd, 1, 0, 0), (267, .iaload, 1, 0, 0), (268, .aload_n 0, 1, 0, 0), (269, .iload 4, 2, 0, 0), (271, .iconst 4, 1, 0, 0), (272, .iadd, 1, 0, 0), (273, .iaload, 1, 0, 0), (274, .aload_n 0, 1, 0, 0), (275, .iload 4, 2, 0, 0), (277, .iconst 5, 1, 0, 0), (278, .iadd, 1, 0, 0), (279, .iaload, 1, 0, 0), (280, .aload_n 3, 1, 0, 0), (281, .invokestatic 60, 3, 153, 7), (284, .istore 5, 2, 0, 0), (286, .aload_n 2, 1, 0, 0), (287, .aload_n 0, 1, 0, 0), (288, .iload 4, 2, 0, 0), (290, .iconst 1, 1, 0, 0), (291, .iadd, 1, 0, 0), (292, .iaload, 1, 0, 0), (293, .aload_n 0, 1, 0, 0), (294, .iload 4, 2, 0, 0), (296, .iconst 2, 1, 0, 0), (297, .iadd, 1, 0, 0), (298, .iaload, 1, 0, 0), (299, .aload_n 0, 1, 0, 0), (300, .iload 4, 2, 0, 0), (302, .iconst 3, 1, 0, 0), (303, .iadd, 1, 0, 0), (304, .iaload, 1, 0, 0), (305, .aload_n 0, 1, 0, 0), (306, .iload 4, 2, 0, 0), (308, .iconst 4, 1, 0, 0), (309, .iadd, 1, 0, 0), (310, .iaload, 1, 0, 0), (311, .aload_n 0, 1, 0, 0), (312, .iload 4, 2, 0, 0), (314, .iconst 5, 1, 0, 0), (315, .iadd, 1, 0, 0), (316, .iaload, 1, 0, 0), (317, .invokevirtual 63, 3, 139, 5), (320, .istore 6, 2, 0, 0), (322, .aload_n 2, 1, 0, 0), (323, .invokevirtual 45, 3, 86, 0), (326, .iload 5, 2, 0, 0), (328, .if_icmp .eq 5, 3, 0, 0), (331, .iconst 0, 1, 0, 0), (332, .ireturn, 1, 0, 0), (333, .iload 5, 2, 0, 0), (335, .ifCond .ne 15, 3, 0, 0), (338, .aload_n 3, 1, 0, 0), (339, .iconst 0, 1, 0, 0), (340, .laload, 1, 0, 0), (341, .iload 6, 2, 0, 0), (343, .i2l, 1, 0, 0), (344, .lcmp, 1, 0, 0), (345, .ifCond .eq 5, 3, 0, 0), (348, .iconst 0, 1, 0, 0), (349, .ireturn, 1, 0, 0), (350, .goto 97, 3, 0, 0), (353, .aload_n 1, 1, 0, 0), (354, .aload_n 0, 1, 0, 0), (355, .iload 4, 2, 0, 0), (357, .iconst 1, 1, 0, 0), (358, .iadd, 1, 0, 0), (359, .iaload, 1, 0, 0), (360, .aload_n 3, 1, 0, 0), (361, .invokestatic 64, 3, 154, 3), (364, .istore 5, 2, 0, 0), (366, .aload_n 2, 1, 0, 0), (367, .aload_n 0, 1, 0, 0), (368, .iload 4, 2, 0, 0), (370, .iconst 1, 1, 0, 0), (371, .iadd, 1, 0, 0), (372, .iaload, 1, 0, 0), (373, .invokevirtual 66, 3, 149, 1), (376, .istore 6, 2, 0, 0), (378, .aload_n 2, 1, 0, 0), (379, .invokevirtual 45, 3, 86, 0), (382, .iload 5, 2, 0, 0), (384, .if_icmp .eq 5, 3, 0, 0), (387, .iconst 0, 1, 0, 0), (388, .ireturn, 1, 0, 0), (389, .iload 5, 2, 0, 0), (391, .ifCond .ne 15, 3, 0, 0), (394, .aload_n 3, 1, 0, 0), (395, .iconst 0, 1, 0, 0), (396, .laload, 1, 0, 0), (397, .iload 6, 2, 0, 0), (399, .i2l, 1, 0, 0), (400, .lcmp, 1, 0, 0), (401, .ifCond .eq 5, 3, 0, 0), (404, .iconst 0, 1, 0, 0), (405, .ireturn, 1, 0, 0), (406, .goto 41, 3, 0, 0), (409, .aload_n 1, 1, 0, 0), (410, .aload_n 0, 1, 0, 0), (411, .iload 4, 2, 0, 0), (413, .iconst 1, 1, 0, 0), (414, .iadd, 1, 0, 0), (415, .iaload, 1, 0, 0), (416, .invokevirtual 67, 3, 78, 1), (419, .aload_n 2, 1, 0, 0), (420, .aload_n 0, 1, 0, 0), (421, .iload 4, 2, 0, 0), (423, .iconst 1, 1, 0, 0), (424, .iadd, 1, 0, 0), (425, .iaload, 1, 0, 0), (426, .invokevirtual 70, 3, 137, 1), (429, .if_icmp .eq 18, 3, 0, 0), (432, .iconst 0, 1, 0, 0), (433, .ireturn, 1, 0, 0), (434, .aload_n 1, 1, 0, 0), (435, .invokevirtual 71, 3, 79, 0), (438, .aload_n 2, 1, 0, 0), (439, .invokevirtual 74, 3, 138, 0), (442, .if_icmp .eq 5, 3, 0, 0), (445, .iconst 0, 1, 0, 0), (446, .ireturn, 1, 0, 0), (447, .iinc 4 6, 3, 0, 0), (450, .goto (-427), 3, 0, 0), (453, .iconst 1, 1, 0, 0), (454, .ireturn, 1, 0, 0)]
abbrev mM : Type := Nat × MethodName × ByteArray × Nat × Option FieldType × List (Nat × Nat × Nat × Nat) × List mI
def mY0 : MethodName := ⟨"GasContract$Compiler", "translate", "([II)I"⟩
def mM0 : mM := (0, mY0, prog_2_method_2_code, 4, (some .int), [(26, 75, 78, 72)], mK0)
def mY1 : MethodName := ⟨"GasContract$Compiler", "mark", "()I"⟩
def mM1 : mM := (0, mY1, prog_2_method_23_code, 1, (some .int), [], mK1)
def mY2 : MethodName := ⟨"GasContract$Compiler", "functionName", "()V"⟩
def mM2 : mM := (0, mY2, prog_2_method_3_code, 2, none, [], mK2)
def mY3 : MethodName := ⟨"GasContract$Compiler", "failAt", "(I)V"⟩
def mM3 : mM := (0, mY3, prog_2_method_32_code, 2, none, [], mK3)
def mY4 : MethodName := ⟨"GasContract$Compiler", "functionNamed", "(I)I"⟩
def mM4 : mM := (0, mY4, prog_2_method_31_code, 3, (some .int), [], mK4)
def mY5 : MethodName := ⟨"GasContract$Compiler", "parameters", "()V"⟩
def mM5 : mM := (0, mY5, prog_2_method_4_code, 2, none, [], mK5)
def mY6 : MethodName := ⟨"GasContract$Compiler", "expect", "(I)V"⟩
def mM6 : mM := (0, mY6, prog_2_method_24_code, 2, none, [], mK6)
def mY7 : MethodName := ⟨"GasContract$Compiler", "parameter", "()V"⟩
def mM7 : mM := (0, mY7, prog_2_method_5_code, 1, none, [], mK7)
def mY8 : MethodName := ⟨"GasContract$Compiler", "mustBeNewVariable", "()V"⟩
def mM8 : mM := (0, mY8, prog_2_method_27_code, 1, none, [], mK8)
def mY9 : MethodName := ⟨"GasContract$Compiler", "variableNamed", "(I)I"⟩
def mM9 : mM := (0, mY9, prog_2_method_30_code, 3, (some .int), [], mK9)
def mY10 : MethodName := ⟨"GasContract$Compiler", "addVariable", "(II)V"⟩
def mM10 : mM := (0, mY10, prog_2_method_28_code, 3, none, [], mK10)
def mY11 : MethodName := ⟨"GasContract$Compiler", "block", "(I)V"⟩
def mM11 : mM := (0, mY11, prog_2_method_6_code, 4, none, [], mK11)
def mY12 : MethodName := ⟨"GasContract$Compiler", "open", "(II)I"⟩
def mM12 : mM := (0, mY12, prog_2_method_25_code, 3, (some .int), [], mK12)
def mY13 : MethodName := ⟨"GasContract$Compiler", "statement", "(I)V"⟩
def mM13 : mM := (0, mY13, prog_2_method_7_code, 2, none, [], mK13)
def mY14 : MethodName := ⟨"GasContract$Compiler", "let", "(I)V"⟩
def mM14 : mM := (0, mY14, prog_2_method_8_code, 4, none, [], mK14)
def mY15 : MethodName := ⟨"GasContract$Compiler", "expression", "(II)I"⟩
def mM15 : mM := (0, mY15, prog_2_method_15_code, 11, (some .int), [], mK15)
def mY16 : MethodName := ⟨"GasContract$Compiler", "factor", "(I)I"⟩
def mM16 : mM := (0, mY16, prog_2_method_18_code, 5, (some .int), [], mK16)
def mY17 : MethodName := ⟨"GasContract$Compiler", "signed", "(III)I"⟩
def mM17 : mM := (0, mY17, prog_2_method_19_code, 6, (some .int), [], mK17)
def mY18 : MethodName := ⟨"GasContract$Compiler", "mustBe", "(III)V"⟩
def mM18 : mM := (0, mY18, prog_2_method_26_code, 4, none, [], mK18)
def mY19 : MethodName := ⟨"GasContract$Compiler", "calling", "(II)I"⟩
def mM19 : mM := (0, mY19, prog_2_method_22_code, 8, (some .int), [], mK19)
def mY20 : MethodName := ⟨"GasContract$Compiler", "variable", "(I)I"⟩
def mM20 : mM := (0, mY20, prog_2_method_21_code, 3, (some .int), [], mK20)
def mY21 : MethodName := ⟨"GasContract$Compiler", "typeOf", "(I)I"⟩
def mM21 : mM := (0, mY21, prog_2_method_29_code, 2, (some .int), [], mK21)
def mY22 : MethodName := ⟨"GasContract$Compiler", "loading", "(I)I"⟩
def mM22 : mM := (0, mY22, prog_2_method_20_code, 4, (some .int), [], mK22)
def mY23 : MethodName := ⟨"GasContract$Compiler", "bindingOf", "(I)I"⟩
def mM23 : mM := (0, mY23, prog_2_method_16_code, 1, (some .int), [], mK23)
def mY24 : MethodName := ⟨"GasContract$Compiler", "typeOfOperation", "(III)I"⟩
def mM24 : mM := (0, mY24, prog_2_method_17_code, 3, (some .int), [], mK24)
def mY25 : MethodName := ⟨"GasContract$Compiler", "assignment", "(I)V"⟩
def mM25 : mM := (0, mY25, prog_2_method_9_code, 5, none, [], mK25)
def mY26 : MethodName := ⟨"GasContract$Compiler", "storing", "(I)V"⟩
def mM26 : mM := (0, mY26, prog_2_method_10_code, 4, none, [], mK26)
def mY27 : MethodName := ⟨"GasContract$Compiler", "choice", "(I)V"⟩
def mM27 : mM := (0, mY27, prog_2_method_11_code, 4, none, [], mK27)
def mY28 : MethodName := ⟨"GasContract$Compiler", "test", "(I)I"⟩
def mM28 : mM := (0, mY28, prog_2_method_13_code, 3, (some .int), [], mK28)
def mY29 : MethodName := ⟨"GasContract$Compiler", "loop", "(I)V"⟩
def mM29 : mM := (0, mY29, prog_2_method_12_code, 4, none, [], mK29)
def mY30 : MethodName := ⟨"GasContract$Compiler", "plain", "(II)V"⟩
def mM30 : mM := (0, mY30, prog_2_method_14_code, 4, none, [], mK30)
def mY31 : MethodName := ⟨"GasContract$Contract", "clear", "()V"⟩
def mM31 : mM := (1, mY31, prog_3_method_2_code, 1, none, [], mK31)
def mY32 : MethodName := ⟨"GasContract$Contract", "addFunction", "()V"⟩
def mM32 : mM := (1, mY32, prog_3_method_4_code, 1, none, [], mK32)
def mY33 : MethodName := ⟨"GasContract$Contract", "addParameter", "()V"⟩
def mM33 : mM := (1, mY33, prog_3_method_5_code, 1, none, [], mK33)
def mY34 : MethodName := ⟨"GasContract$Contract", "add", "(II)I"⟩
def mM34 : mM := (1, mY34, prog_3_method_9_code, 3, (some .int), [], mK34)
def mY35 : MethodName := ⟨"GasContract$Contract", "parametersOf", "(I)I"⟩
def mM35 : mM := (1, mY35, prog_3_method_7_code, 2, (some .int), [], mK35)
def mY36 : MethodName := ⟨"GasContract$Contract", "hasFunction", "(I)Z"⟩
def mM36 : mM := (1, mY36, prog_3_method_6_code, 2, (some .boolean), [], mK36)
def mY37 : MethodName := ⟨"GasContract$Contract", "aimHere", "(I)V"⟩
def mM37 : mM := (1, mY37, prog_3_method_10_code, 2, none, [], mK37)
def mY38 : MethodName := ⟨"GasContract$Contract", "become", "(LGasContract$Contract;)V"⟩
def mM38 : mM := (1, mY38, prog_3_method_3_code, 2, none, [], mK38)
def mY39 : MethodName := ⟨"GasContract$Contract", "entryOf", "(I)I"⟩
def mM39 : mM := (1, mY39, prog_3_method_8_code, 2, (some .int), [], mK39)
def mY40 : MethodName := ⟨"GasContract$Contract", "markAt", "(I)I"⟩
def mM40 : mM := (1, mY40, prog_3_method_11_code, 2, (some .int), [], mK40)
def mY41 : MethodName := ⟨"GasContract$Contract", "argumentAt", "(I)I"⟩
def mM41 : mM := (1, mY41, prog_3_method_12_code, 2, (some .int), [], mK41)
def mY42 : MethodName := ⟨"GasContract$Machine", "run", "(IIIII)I"⟩
def mM42 : mM := (2, mY42, prog_4_method_2_code, 9, (some .int), [], mK42)
def mY43 : MethodName := ⟨"GasContract$Machine", "pushParameters", "(IIII)V"⟩
def mM43 : mM := (2, mY43, prog_4_method_3_code, 5, none, [], mK43)
def mY44 : MethodName := ⟨"GasContract$Machine", "push", "(I)V"⟩
def mM44 : mM := (2, mY44, prog_4_method_14_code, 2, none, [], mK44)
def mY45 : MethodName := ⟨"GasContract$Machine", "enter", "(I)V"⟩
def mM45 : mM := (2, mY45, prog_4_method_10_code, 4, none, [], mK45)
def mY46 : MethodName := ⟨"GasContract$Machine", "pop", "()I"⟩
def mM46 : mM := (2, mY46, prog_4_method_15_code, 1, (some .int), [], mK46)
def mY47 : MethodName := ⟨"GasContract$Machine", "setVariable", "(II)V"⟩
def mM47 : mM := (2, mY47, prog_4_method_13_code, 4, none, [], mK47)
def mY48 : MethodName := ⟨"GasContract$Machine", "costOf", "(I)I"⟩
def mM48 : mM := (2, mY48, prog_4_method_4_code, 1, (some .int), [], mK48)
def mY49 : MethodName := ⟨"GasContract$Machine", "perform", "(II)V"⟩
def mM49 : mM := (2, mY49, prog_4_method_5_code, 3, none, [], mK49)
def mY50 : MethodName := ⟨"GasContract$Machine", "variable", "(I)I"⟩
def mM50 : mM := (2, mY50, prog_4_method_12_code, 3, (some .int), [], mK50)
def mY51 : MethodName := ⟨"GasContract$Machine", "write", "()V"⟩
def mM51 : mM := (2, mY51, prog_4_method_9_code, 3, none, [], mK51)
def mY52 : MethodName := ⟨"GasContract$Machine", "leave", "(I)V"⟩
def mM52 : mM := (2, mY52, prog_4_method_11_code, 2, none, [], mK52)
def mY53 : MethodName := ⟨"GasContract$Machine", "skipIf", "(II)V"⟩
def mM53 : mM := (2, mY53, prog_4_method_6_code, 4, none, [], mK53)
def mY54 : MethodName := ⟨"GasContract$Machine", "operate", "(I)V"⟩
def mM54 : mM := (2, mY54, prog_4_method_7_code, 4, none, [], mK54)
def mY55 : MethodName := ⟨"GasContract$Machine", "reckon", "(III)I"⟩
def mM55 : mM := (2, mY55, prog_4_method_8_code, 3, (some .int), [], mK55)
def mY56 : MethodName := ⟨"GasContract$Store", "read", "(I)I"⟩
def mM56 : mM := (3, mY56, prog_6_method_2_code, 3, (some .int), [], mK56)
def mY57 : MethodName := ⟨"GasContract$Store", "indexOf", "(I)I"⟩
def mM57 : mM := (3, mY57, prog_6_method_6_code, 3, (some .int), [], mK57)
def mY58 : MethodName := ⟨"GasContract$Store", "keep", "()V"⟩
def mM58 : mM := (3, mY58, prog_6_method_4_code, 1, none, [], mK58)
def mY59 : MethodName := ⟨"GasContract$Store", "write", "(II)Z"⟩
def mM59 : mM := (3, mY59, prog_6_method_3_code, 4, (some .boolean), [], mK59)
def mY60 : MethodName := ⟨"GasContract$Store", "restore", "()V"⟩
def mM60 : mM := (3, mY60, prog_6_method_5_code, 1, none, [], mK60)
def mY61 : MethodName := ⟨"GasContract$Tokens", "cut", "([II)V"⟩
def mM61 : mM := (4, mY61, prog_7_method_2_code, 7, none, [], mK61)
def mY62 : MethodName := ⟨"GasContract$Tokens", "behindBlanks", "(I)I"⟩
def mM62 : mM := (4, mY62, prog_7_method_10_code, 3, (some .int), [], mK62)
def mY63 : MethodName := ⟨"GasContract$Tokens", "signAt", "(I)I"⟩
def mM63 : mM := (4, mY63, prog_7_method_13_code, 2, (some .int), [], mK63)
def mY64 : MethodName := ⟨"GasContract$Tokens", "cutOne", "(I)I"⟩
def mM64 : mM := (4, mY64, prog_7_method_7_code, 4, (some .int), [], mK64)
def mY65 : MethodName := ⟨"GasContract$Tokens", "isLetter", "(I)Z"⟩
def mM65 : mM := (4, mY65, prog_7_method_14_code, 1, (some .boolean), [], mK65)
def mY66 : MethodName := ⟨"GasContract$Tokens", "behindName", "(I)I"⟩
def mM66 : mM := (4, mY66, prog_7_method_8_code, 3, (some .int), [], mK66)
def mY67 : MethodName := ⟨"GasContract$Tokens", "isDigit", "(I)Z"⟩
def mM67 : mM := (4, mY67, prog_7_method_15_code, 1, (some .boolean), [], mK67)
def mY68 : MethodName := ⟨"GasContract$Tokens", "wordOrName", "(II)I"⟩
def mM68 : mM := (4, mY68, prog_7_method_11_code, 3, (some .int), [], mK68)
def mY69 : MethodName := ⟨"GasContract$Tokens", "spells", "(Ljava/lang/String;I)Z"⟩
def mM69 : mM := (4, mY69, prog_7_method_12_code, 4, (some .boolean), [], mK69)
def mY70 : MethodName := ⟨"GasContract$Tokens", "cutNumber", "(I)I"⟩
def mM70 : mM := (4, mY70, prog_7_method_9_code, 5, (some .int), [], mK70)
def mY71 : MethodName := ⟨"GasContract$Tokens", "twoSigns", "(II)I"⟩
def mM71 : mM := (4, mY71, prog_7_method_16_code, 2, (some .int), [], mK71)
def mY72 : MethodName := ⟨"GasContract$Tokens", "oneSign", "(I)I"⟩
def mM72 : mM := (4, mY72, prog_7_method_17_code, 1, (some .int), [], mK72)
def mY73 : MethodName := ⟨"GasContract$Tokens", "markOf", "(I)I"⟩
def mM73 : mM := (4, mY73, prog_7_method_3_code, 2, (some .int), [], mK73)
def mY74 : MethodName := ⟨"GasContract$Tokens", "placeOf", "(I)I"⟩
def mM74 : mM := (4, mY74, prog_7_method_4_code, 2, (some .int), [], mK74)
def mY75 : MethodName := ⟨"GasContract$Tokens", "sameName", "(II)Z"⟩
def mM75 : mM := (4, mY75, prog_7_method_6_code, 7, (some .boolean), [], mK75)
def mY76 : MethodName := ⟨"GasContract$Tokens", "numberOf", "(I)I"⟩
def mM76 : mM := (4, mY76, prog_7_method_5_code, 2, (some .int), [], mK76)
def mY77 : MethodName := ⟨"GasContract", "compile", "()I"⟩
def mM77 : mM := (5, mY77, prog_1_method_4_code, 2, (some .int), [], mK77)
def mY78 : MethodName := ⟨"GasContract", "load", "(I)I"⟩
def mM78 : mM := (5, mY78, prog_1_method_8_code, 2, (some .int), [], mK78)
def mY79 : MethodName := ⟨"GasContract", "stored", "()I"⟩
def mM79 : mM := (5, mY79, prog_1_method_9_code, 1, (some .int), [], mK79)
def mY80 : MethodName := ⟨"GasContract", "put", "(I)I"⟩
def mM80 : mM := (5, mY80, prog_1_method_2_code, 5, (some .int), [], mK80)
def mY81 : MethodName := ⟨"GasContract", "addSign", "(I)V"⟩
def mM81 : mM := (5, mY81, prog_1_method_10_code, 2, none, [], mK81)
def mY82 : MethodName := ⟨"GasContract", "end", "(I)V"⟩
def mM82 : mM := (5, mY82, prog_1_method_3_code, 2, none, [], mK82)
def mY83 : MethodName := ⟨"GasContract", "functions", "(I)I"⟩
def mM83 : mM := (5, mY83, prog_1_method_5_code, 2, (some .int), [], mK83)
def mY84 : MethodName := ⟨"GasContract", "call", "(IIIII)I"⟩
def mM84 : mM := (5, mY84, prog_1_method_6_code, 8, (some .int), [], mK84)
def mY85 : MethodName := ⟨"GasContract", "result", "(I)I"⟩
def mM85 : mM := (5, mY85, prog_1_method_7_code, 2, (some .int), [], mK85)
def mY86 : MethodName := ⟨"GasContractModel", "thrown", "()I"⟩
def mM86 : mM := (6, mY86, prog_9_method_2_code, 1, (some .int), [], mK86)
def mY87 : MethodName := ⟨"GasContractModel", "put", "(I)I"⟩
def mM87 : mM := (6, mY87, prog_9_method_5_code, 6, (some .int), [], mK87)
def mY88 : MethodName := ⟨"GasContractModel", "refuse", "(ZZZ)Z"⟩
def mM88 : mM := (6, mY88, prog_9_method_3_code, 4, (some .boolean), [], mK88)
def mY89 : MethodName := ⟨"GasContractModel", "end", "(I)V"⟩
def mM89 : mM := (6, mY89, prog_9_method_6_code, 2, none, [], mK89)
def mY90 : MethodName := ⟨"GasContractModel", "in", "(III)Z"⟩
def mM90 : mM := (6, mY90, prog_9_method_4_code, 3, (some .boolean), [], mK90)
def mY91 : MethodName := ⟨"GasContractModel", "compile", "()I"⟩
def mM91 : mM := (6, mY91, prog_9_method_51_code, 2, (some .int), [], mK91)
def mY92 : MethodName := ⟨"GasContractModel", "advance", "()V"⟩
def mM92 : mM := (6, mY92, prog_9_method_14_code, 1, none, [], mK92)
def mY93 : MethodName := ⟨"GasContractModel", "sign", "(I)I"⟩
def mM93 : mM := (6, mY93, prog_9_method_7_code, 2, (some .int), [], mK93)
def mY94 : MethodName := ⟨"GasContractModel", "isLetter", "(I)Z"⟩
def mM94 : mM := (6, mY94, prog_9_method_8_code, 2, (some .boolean), [], mK94)
def mY95 : MethodName := ⟨"GasContractModel", "isDigit", "(I)Z"⟩
def mM95 : mM := (6, mY95, prog_9_method_9_code, 2, (some .boolean), [], mK95)
def mY96 : MethodName := ⟨"GasContractModel", "word", "(II)I"⟩
def mM96 : mM := (6, mY96, prog_9_method_10_code, 6, (some .int), [], mK96)
def mY97 : MethodName := ⟨"GasContractModel", "readNumber", "()V"⟩
def mM97 : mM := (6, mY97, prog_9_method_11_code, 3, none, [], mK97)
def mY98 : MethodName := ⟨"GasContractModel", "readOther", "()V"⟩
def mM98 : mM := (6, mY98, prog_9_method_13_code, 1, none, [], mK98)
def mY99 : MethodName := ⟨"GasContractModel", "readSign", "(III)V"⟩
def mM99 : mM := (6, mY99, prog_9_method_12_code, 5, none, [], mK99)
def mY100 : MethodName := ⟨"GasContractModel", "expect", "(I)V"⟩
def mM100 : mM := (6, mY100, prog_9_method_16_code, 2, none, [], mK100)
def mY101 : MethodName := ⟨"GasContractModel", "perform", "(I)V"⟩
def mM101 : mM := (6, mY101, prog_9_method_50_code, 2, none, [], mK101)
def mY102 : MethodName := ⟨"GasContractModel", "take", "(I)V"⟩
def mM102 : mM := (6, mY102, prog_9_method_23_code, 2, none, [], mK102)
def mY103 : MethodName := ⟨"GasContractModel", "fail", "(I)V"⟩
def mM103 : mM := (6, mY103, prog_9_method_15_code, 2, none, [], mK103)
def mY104 : MethodName := ⟨"GasContractModel", "open", "(I)V"⟩
def mM104 : mM := (6, mY104, prog_9_method_24_code, 2, none, [], mK104)
def mY105 : MethodName := ⟨"GasContractModel", "single", "(I)V"⟩
def mM105 : mM := (6, mY105, prog_9_method_49_code, 4, none, [], mK105)
def mY106 : MethodName := ⟨"GasContractModel", "factor", "()V"⟩
def mM106 : mM := (6, mY106, prog_9_method_46_code, 1, none, [], mK106)
def mY107 : MethodName := ⟨"GasContractModel", "note", "(I)V"⟩
def mM107 : mM := (6, mY107, prog_9_method_18_code, 2, none, [], mK107)
def mY108 : MethodName := ⟨"GasContractModel", "expectAll", "(IIII)V"⟩
def mM108 : mM := (6, mY108, prog_9_method_17_code, 5, none, [], mK108)
def mY109 : MethodName := ⟨"GasContractModel", "emit", "(II)V"⟩
def mM109 : mM := (6, mY109, prog_9_method_22_code, 3, none, [], mK109)
def mY110 : MethodName := ⟨"GasContractModel", "typeIs", "(I)V"⟩
def mM110 : mM := (6, mY110, prog_9_method_20_code, 2, none, [], mK110)
def mY111 : MethodName := ⟨"GasContractModel", "name", "()V"⟩
def mM111 : mM := (6, mY111, prog_9_method_47_code, 4, none, [], mK111)
def mY112 : MethodName := ⟨"GasContractModel", "findVariable", "(II)I"⟩
def mM112 : mM := (6, mY112, prog_9_method_27_code, 5, (some .int), [], mK112)
def mY113 : MethodName := ⟨"GasContractModel", "alike", "(III)Z"⟩
def mM113 : mM := (6, mY113, prog_9_method_25_code, 6, (some .boolean), [], mK113)
def mY114 : MethodName := ⟨"GasContractModel", "findFunction", "(II)I"⟩
def mM114 : mM := (6, mY114, prog_9_method_26_code, 5, (some .int), [], mK114)
def mY115 : MethodName := ⟨"GasContractModel", "unnote", "()I"⟩
def mM115 : mM := (6, mY115, prog_9_method_19_code, 1, (some .int), [], mK115)
def mY116 : MethodName := ⟨"GasContractModel", "must", "(II)V"⟩
def mM116 : mM := (6, mY116, prog_9_method_35_code, 3, none, [], mK116)
def mY117 : MethodName := ⟨"GasContractModel", "type", "()I"⟩
def mM117 : mM := (6, mY117, prog_9_method_21_code, 1, (some .int), [], mK117)
def mY118 : MethodName := ⟨"GasContractModel", "callEnd", "()V"⟩
def mM118 : mM := (6, mY118, prog_9_method_48_code, 4, none, [], mK118)
def mY119 : MethodName := ⟨"GasContractModel", "join", "(I)V"⟩
def mM119 : mM := (6, mY119, prog_9_method_44_code, 2, none, [], mK119)
def mY120 : MethodName := ⟨"GasContractModel", "between", "(ZIIII)V"⟩
def mM120 : mM := (6, mY120, prog_9_method_43_code, 6, none, [], mK120)
def mY121 : MethodName := ⟨"GasContractModel", "branch", "(I)V"⟩
def mM121 : mM := (6, mY121, prog_9_method_36_code, 2, none, [], mK121)
def mY122 : MethodName := ⟨"GasContractModel", "reckon", "(I)V"⟩
def mM122 : mM := (6, mY122, prog_9_method_45_code, 9, none, [], mK122)
def mY123 : MethodName := ⟨"GasContractModel", "land", "(I)V"⟩
def mM123 : mM := (6, mY123, prog_9_method_37_code, 2, none, [], mK123)
def mY124 : MethodName := ⟨"GasContractModel", "act", "(I)V"⟩
def mM124 : mM := (6, mY124, prog_9_method_42_code, 4, none, [], mK124)
def mY125 : MethodName := ⟨"GasContractModel", "setLet", "()V"⟩
def mM125 : mM := (6, mY125, prog_9_method_38_code, 4, none, [], mK125)
def mY126 : MethodName := ⟨"GasContractModel", "declare", "(III)V"⟩
def mM126 : mM := (6, mY126, prog_9_method_28_code, 4, none, [], mK126)
def mY127 : MethodName := ⟨"GasContractModel", "letName", "()V"⟩
def mM127 : mM := (6, mY127, prog_9_method_31_code, 1, none, [], mK127)
def mY128 : MethodName := ⟨"GasContractModel", "oldName", "()V"⟩
def mM128 : mM := (6, mY128, prog_9_method_32_code, 2, none, [], mK128)
def mY129 : MethodName := ⟨"GasContractModel", "elseJump", "()V"⟩
def mM129 : mM := (6, mY129, prog_9_method_41_code, 2, none, [], mK129)
def mY130 : MethodName := ⟨"GasContractModel", "whileTest", "()V"⟩
def mM130 : mM := (6, mY130, prog_9_method_39_code, 2, none, [], mK130)
def mY131 : MethodName := ⟨"GasContractModel", "whileEnd", "()V"⟩
def mM131 : mM := (6, mY131, prog_9_method_40_code, 2, none, [], mK131)
def mY132 : MethodName := ⟨"GasContractModel", "outer", "(I)V"⟩
def mM132 : mM := (6, mY132, prog_9_method_33_code, 2, none, [], mK132)
def mY133 : MethodName := ⟨"GasContractModel", "functionName", "()V"⟩
def mM133 : mM := (6, mY133, prog_9_method_29_code, 1, none, [], mK133)
def mY134 : MethodName := ⟨"GasContractModel", "parameter", "()V"⟩
def mM134 : mM := (6, mY134, prog_9_method_30_code, 1, none, [], mK134)
def mY135 : MethodName := ⟨"GasContractModel", "statement", "()V"⟩
def mM135 : mM := (6, mY135, prog_9_method_34_code, 1, none, [], mK135)
def mY136 : MethodName := ⟨"GasContractModel", "functions", "(I)I"⟩
def mM136 : mM := (6, mY136, prog_9_method_52_code, 2, (some .int), [], mK136)
def mY137 : MethodName := ⟨"GasContractModel", "load", "(I)I"⟩
def mM137 : mM := (6, mY137, prog_9_method_56_code, 4, (some .int), [], mK137)
def mY138 : MethodName := ⟨"GasContractModel", "stored", "()I"⟩
def mM138 : mM := (6, mY138, prog_9_method_57_code, 1, (some .int), [], mK138)
def mY139 : MethodName := ⟨"GasContractModel", "call", "(IIIII)I"⟩
def mM139 : mM := (6, mY139, prog_9_method_64_code, 10, (some .int), [], mK139)
def mY140 : MethodName := ⟨"GasContractModel", "push", "(I)V"⟩
def mM140 : mM := (6, mY140, prog_9_method_54_code, 2, none, [], mK140)
def mY141 : MethodName := ⟨"GasContractModel", "enter", "(II)I"⟩
def mM141 : mM := (6, mY141, prog_9_method_61_code, 4, (some .int), [], mK141)
def mY142 : MethodName := ⟨"GasContractModel", "pop", "()I"⟩
def mM142 : mM := (6, mY142, prog_9_method_55_code, 1, (some .int), [], mK142)
def mY143 : MethodName := ⟨"GasContractModel", "costOf", "(I)I"⟩
def mM143 : mM := (6, mY143, prog_9_method_53_code, 1, (some .int), [], mK143)
def mY144 : MethodName := ⟨"GasContractModel", "go", "(I)I"⟩
def mM144 : mM := (6, mY144, prog_9_method_62_code, 9, (some .int), [], mK144)
def mY145 : MethodName := ⟨"GasContractModel", "reckoned", "(III)I"⟩
def mM145 : mM := (6, mY145, prog_9_method_60_code, 3, (some .int), [], mK145)
def mY146 : MethodName := ⟨"GasContractModel", "truth", "(Z)I"⟩
def mM146 : mM := (6, mY146, prog_9_method_59_code, 1, (some .int), [], mK146)
def mY147 : MethodName := ⟨"GasContractModel", "keep", "(II)Z"⟩
def mM147 : mM := (6, mY147, prog_9_method_58_code, 5, (some .boolean), [], mK147)
def mY148 : MethodName := ⟨"GasContractModel", "leave", "(I)I"⟩
def mM148 : mM := (6, mY148, prog_9_method_63_code, 3, (some .int), [], mK148)
def mY149 : MethodName := ⟨"GasContractModel", "result", "(I)I"⟩
def mM149 : mM := (6, mY149, prog_9_method_65_code, 2, (some .int), [], mK149)
def mY150 : MethodName := ⟨"GasContractLaw", "put", "(LGasContract;I[J)I"⟩
def mM150 : mM := (7, mY150, method_3_code, 4, (some .int), [(0, 9, 12, 13), (0, 9, 15, 15)], mK150)
def mY151 : MethodName := ⟨"GasContractLaw", "end", "(LGasContract;I)I"⟩
def mM151 : mM := (7, mY151, method_4_code, 3, (some .int), [(0, 5, 8, 13)], mK151)
def mY152 : MethodName := ⟨"GasContractLaw", "functions", "(LGasContract;I[J)I"⟩
def mM152 : mM := (7, mY152, method_5_code, 4, (some .int), [(0, 9, 12, 24), (0, 9, 15, 26)], mK152)
def mY153 : MethodName := ⟨"GasContractLaw", "call", "(LGasContract;IIIII[J)I"⟩
def mM153 : mM := (7, mY153, method_6_code, 8, (some .int), [(0, 16, 19, 24), (0, 16, 23, 26), (0, 16, 27, 13)], mK153)
def mY154 : MethodName := ⟨"GasContractLaw", "result", "(LGasContract;I[J)I"⟩
def mM154 : mM := (7, mY154, method_7_code, 4, (some .int), [(0, 9, 12, 13)], mK154)
def mY155 : MethodName := ⟨"java/util/Arrays", "fill", "([IIII)V"⟩
def mM155 : mM := (8, mY155, prog_27_method_104_code, 5, none, [], mK155)
def mY156 : MethodName := ⟨"java/util/Arrays", "rangeCheck", "(III)V"⟩
def mM156 : mM := (8, mY156, prog_27_method_30_code, 3, none, [], mK156)
def mY157 : MethodName := ⟨"GasContractLaw", "law", "([I)Z"⟩
def mM157 : mM := (7, mY157, code, 7, (some .boolean), [], mK157)
def m_prog : List mM := [mM0, mM1, mM2, mM3, mM4, mM5, mM6, mM7, mM8, mM9, mM10, mM11, mM12, mM13, mM14, mM15, mM16, mM17, mM18, mM19, mM20, mM21, mM22, mM23, mM24, mM25, mM26, mM27, mM28, mM29, mM30, mM31, mM32, mM33, mM34, mM35, mM36, mM37, mM38, mM39, mM40, mM41, mM42, mM43, mM44, mM45, mM46, mM47, mM48, mM49, mM50, mM51, mM52, mM53, mM54, mM55, mM56, mM57, mM58, mM59, mM60, mM61, mM62, mM63, mM64, mM65, mM66, mM67, mM68, mM69, mM70, mM71, mM72, mM73, mM74, mM75, mM76, mM77, mM78, mM79, mM80, mM81, mM82, mM83, mM84, mM85, mM86, mM87, mM88, mM89, mM90, mM91, mM92, mM93, mM94, mM95, mM96, mM97, mM98, mM99, mM100, mM101, mM102, mM103, mM104, mM105, mM106, mM107, mM108, mM109, mM110, mM111, mM112, mM113, mM114, mM115, mM116, mM117, mM118, mM119, mM120, mM121, mM122, mM123, mM124, mM125, mM126, mM127, mM128, mM129, mM130, mM131, mM132, mM133, mM134, mM135, mM136, mM137, mM138, mM139, mM140, mM141, mM142, mM143, mM144, mM145, mM146, mM147, mM148, mM149, mM150, mM151, mM152, mM153, mM154, mM155, mM156, mM157]
theorem m_dec0 : ∀ q ∈ mK0, decode prog_2_method_2_code q.1 = .ok (q.2.1, q.2.2.1) := by decide +kernel
theorem m_dec1 : ∀ q ∈ mK1, decode prog_2_method_23_code q.1 = .ok (q.2.1, q.2.2.1) := by decide +kernel
theorem m_dec2 : ∀ q ∈ mK2, decode prog_2_method_3_code q.1 = .ok (q.2.1, q.2.2.1) := by decide +kernel
theorem m_dec3 : ∀ q ∈ mK3, decode prog_2_method_32_code q.1 = .ok (q.2.1, q.2.2.1) := by decide +kernel
theorem m_dec4 : ∀ q ∈ mK4, decode prog_2_method_31_code q.1 = .ok (q.2.1, q.2.2.1) := by decide +kernel
theorem m_dec5 : ∀ q ∈ mK5, decode prog_2_method_4_code q.1 = .ok (q.2.1, q.2.2.1) := by decide +kernel
theorem m_dec6 : ∀ q ∈ mK6, decode prog_2_method_24_code q.1 = .ok (q.2.1, q.2.2.1) := by decide +kernel
theorem m_dec7 : ∀ q ∈ mK7, decode prog_2_method_5_code q.1 = .ok (q.2.1, q.2.2.1) := by decide +kernel
theorem m_dec8 : ∀ q ∈ mK8, decode prog_2_method_27_code q.1 = .ok (q.2.1, q.2.2.1) := by decide +kernel
theorem m_dec9 : ∀ q ∈ mK9, decode prog_2_method_30_code q.1 = .ok (q.2.1, q.2.2.1) := by decide +kernel
theorem m_dec10 : ∀ q ∈ mK10, decode prog_2_method_28_code q.1 = .ok (q.2.1, q.2.2.1) := by decide +kernel
theorem m_dec11 : ∀ q ∈ mK11, decode prog_2_method_6_code q.1 = .ok (q.2.1, q.2.2.1) := by decide +kernel
theorem m_dec12 : ∀ q ∈ mK12, decode prog_2_method_25_code q.1 = .ok (q.2.1, q.2.2.1) := by decide +kernel
theorem m_dec13 : ∀ q ∈ mK13, decode prog_2_method_7_code q.1 = .ok (q.2.1, q.2.2.1) := by decide +kernel
theorem m_dec14 : ∀ q ∈ mK14, decode prog_2_method_8_code q.1 = .ok (q.2.1, q.2.2.1) := by decide +kernel
theorem m_dec15 : ∀ q ∈ mK15, decode prog_2_method_15_code q.1 = .ok (q.2.1, q.2.2.1) := by decide +kernel
theorem m_dec16 : ∀ q ∈ mK16, decode prog_2_method_18_code q.1 = .ok (q.2.1, q.2.2.1) := by decide +kernel
theorem m_dec17 : ∀ q ∈ mK17, decode prog_2_method_19_code q.1 = .ok (q.2.1, q.2.2.1) := by decide +kernel
theorem m_dec18 : ∀ q ∈ mK18, decode prog_2_method_26_code q.1 = .ok (q.2.1, q.2.2.1) := by decide +kernel
theorem m_dec19 : ∀ q ∈ mK19, decode prog_2_method_22_code q.1 = .ok (q.2.1, q.2.2.1) := by decide +kernel
theorem m_dec20 : ∀ q ∈ mK20, decode prog_2_method_21_code q.1 = .ok (q.2.1, q.2.2.1) := by decide +kernel
theorem m_dec21 : ∀ q ∈ mK21, decode prog_2_method_29_code q.1 = .ok (q.2.1, q.2.2.1) := by decide +kernel
theorem m_dec22 : ∀ q ∈ mK22, decode prog_2_method_20_code q.1 = .ok (q.2.1, q.2.2.1) := by decide +kernel
theorem m_dec23 : ∀ q ∈ mK23, decode prog_2_method_16_code q.1 = .ok (q.2.1, q.2.2.1) := by decide +kernel
theorem m_dec24 : ∀ q ∈ mK24, decode prog_2_method_17_code q.1 = .ok (q.2.1, q.2.2.1) := by decide +kernel
theorem m_dec25 : ∀ q ∈ mK25, decode prog_2_method_9_code q.1 = .ok (q.2.1, q.2.2.1) := by decide +kernel
theorem m_dec26 : ∀ q ∈ mK26, decode prog_2_method_10_code q.1 = .ok (q.2.1, q.2.2.1) := by decide +kernel
theorem m_dec27 : ∀ q ∈ mK27, decode prog_2_method_11_code q.1 = .ok (q.2.1, q.2.2.1) := by decide +kernel
theorem m_dec28 : ∀ q ∈ mK28, decode prog_2_method_13_code q.1 = .ok (q.2.1, q.2.2.1) := by decide +kernel
theorem m_dec29 : ∀ q ∈ mK29, decode prog_2_method_12_code q.1 = .ok (q.2.1, q.2.2.1) := by decide +kernel
theorem m_dec30 : ∀ q ∈ mK30, decode prog_2_method_14_code q.1 = .ok (q.2.1, q.2.2.1) := by decide +kernel
theorem m_dec31 : ∀ q ∈ mK31, decode prog_3_method_2_code q.1 = .ok (q.2.1, q.2.2.1) := by decide +kernel
theorem m_dec32 : ∀ q ∈ mK32, decode prog_3_method_4_code q.1 = .ok (q.2.1, q.2.2.1) := by decide +kernel
theorem m_dec33 : ∀ q ∈ mK33, decode prog_3_method_5_code q.1 = .ok (q.2.1, q.2.2.1) := by decide +kernel
theorem m_dec34 : ∀ q ∈ mK34, decode prog_3_method_9_code q.1 = .ok (q.2.1, q.2.2.1) := by decide +kernel
theorem m_dec35 : ∀ q ∈ mK35, decode prog_3_method_7_code q.1 = .ok (q.2.1, q.2.2.1) := by decide +kernel
theorem m_dec36 : ∀ q ∈ mK36, decode prog_3_method_6_code q.1 = .ok (q.2.1, q.2.2.1) := by decide +kernel
theorem m_dec37 : ∀ q ∈ mK37, decode prog_3_method_10_code q.1 = .ok (q.2.1, q.2.2.1) := by decide +kernel
theorem m_dec38 : ∀ q ∈ mK38, decode prog_3_method_3_code q.1 = .ok (q.2.1, q.2.2.1) := by decide +kernel
theorem m_dec39 : ∀ q ∈ mK39, decode prog_3_method_8_code q.1 = .ok (q.2.1, q.2.2.1) := by decide +kernel
theorem m_dec40 : ∀ q ∈ mK40, decode prog_3_method_11_code q.1 = .ok (q.2.1, q.2.2.1) := by decide +kernel
theorem m_dec41 : ∀ q ∈ mK41, decode prog_3_method_12_code q.1 = .ok (q.2.1, q.2.2.1) := by decide +kernel
theorem m_dec42 : ∀ q ∈ mK42, decode prog_4_method_2_code q.1 = .ok (q.2.1, q.2.2.1) := by decide +kernel
theorem m_dec43 : ∀ q ∈ mK43, decode prog_4_method_3_code q.1 = .ok (q.2.1, q.2.2.1) := by decide +kernel
theorem m_dec44 : ∀ q ∈ mK44, decode prog_4_method_14_code q.1 = .ok (q.2.1, q.2.2.1) := by decide +kernel
theorem m_dec45 : ∀ q ∈ mK45, decode prog_4_method_10_code q.1 = .ok (q.2.1, q.2.2.1) := by decide +kernel
theorem m_dec46 : ∀ q ∈ mK46, decode prog_4_method_15_code q.1 = .ok (q.2.1, q.2.2.1) := by decide +kernel
theorem m_dec47 : ∀ q ∈ mK47, decode prog_4_method_13_code q.1 = .ok (q.2.1, q.2.2.1) := by decide +kernel
theorem m_dec48 : ∀ q ∈ mK48, decode prog_4_method_4_code q.1 = .ok (q.2.1, q.2.2.1) := by decide +kernel
theorem m_dec49 : ∀ q ∈ mK49, decode prog_4_method_5_code q.1 = .ok (q.2.1, q.2.2.1) := by decide +kernel
theorem m_dec50 : ∀ q ∈ mK50, decode prog_4_method_12_code q.1 = .ok (q.2.1, q.2.2.1) := by decide +kernel
theorem m_dec51 : ∀ q ∈ mK51, decode prog_4_method_9_code q.1 = .ok (q.2.1, q.2.2.1) := by decide +kernel
theorem m_dec52 : ∀ q ∈ mK52, decode prog_4_method_11_code q.1 = .ok (q.2.1, q.2.2.1) := by decide +kernel
theorem m_dec53 : ∀ q ∈ mK53, decode prog_4_method_6_code q.1 = .ok (q.2.1, q.2.2.1) := by decide +kernel
theorem m_dec54 : ∀ q ∈ mK54, decode prog_4_method_7_code q.1 = .ok (q.2.1, q.2.2.1) := by decide +kernel
theorem m_dec55 : ∀ q ∈ mK55, decode prog_4_method_8_code q.1 = .ok (q.2.1, q.2.2.1) := by decide +kernel
theorem m_dec56 : ∀ q ∈ mK56, decode prog_6_method_2_code q.1 = .ok (q.2.1, q.2.2.1) := by decide +kernel
theorem m_dec57 : ∀ q ∈ mK57, decode prog_6_method_6_code q.1 = .ok (q.2.1, q.2.2.1) := by decide +kernel
theorem m_dec58 : ∀ q ∈ mK58, decode prog_6_method_4_code q.1 = .ok (q.2.1, q.2.2.1) := by decide +kernel
theorem m_dec59 : ∀ q ∈ mK59, decode prog_6_method_3_code q.1 = .ok (q.2.1, q.2.2.1) := by decide +kernel
theorem m_dec60 : ∀ q ∈ mK60, decode prog_6_method_5_code q.1 = .ok (q.2.1, q.2.2.1) := by decide +kernel
theorem m_dec61 : ∀ q ∈ mK61, decode prog_7_method_2_code q.1 = .ok (q.2.1, q.2.2.1) := by decide +kernel
theorem m_dec62 : ∀ q ∈ mK62, decode prog_7_method_10_code q.1 = .ok (q.2.1, q.2.2.1) := by decide +kernel
theorem m_dec63 : ∀ q ∈ mK63, decode prog_7_method_13_code q.1 = .ok (q.2.1, q.2.2.1) := by decide +kernel
theorem m_dec64 : ∀ q ∈ mK64, decode prog_7_method_7_code q.1 = .ok (q.2.1, q.2.2.1) := by decide +kernel
theorem m_dec65 : ∀ q ∈ mK65, decode prog_7_method_14_code q.1 = .ok (q.2.1, q.2.2.1) := by decide +kernel
theorem m_dec66 : ∀ q ∈ mK66, decode prog_7_method_8_code q.1 = .ok (q.2.1, q.2.2.1) := by decide +kernel
theorem m_dec67 : ∀ q ∈ mK67, decode prog_7_method_15_code q.1 = .ok (q.2.1, q.2.2.1) := by decide +kernel
theorem m_dec68 : ∀ q ∈ mK68, decode prog_7_method_11_code q.1 = .ok (q.2.1, q.2.2.1) := by decide +kernel
theorem m_dec69 : ∀ q ∈ mK69, decode prog_7_method_12_code q.1 = .ok (q.2.1, q.2.2.1) := by decide +kernel
theorem m_dec70 : ∀ q ∈ mK70, decode prog_7_method_9_code q.1 = .ok (q.2.1, q.2.2.1) := by decide +kernel
theorem m_dec71 : ∀ q ∈ mK71, decode prog_7_method_16_code q.1 = .ok (q.2.1, q.2.2.1) := by decide +kernel
theorem m_dec72 : ∀ q ∈ mK72, decode prog_7_method_17_code q.1 = .ok (q.2.1, q.2.2.1) := by decide +kernel
theorem m_dec73 : ∀ q ∈ mK73, decode prog_7_method_3_code q.1 = .ok (q.2.1, q.2.2.1) := by decide +kernel
theorem m_dec74 : ∀ q ∈ mK74, decode prog_7_method_4_code q.1 = .ok (q.2.1, q.2.2.1) := by decide +kernel
theorem m_dec75 : ∀ q ∈ mK75, decode prog_7_method_6_code q.1 = .ok (q.2.1, q.2.2.1) := by decide +kernel
theorem m_dec76 : ∀ q ∈ mK76, decode prog_7_method_5_code q.1 = .ok (q.2.1, q.2.2.1) := by decide +kernel
theorem m_dec77 : ∀ q ∈ mK77, decode prog_1_method_4_code q.1 = .ok (q.2.1, q.2.2.1) := by decide +kernel
theorem m_dec78 : ∀ q ∈ mK78, decode prog_1_method_8_code q.1 = .ok (q.2.1, q.2.2.1) := by decide +kernel
theorem m_dec79 : ∀ q ∈ mK79, decode prog_1_method_9_code q.1 = .ok (q.2.1, q.2.2.1) := by decide +kernel
theorem m_dec80 : ∀ q ∈ mK80, decode prog_1_method_2_code q.1 = .ok (q.2.1, q.2.2.1) := by decide +kernel
theorem m_dec81 : ∀ q ∈ mK81, decode prog_1_method_10_code q.1 = .ok (q.2.1, q.2.2.1) := by decide +kernel
theorem m_dec82 : ∀ q ∈ mK82, decode prog_1_method_3_code q.1 = .ok (q.2.1, q.2.2.1) := by decide +kernel
theorem m_dec83 : ∀ q ∈ mK83, decode prog_1_method_5_code q.1 = .ok (q.2.1, q.2.2.1) := by decide +kernel
theorem m_dec84 : ∀ q ∈ mK84, decode prog_1_method_6_code q.1 = .ok (q.2.1, q.2.2.1) := by decide +kernel
theorem m_dec85 : ∀ q ∈ mK85, decode prog_1_method_7_code q.1 = .ok (q.2.1, q.2.2.1) := by decide +kernel
theorem m_dec86 : ∀ q ∈ mK86, decode prog_9_method_2_code q.1 = .ok (q.2.1, q.2.2.1) := by decide +kernel
theorem m_dec87 : ∀ q ∈ mK87, decode prog_9_method_5_code q.1 = .ok (q.2.1, q.2.2.1) := by decide +kernel
theorem m_dec88 : ∀ q ∈ mK88, decode prog_9_method_3_code q.1 = .ok (q.2.1, q.2.2.1) := by decide +kernel
theorem m_dec89 : ∀ q ∈ mK89, decode prog_9_method_6_code q.1 = .ok (q.2.1, q.2.2.1) := by decide +kernel
theorem m_dec90 : ∀ q ∈ mK90, decode prog_9_method_4_code q.1 = .ok (q.2.1, q.2.2.1) := by decide +kernel
theorem m_dec91 : ∀ q ∈ mK91, decode prog_9_method_51_code q.1 = .ok (q.2.1, q.2.2.1) := by decide +kernel
theorem m_dec92 : ∀ q ∈ mK92, decode prog_9_method_14_code q.1 = .ok (q.2.1, q.2.2.1) := by decide +kernel
theorem m_dec93 : ∀ q ∈ mK93, decode prog_9_method_7_code q.1 = .ok (q.2.1, q.2.2.1) := by decide +kernel
theorem m_dec94 : ∀ q ∈ mK94, decode prog_9_method_8_code q.1 = .ok (q.2.1, q.2.2.1) := by decide +kernel
theorem m_dec95 : ∀ q ∈ mK95, decode prog_9_method_9_code q.1 = .ok (q.2.1, q.2.2.1) := by decide +kernel
theorem m_dec96 : ∀ q ∈ mK96, decode prog_9_method_10_code q.1 = .ok (q.2.1, q.2.2.1) := by decide +kernel
theorem m_dec97 : ∀ q ∈ mK97, decode prog_9_method_11_code q.1 = .ok (q.2.1, q.2.2.1) := by decide +kernel
theorem m_dec98 : ∀ q ∈ mK98, decode prog_9_method_13_code q.1 = .ok (q.2.1, q.2.2.1) := by decide +kernel
theorem m_dec99 : ∀ q ∈ mK99, decode prog_9_method_12_code q.1 = .ok (q.2.1, q.2.2.1) := by decide +kernel
theorem m_dec100 : ∀ q ∈ mK100, decode prog_9_method_16_code q.1 = .ok (q.2.1, q.2.2.1) := by decide +kernel
theorem m_dec101 : ∀ q ∈ mK101, decode prog_9_method_50_code q.1 = .ok (q.2.1, q.2.2.1) := by decide +kernel
theorem m_dec102 : ∀ q ∈ mK102, decode prog_9_method_23_code q.1 = .ok (q.2.1, q.2.2.1) := by decide +kernel
theorem m_dec103 : ∀ q ∈ mK103, decode prog_9_method_15_code q.1 = .ok (q.2.1, q.2.2.1) := by decide +kernel
theorem m_dec104 : ∀ q ∈ mK104, decode prog_9_method_24_code q.1 = .ok (q.2.1, q.2.2.1) := by decide +kernel
theorem m_dec105 : ∀ q ∈ mK105, decode prog_9_method_49_code q.1 = .ok (q.2.1, q.2.2.1) := by decide +kernel
theorem m_dec106 : ∀ q ∈ mK106, decode prog_9_method_46_code q.1 = .ok (q.2.1, q.2.2.1) := by decide +kernel
theorem m_dec107 : ∀ q ∈ mK107, decode prog_9_method_18_code q.1 = .ok (q.2.1, q.2.2.1) := by decide +kernel
theorem m_dec108 : ∀ q ∈ mK108, decode prog_9_method_17_code q.1 = .ok (q.2.1, q.2.2.1) := by decide +kernel
theorem m_dec109 : ∀ q ∈ mK109, decode prog_9_method_22_code q.1 = .ok (q.2.1, q.2.2.1) := by decide +kernel
theorem m_dec110 : ∀ q ∈ mK110, decode prog_9_method_20_code q.1 = .ok (q.2.1, q.2.2.1) := by decide +kernel
theorem m_dec111 : ∀ q ∈ mK111, decode prog_9_method_47_code q.1 = .ok (q.2.1, q.2.2.1) := by decide +kernel
theorem m_dec112 : ∀ q ∈ mK112, decode prog_9_method_27_code q.1 = .ok (q.2.1, q.2.2.1) := by decide +kernel
theorem m_dec113 : ∀ q ∈ mK113, decode prog_9_method_25_code q.1 = .ok (q.2.1, q.2.2.1) := by decide +kernel
theorem m_dec114 : ∀ q ∈ mK114, decode prog_9_method_26_code q.1 = .ok (q.2.1, q.2.2.1) := by decide +kernel
theorem m_dec115 : ∀ q ∈ mK115, decode prog_9_method_19_code q.1 = .ok (q.2.1, q.2.2.1) := by decide +kernel
theorem m_dec116 : ∀ q ∈ mK116, decode prog_9_method_35_code q.1 = .ok (q.2.1, q.2.2.1) := by decide +kernel
theorem m_dec117 : ∀ q ∈ mK117, decode prog_9_method_21_code q.1 = .ok (q.2.1, q.2.2.1) := by decide +kernel
theorem m_dec118 : ∀ q ∈ mK118, decode prog_9_method_48_code q.1 = .ok (q.2.1, q.2.2.1) := by decide +kernel
theorem m_dec119 : ∀ q ∈ mK119, decode prog_9_method_44_code q.1 = .ok (q.2.1, q.2.2.1) := by decide +kernel
theorem m_dec120 : ∀ q ∈ mK120, decode prog_9_method_43_code q.1 = .ok (q.2.1, q.2.2.1) := by decide +kernel
theorem m_dec121 : ∀ q ∈ mK121, decode prog_9_method_36_code q.1 = .ok (q.2.1, q.2.2.1) := by decide +kernel
theorem m_dec122 : ∀ q ∈ mK122, decode prog_9_method_45_code q.1 = .ok (q.2.1, q.2.2.1) := by decide +kernel
theorem m_dec123 : ∀ q ∈ mK123, decode prog_9_method_37_code q.1 = .ok (q.2.1, q.2.2.1) := by decide +kernel
theorem m_dec124 : ∀ q ∈ mK124, decode prog_9_method_42_code q.1 = .ok (q.2.1, q.2.2.1) := by decide +kernel
theorem m_dec125 : ∀ q ∈ mK125, decode prog_9_method_38_code q.1 = .ok (q.2.1, q.2.2.1) := by decide +kernel
theorem m_dec126 : ∀ q ∈ mK126, decode prog_9_method_28_code q.1 = .ok (q.2.1, q.2.2.1) := by decide +kernel
theorem m_dec127 : ∀ q ∈ mK127, decode prog_9_method_31_code q.1 = .ok (q.2.1, q.2.2.1) := by decide +kernel
theorem m_dec128 : ∀ q ∈ mK128, decode prog_9_method_32_code q.1 = .ok (q.2.1, q.2.2.1) := by decide +kernel
theorem m_dec129 : ∀ q ∈ mK129, decode prog_9_method_41_code q.1 = .ok (q.2.1, q.2.2.1) := by decide +kernel
theorem m_dec130 : ∀ q ∈ mK130, decode prog_9_method_39_code q.1 = .ok (q.2.1, q.2.2.1) := by decide +kernel
theorem m_dec131 : ∀ q ∈ mK131, decode prog_9_method_40_code q.1 = .ok (q.2.1, q.2.2.1) := by decide +kernel
theorem m_dec132 : ∀ q ∈ mK132, decode prog_9_method_33_code q.1 = .ok (q.2.1, q.2.2.1) := by decide +kernel
theorem m_dec133 : ∀ q ∈ mK133, decode prog_9_method_29_code q.1 = .ok (q.2.1, q.2.2.1) := by decide +kernel
theorem m_dec134 : ∀ q ∈ mK134, decode prog_9_method_30_code q.1 = .ok (q.2.1, q.2.2.1) := by decide +kernel
theorem m_dec135 : ∀ q ∈ mK135, decode prog_9_method_34_code q.1 = .ok (q.2.1, q.2.2.1) := by decide +kernel
theorem m_dec136 : ∀ q ∈ mK136, decode prog_9_method_52_code q.1 = .ok (q.2.1, q.2.2.1) := by decide +kernel
theorem m_dec137 : ∀ q ∈ mK137, decode prog_9_method_56_code q.1 = .ok (q.2.1, q.2.2.1) := by decide +kernel
theorem m_dec138 : ∀ q ∈ mK138, decode prog_9_method_57_code q.1 = .ok (q.2.1, q.2.2.1) := by decide +kernel
theorem m_dec139 : ∀ q ∈ mK139, decode prog_9_method_64_code q.1 = .ok (q.2.1, q.2.2.1) := by decide +kernel
theorem m_dec140 : ∀ q ∈ mK140, decode prog_9_method_54_code q.1 = .ok (q.2.1, q.2.2.1) := by decide +kernel
theorem m_dec141 : ∀ q ∈ mK141, decode prog_9_method_61_code q.1 = .ok (q.2.1, q.2.2.1) := by decide +kernel
theorem m_dec142 : ∀ q ∈ mK142, decode prog_9_method_55_code q.1 = .ok (q.2.1, q.2.2.1) := by decide +kernel
theorem m_dec143 : ∀ q ∈ mK143, decode prog_9_method_53_code q.1 = .ok (q.2.1, q.2.2.1) := by decide +kernel
theorem m_dec144 : ∀ q ∈ mK144, decode prog_9_method_62_code q.1 = .ok (q.2.1, q.2.2.1) := by decide +kernel
theorem m_dec145 : ∀ q ∈ mK145, decode prog_9_method_60_code q.1 = .ok (q.2.1, q.2.2.1) := by decide +kernel
theorem m_dec146 : ∀ q ∈ mK146, decode prog_9_method_59_code q.1 = .ok (q.2.1, q.2.2.1) := by decide +kernel
theorem m_dec147 : ∀ q ∈ mK147, decode prog_9_method_58_code q.1 = .ok (q.2.1, q.2.2.1) := by decide +kernel
theorem m_dec148 : ∀ q ∈ mK148, decode prog_9_method_63_code q.1 = .ok (q.2.1, q.2.2.1) := by decide +kernel
theorem m_dec149 : ∀ q ∈ mK149, decode prog_9_method_65_code q.1 = .ok (q.2.1, q.2.2.1) := by decide +kernel
theorem m_dec150 : ∀ q ∈ mK150, decode method_3_code q.1 = .ok (q.2.1, q.2.2.1) := by decide +kernel
theorem m_dec151 : ∀ q ∈ mK151, decode method_4_code q.1 = .ok (q.2.1, q.2.2.1) := by decide +kernel
theorem m_dec152 : ∀ q ∈ mK152, decode method_5_code q.1 = .ok (q.2.1, q.2.2.1) := by decide +kernel
theorem m_dec153 : ∀ q ∈ mK153, decode method_6_code q.1 = .ok (q.2.1, q.2.2.1) := by decide +kernel
theorem m_dec154 : ∀ q ∈ mK154, decode method_7_code q.1 = .ok (q.2.1, q.2.2.1) := by decide +kernel
theorem m_dec155 : ∀ q ∈ mK155, decode prog_27_method_104_code q.1 = .ok (q.2.1, q.2.2.1) := by decide +kernel
theorem m_dec156 : ∀ q ∈ mK156, decode prog_27_method_30_code q.1 = .ok (q.2.1, q.2.2.1) := by decide +kernel
theorem m_dec157 : ∀ q ∈ mK157, decode code q.1 = .ok (q.2.1, q.2.2.1) := by decide +kernel
end
section
/-! printed by wip/whole/gen_tables.py: the words behind the tables -/
def m_cstL : List (Nat × Nat × Nat × Nat) := [(2, 66, 1000000, 967), (5, 100, 50000, 689), (6, 347, 50000, 1403)]
def m_cslL : List (Nat × Nat × Nat × Nat × Nat) := [(4, 75, 0, 10, 333), (4, 77, 0, 2147483648, 334), (4, 85, 0, 2147483647, 338), (6, 105, 1, 0, 1214), (6, 107, 0, 27, 1215), (6, 109, 0, 96, 1216), (6, 111, 0, 176, 1217), (6, 113, 0, 8903, 1218), (6, 115, 0, 10502465, 1219), (6, 117, 0, 247162, 1220), (6, 119, 0, 249, 1221), (6, 121, 0, 107681, 1222), (6, 123, 0, 12387497, 1223), (6, 125, 0, 261347000, 1224), (6, 127, 0, 7054768229, 1225), (6, 129, 0, 407354, 1226), (6, 131, 0, 3217595, 1227), (6, 136, 0, 2147483647, 1232), (6, 138, 0, 10, 1233), (6, 140, 0, 48, 1234)]
def m_strL : List (Nat × Nat × String × Nat) := [(4, 87, "fn", 266), (4, 93, "if", 319), (4, 95, "let", 320), (4, 97, "load", 321), (4, 99, "else", 322), (4, 101, "true", 323), (4, 103, "store", 324), (4, 105, "while", 325), (4, 107, "false", 326), (4, 109, "return", 327), (4, 111, "require", 328), (0, 187, "the text has a fault", 411), (5, 46, "a byte is above 127", 617), (5, 53, "more than 600 signs", 633), (5, 60, "the text has not so many signs", 651), (5, 81, "there is no contract", 662), (5, 93, "there is no such function", 674), (5, 101, "gas is not 0 .. 50000", 690), (5, 123, "what is not 0, 1 or 2", 1022)]
/-- owner, index, method, place of the methodLink -/
def m_lnkL : List (Nat × Nat × Nat × Nat) := [(0, 45, 61, 236), (0, 49, 31, 345), (0, 52, 1, 349), (0, 56, 2, 357), (0, 59, 5, 450), (0, 62, 11, 478), (0, 68, 34, 510), (0, 77, 3, 361), (0, 80, 4, 438), (0, 84, 32, 446), (0, 87, 6, 454), (0, 90, 7, 458), (0, 93, 8, 462), (0, 96, 10, 470), (0, 100, 33, 474), (0, 103, 12, 482), (0, 106, 13, 486), (0, 109, 14, 490), (0, 112, 25, 552), (0, 115, 26, 556), (0, 118, 27, 560), (0, 121, 29, 568), (0, 124, 30, 572), (0, 127, 15, 494), (0, 130, 9, 466), (0, 133, 21, 534), (0, 136, 18, 506), (0, 140, 28, 564), (0, 143, 37, 548), (0, 149, 73, 353), (0, 152, 16, 498), (0, 155, 23, 542), (0, 158, 24, 545), (0, 162, 17, 502), (0, 165, 76, 514), (0, 168, 19, 518), (0, 171, 20, 530), (0, 174, 22, 538), (0, 177, 35, 522), (0, 180, 75, 442), (0, 184, 74, 365), (1, 37, 36, 526), (2, 54, 35, 700), (2, 58, 43, 701), (2, 62, 45, 709), (2, 67, 40, 968), (2, 70, 41, 972), (2, 73, 48, 976), (2, 76, 49, 979), (2, 80, 44, 705), (2, 83, 50, 983), (2, 86, 46, 955), (2, 90, 47, 959), (2, 93, 56, 987), (2, 96, 51, 988), (2, 99, 52, 996), (2, 102, 53, 1000), (2, 105, 54, 1004), (2, 110, 55, 1008), (2, 114, 59, 992), (2, 117, 155, 713), (2, 123, 39, 963), (3, 31, 57, 591), (4, 40, 62, 240), (4, 44, 64, 248), (4, 49, 63, 244), (4, 52, 65, 252), (4, 56, 66, 255), (4, 59, 68, 262), (4, 63, 67, 259), (4, 66, 70, 329), (4, 69, 71, 339), (4, 72, 72, 342), (4, 89, 69, 267), (5, 56, 81, 640), (5, 62, 0, 231), (5, 73, 38, 576), (5, 87, 36, 664), (5, 96, 35, 681), (5, 107, 58, 691), (5, 112, 42, 696), (5, 116, 60, 1011), (5, 125, 56, 587), (6, 89, 88, 1179), (6, 93, 90, 1187), (6, 97, 93, 1198), (6, 101, 95, 1206), (6, 151, 99, 1239), (6, 155, 94, 1202), (6, 158, 96, 1210), (6, 162, 97, 1228), (6, 165, 98, 1235), (6, 174, 100, 1243), (6, 187, 92, 1194), (6, 190, 103, 1255), (6, 199, 113, 1295), (6, 205, 114, 1299), (6, 208, 112, 1291), (6, 211, 126, 1347), (6, 214, 107, 1271), (6, 217, 108, 1275), (6, 221, 109, 1279), (6, 225, 133, 1375), (6, 228, 134, 1379), (6, 231, 135, 1383), (6, 234, 117, 1311), (6, 238, 115, 1303), (6, 241, 116, 1307), (6, 244, 121, 1327), (6, 247, 123, 1335), (6, 250, 125, 1343), (6, 253, 127, 1351), (6, 256, 128, 1355), (6, 259, 129, 1359), (6, 262, 130, 1363), (6, 265, 131, 1367), (6, 268, 120, 1323), (6, 272, 122, 1331), (6, 275, 110, 1283), (6, 278, 111, 1287), (6, 281, 106, 1267), (6, 284, 118, 1315), (6, 287, 102, 1251), (6, 290, 104, 1259), (6, 293, 105, 1263), (6, 296, 119, 1319), (6, 299, 124, 1339), (6, 302, 132, 1371), (6, 305, 101, 1247), (6, 317, 146, 1426), (6, 324, 142, 1412), (6, 327, 140, 1404), (6, 330, 145, 1423), (6, 334, 137, 1429), (6, 337, 141, 1408), (6, 340, 147, 1430), (6, 344, 148, 1434), (6, 355, 143, 1416), (6, 358, 144, 1419), (7, 7, 80, 604), (7, 17, 82, 647), (7, 21, 83, 657), (7, 28, 84, 685), (7, 32, 85, 1018), (7, 39, 150, 599), (7, 44, 87, 1175), (7, 45, 86, 1171), (7, 49, 151, 644), (7, 52, 89, 1183), (7, 53, 77, 227), (7, 56, 91, 1190), (7, 57, 152, 652), (7, 59, 136, 1387), (7, 60, 153, 682), (7, 63, 139, 1399), (7, 64, 154, 1015), (7, 66, 149, 1438), (7, 67, 78, 583), (7, 70, 137, 1391), (7, 71, 79, 595), (7, 74, 138, 1395), (8, 13, 156, 716)]
set_option maxRecDepth 40000 in
theorem m_cw0 : lw_tbl[334]? = some (Cond.codeWith mY0 prog_2_method_2_code 4 (some .int) [(26, 75, 78, 72)]) := rfl
set_option maxRecDepth 40000 in
theorem m_cw1 : lw_tbl[452]? = some (Cond.code mY1 prog_2_method_23_code 1 (some .int)) := rfl
set_option maxRecDepth 40000 in
theorem m_cw2 : lw_tbl[460]? = some (Cond.code mY2 prog_2_method_3_code 2 none) := rfl
set_option maxRecDepth 40000 in
theorem m_cw3 : lw_tbl[464]? = some (Cond.code mY3 prog_2_method_32_code 2 none) := rfl
set_option maxRecDepth 40000 in
theorem m_cw4 : lw_tbl[541]? = some (Cond.code mY4 prog_2_method_31_code 3 (some .int)) := rfl
set_option maxRecDepth 40000 in
theorem m_cw5 : lw_tbl[553]? = some (Cond.code mY5 prog_2_method_4_code 2 none) := rfl
set_option maxRecDepth 40000 in
theorem m_cw6 : lw_tbl[557]? = some (Cond.code mY6 prog_2_method_24_code 2 none) := rfl
set_option maxRecDepth 40000 in
theorem m_cw7 : lw_tbl[561]? = some (Cond.code mY7 prog_2_method_5_code 1 none) := rfl
set_option maxRecDepth 40000 in
theorem m_cw8 : lw_tbl[565]? = some (Cond.code mY8 prog_2_method_27_code 1 none) := rfl
set_option maxRecDepth 40000 in
theorem m_cw9 : lw_tbl[569]? = some (Cond.code mY9 prog_2_method_30_code 3 (some .int)) := rfl
set_option maxRecDepth 40000 in
theorem m_cw10 : lw_tbl[573]? = some (Cond.code mY10 prog_2_method_28_code 3 none) := rfl
set_option maxRecDepth 40000 in
theorem m_cw11 : lw_tbl[581]? = some (Cond.code mY11 prog_2_method_6_code 4 none) := rfl
set_option maxRecDepth 40000 in
theorem m_cw12 : lw_tbl[585]? = some (Cond.code mY12 prog_2_method_25_code 3 (some .int)) := rfl
set_option maxRecDepth 40000 in
theorem m_cw13 : lw_tbl[589]? = some (Cond.code mY13 prog_2_method_7_code 2 none) := rfl
set_option maxRecDepth 40000 in
theorem m_cw14 : lw_tbl[593]? = some (Cond.code mY14 prog_2_method_8_code 4 none) := rfl
set_option maxRecDepth 40000 in
theorem m_cw15 : lw_tbl[597]? = some (Cond.code mY15 prog_2_method_15_code 11 (some .int)) := rfl
set_option maxRecDepth 40000 in
theorem m_cw16 : lw_tbl[601]? = some (Cond.code mY16 prog_2_method_18_code 5 (some .int)) := rfl
set_option maxRecDepth 40000 in
theorem m_cw17 : lw_tbl[605]? = some (Cond.code mY17 prog_2_method_19_code 6 (some .int)) := rfl
set_option maxRecDepth 40000 in
theorem m_cw18 : lw_tbl[609]? = some (Cond.code mY18 prog_2_method_26_code 4 none) := rfl
set_option maxRecDepth 40000 in
theorem m_cw19 : lw_tbl[621]? = some (Cond.code mY19 prog_2_method_22_code 8 (some .int)) := rfl
set_option maxRecDepth 40000 in
theorem m_cw20 : lw_tbl[633]? = some (Cond.code mY20 prog_2_method_21_code 3 (some .int)) := rfl
set_option maxRecDepth 40000 in
theorem m_cw21 : lw_tbl[637]? = some (Cond.code mY21 prog_2_method_29_code 2 (some .int)) := rfl
set_option maxRecDepth 40000 in
theorem m_cw22 : lw_tbl[641]? = some (Cond.code mY22 prog_2_method_20_code 4 (some .int)) := rfl
set_option maxRecDepth 40000 in
theorem m_cw23 : lw_tbl[644]? = some (Cond.code mY23 prog_2_method_16_code 1 (some .int)) := rfl
set_option maxRecDepth 40000 in
theorem m_cw24 : lw_tbl[647]? = some (Cond.code mY24 prog_2_method_17_code 3 (some .int)) := rfl
set_option maxRecDepth 40000 in
theorem m_cw25 : lw_tbl[655]? = some (Cond.code mY25 prog_2_method_9_code 5 none) := rfl
set_option maxRecDepth 40000 in
theorem m_cw26 : lw_tbl[659]? = some (Cond.code mY26 prog_2_method_10_code 4 none) := rfl
set_option maxRecDepth 40000 in
theorem m_cw27 : lw_tbl[663]? = some (Cond.code mY27 prog_2_method_11_code 4 none) := rfl
set_option maxRecDepth 40000 in
theorem m_cw28 : lw_tbl[667]? = some (Cond.code mY28 prog_2_method_13_code 3 (some .int)) := rfl
set_option maxRecDepth 40000 in
theorem m_cw29 : lw_tbl[671]? = some (Cond.code mY29 prog_2_method_12_code 4 none) := rfl
set_option maxRecDepth 40000 in
theorem m_cw30 : lw_tbl[675]? = some (Cond.code mY30 prog_2_method_14_code 4 none) := rfl
set_option maxRecDepth 40000 in
theorem m_cw31 : lw_tbl[448]? = some (Cond.code mY31 prog_3_method_2_code 1 none) := rfl
set_option maxRecDepth 40000 in
theorem m_cw32 : lw_tbl[549]? = some (Cond.code mY32 prog_3_method_4_code 1 none) := rfl
set_option maxRecDepth 40000 in
theorem m_cw33 : lw_tbl[577]? = some (Cond.code mY33 prog_3_method_5_code 1 none) := rfl
set_option maxRecDepth 40000 in
theorem m_cw34 : lw_tbl[613]? = some (Cond.code mY34 prog_3_method_9_code 3 (some .int)) := rfl
set_option maxRecDepth 40000 in
theorem m_cw35 : lw_tbl[625]? = some (Cond.code mY35 prog_3_method_7_code 2 (some .int)) := rfl
set_option maxRecDepth 40000 in
theorem m_cw36 : lw_tbl[629]? = some (Cond.code mY36 prog_3_method_6_code 2 (some .boolean)) := rfl
set_option maxRecDepth 40000 in
theorem m_cw37 : lw_tbl[651]? = some (Cond.code mY37 prog_3_method_10_code 2 none) := rfl
set_option maxRecDepth 40000 in
theorem m_cw38 : lw_tbl[679]? = some (Cond.code mY38 prog_3_method_3_code 2 none) := rfl
set_option maxRecDepth 40000 in
theorem m_cw39 : lw_tbl[1066]? = some (Cond.code mY39 prog_3_method_8_code 2 (some .int)) := rfl
set_option maxRecDepth 40000 in
theorem m_cw40 : lw_tbl[1071]? = some (Cond.code mY40 prog_3_method_11_code 2 (some .int)) := rfl
set_option maxRecDepth 40000 in
theorem m_cw41 : lw_tbl[1075]? = some (Cond.code mY41 prog_3_method_12_code 2 (some .int)) := rfl
set_option maxRecDepth 40000 in
theorem m_cw42 : lw_tbl[799]? = some (Cond.code mY42 prog_4_method_2_code 9 (some .int)) := rfl
set_option maxRecDepth 40000 in
theorem m_cw43 : lw_tbl[804]? = some (Cond.code mY43 prog_4_method_3_code 5 none) := rfl
set_option maxRecDepth 40000 in
theorem m_cw44 : lw_tbl[808]? = some (Cond.code mY44 prog_4_method_14_code 2 none) := rfl
set_option maxRecDepth 40000 in
theorem m_cw45 : lw_tbl[812]? = some (Cond.code mY45 prog_4_method_10_code 4 none) := rfl
set_option maxRecDepth 40000 in
theorem m_cw46 : lw_tbl[1058]? = some (Cond.code mY46 prog_4_method_15_code 1 (some .int)) := rfl
set_option maxRecDepth 40000 in
theorem m_cw47 : lw_tbl[1062]? = some (Cond.code mY47 prog_4_method_13_code 4 none) := rfl
set_option maxRecDepth 40000 in
theorem m_cw48 : lw_tbl[1078]? = some (Cond.code mY48 prog_4_method_4_code 1 (some .int)) := rfl
set_option maxRecDepth 40000 in
theorem m_cw49 : lw_tbl[1082]? = some (Cond.code mY49 prog_4_method_5_code 3 none) := rfl
set_option maxRecDepth 40000 in
theorem m_cw50 : lw_tbl[1086]? = some (Cond.code mY50 prog_4_method_12_code 3 (some .int)) := rfl
set_option maxRecDepth 40000 in
theorem m_cw51 : lw_tbl[1091]? = some (Cond.code mY51 prog_4_method_9_code 3 none) := rfl
set_option maxRecDepth 40000 in
theorem m_cw52 : lw_tbl[1099]? = some (Cond.code mY52 prog_4_method_11_code 2 none) := rfl
set_option maxRecDepth 40000 in
theorem m_cw53 : lw_tbl[1103]? = some (Cond.code mY53 prog_4_method_6_code 4 none) := rfl
set_option maxRecDepth 40000 in
theorem m_cw54 : lw_tbl[1107]? = some (Cond.code mY54 prog_4_method_7_code 4 none) := rfl
set_option maxRecDepth 40000 in
theorem m_cw55 : lw_tbl[1110]? = some (Cond.code mY55 prog_4_method_8_code 3 (some .int)) := rfl
set_option maxRecDepth 40000 in
theorem m_cw56 : lw_tbl[690]? = some (Cond.code mY56 prog_6_method_2_code 3 (some .int)) := rfl
set_option maxRecDepth 40000 in
theorem m_cw57 : lw_tbl[694]? = some (Cond.code mY57 prog_6_method_6_code 3 (some .int)) := rfl
set_option maxRecDepth 40000 in
theorem m_cw58 : lw_tbl[794]? = some (Cond.code mY58 prog_6_method_4_code 1 none) := rfl
set_option maxRecDepth 40000 in
theorem m_cw59 : lw_tbl[1095]? = some (Cond.code mY59 prog_6_method_3_code 4 (some .boolean)) := rfl
set_option maxRecDepth 40000 in
theorem m_cw60 : lw_tbl[1114]? = some (Cond.code mY60 prog_6_method_5_code 1 none) := rfl
set_option maxRecDepth 40000 in
theorem m_cw61 : lw_tbl[339]? = some (Cond.code mY61 prog_7_method_2_code 7 none) := rfl
set_option maxRecDepth 40000 in
theorem m_cw62 : lw_tbl[343]? = some (Cond.code mY62 prog_7_method_10_code 3 (some .int)) := rfl
set_option maxRecDepth 40000 in
theorem m_cw63 : lw_tbl[347]? = some (Cond.code mY63 prog_7_method_13_code 2 (some .int)) := rfl
set_option maxRecDepth 40000 in
theorem m_cw64 : lw_tbl[351]? = some (Cond.code mY64 prog_7_method_7_code 4 (some .int)) := rfl
set_option maxRecDepth 40000 in
theorem m_cw65 : lw_tbl[354]? = some (Cond.code mY65 prog_7_method_14_code 1 (some .boolean)) := rfl
set_option maxRecDepth 40000 in
theorem m_cw66 : lw_tbl[358]? = some (Cond.code mY66 prog_7_method_8_code 3 (some .int)) := rfl
set_option maxRecDepth 40000 in
theorem m_cw67 : lw_tbl[361]? = some (Cond.code mY67 prog_7_method_15_code 1 (some .boolean)) := rfl
set_option maxRecDepth 40000 in
theorem m_cw68 : lw_tbl[365]? = some (Cond.code mY68 prog_7_method_11_code 3 (some .int)) := rfl
set_option maxRecDepth 40000 in
theorem m_cw69 : lw_tbl[370]? = some (Cond.code mY69 prog_7_method_12_code 4 (some .boolean)) := rfl
set_option maxRecDepth 40000 in
theorem m_cw70 : lw_tbl[432]? = some (Cond.code mY70 prog_7_method_9_code 5 (some .int)) := rfl
set_option maxRecDepth 40000 in
theorem m_cw71 : lw_tbl[441]? = some (Cond.code mY71 prog_7_method_16_code 2 (some .int)) := rfl
set_option maxRecDepth 40000 in
theorem m_cw72 : lw_tbl[444]? = some (Cond.code mY72 prog_7_method_17_code 1 (some .int)) := rfl
set_option maxRecDepth 40000 in
theorem m_cw73 : lw_tbl[456]? = some (Cond.code mY73 prog_7_method_3_code 2 (some .int)) := rfl
set_option maxRecDepth 40000 in
theorem m_cw74 : lw_tbl[468]? = some (Cond.code mY74 prog_7_method_4_code 2 (some .int)) := rfl
set_option maxRecDepth 40000 in
theorem m_cw75 : lw_tbl[545]? = some (Cond.code mY75 prog_7_method_6_code 7 (some .boolean)) := rfl
set_option maxRecDepth 40000 in
theorem m_cw76 : lw_tbl[617]? = some (Cond.code mY76 prog_7_method_5_code 2 (some .int)) := rfl
set_option maxRecDepth 40000 in
theorem m_cw77 : lw_tbl[330]? = some (Cond.code mY77 prog_1_method_4_code 2 (some .int)) := rfl
set_option maxRecDepth 40000 in
theorem m_cw78 : lw_tbl[686]? = some (Cond.code mY78 prog_1_method_8_code 2 (some .int)) := rfl
set_option maxRecDepth 40000 in
theorem m_cw79 : lw_tbl[698]? = some (Cond.code mY79 prog_1_method_9_code 1 (some .int)) := rfl
set_option maxRecDepth 40000 in
theorem m_cw80 : lw_tbl[707]? = some (Cond.code mY80 prog_1_method_2_code 5 (some .int)) := rfl
set_option maxRecDepth 40000 in
theorem m_cw81 : lw_tbl[743]? = some (Cond.code mY81 prog_1_method_10_code 2 none) := rfl
set_option maxRecDepth 40000 in
theorem m_cw82 : lw_tbl[750]? = some (Cond.code mY82 prog_1_method_3_code 2 none) := rfl
set_option maxRecDepth 40000 in
theorem m_cw83 : lw_tbl[760]? = some (Cond.code mY83 prog_1_method_5_code 2 (some .int)) := rfl
set_option maxRecDepth 40000 in
theorem m_cw84 : lw_tbl[788]? = some (Cond.code mY84 prog_1_method_6_code 8 (some .int)) := rfl
set_option maxRecDepth 40000 in
theorem m_cw85 : lw_tbl[1121]? = some (Cond.code mY85 prog_1_method_7_code 2 (some .int)) := rfl
set_option maxRecDepth 40000 in
theorem m_cw86 : lw_tbl[1274]? = some (Cond.code mY86 prog_9_method_2_code 1 (some .int)) := rfl
set_option maxRecDepth 40000 in
theorem m_cw87 : lw_tbl[1278]? = some (Cond.code mY87 prog_9_method_5_code 6 (some .int)) := rfl
set_option maxRecDepth 40000 in
theorem m_cw88 : lw_tbl[1282]? = some (Cond.code mY88 prog_9_method_3_code 4 (some .boolean)) := rfl
set_option maxRecDepth 40000 in
theorem m_cw89 : lw_tbl[1286]? = some (Cond.code mY89 prog_9_method_6_code 2 none) := rfl
set_option maxRecDepth 40000 in
theorem m_cw90 : lw_tbl[1289]? = some (Cond.code mY90 prog_9_method_4_code 3 (some .boolean)) := rfl
set_option maxRecDepth 40000 in
theorem m_cw91 : lw_tbl[1293]? = some (Cond.code mY91 prog_9_method_51_code 2 (some .int)) := rfl
set_option maxRecDepth 40000 in
theorem m_cw92 : lw_tbl[1297]? = some (Cond.code mY92 prog_9_method_14_code 1 none) := rfl
set_option maxRecDepth 40000 in
theorem m_cw93 : lw_tbl[1301]? = some (Cond.code mY93 prog_9_method_7_code 2 (some .int)) := rfl
set_option maxRecDepth 40000 in
theorem m_cw94 : lw_tbl[1305]? = some (Cond.code mY94 prog_9_method_8_code 2 (some .boolean)) := rfl
set_option maxRecDepth 40000 in
theorem m_cw95 : lw_tbl[1309]? = some (Cond.code mY95 prog_9_method_9_code 2 (some .boolean)) := rfl
set_option maxRecDepth 40000 in
theorem m_cw96 : lw_tbl[1313]? = some (Cond.code mY96 prog_9_method_10_code 6 (some .int)) := rfl
set_option maxRecDepth 40000 in
theorem m_cw97 : lw_tbl[1331]? = some (Cond.code mY97 prog_9_method_11_code 3 none) := rfl
set_option maxRecDepth 40000 in
theorem m_cw98 : lw_tbl[1338]? = some (Cond.code mY98 prog_9_method_13_code 1 none) := rfl
set_option maxRecDepth 40000 in
theorem m_cw99 : lw_tbl[1342]? = some (Cond.code mY99 prog_9_method_12_code 5 none) := rfl
set_option maxRecDepth 40000 in
theorem m_cw100 : lw_tbl[1346]? = some (Cond.code mY100 prog_9_method_16_code 2 none) := rfl
set_option maxRecDepth 40000 in
theorem m_cw101 : lw_tbl[1350]? = some (Cond.code mY101 prog_9_method_50_code 2 none) := rfl
set_option maxRecDepth 40000 in
theorem m_cw102 : lw_tbl[1354]? = some (Cond.code mY102 prog_9_method_23_code 2 none) := rfl
set_option maxRecDepth 40000 in
theorem m_cw103 : lw_tbl[1358]? = some (Cond.code mY103 prog_9_method_15_code 2 none) := rfl
set_option maxRecDepth 40000 in
theorem m_cw104 : lw_tbl[1362]? = some (Cond.code mY104 prog_9_method_24_code 2 none) := rfl
set_option maxRecDepth 40000 in
theorem m_cw105 : lw_tbl[1366]? = some (Cond.code mY105 prog_9_method_49_code 4 none) := rfl
set_option maxRecDepth 40000 in
theorem m_cw106 : lw_tbl[1370]? = some (Cond.code mY106 prog_9_method_46_code 1 none) := rfl
set_option maxRecDepth 40000 in
theorem m_cw107 : lw_tbl[1374]? = some (Cond.code mY107 prog_9_method_18_code 2 none) := rfl
set_option maxRecDepth 40000 in
theorem m_cw108 : lw_tbl[1378]? = some (Cond.code mY108 prog_9_method_17_code 5 none) := rfl
set_option maxRecDepth 40000 in
theorem m_cw109 : lw_tbl[1382]? = some (Cond.code mY109 prog_9_method_22_code 3 none) := rfl
set_option maxRecDepth 40000 in
theorem m_cw110 : lw_tbl[1386]? = some (Cond.code mY110 prog_9_method_20_code 2 none) := rfl
set_option maxRecDepth 40000 in
theorem m_cw111 : lw_tbl[1390]? = some (Cond.code mY111 prog_9_method_47_code 4 none) := rfl
set_option maxRecDepth 40000 in
theorem m_cw112 : lw_tbl[1394]? = some (Cond.code mY112 prog_9_method_27_code 5 (some .int)) := rfl
set_option maxRecDepth 40000 in
theorem m_cw113 : lw_tbl[1398]? = some (Cond.code mY113 prog_9_method_25_code 6 (some .boolean)) := rfl
set_option maxRecDepth 40000 in
theorem m_cw114 : lw_tbl[1402]? = some (Cond.code mY114 prog_9_method_26_code 5 (some .int)) := rfl
set_option maxRecDepth 40000 in
theorem m_cw115 : lw_tbl[1406]? = some (Cond.code mY115 prog_9_method_19_code 1 (some .int)) := rfl
set_option maxRecDepth 40000 in
theorem m_cw116 : lw_tbl[1410]? = some (Cond.code mY116 prog_9_method_35_code 3 none) := rfl
set_option maxRecDepth 40000 in
theorem m_cw117 : lw_tbl[1414]? = some (Cond.code mY117 prog_9_method_21_code 1 (some .int)) := rfl
set_option maxRecDepth 40000 in
theorem m_cw118 : lw_tbl[1418]? = some (Cond.code mY118 prog_9_method_48_code 4 none) := rfl
set_option maxRecDepth 40000 in
theorem m_cw119 : lw_tbl[1422]? = some (Cond.code mY119 prog_9_method_44_code 2 none) := rfl
set_option maxRecDepth 40000 in
theorem m_cw120 : lw_tbl[1426]? = some (Cond.code mY120 prog_9_method_43_code 6 none) := rfl
set_option maxRecDepth 40000 in
theorem m_cw121 : lw_tbl[1430]? = some (Cond.code mY121 prog_9_method_36_code 2 none) := rfl
set_option maxRecDepth 40000 in
theorem m_cw122 : lw_tbl[1434]? = some (Cond.code mY122 prog_9_method_45_code 9 none) := rfl
set_option maxRecDepth 40000 in
theorem m_cw123 : lw_tbl[1438]? = some (Cond.code mY123 prog_9_method_37_code 2 none) := rfl
set_option maxRecDepth 40000 in
theorem m_cw124 : lw_tbl[1442]? = some (Cond.code mY124 prog_9_method_42_code 4 none) := rfl
set_option maxRecDepth 40000 in
theorem m_cw125 : lw_tbl[1446]? = some (Cond.code mY125 prog_9_method_38_code 4 none) := rfl
set_option maxRecDepth 40000 in
theorem m_cw126 : lw_tbl[1450]? = some (Cond.code mY126 prog_9_method_28_code 4 none) := rfl
set_option maxRecDepth 40000 in
theorem m_cw127 : lw_tbl[1454]? = some (Cond.code mY127 prog_9_method_31_code 1 none) := rfl
set_option maxRecDepth 40000 in
theorem m_cw128 : lw_tbl[1458]? = some (Cond.code mY128 prog_9_method_32_code 2 none) := rfl
set_option maxRecDepth 40000 in
theorem m_cw129 : lw_tbl[1462]? = some (Cond.code mY129 prog_9_method_41_code 2 none) := rfl
set_option maxRecDepth 40000 in
theorem m_cw130 : lw_tbl[1466]? = some (Cond.code mY130 prog_9_method_39_code 2 none) := rfl
set_option maxRecDepth 40000 in
theorem m_cw131 : lw_tbl[1470]? = some (Cond.code mY131 prog_9_method_40_code 2 none) := rfl
set_option maxRecDepth 40000 in
theorem m_cw132 : lw_tbl[1474]? = some (Cond.code mY132 prog_9_method_33_code 2 none) := rfl
set_option maxRecDepth 40000 in
theorem m_cw133 : lw_tbl[1478]? = some (Cond.code mY133 prog_9_method_29_code 1 none) := rfl
set_option maxRecDepth 40000 in
theorem m_cw134 : lw_tbl[1482]? = some (Cond.code mY134 prog_9_method_30_code 1 none) := rfl
set_option maxRecDepth 40000 in
theorem m_cw135 : lw_tbl[1486]? = some (Cond.code mY135 prog_9_method_34_code 1 none) := rfl
set_option maxRecDepth 40000 in
theorem m_cw136 : lw_tbl[1490]? = some (Cond.code mY136 prog_9_method_52_code 2 (some .int)) := rfl
set_option maxRecDepth 40000 in
theorem m_cw137 : lw_tbl[1494]? = some (Cond.code mY137 prog_9_method_56_code 4 (some .int)) := rfl
set_option maxRecDepth 40000 in
theorem m_cw138 : lw_tbl[1498]? = some (Cond.code mY138 prog_9_method_57_code 1 (some .int)) := rfl
set_option maxRecDepth 40000 in
theorem m_cw139 : lw_tbl[1502]? = some (Cond.code mY139 prog_9_method_64_code 10 (some .int)) := rfl
set_option maxRecDepth 40000 in
theorem m_cw140 : lw_tbl[1507]? = some (Cond.code mY140 prog_9_method_54_code 2 none) := rfl
set_option maxRecDepth 40000 in
theorem m_cw141 : lw_tbl[1511]? = some (Cond.code mY141 prog_9_method_61_code 4 (some .int)) := rfl
set_option maxRecDepth 40000 in
theorem m_cw142 : lw_tbl[1515]? = some (Cond.code mY142 prog_9_method_55_code 1 (some .int)) := rfl
set_option maxRecDepth 40000 in
theorem m_cw143 : lw_tbl[1518]? = some (Cond.code mY143 prog_9_method_53_code 1 (some .int)) := rfl
set_option maxRecDepth 40000 in
theorem m_cw144 : lw_tbl[1522]? = some (Cond.code mY144 prog_9_method_62_code 9 (some .int)) := rfl
set_option maxRecDepth 40000 in
theorem m_cw145 : lw_tbl[1525]? = some (Cond.code mY145 prog_9_method_60_code 3 (some .int)) := rfl
set_option maxRecDepth 40000 in
theorem m_cw146 : lw_tbl[1528]? = some (Cond.code mY146 prog_9_method_59_code 1 (some .int)) := rfl
set_option maxRecDepth 40000 in
theorem m_cw147 : lw_tbl[1533]? = some (Cond.code mY147 prog_9_method_58_code 5 (some .boolean)) := rfl
set_option maxRecDepth 40000 in
theorem m_cw148 : lw_tbl[1537]? = some (Cond.code mY148 prog_9_method_63_code 3 (some .int)) := rfl
set_option maxRecDepth 40000 in
theorem m_cw149 : lw_tbl[1541]? = some (Cond.code mY149 prog_9_method_65_code 2 (some .int)) := rfl
set_option maxRecDepth 40000 in
theorem m_cw150 : lw_tbl[701]? = some (Cond.codeWith mY150 method_3_code 4 (some .int) [(0, 9, 12, 13), (0, 9, 15, 15)]) := rfl
set_option maxRecDepth 40000 in
theorem m_cw151 : lw_tbl[746]? = some (Cond.codeWith mY151 method_4_code 3 (some .int) [(0, 5, 8, 13)]) := rfl
set_option maxRecDepth 40000 in
theorem m_cw152 : lw_tbl[754]? = some (Cond.codeWith mY152 method_5_code 4 (some .int) [(0, 9, 12, 24), (0, 9, 15, 26)]) := rfl
set_option maxRecDepth 40000 in
theorem m_cw153 : lw_tbl[784]? = some (Cond.codeWith mY153 method_6_code 8 (some .int) [(0, 16, 19, 24), (0, 16, 23, 26), (0, 16, 27, 13)]) := rfl
set_option maxRecDepth 40000 in
theorem m_cw154 : lw_tbl[1117]? = some (Cond.codeWith mY154 method_7_code 4 (some .int) [(0, 9, 12, 13)]) := rfl
set_option maxRecDepth 40000 in
theorem m_cw155 : lw_tbl[815]? = some (Cond.code mY155 prog_27_method_104_code 5 none) := rfl
set_option maxRecDepth 40000 in
theorem m_cw156 : lw_tbl[818]? = some (Cond.code mY156 prog_27_method_30_code 3 none) := rfl
/-- place of instanceMethod or static, of selects, static -/
def m_mw : List (Nat × Nat × Bool) := [(332, 333, false), (451, 7, false), (459, 8, false), (463, 9, false), (540, 11, false), (552, 12, false), (556, 13, false), (560, 14, false), (564, 15, false), (568, 16, false), (572, 17, false), (580, 18, false), (584, 19, false), (588, 20, false), (592, 21, false), (596, 22, false), (600, 23, false), (604, 24, false), (608, 25, false), (620, 26, false), (632, 27, false), (636, 28, false), (640, 29, false), (643, 0, true), (646, 0, true), (654, 30, false), (658, 31, false), (662, 32, false), (666, 33, false), (670, 34, false), (674, 35, false), (446, 447, false), (547, 548, false), (575, 576, false), (611, 612, false), (623, 624, false), (627, 628, false), (649, 650, false), (677, 678, false), (1064, 1065, false), (1069, 1070, false), (1073, 1074, false), (797, 798, false), (803, 38, false), (807, 39, false), (811, 40, false), (1057, 41, false), (1061, 42, false), (1077, 0, true), (1081, 43, false), (1085, 44, false), (1090, 45, false), (1098, 46, false), (1102, 47, false), (1106, 48, false), (1109, 0, true), (688, 689, false), (693, 36, false), (792, 793, false), (1093, 1094, false), (1112, 1113, false), (337, 338, false), (342, 0, false), (346, 1, false), (350, 2, false), (353, 0, true), (357, 3, false), (360, 0, true), (364, 4, false), (369, 5, false), (431, 6, false), (440, 0, true), (443, 0, true), (454, 455, false), (466, 467, false), (543, 544, false), (615, 616, false), (328, 329, false), (684, 685, false), (696, 697, false), (705, 706, false), (742, 37, false), (748, 749, false), (758, 759, false), (786, 787, false), (1119, 1120, false), (1272, 1273, false), (1276, 1277, false), (1281, 49, false), (1284, 1285, false), (1288, 0, true), (1291, 1292, false), (1296, 50, false), (1300, 51, false), (1304, 52, false), (1308, 53, false), (1312, 54, false), (1330, 55, false), (1337, 56, false), (1341, 57, false), (1345, 58, false), (1349, 59, false), (1353, 60, false), (1357, 61, false), (1361, 62, false), (1365, 63, false), (1369, 64, false), (1373, 65, false), (1377, 66, false), (1381, 67, false), (1385, 68, false), (1389, 69, false), (1393, 70, false), (1397, 71, false), (1401, 72, false), (1405, 73, false), (1409, 74, false), (1413, 75, false), (1417, 76, false), (1421, 77, false), (1425, 78, false), (1429, 79, false), (1433, 80, false), (1437, 81, false), (1441, 82, false), (1445, 83, false), (1449, 84, false), (1453, 85, false), (1457, 86, false), (1461, 87, false), (1465, 88, false), (1469, 89, false), (1473, 90, false), (1477, 91, false), (1481, 92, false), (1485, 93, false), (1488, 1489, false), (1492, 1493, false), (1496, 1497, false), (1500, 1501, false), (1506, 94, false), (1510, 95, false), (1514, 96, false), (1517, 0, true), (1521, 97, false), (1524, 0, true), (1527, 0, true), (1532, 98, false), (1536, 99, false), (1539, 1540, false), (700, 0, true), (745, 0, true), (753, 0, true), (783, 0, true), (1116, 0, true), (814, 0, true), (817, 0, true)]
def m_ini : List Nat := [102, 104, 105, 106, 103, 101, 107, 100, 121]
end
section
/-! what the tables say, for every row -/
abbrev m_own (M : mM) : Nat := M.1
abbrev m_y (M : mM) : MethodName := M.2.1
abbrev m_by (M : mM) : ByteArray := M.2.2.1
abbrev m_mL (M : mM) : Nat := M.2.2.2.1
abbrev m_ret (M : mM) : Option FieldType := M.2.2.2.2.1
abbrev m_hh (M : mM) : List (Nat × Nat × Nat × Nat) := M.2.2.2.2.2.1
abbrev m_cd (M : mM) : List mI := M.2.2.2.2.2.2
def m_tb : List Cond := lw_tbl.filter goodWord
theorem m_tb_of {i : Nat} {w : Cond} (h : lw_tbl[i]? = some w) (hg : goodWord w = true) : w ∈ m_tb := List.mem_filter.mpr ⟨List.mem_of_getElem? h, hg⟩
theorem m_tb_t {i : Nat} {w : Cond} (h : tables_1[i]? = some w) (hg : goodWord w = true) : w ∈ m_tb := List.mem_filter.mpr ⟨List.mem_append_right _ (List.mem_of_getElem? h), hg⟩
theorem m_tb_good : GoodIn m_tb m_tb := fun w hw => ⟨hw, good_of_word (List.mem_filter.mp hw).2⟩
theorem m_tb_sub {w : Cond} (h : w ∈ m_tb) : w ∈ lw_tbl := (List.mem_filter.mp h).1
theorem m_lay_in {ws : List Cond} (ps : List Nat) (h : ws = ps.filterMap (fun i => tables_1[i]?)) (hg : ws.all goodWord = true) : ∀ w ∈ ws, w ∈ m_tb := by
  intro w hw
  have h1 := List.all_eq_true.mp hg w hw
  rw [h] at hw
  obtain ⟨i, -, hi⟩ := List.mem_filterMap.mp hw
  exact m_tb_t hi h1
theorem m_lays : ∀ (c : Nat) (q : vw_C), m_cl[c]? = some q → ∀ w ∈ u_ws q.1 q.2.1 q.2.2, w ∈ m_tb := by
  intro c q h
  match c, h with
  | 0, h => cases h; exact m_lay_in _ m_lay0 (by decide +kernel)
  | 1, h => cases h; exact m_lay_in _ m_lay1 (by decide +kernel)
  | 2, h => cases h; exact m_lay_in _ m_lay2 (by decide +kernel)
  | 3, h => cases h; exact m_lay_in _ m_lay3 (by decide +kernel)
  | 4, h => cases h; exact m_lay_in _ m_lay4 (by decide +kernel)
  | 5, h => cases h; exact m_lay_in _ m_lay5 (by decide +kernel)
  | 6, h => cases h; exact m_lay_in _ m_lay6 (by decide +kernel)
  | k + 7, h => simp [m_cl] at h
/-- names apart, types known -/
theorem m_cls : ∀ (c : Nat) (q : vw_C), m_cl[c]? = some q → (∀ a, a < q.2.2 → ∀ b, b < q.2.2 → a ≠ b → (q.2.1 a).2.1 ≠ (q.2.1 b).2.1) ∧ ∃ ty : Nat → FieldType, (∀ k, k < q.2.2 → parseFieldDescriptor (q.2.1 k).2.2.1 = some (ty k)) ∧ ∀ k t, m_ft c k = some t → k < q.2.2 ∧ ty k = t := by
  intro c q h
  match c, h with
  | 0, h => cases h; exact ⟨nmX0, tyX0, tyX0_ok, fun k t h => by match k, h with | 0, h => (cases h; decide) | 1, h => (cases h; decide) | 2, h => (cases h; decide) | 3, h => (cases h; decide) | 4, h => (cases h; decide) | 5, h => (cases h; decide) | 6, h => (cases h; decide) | 7, h => (cases h; decide) | k + 8, h => simp [m_ft, m_ftL] at h⟩
  | 1, h => cases h; exact ⟨nmX1, tyX1, tyX1_ok, fun k t h => by match k, h with | 0, h => (cases h; decide) | 1, h => (cases h; decide) | 2, h => (cases h; decide) | 3, h => (cases h; decide) | 4, h => (cases h; decide) | 5, h => (cases h; decide) | k + 6, h => simp [m_ft, m_ftL] at h⟩
  | 2, h => cases h; exact ⟨nmX2, tyX2, tyX2_ok, fun k t h => by match k, h with | 0, h => (cases h; decide) | 1, h => (cases h; decide) | 2, h => (cases h; decide) | 3, h => (cases h; decide) | 4, h => (cases h; decide) | 5, h => (cases h; decide) | 6, h => (cases h; decide) | 7, h => (cases h; decide) | 8, h => (cases h; decide) | 9, h => (cases h; decide) | 10, h => (cases h; decide) | k + 11, h => simp [m_ft, m_ftL] at h⟩
  | 3, h => cases h; exact ⟨nmX4, tyX4, tyX4_ok, fun k t h => by match k, h with | 0, h => (cases h; decide) | 1, h => (cases h; decide) | 2, h => (cases h; decide) | 3, h => (cases h; decide) | 4, h => (cases h; decide) | 5, h => (cases h; decide) | k + 6, h => simp [m_ft, m_ftL] at h⟩
  | 4, h => cases h; exact ⟨nmX5, tyX5, tyX5_ok, fun k t h => by match k, h with | 0, h => (cases h; decide) | 1, h => (cases h; decide) | 2, h => (cases h; decide) | 3, h => (cases h; decide) | 4, h => (cases h; decide) | 5, h => (cases h; decide) | 6, h => (cases h; decide) | 7, h => (cases h; decide) | 8, h => (cases h; decide) | k + 9, h => simp [m_ft, m_ftL] at h⟩
  | 5, h => cases h; exact ⟨nmX6, tyX6, tyX6_ok, fun k t h => by match k, h with | 0, h => (cases h; decide) | 1, h => (cases h; decide) | 2, h => (cases h; decide) | 3, h => (cases h; decide) | 4, h => (cases h; decide) | 5, h => (cases h; decide) | 6, h => (cases h; decide) | 7, h => (cases h; decide) | k + 8, h => simp [m_ft, m_ftL] at h⟩
  | 6, h =>
    cases h
    refine ⟨nmX7, tyX7, tyX7_ok, fun k t h => ?_⟩
    have hk : k < 47 := by
      rcases Nat.lt_or_ge k 47 with h1 | h1
      · exact h1
      · exact absurd h (by
          have : (m_ftL[6]?).bind (fun l => l[k]?) = none := by
            show ([_, _, _, _, _, _, _, _, _, _, _, _, _, _, _, _, _, _, _, _, _, _, _, _, _, _, _, _, _, _, _, _, _, _, _, _, _, _, _, _, _, _, _, _, _, _, _] : List FieldType)[k]? = none
            exact List.getElem?_eq_none (by simpa using h1)
          rw [show m_ft 6 k = _ from this]; exact fun h => nomatch h)
    refine ⟨hk, ?_⟩
    have key : ∀ k, k < 47 → m_ft 6 k = some (tyX7 k) := by decide +kernel
    rw [key k hk] at h
    exact Option.some.inj h
  | k + 7, h => simp [m_cl] at h
/-- the words of fields of nest mates: they are carried beside the others -/
def m_isN : Cond → Bool
  | .fieldLinkNest .. => true
  | .castable .. => true
  | .declares .. => true
  | _ => false
def m_nw : List Cond := lw_tbl.filter m_isN
theorem m_nw_warm {s U : State} (hW : s.WarmedH U.vm) (h : ∀ w ∈ m_nw, va_Nw w s) : ∀ w ∈ m_nw, va_Nw w U := by
  intro w hw
  have h1 := h w hw
  have h2 := (List.mem_filter.mp hw).2
  cases w <;> first | exact va_Nw.warmF hW h1 | exact va_Nw.warmC hW h1 | exact va_Nw.warmD hW h1 | exact absurd h2 (by simp [m_isN])
theorem m_nw_t {i : Nat} {w : Cond} (h : tables_1[i]? = some w) (hg : m_isN w = true) : w ∈ m_nw := List.mem_filter.mpr ⟨List.mem_append_right _ (List.mem_of_getElem? h), hg⟩
/-- a field's row: the word by its place -/
def m_fw (f : Nat × Nat × Nat × Nat × Bool × Nat) (own : String) (c : vw_C) : Cond := if f.2.2.2.2.1 = true then .fieldLinkNest own f.2.1 c.1 (c.2.1 f.2.2.2.1).2.1 (c.2.1 f.2.2.2.1).2.2.1 "GasContract" else .fieldLink own f.2.1 c.1 (c.2.1 f.2.2.2.1).2.1 (c.2.1 f.2.2.2.1).2.2.1
def m_fok (f : Nat × Nat × Nat × Nat × Bool × Nat) : Bool := match m_cn[f.1]?, m_cl[f.2.2.1]? with
  | some own, some c => decide (tables_1[f.2.2.2.2.2]? = some (m_fw f own c)) && (if f.2.2.2.2.1 = true then m_isN (m_fw f own c) else goodWord (m_fw f own c)) && decide (f.2.2.2.1 < c.2.2) && decide ((c.2.1 f.2.2.2.1).1 = c.1)
  | _, _ => false
theorem m_fld_ok : m_fldL.all m_fok = true := by decide +kernel
theorem m_fld_at {own idx c k : Nat} {nest : Bool} {pos : Nat} (h : (own, idx, c, k, nest, pos) ∈ m_fldL) {o : String} (ho : m_cn[own]? = some o) {q : vw_C} (hq : m_cl[c]? = some q) :
    k < q.2.2 ∧ (q.2.1 k).1 = q.1 ∧ (Cond.fieldLink o idx q.1 (q.2.1 k).2.1 (q.2.1 k).2.2.1 ∈ m_tb ∨ Cond.fieldLinkNest o idx q.1 (q.2.1 k).2.1 (q.2.1 k).2.2.1 "GasContract" ∈ m_nw) := by
  have h1 := List.all_eq_true.mp m_fld_ok _ h
  simp only [m_fok, ho, hq, Bool.and_eq_true, decide_eq_true_eq] at h1
  obtain ⟨⟨⟨h2, h3⟩, h4⟩, h5⟩ := h1
  refine ⟨h4, h5, ?_⟩
  cases nest with
  | true => exact Or.inr (m_nw_t h2 h3)
  | false => exact Or.inl (m_tb_t h2 h3)
/-- what a row of code must satisfy by itself -/
def m_sok (own nL : Nat) (q : mI) : Bool := match q.2.1 with
  | .istore_n k => decide ((k : Nat) < nL)
  | .istore i => decide (i < nL)
  | .lstore_n k => decide ((k : Nat) + 1 < nL)
  | .iinc i _ => decide (i < nL)
  | .goto off => decide (0 ≤ (q.1 : Int) + off)
  | .ifCond _ off => decide (0 ≤ (q.1 : Int) + off)
  | .if_icmp _ off => decide (0 ≤ (q.1 : Int) + off)
  | .tableswitch d _ _ offs => decide (0 ≤ (q.1 : Int) + d) && offs.toList.all (fun o => decide (0 ≤ (q.1 : Int) + o))
  | .lookupswitch d ps => (ps.toList.zip (ps.toList.drop 1)).all (fun (a, next) => a.1 < next.1) && decide (0 ≤ (q.1 : Int) + d) && ps.toList.all (fun o => decide (0 ≤ (q.1 : Int) + o.2))
  | .getfield idx => m_fldL.any (fun f => f.1 == own && f.2.1 == idx && f.2.2.1 == q.2.2.2.1 && f.2.2.2.1 == q.2.2.2.2)
  | .putfield idx => m_fldL.any (fun f => f.1 == own && f.2.1 == idx && f.2.2.1 == q.2.2.2.1 && f.2.2.2.1 == q.2.2.2.2) && (match m_cl[q.2.2.2.1]? with | some c => (c.2.1 q.2.2.2.2).2.2.2 == false | none => false)
  | .ldc idx => if q.2.2.2.1 = 0 then m_cstL.any (fun f => f.1 == own && f.2.1 == idx && f.2.2.1 == q.2.2.2.2) else (match m_strL[q.2.2.2.2]? with | some f => f.1 == own && f.2.1 == idx | none => false)
  | .ldc_w idx => m_cstL.any (fun f => f.1 == own && f.2.1 == idx && f.2.2.1 == q.2.2.2.2)
  | .ldc2_w idx => m_cslL.any (fun f => f.1 == own && f.2.1 == idx && f.2.2.1 == q.2.2.2.1 && f.2.2.2.1 == q.2.2.2.2)
  | .invokevirtual idx => decide (1000 ≤ q.2.2.2.1) || m_lnkL.any (fun f => f.1 == own && f.2.1 == idx && f.2.2.1 == q.2.2.2.1)
  | .invokestatic idx => decide (1000 ≤ q.2.2.2.1) || m_lnkL.any (fun f => f.1 == own && f.2.1 == idx && f.2.2.1 == q.2.2.2.1)
  | _ => true
theorem m_sok_all : m_prog.all (fun M => (m_cd M).all (m_sok (m_own M) (m_mL M))) = true := by decide +kernel
theorem m_decs : ∀ M ∈ m_prog, ∀ q ∈ m_cd M, decode (m_by M) q.1 = .ok (q.2.1, q.2.2.1) := by
  simp only [m_prog]
  exact List.forall_mem_cons.mpr ⟨m_dec0, List.forall_mem_cons.mpr ⟨m_dec1, List.forall_mem_cons.mpr ⟨m_dec2, List.forall_mem_cons.mpr ⟨m_dec3, List.forall_mem_cons.mpr ⟨m_dec4, List.forall_mem_cons.mpr ⟨m_dec5, List.forall_mem_cons.mpr ⟨m_dec6, List.forall_mem_cons.mpr ⟨m_dec7, List.forall_mem_cons.mpr ⟨m_dec8, List.forall_mem_cons.mpr ⟨m_dec9, List.forall_mem_cons.mpr ⟨m_dec10, List.forall_mem_cons.mpr ⟨m_dec11, List.forall_mem_cons.mpr ⟨m_dec12, List.forall_mem_cons.mpr ⟨m_dec13, List.forall_mem_cons.mpr ⟨m_dec14, List.forall_mem_cons.mpr ⟨m_dec15, List.forall_mem_cons.mpr ⟨m_dec16, List.forall_mem_cons.mpr ⟨m_dec17, List.forall_mem_cons.mpr ⟨m_dec18, List.forall_mem_cons.mpr ⟨m_dec19, List.forall_mem_cons.mpr ⟨m_dec20, List.forall_mem_cons.mpr ⟨m_dec21, List.forall_mem_cons.mpr ⟨m_dec22, List.forall_mem_cons.mpr ⟨m_dec23, List.forall_mem_cons.mpr ⟨m_dec24, List.forall_mem_cons.mpr ⟨m_dec25, List.forall_mem_cons.mpr ⟨m_dec26, List.forall_mem_cons.mpr ⟨m_dec27, List.forall_mem_cons.mpr ⟨m_dec28, List.forall_mem_cons.mpr ⟨m_dec29, List.forall_mem_cons.mpr ⟨m_dec30, List.forall_mem_cons.mpr ⟨m_dec31, List.forall_mem_cons.mpr ⟨m_dec32, List.forall_mem_cons.mpr ⟨m_dec33, List.forall_mem_cons.mpr ⟨m_dec34, List.forall_mem_cons.mpr ⟨m_dec35, List.forall_mem_cons.mpr ⟨m_dec36, List.forall_mem_cons.mpr ⟨m_dec37, List.forall_mem_cons.mpr ⟨m_dec38, List.forall_mem_cons.mpr ⟨m_dec39, List.forall_mem_cons.mpr ⟨m_dec40, List.forall_mem_cons.mpr ⟨m_dec41, List.forall_mem_cons.mpr ⟨m_dec42, List.forall_mem_cons.mpr ⟨m_dec43, List.forall_mem_cons.mpr ⟨m_dec44, List.forall_mem_cons.mpr ⟨m_dec45, List.forall_mem_cons.mpr ⟨m_dec46, List.forall_mem_cons.mpr ⟨m_dec47, List.forall_mem_cons.mpr ⟨m_dec48, List.forall_mem_cons.mpr ⟨m_dec49, List.forall_mem_cons.mpr ⟨m_dec50, List.forall_mem_cons.mpr ⟨m_dec51, List.forall_mem_cons.mpr ⟨m_dec52, List.forall_mem_cons.mpr ⟨m_dec53, List.forall_mem_cons.mpr ⟨m_dec54, List.forall_mem_cons.mpr ⟨m_dec55, List.forall_mem_cons.mpr ⟨m_dec56, List.forall_mem_cons.mpr ⟨m_dec57, List.forall_mem_cons.mpr ⟨m_dec58, List.forall_mem_cons.mpr ⟨m_dec59, List.forall_mem_cons.mpr ⟨m_dec60, List.forall_mem_cons.mpr ⟨m_dec61, List.forall_mem_cons.mpr ⟨m_dec62, List.forall_mem_cons.mpr ⟨m_dec63, List.forall_mem_cons.mpr ⟨m_dec64, List.forall_mem_cons.mpr ⟨m_dec65, List.forall_mem_cons.mpr ⟨m_dec66, List.forall_mem_cons.mpr ⟨m_dec67, List.forall_mem_cons.mpr ⟨m_dec68, List.forall_mem_cons.mpr ⟨m_dec69, List.forall_mem_cons.mpr ⟨m_dec70, List.forall_mem_cons.mpr ⟨m_dec71, List.forall_mem_cons.mpr ⟨m_dec72, List.forall_mem_cons.mpr ⟨m_dec73, List.forall_mem_cons.mpr ⟨m_dec74, List.forall_mem_cons.mpr ⟨m_dec75, List.forall_mem_cons.mpr ⟨m_dec76, List.forall_mem_cons.mpr ⟨m_dec77, List.forall_mem_cons.mpr ⟨m_dec78, List.forall_mem_cons.mpr ⟨m_dec79, List.forall_mem_cons.mpr ⟨m_dec80, List.forall_mem_cons.mpr ⟨m_dec81, List.forall_mem_cons.mpr ⟨m_dec82, List.forall_mem_cons.mpr ⟨m_dec83, List.forall_mem_cons.mpr ⟨m_dec84, List.forall_mem_cons.mpr ⟨m_dec85, List.forall_mem_cons.mpr ⟨m_dec86, List.forall_mem_cons.mpr ⟨m_dec87, List.forall_mem_cons.mpr ⟨m_dec88, List.forall_mem_cons.mpr ⟨m_dec89, List.forall_mem_cons.mpr ⟨m_dec90, List.forall_mem_cons.mpr ⟨m_dec91, List.forall_mem_cons.mpr ⟨m_dec92, List.forall_mem_cons.mpr ⟨m_dec93, List.forall_mem_cons.mpr ⟨m_dec94, List.forall_mem_cons.mpr ⟨m_dec95, List.forall_mem_cons.mpr ⟨m_dec96, List.forall_mem_cons.mpr ⟨m_dec97, List.forall_mem_cons.mpr ⟨m_dec98, List.forall_mem_cons.mpr ⟨m_dec99, List.forall_mem_cons.mpr ⟨m_dec100, List.forall_mem_cons.mpr ⟨m_dec101, List.forall_mem_cons.mpr ⟨m_dec102, List.forall_mem_cons.mpr ⟨m_dec103, List.forall_mem_cons.mpr ⟨m_dec104, List.forall_mem_cons.mpr ⟨m_dec105, List.forall_mem_cons.mpr ⟨m_dec106, List.forall_mem_cons.mpr ⟨m_dec107, List.forall_mem_cons.mpr ⟨m_dec108, List.forall_mem_cons.mpr ⟨m_dec109, List.forall_mem_cons.mpr ⟨m_dec110, List.forall_mem_cons.mpr ⟨m_dec111, List.forall_mem_cons.mpr ⟨m_dec112, List.forall_mem_cons.mpr ⟨m_dec113, List.forall_mem_cons.mpr ⟨m_dec114, List.forall_mem_cons.mpr ⟨m_dec115, List.forall_mem_cons.mpr ⟨m_dec116, List.forall_mem_cons.mpr ⟨m_dec117, List.forall_mem_cons.mpr ⟨m_dec118, List.forall_mem_cons.mpr ⟨m_dec119, List.forall_mem_cons.mpr ⟨m_dec120, List.forall_mem_cons.mpr ⟨m_dec121, List.forall_mem_cons.mpr ⟨m_dec122, List.forall_mem_cons.mpr ⟨m_dec123, List.forall_mem_cons.mpr ⟨m_dec124, List.forall_mem_cons.mpr ⟨m_dec125, List.forall_mem_cons.mpr ⟨m_dec126, List.forall_mem_cons.mpr ⟨m_dec127, List.forall_mem_cons.mpr ⟨m_dec128, List.forall_mem_cons.mpr ⟨m_dec129, List.forall_mem_cons.mpr ⟨m_dec130, List.forall_mem_cons.mpr ⟨m_dec131, List.forall_mem_cons.mpr ⟨m_dec132, List.forall_mem_cons.mpr ⟨m_dec133, List.forall_mem_cons.mpr ⟨m_dec134, List.forall_mem_cons.mpr ⟨m_dec135, List.forall_mem_cons.mpr ⟨m_dec136, List.forall_mem_cons.mpr ⟨m_dec137, List.forall_mem_cons.mpr ⟨m_dec138, List.forall_mem_cons.mpr ⟨m_dec139, List.forall_mem_cons.mpr ⟨m_dec140, List.forall_mem_cons.mpr ⟨m_dec141, List.forall_mem_cons.mpr ⟨m_dec142, List.forall_mem_cons.mpr ⟨m_dec143, List.forall_mem_cons.mpr ⟨m_dec144, List.forall_mem_cons.mpr ⟨m_dec145, List.forall_mem_cons.mpr ⟨m_dec146, List.forall_mem_cons.mpr ⟨m_dec147, List.forall_mem_cons.mpr ⟨m_dec148, List.forall_mem_cons.mpr ⟨m_dec149, List.forall_mem_cons.mpr ⟨m_dec150, List.forall_mem_cons.mpr ⟨m_dec151, List.forall_mem_cons.mpr ⟨m_dec152, List.forall_mem_cons.mpr ⟨m_dec153, List.forall_mem_cons.mpr ⟨m_dec154, List.forall_mem_cons.mpr ⟨m_dec155, List.forall_mem_cons.mpr ⟨m_dec156, List.forall_mem_cons.mpr ⟨m_dec157, fun _ h => absurd h List.not_mem_nil⟩⟩⟩⟩⟩⟩⟩⟩⟩⟩⟩⟩⟩⟩⟩⟩⟩⟩⟩⟩⟩⟩⟩⟩⟩⟩⟩⟩⟩⟩⟩⟩⟩⟩⟩⟩⟩⟩⟩⟩⟩⟩⟩⟩⟩⟩⟩⟩⟩⟩⟩⟩⟩⟩⟩⟩⟩⟩⟩⟩⟩⟩⟩⟩⟩⟩⟩⟩⟩⟩⟩⟩⟩⟩⟩⟩⟩⟩⟩⟩⟩⟩⟩⟩⟩⟩⟩⟩⟩⟩⟩⟩⟩⟩⟩⟩⟩⟩⟩⟩⟩⟩⟩⟩⟩⟩⟩⟩⟩⟩⟩⟩⟩⟩⟩⟩⟩⟩⟩⟩⟩⟩⟩⟩⟩⟩⟩⟩⟩⟩⟩⟩⟩⟩⟩⟩⟩⟩⟩⟩⟩⟩⟩⟩⟩⟩⟩⟩⟩⟩⟩⟩⟩⟩⟩⟩⟩⟩
end
section
/-! the small machine's cells and the real ones -/
def m_V (ad : Nat → Nat) (v : Value) : Value := match v with
  | .ref i => .ref (ad i)
  | v => v
def m_E (ad : Nat → Nat) (cI cJ : ClassId) (c : mC) : va_E := match c with
  | .inl q => .inl (cI, q.1, .inl q.2)
  | .inr (.inl q) => .inl (cJ, q.1, .inr (.inl q.2))
  | .inr (.inr q) => .inr (q.1, q.2.map (m_V ad))
def m_W (ad : Nat → Nat) (cI cJ : ClassId) (h : mH) : va_W := h.mapIdx (fun i c => (ad i, m_E ad cI cJ c))
def m_Lv (ad : Nat → Nat) (lv : mL) : mL := lv.map (fun q => (q.1, m_V ad q.2))
theorem m_V_cat (ad : Nat → Nat) (v : Value) : (m_V ad v).category = v.category := by cases v <;> rfl
theorem m_W_at {ad : Nat → Nat} {cI cJ : ClassId} {h : mH} {i : Nat} {c : mC} (hh : h[i]? = some c) : (m_W ad cI cJ h)[i]? = some (ad i, m_E ad cI cJ c) := by
  simp [m_W, List.getElem?_mapIdx, hh]
theorem m_W_set {ad : Nat → Nat} {cI cJ : ClassId} (h : mH) (i : Nat) (c : mC) : m_W ad cI cJ (h.set i c) = (m_W ad cI cJ h).set i (ad i, m_E ad cI cJ c) := by
  apply List.ext_getElem?
  intro j
  simp only [m_W, List.getElem?_mapIdx, List.getElem?_set, List.length_mapIdx]
  by_cases hj : i = j
  · subst hj
    by_cases hl : i < h.length <;> simp [hl]
  · simp [hj]
theorem m_W_len {ad : Nat → Nat} {cI cJ : ClassId} (h : mH) : (m_W ad cI cJ h).length = h.length := by simp [m_W]
theorem m_ins_mem {f : mL} {i : Nat} {v : Value} {q : Nat × Value} (h : q ∈ m_ins f i v) : q = (i, v) ∨ q ∈ f := by
  unfold m_ins at h
  rcases List.mem_append.mp h with h | h
  · exact Or.inr (List.takeWhile_subset _ h)
  · rcases List.mem_cons.mp h with h | h
    · exact Or.inl h
    · exact Or.inr (List.dropWhile_subset _ h)
theorem m_has_sub {ad : Nat → Nat} {lv lv' : mL} {ls : Array Slot} {nL : Nat} (h : lv_has ls nL (m_Lv ad lv)) (hs : ∀ q ∈ lv', q ∈ lv) : lv_has ls nL (m_Lv ad lv') := by
  refine ⟨h.1, h.2.1, fun q hq => ?_⟩
  obtain ⟨q0, hq0, rfl⟩ := List.mem_map.mp hq
  exact h.2.2 _ (List.mem_map.mpr ⟨q0, hs q0 hq0, rfl⟩)
theorem m_Lv_ls {ad : Nat → Nat} {lv : mL} {i : Nat} {v : Value} {ls : Array Slot} {nL : Nat} (h : lv_has ls nL ((i, m_V ad v) :: (m_Lv ad lv).filter (fun q => !(q.1 == i) && !(q.1 + 1 == i && q.2.category == 2)))) : lv_has ls nL (m_Lv ad (m_ls lv i v)) := by
  refine ⟨h.1, h.2.1, fun q hq => h.2.2 q ?_⟩
  obtain ⟨q0, hq0, rfl⟩ := List.mem_map.mp hq
  rcases m_ins_mem hq0 with rfl | hq0
  · exact List.mem_cons_self
  · obtain ⟨h1, h2⟩ := List.mem_filter.mp hq0
    exact List.mem_cons_of_mem _ (List.mem_filter.mpr ⟨List.mem_map.mpr ⟨q0, h1, rfl⟩, by simpa [m_V_cat] using h2⟩)
theorem m_Lv_ls2 {ad : Nat → Nat} {lv : mL} {i : Nat} {v : Value} {ls : Array Slot} {nL : Nat} (h : lv_has ls nL ((i, m_V ad v) :: (m_Lv ad lv).filter (fun q => !(q.1 == i) && (!(q.1 == i + 1) && !(q.1 + 1 == i && q.2.category == 2))))) : lv_has ls nL (m_Lv ad (m_ls2 lv i v)) := by
  refine ⟨h.1, h.2.1, fun q hq => h.2.2 q ?_⟩
  obtain ⟨q0, hq0, rfl⟩ := List.mem_map.mp hq
  rcases m_ins_mem hq0 with rfl | hq0
  · exact List.mem_cons_self
  · obtain ⟨h1, h2⟩ := List.mem_filter.mp hq0
    exact List.mem_cons_of_mem _ (List.mem_filter.mpr ⟨List.mem_map.mpr ⟨q0, h1, rfl⟩, by simpa [m_V_cat] using h2⟩)
theorem m_nf_ok {ty : FieldType} {v : Value} (h : m_nf ty v = true) : narrow ty v = v ∧ fits ty v = true := by
  cases ty <;> cases v <;> first
    | exact ⟨rfl, rfl⟩
    | (simp only [m_nf, Bool.or_eq_true, beq_iff_eq] at h
       rcases h with rfl | rfl <;> exact ⟨by decide, by decide⟩)
    | (exact absurd h (by simp [m_nf]))
theorem m_lg_mem {lv : mL} {i : Nat} {v : Value} (h : m_lg lv i = some v) : (i, v) ∈ lv := by
  unfold m_lg at h
  cases hf : lv.find? (fun q => q.1 == i) with
  | none => rw [hf] at h; cases h
  | some q =>
    rw [hf] at h
    have h1 := List.mem_of_find?_eq_some hf
    have h2 := List.find?_some hf
    simp only [beq_iff_eq] at h2
    cases h
    rw [← h2]
    exact h1
theorem m_lg_at {ad : Nat → Nat} {lv : mL} {i nL : Nat} {v : Value} {ls : Array Slot} (h : m_lg lv i = some v) (hl : lv_has ls nL (m_Lv ad lv)) : ls[i]? = some (.val (m_V ad v)) :=
  hl.2.2 (i, m_V ad v) (List.mem_map.mpr ⟨(i, v), m_lg_mem h, rfl⟩)
/-- the place of a local among the listed ones -/
theorem m_lg_pl {ad : Nat → Nat} {lv : mL} {i : Nat} {v : Value} (h : m_lg lv i = some v) : ∃ k : Nat, (m_Lv ad lv)[k]? = some (i, m_V ad v) := by
  obtain ⟨k, hk⟩ := List.getElem?_of_mem (m_lg_mem h)
  exact ⟨k, by simp [m_Lv, hk]⟩
section Inv
variable {r : mS}
theorem m_i_inv {st : List Value} {k : Int32 → List Value → Option mS} (h : m_i st k = some r) : ∃ x t, st = .int x :: t ∧ k x t = some r := by
  unfold m_i at h
  split at h
  · exact ⟨_, _, rfl, h⟩
  · cases h
theorem m_l_inv {st : List Value} {k : Int64 → List Value → Option mS} (h : m_l st k = some r) : ∃ x t, st = .long x :: t ∧ k x t = some r := by
  unfold m_l at h
  split at h
  · exact ⟨_, _, rfl, h⟩
  · cases h
theorem m_r_inv {st : List Value} {k : Nat → List Value → Option mS} (h : m_r st k = some r) : ∃ x t, st = .ref x :: t ∧ k x t = some r := by
  unfold m_r at h
  split at h
  · exact ⟨_, _, rfl, h⟩
  · cases h
theorem m_ii_inv {st : List Value} {k : Int32 → Int32 → List Value → Option mS} (h : m_ii st k = some r) : ∃ x y t, st = .int y :: .int x :: t ∧ k x y t = some r := by
  obtain ⟨y, t, e1, h1⟩ := m_i_inv h
  obtain ⟨x, t2, e2, h2⟩ := m_i_inv h1
  exact ⟨x, y, t2, by rw [e1, e2], h2⟩
theorem m_ll_inv {st : List Value} {k : Int64 → Int64 → List Value → Option mS} (h : m_ll st k = some r) : ∃ x y t, st = .long y :: .long x :: t ∧ k x y t = some r := by
  obtain ⟨y, t, e1, h1⟩ := m_l_inv h
  obtain ⟨x, t2, e2, h2⟩ := m_l_inv h1
  exact ⟨x, y, t2, by rw [e1, e2], h2⟩
theorem m_ldi_inv {lv : mL} {i : Nat} {k : Int32 → Option mS} (h : m_ldi lv i k = some r) : ∃ x, m_lg lv i = some (.int x) ∧ k x = some r := by
  unfold m_ldi at h
  split at h
  · exact ⟨_, by assumption, h⟩
  · cases h
theorem m_ldl_inv {lv : mL} {i : Nat} {k : Int64 → Option mS} (h : m_ldl lv i k = some r) : ∃ x, m_lg lv i = some (.long x) ∧ k x = some r := by
  unfold m_ldl at h
  split at h
  · exact ⟨_, by assumption, h⟩
  · cases h
theorem m_ldr_inv {lv : mL} {i : Nat} {k : Nat → Option mS} (h : m_ldr lv i k = some r) : ∃ x, m_lg lv i = some (.ref x) ∧ k x = some r := by
  unfold m_ldr at h
  split at h
  · exact ⟨_, by assumption, h⟩
  · cases h
theorem m_obj_inv {h : mH} {q : Nat} {k : Nat → List Value → Option mS} (hh : m_obj h q k = some r) : ∃ c fs, h[q]? = some (.inr (.inr (c, fs))) ∧ k c fs = some r := by
  unfold m_obj at hh
  split at hh
  · exact ⟨_, _, by assumption, hh⟩
  · cases hh
theorem m_arr_inv {h : mH} {q : Nat} {k : Nat → (Nat → Int32) → Option mS} (hh : m_arr h q k = some r) : ∃ n f, h[q]? = some (.inl (n, f)) ∧ k n f = some r := by
  unfold m_arr at hh
  split at hh
  · exact ⟨_, _, by assumption, hh⟩
  · cases hh
theorem m_arl_inv {h : mH} {q : Nat} {k : Nat → (Nat → Int64) → Option mS} (hh : m_arl h q k = some r) : ∃ n f, h[q]? = some (.inr (.inl (n, f))) ∧ k n f = some r := by
  unfold m_arl at hh
  split at hh
  · exact ⟨_, _, by assumption, hh⟩
  · cases hh
theorem m_opt_inv {α β : Type} {o : Option α} {k : α → Option β} {r : β} (h : m_opt o k = some r) : ∃ a, o = some a ∧ k a = some r := by
  cases o with
  | none => cases h
  | some a => exact ⟨a, rfl, h⟩
theorem m_if_inv {c : Prop} [Decidable c] {α : Type} {a : Option α} {r : α} (h : (if c then a else none) = some r) : c ∧ a = some r := by
  by_cases hc : c
  · rw [if_pos hc] at h; exact ⟨hc, h⟩
  · rw [if_neg hc] at h; cases h
theorem m_ifn_inv {c : Prop} [Decidable c] {α : Type} {a : Option α} {r : α} (h : (if c then none else a) = some r) : ¬ c ∧ a = some r := by
  by_cases hc : c
  · rw [if_pos hc] at h; cases h
  · rw [if_neg hc] at h; exact ⟨hc, h⟩
end Inv
theorem m_tg_eq {pc : Nat} {off : Int} (h : 0 ≤ (pc : Int) + off) : (pc : Int) + off = ((m_tg pc off : Nat) : Int) := (Int.toNat_of_nonneg h).symm
theorem m_any2 {own idx a b : Nat} (h : m_fldL.any (fun f => f.1 == own && f.2.1 == idx && f.2.2.1 == a && f.2.2.2.1 == b) = true) : ∃ nest pos, (own, idx, a, b, nest, pos) ∈ m_fldL := by
  obtain ⟨f, hf, h⟩ := List.any_eq_true.mp h
  simp only [Bool.and_eq_true, beq_iff_eq] at h
  obtain ⟨⟨⟨rfl, rfl⟩, rfl⟩, rfl⟩ := h
  exact ⟨f.2.2.2.2.1, f.2.2.2.2.2, hf⟩
theorem m_cst_ok : m_cstL.all (fun f => match m_cn[f.1]? with | some o => decide (tables_1[f.2.2.2]? = some (.constant o f.2.1 (Int32.ofNat f.2.2.1))) && goodWord (.constant o f.2.1 (Int32.ofNat f.2.2.1)) | none => false) = true := by decide +kernel
theorem m_csl_ok : m_cslL.all (fun f => match m_cn[f.1]? with | some o => decide (tables_1[f.2.2.2.2]? = some (.constantLong o f.2.1 (if f.2.2.1 = 0 then Int64.ofNat f.2.2.2.1 else -1))) && goodWord (.constantLong o f.2.1 (if f.2.2.1 = 0 then Int64.ofNat f.2.2.2.1 else -1)) | none => false) = true := by decide +kernel
theorem m_cst_at {own idx b : Nat} (h : m_cstL.any (fun f => f.1 == own && f.2.1 == idx && f.2.2.1 == b) = true) {o : String} (ho : m_cn[own]? = some o) : Cond.constant o idx (Int32.ofNat b) ∈ m_tb := by
  obtain ⟨f, hf, h⟩ := List.any_eq_true.mp h
  simp only [Bool.and_eq_true, beq_iff_eq] at h
  obtain ⟨⟨rfl, rfl⟩, rfl⟩ := h
  have h1 := List.all_eq_true.mp m_cst_ok _ hf
  simp only [ho, Bool.and_eq_true, decide_eq_true_eq] at h1
  exact m_tb_t h1.1 h1.2
theorem m_csl_at {own idx a b : Nat} (h : m_cslL.any (fun f => f.1 == own && f.2.1 == idx && f.2.2.1 == a && f.2.2.2.1 == b) = true) {o : String} (ho : m_cn[own]? = some o) : Cond.constantLong o idx (if a = 0 then Int64.ofNat b else -1) ∈ m_tb := by
  obtain ⟨f, hf, h⟩ := List.any_eq_true.mp h
  simp only [Bool.and_eq_true, beq_iff_eq] at h
  obtain ⟨⟨⟨rfl, rfl⟩, rfl⟩, rfl⟩ := h
  have h1 := List.all_eq_true.mp m_csl_ok _ hf
  simp only [ho, Bool.and_eq_true, decide_eq_true_eq] at h1
  exact m_tb_t h1.1 h1.2
/-- the lengths of the instructions that are used -/
def m_ln : Instr → Nat
  | .aload _ | .iload _ | .istore _ | .bipush _ | .ldc _ | .astore _ | .newarray _ => 2
  | .sipush _ | .iinc .. | .ldc2_w _ | .ldc_w _ | .goto _ | .ifCond .. | .if_icmp .. | .getfield _ | .putfield _ | .invokevirtual _ | .invokestatic _ | .invokespecial _ | .new _ => 3
  | .tableswitch .. | .lookupswitch .. => 0
  | _ => 1
theorem m_ln_all : m_prog.all (fun M => (m_cd M).all (fun q => m_ln q.2.1 == 0 || q.2.2.1 == m_ln q.2.1)) = true := by decide +kernel
end
section
/-! one instruction of the small machine is one of the real one -/
def m_en : List String := ["java/lang/IllegalStateException", "java/lang/IllegalArgumentException", "java/lang/UnsupportedOperationException", "java/lang/IndexOutOfBoundsException"]
/-- an exception, and a type that doesn't take it -/
def m_ncL : List (String × String) := [("java/lang/UnsupportedOperationException", "java/lang/IllegalArgumentException"), ("java/lang/IndexOutOfBoundsException", "java/lang/IllegalStateException"), ("java/lang/IllegalArgumentException", "java/lang/IllegalStateException"), ("java/lang/IllegalArgumentException", "java/lang/IndexOutOfBoundsException")]
/-- the words' texts: their lengths, their bytes -/
def m_sLen : List Nat := [2, 2, 3, 4, 4, 4, 5, 5, 5, 6, 7]
def m_sByt : List (List Int32) := [[102, 110], [105, 102], [108, 101, 116], [108, 111, 97, 100], [101, 108, 115, 101], [116, 114, 117, 101], [115, 116, 111, 114, 101], [119, 104, 105, 108, 101], [102, 97, 108, 115, 101], [114, 101, 116, 117, 114, 110], [114, 101, 113, 117, 105, 114, 101]]
def m_ES (ad : Nat → Nat) (A : Nat → Prop) (U : State) : Prop := vk_S 11 m_sLen m_sByt (fun i => ad (m_scr + 1 + i)) (fun i => ad (m_scr + 101 + i)) A U U.heap ∧ va_Z "java/lang/String" "COMPACT_STRINGS" "Z" (.int 1) A U U.heap ∧ va_Zq "jdk/internal/util/Preconditions" "SIOOBE_FORMATTER" "Ljava/util/function/BiFunction;" A U U.heap
theorem m_ES.move {ad : Nat → Nat} {A : Nat → Prop} {s U : State} (h : m_ES ad A s) (hW : s.WarmedH U.vm) (hk : ∀ q : Nat, q < s.heap.size → ¬ A q → U.heap[q]? = s.heap[q]?) : m_ES ad A U :=
  ⟨(vk_S.moved hW.alike h.1).kept hk, (va_Z.moved hW.alike h.2.1).kept hk, (va_Zq.moved hW.alike h.2.2).kept hk⟩
def m_EV (D : va_G) (ad : Nat → Nat) (cI cJ : ClassId) (A : Nat → Prop) (X : Nat × (Nat → Int32)) (U : State) : Prop :=
  va_K D m_cl [(cI, .int), (cJ, .long)] U ∧ (∀ w ∈ m_nw, va_Nw w U) ∧ (∀ (k : Nat) (f : Nat × Nat × String × Nat), m_strL[k]? = some f → ∀ o, m_cn[f.1]? = some o → vk_R o f.2.1 f.2.2.1 (ad (m_scr + 1 + k)) U) ∧
  va_X (ad m_scr) X.1 X.2 U U.heap ∧ ad m_scr < U.heap.size ∧ ¬ A (ad m_scr) ∧ vx_Zq Bundle.tN "UNASSIGNED_STACK" Bundle.steD A U U.heap ∧ vx_Zq Bundle.tN "SUPPRESSED_SENTINEL" Bundle.listD A U U.heap ∧ (∀ q ∈ m_ncL, va_Nc q.1 q.2 U) ∧ m_ES ad A U
theorem m_EV.move {D : va_G} {ad : Nat → Nat} {cI cJ : ClassId} {A : Nat → Prop} {X : Nat × (Nat → Int32)} {s U : State} (h : m_EV D ad cI cJ A X s) (hW : s.WarmedH U.vm) (hz : s.heap.size ≤ U.heap.size) (hk : ∀ q : Nat, q < s.heap.size → ¬ A q → U.heap[q]? = s.heap[q]?) : m_EV D ad cI cJ A X U := by
  obtain ⟨h1, h2, h3, h4, h5, h6, h7, h8, h9, h10⟩ := h
  exact ⟨va_K.moved hW.alike h1, m_nw_warm hW h2, fun k f hf o ho => vk_R.warm hW (h3 k f hf o ho), (va_X.moved hW.alike h4).kept (hk _ h5 h6), Nat.lt_of_lt_of_le h5 hz, h6, (vx_Zq.moved hW.alike h7).kept hk, (vx_Zq.moved hW.alike h8).kept hk, fun q hq => va_Nc.moved hW.alike (h9 q hq), h10.move hW hk⟩
theorem m_narrow {ad : Nat → Nat} {ty : FieldType} {v : Value} (h : narrow ty v = v) : narrow ty (m_V ad v) = m_V ad v := by
  cases v <;> first | exact h | (cases ty <;> rfl)
theorem m_fits {ad : Nat → Nat} {ty : FieldType} {v : Value} (h : fits ty v = true) : fits ty (m_V ad v) = true := by
  cases v <;> first | exact h | (cases ty <;> first | rfl | exact h)
theorem m_lk {pc : Nat} {d x : Int} : ∀ (ps : List (Int × Int)), 0 ≤ (pc : Int) + d → (∀ o ∈ ps, 0 ≤ (pc : Int) + o.2) → 0 ≤ (pc : Int) + Op.lookupswitch.offset ps d x
  | [], h, _ => by rw [Op.lookupswitch.offset_nil]; exact h
  | (a, o) :: t, h, ht => by
    rw [Op.lookupswitch.offset_cons]
    split
    · exact ht (a, o) List.mem_cons_self
    · exact m_lk t h (fun q hq => ht q (List.mem_cons_of_mem _ hq))
theorem m_isN_tab {w : Cond} (h : w ∈ m_nw) : w.onTables = true := by
  have h2 := (List.mem_filter.mp h).2
  cases w <;> first | rfl | exact absurd h2 (by simp [m_isN])
section Loc
variable {p : Program} {l : Launch} {e : Env} {R : Room} {s : State} {m : MethodId} {args : Array Value} {below : List Frame} {meth : Method} {c : Code} {H : Heap} {locs : List Loc} {cells slots : Nat} {Q : State → Prop} {ls : Array Slot}
variable {D : va_G} {ad : Nat → Nat} {cI cJ : ClassId} {A : Nat → Prop} {X : Nat × (Nat → Int32)}
set_option maxHeartbeats 4000000 in
theorem m_locsim (hx : p.tables.exec = Jvm.exec) {cc : ByteArray} (hb : c.code = cc) {o : String} {own nL : Nat} (ho : m_cn[own]? = some o) (hown : s.vm.findClass o = some m.cls)
    (hts : ∀ w ∈ m_tb, w.before args s = true) (hE : m_EV D ad cI cJ A X s) {q : mI} (hd : decode cc q.1 = .ok (q.2.1, q.2.2.1)) (hok : m_sok own nL q = true) (hln : m_ln q.2.1 = 0 ∨ q.2.2.1 = m_ln q.2.1)
    {lv : mL} {st : List Value} {h : mH} {r : mS} (hr : m_loc m_ft X q.2.1 q.2.2.2.1 q.2.2.2.2 q.1 lv st h = some r)
    (hP : va_P D m_cl (m_W ad cI cJ h) H) (hD : va_D A (m_W ad cI cJ h)) (hS : va_S A s.heap H locs) (hl : lv_has ls nL (m_Lv ad lv))
    (kk : ∀ (H1 : Heap) (locs1 : List Loc) (ls1 : Array Slot), va_P D m_cl (m_W ad cI cJ r.2.2.2) H1 → va_D A (m_W ad cI cJ r.2.2.2) → va_S A s.heap H1 locs1 → lv_has ls1 nL (m_Lv ad r.2.1) →
      W p l e R s m args below meth c H1 locs1 cells slots Q (F0 m r.1 ls1 (r.2.2.1.map (m_V ad)))) :
    W p l e R s m args below meth c H locs cells slots Q (F0 m q.1 ls (st.map (m_V ad))) := by
  obtain ⟨pc, ins, len, a, b⟩ := q
  dsimp only at hd hok hln hr ⊢
  have hd2 : ∀ n, m_ln ins = n + 1 → decode cc pc = .ok (ins, n + 1) := by
    intro n hn
    rcases hln with h1 | h1
    · rw [hn] at h1; cases h1
    · rw [hn] at h1; rw [← h1]; exact hd
  cases ins with
  | aload_n k =>
    obtain ⟨x, h1, hr⟩ := m_ldr_inv hr
    cases hr
    exact lv_aload_n hx hb (hd2 0 rfl) rfl (m_lg_at h1 hl) (kk H locs ls hP hD hS hl)
  | aload i =>
    obtain ⟨x, h1, hr⟩ := m_ldr_inv hr
    cases hr
    exact lv_aload hx hb (hd2 1 rfl) (m_lg_at h1 hl) (kk H locs ls hP hD hS hl)
  | iload_n k =>
    obtain ⟨x, h1, hr⟩ := m_ldi_inv hr
    cases hr
    exact lv_iload_n hx hb (hd2 0 rfl) rfl (m_lg_at h1 hl) (kk H locs ls hP hD hS hl)
  | iload i =>
    obtain ⟨x, h1, hr⟩ := m_ldi_inv hr
    cases hr
    exact lv_iload hx hb (hd2 1 rfl) (m_lg_at h1 hl) (kk H locs ls hP hD hS hl)
  | lload_n k =>
    obtain ⟨x, h1, hr⟩ := m_ldl_inv hr
    cases hr
    exact lv_lload_n hx hb (hd2 0 rfl) rfl (m_lg_at h1 hl) (kk H locs ls hP hD hS hl)
  | istore_n k =>
    obtain ⟨x, t, rfl, hr⟩ := m_i_inv hr
    cases hr
    exact lv_istore_n hx hb (hd2 0 rfl) rfl hl (of_decide_eq_true hok) rfl (fun ls1 h1 => kk H locs ls1 hP hD hS (m_Lv_ls (v := .int x) h1))
  | istore i =>
    obtain ⟨x, t, rfl, hr⟩ := m_i_inv hr
    cases hr
    exact lv_istore hx hb (hd2 1 rfl) hl (of_decide_eq_true hok) rfl (fun ls1 h1 => kk H locs ls1 hP hD hS (m_Lv_ls (v := .int x) h1))
  | lstore_n k =>
    obtain ⟨x, t, rfl, hr⟩ := m_l_inv hr
    cases hr
    exact lv_lstore_n hx hb (hd2 0 rfl) rfl hl (of_decide_eq_true hok) rfl (fun ls1 h1 => kk H locs ls1 hP hD hS (m_Lv_ls2 (v := .long x) h1))
  | iinc i n =>
    obtain ⟨x, h1, hr⟩ := m_ldi_inv hr
    cases hr
    obtain ⟨k, hk⟩ := m_lg_pl (ad := ad) h1
    exact lv_iinc hx hb (hd2 2 rfl) hl hk rfl (of_decide_eq_true hok) rfl (fun ls1 h2 => kk H locs ls1 hP hD hS (m_Lv_ls (v := .int _) h2))
  | iconst n => cases hr; exact lv_iconst hx hb (hd2 0 rfl) rfl (kk H locs ls hP hD hS hl)
  | bipush n => cases hr; exact lv_bipush hx hb (hd2 1 rfl) rfl (kk H locs ls hP hD hS hl)
  | sipush n => cases hr; exact lv_sipush hx hb (hd2 2 rfl) rfl (kk H locs ls hP hD hS hl)
  | lconst n => cases hr; exact lv_lconst hx hb (hd2 0 rfl) rfl (kk H locs ls hP hD hS hl)
  | ldc idx =>
    dsimp only [m_loc, m_sok] at hr hok
    by_cases ha : a = 0
    · rw [if_pos ha] at hr hok
      cases hr
      exact lv_ldc hx hb hown (hts _ (m_cst_at hok ho)) (hd2 1 rfl) (kk H locs ls hP hD hS hl)
    · rw [if_neg ha] at hr hok
      cases hr
      cases hf : m_strL[b]? with
      | none => rw [hf] at hok; cases hok
      | some f =>
        rw [hf] at hok
        simp only [Bool.and_eq_true, beq_iff_eq] at hok
        obtain ⟨h1, h2⟩ := hok
        have h3 := hE.2.2.1 b f hf o (by rw [h1]; exact ho)
        rw [h2] at h3
        exact va_ldcS hx hb hown h3 (hd2 1 rfl) (kk H locs ls hP hD hS hl)
  | ldc_w idx => cases hr; exact lv_ldcw hx hb hown (hts _ (m_cst_at hok ho)) (hd2 2 rfl) (kk H locs ls hP hD hS hl)
  | ldc2_w idx => cases hr; exact lv_ldc2 hx hb hown (hts _ (m_csl_at hok ho)) (hd2 2 rfl) (kk H locs ls hP hD hS hl)
  | iadd =>
    obtain ⟨x, y, t, rfl, hr⟩ := m_ii_inv hr
    cases hr
    exact lv_iadd hx hb (hd2 0 rfl) (kk H locs ls hP hD hS hl)
  | isub =>
    obtain ⟨x, y, t, rfl, hr⟩ := m_ii_inv hr
    cases hr
    exact lv_isub hx hb (hd2 0 rfl) (kk H locs ls hP hD hS hl)
  | imul =>
    obtain ⟨x, y, t, rfl, hr⟩ := m_ii_inv hr
    cases hr
    exact lv_imul hx hb (hd2 0 rfl) (kk H locs ls hP hD hS hl)
  | idiv =>
    obtain ⟨x, y, t, rfl, hr⟩ := m_ii_inv hr
    obtain ⟨h0, hr⟩ := m_ifn_inv hr
    cases hr
    exact lv_idiv hx hb (hd2 0 rfl) h0 (kk H locs ls hP hD hS hl)
  | irem =>
    obtain ⟨x, y, t, rfl, hr⟩ := m_ii_inv hr
    obtain ⟨h0, hr⟩ := m_ifn_inv hr
    cases hr
    exact lv_irem hx hb (hd2 0 rfl) h0 (kk H locs ls hP hD hS hl)
  | iand =>
    obtain ⟨x, y, t, rfl, hr⟩ := m_ii_inv hr
    cases hr
    exact lv_iand hx hb (hd2 0 rfl) (kk H locs ls hP hD hS hl)
  | ishr =>
    obtain ⟨x, y, t, rfl, hr⟩ := m_ii_inv hr
    cases hr
    exact lv_ishr hx hb (hd2 0 rfl) (kk H locs ls hP hD hS hl)
  | ineg =>
    obtain ⟨x, t, rfl, hr⟩ := m_i_inv hr
    cases hr
    exact lv_ineg hx hb (hd2 0 rfl) (kk H locs ls hP hD hS hl)
  | ladd =>
    obtain ⟨x, y, t, rfl, hr⟩ := m_ll_inv hr
    cases hr
    exact lv_ladd hx hb (hd2 0 rfl) (kk H locs ls hP hD hS hl)
  | lsub =>
    obtain ⟨x, y, t, rfl, hr⟩ := m_ll_inv hr
    cases hr
    exact lv_lsub hx hb (hd2 0 rfl) (kk H locs ls hP hD hS hl)
  | lmul =>
    obtain ⟨x, y, t, rfl, hr⟩ := m_ll_inv hr
    cases hr
    exact lv_lmul hx hb (hd2 0 rfl) (kk H locs ls hP hD hS hl)
  | lcmp =>
    obtain ⟨x, y, t, rfl, hr⟩ := m_ll_inv hr
    cases hr
    exact W.lcmp hx hb (hd2 0 rfl) (kk H locs ls hP hD hS hl)
  | i2l =>
    obtain ⟨x, t, rfl, hr⟩ := m_i_inv hr
    cases hr
    exact lv_i2l hx hb (hd2 0 rfl) rfl (kk H locs ls hP hD hS hl)
  | l2i =>
    obtain ⟨x, t, rfl, hr⟩ := m_l_inv hr
    cases hr
    exact lv_l2i hx hb (hd2 0 rfl) rfl (kk H locs ls hP hD hS hl)
  | dup =>
    cases st with
    | nil => cases hr
    | cons v t =>
      obtain ⟨h1, hr⟩ := m_if_inv hr
      cases hr
      exact lv_dup hx hb (hd2 0 rfl) ((m_V_cat ad v).trans h1) (kk H locs ls hP hD hS hl)
  | dup2 =>
    cases st with
    | nil => cases hr
    | cons v t =>
      cases t with
      | nil => cases hr
      | cons w t =>
        obtain ⟨⟨h1, h2⟩, hr⟩ := m_if_inv hr
        cases hr
        exact lv_dup2_11 hx hb (hd2 0 rfl) ((m_V_cat ad v).trans h1) ((m_V_cat ad w).trans h2) (kk H locs ls hP hD hS hl)
  | pop =>
    cases st with
    | nil => cases hr
    | cons v t =>
      obtain ⟨h1, hr⟩ := m_if_inv hr
      cases hr
      exact lv_pop hx hb (hd2 0 rfl) ((m_V_cat ad v).trans h1) (kk H locs ls hP hD hS hl)
  | goto off =>
    obtain ⟨h1, hr⟩ := m_if_inv hr
    cases hr
    exact lv_goto hx hb (hd2 2 rfl) (m_tg_eq h1) (kk H locs ls hP hD hS hl)
  | ifCond cd off =>
    have hof := m_tg_eq (of_decide_eq_true hok)
    cases cd with
    | eq =>
      obtain ⟨x, t, rfl, hr⟩ := m_i_inv hr
      cases hr
      exact lv_if_eq hx hb (hd2 2 rfl) hof (fun h0 => by have := kk H locs ls hP hD hS hl; rw [if_pos h0] at this; exact this) (fun h0 => by have := kk H locs ls hP hD hS hl; rw [if_neg h0] at this; exact this)
    | ne =>
      obtain ⟨x, t, rfl, hr⟩ := m_i_inv hr
      cases hr
      exact lv_if_ne hx hb (hd2 2 rfl) hof (fun h0 => by have := kk H locs ls hP hD hS hl; rw [if_pos h0] at this; exact this) (fun h0 => by have := kk H locs ls hP hD hS hl; rw [if_neg (fun z => z h0)] at this; exact this)
    | lt =>
      obtain ⟨x, t, rfl, hr⟩ := m_i_inv hr
      cases hr
      exact lv_if_lt hx hb (hd2 2 rfl) hof (fun h0 => by have := kk H locs ls hP hD hS hl; rw [if_pos h0] at this; exact this) (fun h0 => by have := kk H locs ls hP hD hS hl; rw [if_neg h0] at this; exact this)
    | ge =>
      obtain ⟨x, t, rfl, hr⟩ := m_i_inv hr
      cases hr
      exact lv_if_ge hx hb (hd2 2 rfl) hof (fun h0 => by have := kk H locs ls hP hD hS hl; rw [if_pos h0] at this; exact this) (fun h0 => by have := kk H locs ls hP hD hS hl; rw [if_neg h0] at this; exact this)
    | gt =>
      obtain ⟨x, t, rfl, hr⟩ := m_i_inv hr
      cases hr
      exact lv_if_gt hx hb (hd2 2 rfl) hof (fun h0 => by have := kk H locs ls hP hD hS hl; rw [if_pos h0] at this; exact this) (fun h0 => by have := kk H locs ls hP hD hS hl; rw [if_neg h0] at this; exact this)
    | le =>
      obtain ⟨x, t, rfl, hr⟩ := m_i_inv hr
      cases hr
      exact lv_if_le hx hb (hd2 2 rfl) hof (fun h0 => by have := kk H locs ls hP hD hS hl; rw [if_pos h0] at this; exact this) (fun h0 => by have := kk H locs ls hP hD hS hl; rw [if_neg h0] at this; exact this)
  | if_icmp cd off =>
    have hof := m_tg_eq (of_decide_eq_true hok)
    cases cd with
    | eq =>
      obtain ⟨x, y, t, rfl, hr⟩ := m_ii_inv hr
      cases hr
      exact lv_icmp_eq hx hb (hd2 2 rfl) hof (fun h0 => by have := kk H locs ls hP hD hS hl; rw [if_pos h0] at this; exact this) (fun h0 => by have := kk H locs ls hP hD hS hl; rw [if_neg h0] at this; exact this)
    | ne =>
      obtain ⟨x, y, t, rfl, hr⟩ := m_ii_inv hr
      cases hr
      exact lv_icmp_ne hx hb (hd2 2 rfl) hof (fun h0 => by have := kk H locs ls hP hD hS hl; rw [if_pos h0] at this; exact this) (fun h0 => by have := kk H locs ls hP hD hS hl; rw [if_neg (fun z => z h0)] at this; exact this)
    | lt =>
      obtain ⟨x, y, t, rfl, hr⟩ := m_ii_inv hr
      cases hr
      exact lv_icmp_lt hx hb (hd2 2 rfl) hof (fun h0 => by have := kk H locs ls hP hD hS hl; rw [if_pos h0] at this; exact this) (fun h0 => by have := kk H locs ls hP hD hS hl; rw [if_neg h0] at this; exact this)
    | ge =>
      obtain ⟨x, y, t, rfl, hr⟩ := m_ii_inv hr
      cases hr
      exact lv_icmp_ge hx hb (hd2 2 rfl) hof (fun h0 => by have := kk H locs ls hP hD hS hl; rw [if_pos h0] at this; exact this) (fun h0 => by have := kk H locs ls hP hD hS hl; rw [if_neg h0] at this; exact this)
    | gt =>
      obtain ⟨x, y, t, rfl, hr⟩ := m_ii_inv hr
      cases hr
      exact lv_icmp_gt hx hb (hd2 2 rfl) hof (fun h0 => by have := kk H locs ls hP hD hS hl; rw [if_pos h0] at this; exact this) (fun h0 => by have := kk H locs ls hP hD hS hl; rw [if_neg h0] at this; exact this)
    | le =>
      obtain ⟨x, y, t, rfl, hr⟩ := m_ii_inv hr
      cases hr
      exact lv_icmp_le hx hb (hd2 2 rfl) hof (fun h0 => by have := kk H locs ls hP hD hS hl; rw [if_pos h0] at this; exact this) (fun h0 => by have := kk H locs ls hP hD hS hl; rw [if_neg h0] at this; exact this)
  | tableswitch dflt lo hi offs =>
    dsimp only [m_sok] at hok
    simp only [Bool.and_eq_true, decide_eq_true_eq, List.all_eq_true] at hok
    obtain ⟨x, t, rfl, hr2⟩ := m_i_inv hr
    by_cases h0 : x.toInt < lo ∨ hi < x.toInt
    · rw [if_pos h0] at hr2
      cases hr2
      exact lv_tableOut hx hb hd h0 (m_tg_eq hok.1) (kk H locs ls hP hD hS hl)
    · rw [if_neg h0] at hr2
      obtain ⟨off, h2, hr3⟩ := m_opt_inv hr2
      cases hr3
      exact lv_tableIn hx hb hd (fun z => h0 (Or.inl z)) (fun z => h0 (Or.inr z)) h2 (m_tg_eq (hok.2 off (Array.mem_toList_iff.mpr (Array.mem_of_getElem? h2)))) (kk H locs ls hP hD hS hl)
  | lookupswitch dflt ps =>
    dsimp only [m_sok] at hok
    simp only [Bool.and_eq_true, decide_eq_true_eq] at hok
    obtain ⟨⟨h1, h2⟩, h3⟩ := hok
    obtain ⟨x, t, rfl, hr⟩ := m_i_inv hr
    cases hr
    exact lv_lookup hx hb hd h1 rfl (m_tg_eq (m_lk ps.toList h2 (fun o ho => of_decide_eq_true (List.all_eq_true.mp h3 o ho)))) (kk H locs ls hP hD hS hl)
  | getfield idx =>
    obtain ⟨q0, t, rfl, hr⟩ := m_r_inv hr
    obtain ⟨cn, fs, hq, hr⟩ := m_obj_inv hr
    obtain ⟨e0, hr2⟩ := m_if_inv hr
    subst e0
    obtain ⟨v, hv, hr3⟩ := m_opt_inv hr2
    cases hr3
    obtain ⟨nest, pos, hmem⟩ := m_any2 hok
    have hw := m_W_at (ad := ad) (cI := cI) (cJ := cJ) hq
    obtain ⟨rr, hcl, -⟩ := hP q0 _ hw
    obtain ⟨hk, hT1, hw2⟩ := m_fld_at hmem ho hcl
    have hv2 : (fs.map (m_V ad))[b]? = some (m_V ad v) := by rw [List.getElem?_map, hv]; rfl
    rcases hw2 with hw2 | hw2
    · exact va_get hx hb hts (m_lays _ _ hcl) hown hE.1 hP q0 hw hcl b hk (hts _ hw2) (fun x hx => by rw [hT1] at hx; exact hx) hv2 (hd2 2 rfl) (kk H locs ls hP hD hS hl)
    · exact va_getN hx hb hts (m_lays _ _ hcl) hown hE.1 hP q0 hw hcl b hk (va_Nw.use (m_isN_tab hw2) (hE.2.1 _ hw2)) (fun x hx => by rw [hT1] at hx; exact hx) hv2 (hd2 2 rfl) (kk H locs ls hP hD hS hl)
  | putfield idx =>
    dsimp only [m_sok] at hok
    rw [Bool.and_eq_true] at hok
    obtain ⟨hok, hfin⟩ := hok
    dsimp only [m_loc] at hr
    split at hr
    · rename_i v q0 t
      obtain ⟨cn, fs, hq, hr⟩ := m_obj_inv hr
      obtain ⟨⟨rfl, hbl⟩, hr⟩ := m_if_inv hr
      obtain ⟨ty, hft, hr⟩ := m_opt_inv hr
      obtain ⟨hnf, hr⟩ := m_if_inv hr
      obtain ⟨hn, hf⟩ := m_nf_ok hnf
      cases hr
      obtain ⟨nest, pos, hmem⟩ := m_any2 hok
      have hw := m_W_at (ad := ad) (cI := cI) (cJ := cJ) hq
      obtain ⟨rr, hcl, -⟩ := hP q0 _ hw
      obtain ⟨hk, hT1, hw2⟩ := m_fld_at hmem ho hcl
      obtain ⟨hnm, ty0, hty, hft2⟩ := m_cls _ _ hcl
      obtain ⟨-, rfl⟩ := hft2 _ _ hft
      rw [hcl] at hfin
      have hfin2 : (rr.2.1 b).2.2.2 = false := by simpa using hfin
      have hset : m_W ad cI cJ (h.set q0 (.inr (.inr (cn, fs.set b v)))) = (m_W ad cI cJ h).set q0 (ad q0, .inr (cn, (fs.map (m_V ad)).set b (m_V ad v))) := by
        rw [m_W_set]
        show _ = (m_W ad cI cJ h).set q0 (ad q0, .inr (cn, (fs.map (m_V ad)).set b (m_V ad v)))
        rw [← List.map_set]
        rfl
      have kk2 : ∀ (H1 : Heap) (locs1 : List Loc), va_P D m_cl ((m_W ad cI cJ h).set q0 (ad q0, .inr (cn, (fs.map (m_V ad)).set b (m_V ad v)))) H1 → va_D A ((m_W ad cI cJ h).set q0 (ad q0, .inr (cn, (fs.map (m_V ad)).set b (m_V ad v)))) → va_S A s.heap H1 locs1 → W p l e R s m args below meth c H1 locs1 cells slots Q (F0 m (pc + 3) ls (t.map (m_V ad))) := by
        intro H1 locs1 g1 g2 g3
        rw [← hset] at g1 g2
        exact kk H1 locs1 ls g1 g2 g3 hl
      rcases hw2 with hw2 | hw2
      · exact va_put hx hb hts (m_lays _ _ hcl) ty0 hty hnm hown hE.1 hP hD hS q0 hw hcl b hk (hts _ hw2) (fun x hx => by rw [hT1] at hx; exact hx) hfin2 (hty b hk) (m_narrow hn) (m_fits hf) (by rw [List.length_map]; exact hbl) (hd2 2 rfl) kk2
      · exact va_putN hx hb hts (m_lays _ _ hcl) ty0 hty hnm hown hE.1 hP hD hS q0 hw hcl b hk (va_Nw.use (m_isN_tab hw2) (hE.2.1 _ hw2)) (fun x hx => by rw [hT1] at hx; exact hx) hfin2 (hty b hk) (m_narrow hn) (m_fits hf) (by rw [List.length_map]; exact hbl) (hd2 2 rfl) kk2
    · cases hr
  | iaload =>
    obtain ⟨j, t1, rfl, hr1⟩ := m_i_inv hr
    obtain ⟨q0, t2, rfl, hr2⟩ := m_r_inv hr1
    by_cases hs : q0 = m_scr
    · rw [if_pos hs] at hr2
      obtain ⟨hin, hr3⟩ := m_ifn_inv hr2
      cases hr3
      subst hs
      exact va_sld hx hb hE.2.2.2.1 hE.2.2.2.2.1 hE.2.2.2.2.2.1 hS hin (hd2 0 rfl) (kk H locs ls hP hD hS hl)
    · rw [if_neg hs] at hr2
      obtain ⟨n, f, hq, hr3⟩ := m_arr_inv hr2
      obtain ⟨hin, hr4⟩ := m_ifn_inv hr3
      cases hr4
      exact va_iald hx hb hE.1 hP q0 0 (m_W_at hq) rfl hin (hd2 0 rfl) (kk H locs ls hP hD hS hl)
  | iastore =>
    obtain ⟨x, t, rfl, hr⟩ := m_i_inv hr
    obtain ⟨j, t, rfl, hr⟩ := m_i_inv hr
    obtain ⟨q0, t, rfl, hr⟩ := m_r_inv hr
    obtain ⟨n, f, hq, hr⟩ := m_arr_inv hr
    obtain ⟨hin, hr⟩ := m_ifn_inv hr
    cases hr
    refine va_iast hx hb hE.1 hP hD hS q0 0 (m_W_at hq) rfl hin (hd2 0 rfl) (fun H1 locs1 g1 g2 g3 => ?_)
    refine kk H1 locs1 ls ?_ ?_ g3 hl
    · show va_P D m_cl (m_W ad cI cJ (h.set q0 _)) H1
      rw [m_W_set]; exact g1
    · show va_D A (m_W ad cI cJ (h.set q0 _))
      rw [m_W_set]; exact g2
  | laload =>
    obtain ⟨j, t, rfl, hr⟩ := m_i_inv hr
    obtain ⟨q0, t, rfl, hr⟩ := m_r_inv hr
    obtain ⟨n, f, hq, hr⟩ := m_arl_inv hr
    obtain ⟨hin, hr⟩ := m_ifn_inv hr
    cases hr
    exact va_lald hx hb hE.1 hP q0 1 (m_W_at hq) rfl hin (hd2 0 rfl) (kk H locs ls hP hD hS hl)
  | lastore =>
    obtain ⟨x, t, rfl, hr⟩ := m_l_inv hr
    obtain ⟨j, t, rfl, hr⟩ := m_i_inv hr
    obtain ⟨q0, t, rfl, hr⟩ := m_r_inv hr
    obtain ⟨n, f, hq, hr⟩ := m_arl_inv hr
    obtain ⟨hin, hr⟩ := m_ifn_inv hr
    cases hr
    refine va_last hx hb hE.1 hP hD hS q0 1 (m_W_at hq) rfl hin (hd2 0 rfl) (fun H1 locs1 g1 g2 g3 => ?_)
    refine kk H1 locs1 ls ?_ ?_ g3 hl
    · show va_P D m_cl (m_W ad cI cJ (h.set q0 _)) H1
      rw [m_W_set]; exact g1
    · show va_D A (m_W ad cI cJ (h.set q0 _))
      rw [m_W_set]; exact g2
  | arraylength =>
    obtain ⟨q0, t1, rfl, hr2⟩ := m_r_inv hr
    by_cases hs : q0 = m_scr
    · rw [if_pos hs] at hr2
      cases hr2
      subst hs
      exact va_slen hx hb hE.2.2.2.1 hE.2.2.2.2.1 hE.2.2.2.2.2.1 hS (hd2 0 rfl) (kk H locs ls hP hD hS hl)
    · rw [if_neg hs] at hr2
      split at hr2
      · rename_i n f hq
        cases hr2
        exact va_alen hx hb hE.1 hP q0 0 (m_W_at hq) rfl rfl (hd2 0 rfl) (kk H locs ls hP hD hS hl)
      · rename_i n f hq
        cases hr2
        exact va_alen hx hb hE.1 hP q0 1 (m_W_at hq) rfl rfl (hd2 0 rfl) (kk H locs ls hP hD hS hl)
      · cases hr2
  | _ => simp [m_loc] at hr
end Loc
end
section
/-! the words of calls -/
def m_wd (M : mM) : Cond := match m_hh M with
  | [] => .code (m_y M) (m_by M) (m_mL M) (m_ret M)
  | h :: t => .codeWith (m_y M) (m_by M) (m_mL M) (m_ret M) (h :: t)
theorem m_wdg0 : ∀ M ∈ [mM0, mM1, mM2, mM3, mM4, mM5, mM6, mM7, mM8, mM9, mM10, mM11, mM12, mM13, mM14, mM15, mM16, mM17, mM18, mM19], m_wd M ∈ m_tb := List.forall_mem_cons.mpr ⟨m_tb_of m_cw0 rfl, List.forall_mem_cons.mpr ⟨m_tb_of m_cw1 rfl, List.forall_mem_cons.mpr ⟨m_tb_of m_cw2 rfl, List.forall_mem_cons.mpr ⟨m_tb_of m_cw3 rfl, List.forall_mem_cons.mpr ⟨m_tb_of m_cw4 rfl, List.forall_mem_cons.mpr ⟨m_tb_of m_cw5 rfl, List.forall_mem_cons.mpr ⟨m_tb_of m_cw6 rfl, List.forall_mem_cons.mpr ⟨m_tb_of m_cw7 rfl, List.forall_mem_cons.mpr ⟨m_tb_of m_cw8 rfl, List.forall_mem_cons.mpr ⟨m_tb_of m_cw9 rfl, List.forall_mem_cons.mpr ⟨m_tb_of m_cw10 rfl, List.forall_mem_cons.mpr ⟨m_tb_of m_cw11 rfl, List.forall_mem_cons.mpr ⟨m_tb_of m_cw12 rfl, List.forall_mem_cons.mpr ⟨m_tb_of m_cw13 rfl, List.forall_mem_cons.mpr ⟨m_tb_of m_cw14 rfl, List.forall_mem_cons.mpr ⟨m_tb_of m_cw15 rfl, List.forall_mem_cons.mpr ⟨m_tb_of m_cw16 rfl, List.forall_mem_cons.mpr ⟨m_tb_of m_cw17 rfl, List.forall_mem_cons.mpr ⟨m_tb_of m_cw18 rfl, List.forall_mem_cons.mpr ⟨m_tb_of m_cw19 rfl, fun _ h => absurd h List.not_mem_nil⟩⟩⟩⟩⟩⟩⟩⟩⟩⟩⟩⟩⟩⟩⟩⟩⟩⟩⟩⟩
theorem m_wdg1 : ∀ M ∈ [mM20, mM21, mM22, mM23, mM24, mM25, mM26, mM27, mM28, mM29, mM30, mM31, mM32, mM33, mM34, mM35, mM36, mM37, mM38, mM39], m_wd M ∈ m_tb := List.forall_mem_cons.mpr ⟨m_tb_of m_cw20 rfl, List.forall_mem_cons.mpr ⟨m_tb_of m_cw21 rfl, List.forall_mem_cons.mpr ⟨m_tb_of m_cw22 rfl, List.forall_mem_cons.mpr ⟨m_tb_of m_cw23 rfl, List.forall_mem_cons.mpr ⟨m_tb_of m_cw24 rfl, List.forall_mem_cons.mpr ⟨m_tb_of m_cw25 rfl, List.forall_mem_cons.mpr ⟨m_tb_of m_cw26 rfl, List.forall_mem_cons.mpr ⟨m_tb_of m_cw27 rfl, List.forall_mem_cons.mpr ⟨m_tb_of m_cw28 rfl, List.forall_mem_cons.mpr ⟨m_tb_of m_cw29 rfl, List.forall_mem_cons.mpr ⟨m_tb_of m_cw30 rfl, List.forall_mem_cons.mpr ⟨m_tb_of m_cw31 rfl, List.forall_mem_cons.mpr ⟨m_tb_of m_cw32 rfl, List.forall_mem_cons.mpr ⟨m_tb_of m_cw33 rfl, List.forall_mem_cons.mpr ⟨m_tb_of m_cw34 rfl, List.forall_mem_cons.mpr ⟨m_tb_of m_cw35 rfl, List.forall_mem_cons.mpr ⟨m_tb_of m_cw36 rfl, List.forall_mem_cons.mpr ⟨m_tb_of m_cw37 rfl, List.forall_mem_cons.mpr ⟨m_tb_of m_cw38 rfl, List.forall_mem_cons.mpr ⟨m_tb_of m_cw39 rfl, fun _ h => absurd h List.not_mem_nil⟩⟩⟩⟩⟩⟩⟩⟩⟩⟩⟩⟩⟩⟩⟩⟩⟩⟩⟩⟩
theorem m_wdg2 : ∀ M ∈ [mM40, mM41, mM42, mM43, mM44, mM45, mM46, mM47, mM48, mM49, mM50, mM51, mM52, mM53, mM54, mM55, mM56, mM57, mM58, mM59], m_wd M ∈ m_tb := List.forall_mem_cons.mpr ⟨m_tb_of m_cw40 rfl, List.forall_mem_cons.mpr ⟨m_tb_of m_cw41 rfl, List.forall_mem_cons.mpr ⟨m_tb_of m_cw42 rfl, List.forall_mem_cons.mpr ⟨m_tb_of m_cw43 rfl, List.forall_mem_cons.mpr ⟨m_tb_of m_cw44 rfl, List.forall_mem_cons.mpr ⟨m_tb_of m_cw45 rfl, List.forall_mem_cons.mpr ⟨m_tb_of m_cw46 rfl, List.forall_mem_cons.mpr ⟨m_tb_of m_cw47 rfl, List.forall_mem_cons.mpr ⟨m_tb_of m_cw48 rfl, List.forall_mem_cons.mpr ⟨m_tb_of m_cw49 rfl, List.forall_mem_cons.mpr ⟨m_tb_of m_cw50 rfl, List.forall_mem_cons.mpr ⟨m_tb_of m_cw51 rfl, List.forall_mem_cons.mpr ⟨m_tb_of m_cw52 rfl, List.forall_mem_cons.mpr ⟨m_tb_of m_cw53 rfl, List.forall_mem_cons.mpr ⟨m_tb_of m_cw54 rfl, List.forall_mem_cons.mpr ⟨m_tb_of m_cw55 rfl, List.forall_mem_cons.mpr ⟨m_tb_of m_cw56 rfl, List.forall_mem_cons.mpr ⟨m_tb_of m_cw57 rfl, List.forall_mem_cons.mpr ⟨m_tb_of m_cw58 rfl, List.forall_mem_cons.mpr ⟨m_tb_of m_cw59 rfl, fun _ h => absurd h List.not_mem_nil⟩⟩⟩⟩⟩⟩⟩⟩⟩⟩⟩⟩⟩⟩⟩⟩⟩⟩⟩⟩
theorem m_wdg3 : ∀ M ∈ [mM60, mM61, mM62, mM63, mM64, mM65, mM66, mM67, mM68, mM69, mM70, mM71, mM72, mM73, mM74, mM75, mM76, mM77, mM78, mM79], m_wd M ∈ m_tb := List.forall_mem_cons.mpr ⟨m_tb_of m_cw60 rfl, List.forall_mem_cons.mpr ⟨m_tb_of m_cw61 rfl, List.forall_mem_cons.mpr ⟨m_tb_of m_cw62 rfl, List.forall_mem_cons.mpr ⟨m_tb_of m_cw63 rfl, List.forall_mem_cons.mpr ⟨m_tb_of m_cw64 rfl, List.forall_mem_cons.mpr ⟨m_tb_of m_cw65 rfl, List.forall_mem_cons.mpr ⟨m_tb_of m_cw66 rfl, List.forall_mem_cons.mpr ⟨m_tb_of m_cw67 rfl, List.forall_mem_cons.mpr ⟨m_tb_of m_cw68 rfl, List.forall_mem_cons.mpr ⟨m_tb_of m_cw69 rfl, List.forall_mem_cons.mpr ⟨m_tb_of m_cw70 rfl, List.forall_mem_cons.mpr ⟨m_tb_of m_cw71 rfl, List.forall_mem_cons.mpr ⟨m_tb_of m_cw72 rfl, List.forall_mem_cons.mpr ⟨m_tb_of m_cw73 rfl, List.forall_mem_cons.mpr ⟨m_tb_of m_cw74 rfl, List.forall_mem_cons.mpr ⟨m_tb_of m_cw75 rfl, List.forall_mem_cons.mpr ⟨m_tb_of m_cw76 rfl, List.forall_mem_cons.mpr ⟨m_tb_of m_cw77 rfl, List.forall_mem_cons.mpr ⟨m_tb_of m_cw78 rfl, List.forall_mem_cons.mpr ⟨m_tb_of m_cw79 rfl, fun _ h => absurd h List.not_mem_nil⟩⟩⟩⟩⟩⟩⟩⟩⟩⟩⟩⟩⟩⟩⟩⟩⟩⟩⟩⟩
theorem m_wdg4 : ∀ M ∈ [mM80, mM81, mM82, mM83, mM84, mM85, mM86, mM87, mM88, mM89, mM90, mM91, mM92, mM93, mM94, mM95, mM96, mM97, mM98, mM99], m_wd M ∈ m_tb := List.forall_mem_cons.mpr ⟨m_tb_of m_cw80 rfl, List.forall_mem_cons.mpr ⟨m_tb_of m_cw81 rfl, List.forall_mem_cons.mpr ⟨m_tb_of m_cw82 rfl, List.forall_mem_cons.mpr ⟨m_tb_of m_cw83 rfl, List.forall_mem_cons.mpr ⟨m_tb_of m_cw84 rfl, List.forall_mem_cons.mpr ⟨m_tb_of m_cw85 rfl, List.forall_mem_cons.mpr ⟨m_tb_of m_cw86 rfl, List.forall_mem_cons.mpr ⟨m_tb_of m_cw87 rfl, List.forall_mem_cons.mpr ⟨m_tb_of m_cw88 rfl, List.forall_mem_cons.mpr ⟨m_tb_of m_cw89 rfl, List.forall_mem_cons.mpr ⟨m_tb_of m_cw90 rfl, List.forall_mem_cons.mpr ⟨m_tb_of m_cw91 rfl, List.forall_mem_cons.mpr ⟨m_tb_of m_cw92 rfl, List.forall_mem_cons.mpr ⟨m_tb_of m_cw93 rfl, List.forall_mem_cons.mpr ⟨m_tb_of m_cw94 rfl, List.forall_mem_cons.mpr ⟨m_tb_of m_cw95 rfl, List.forall_mem_cons.mpr ⟨m_tb_of m_cw96 rfl, List.forall_mem_cons.mpr ⟨m_tb_of m_cw97 rfl, List.forall_mem_cons.mpr ⟨m_tb_of m_cw98 rfl, List.forall_mem_cons.mpr ⟨m_tb_of m_cw99 rfl, fun _ h => absurd h List.not_mem_nil⟩⟩⟩⟩⟩⟩⟩⟩⟩⟩⟩⟩⟩⟩⟩⟩⟩⟩⟩⟩
theorem m_wdg5 : ∀ M ∈ [mM100, mM101, mM102, mM103, mM104, mM105, mM106, mM107, mM108, mM109, mM110, mM111, mM112, mM113, mM114, mM115, mM116, mM117, mM118, mM119], m_wd M ∈ m_tb := List.forall_mem_cons.mpr ⟨m_tb_of m_cw100 rfl, List.forall_mem_cons.mpr ⟨m_tb_of m_cw101 rfl, List.forall_mem_cons.mpr ⟨m_tb_of m_cw102 rfl, List.forall_mem_cons.mpr ⟨m_tb_of m_cw103 rfl, List.forall_mem_cons.mpr ⟨m_tb_of m_cw104 rfl, List.forall_mem_cons.mpr ⟨m_tb_of m_cw105 rfl, List.forall_mem_cons.mpr ⟨m_tb_of m_cw106 rfl, List.forall_mem_cons.mpr ⟨m_tb_of m_cw107 rfl, List.forall_mem_cons.mpr ⟨m_tb_of m_cw108 rfl, List.forall_mem_cons.mpr ⟨m_tb_of m_cw109 rfl, List.forall_mem_cons.mpr ⟨m_tb_of m_cw110 rfl, List.forall_mem_cons.mpr ⟨m_tb_of m_cw111 rfl, List.forall_mem_cons.mpr ⟨m_tb_of m_cw112 rfl, List.forall_mem_cons.mpr ⟨m_tb_of m_cw113 rfl, List.forall_mem_cons.mpr ⟨m_tb_of m_cw114 rfl, List.forall_mem_cons.mpr ⟨m_tb_of m_cw115 rfl, List.forall_mem_cons.mpr ⟨m_tb_of m_cw116 rfl, List.forall_mem_cons.mpr ⟨m_tb_of m_cw117 rfl, List.forall_mem_cons.mpr ⟨m_tb_of m_cw118 rfl, List.forall_mem_cons.mpr ⟨m_tb_of m_cw119 rfl, fun _ h => absurd h List.not_mem_nil⟩⟩⟩⟩⟩⟩⟩⟩⟩⟩⟩⟩⟩⟩⟩⟩⟩⟩⟩⟩
theorem m_wdg6 : ∀ M ∈ [mM120, mM121, mM122, mM123, mM124, mM125, mM126, mM127, mM128, mM129, mM130, mM131, mM132, mM133, mM134, mM135, mM136, mM137, mM138, mM139], m_wd M ∈ m_tb := List.forall_mem_cons.mpr ⟨m_tb_of m_cw120 rfl, List.forall_mem_cons.mpr ⟨m_tb_of m_cw121 rfl, List.forall_mem_cons.mpr ⟨m_tb_of m_cw122 rfl, List.forall_mem_cons.mpr ⟨m_tb_of m_cw123 rfl, List.forall_mem_cons.mpr ⟨m_tb_of m_cw124 rfl, List.forall_mem_cons.mpr ⟨m_tb_of m_cw125 rfl, List.forall_mem_cons.mpr ⟨m_tb_of m_cw126 rfl, List.forall_mem_cons.mpr ⟨m_tb_of m_cw127 rfl, List.forall_mem_cons.mpr ⟨m_tb_of m_cw128 rfl, List.forall_mem_cons.mpr ⟨m_tb_of m_cw129 rfl, List.forall_mem_cons.mpr ⟨m_tb_of m_cw130 rfl, List.forall_mem_cons.mpr ⟨m_tb_of m_cw131 rfl, List.forall_mem_cons.mpr ⟨m_tb_of m_cw132 rfl, List.forall_mem_cons.mpr ⟨m_tb_of m_cw133 rfl, List.forall_mem_cons.mpr ⟨m_tb_of m_cw134 rfl, List.forall_mem_cons.mpr ⟨m_tb_of m_cw135 rfl, List.forall_mem_cons.mpr ⟨m_tb_of m_cw136 rfl, List.forall_mem_cons.mpr ⟨m_tb_of m_cw137 rfl, List.forall_mem_cons.mpr ⟨m_tb_of m_cw138 rfl, List.forall_mem_cons.mpr ⟨m_tb_of m_cw139 rfl, fun _ h => absurd h List.not_mem_nil⟩⟩⟩⟩⟩⟩⟩⟩⟩⟩⟩⟩⟩⟩⟩⟩⟩⟩⟩⟩
theorem m_wdg7 : ∀ M ∈ [mM140, mM141, mM142, mM143, mM144, mM145, mM146, mM147, mM148, mM149, mM150, mM151, mM152, mM153, mM154, mM155, mM156], m_wd M ∈ m_tb := List.forall_mem_cons.mpr ⟨m_tb_of m_cw140 rfl, List.forall_mem_cons.mpr ⟨m_tb_of m_cw141 rfl, List.forall_mem_cons.mpr ⟨m_tb_of m_cw142 rfl, List.forall_mem_cons.mpr ⟨m_tb_of m_cw143 rfl, List.forall_mem_cons.mpr ⟨m_tb_of m_cw144 rfl, List.forall_mem_cons.mpr ⟨m_tb_of m_cw145 rfl, List.forall_mem_cons.mpr ⟨m_tb_of m_cw146 rfl, List.forall_mem_cons.mpr ⟨m_tb_of m_cw147 rfl, List.forall_mem_cons.mpr ⟨m_tb_of m_cw148 rfl, List.forall_mem_cons.mpr ⟨m_tb_of m_cw149 rfl, List.forall_mem_cons.mpr ⟨m_tb_of m_cw150 rfl, List.forall_mem_cons.mpr ⟨m_tb_of m_cw151 rfl, List.forall_mem_cons.mpr ⟨m_tb_of m_cw152 rfl, List.forall_mem_cons.mpr ⟨m_tb_of m_cw153 rfl, List.forall_mem_cons.mpr ⟨m_tb_of m_cw154 rfl, List.forall_mem_cons.mpr ⟨m_tb_of m_cw155 rfl, List.forall_mem_cons.mpr ⟨m_tb_of m_cw156 rfl, fun _ h => absurd h List.not_mem_nil⟩⟩⟩⟩⟩⟩⟩⟩⟩⟩⟩⟩⟩⟩⟩⟩⟩
theorem m_wds : ∀ M ∈ m_prog.take 157, m_wd M ∈ m_tb := by
  show ∀ M ∈ [mM0, mM1, mM2, mM3, mM4, mM5, mM6, mM7, mM8, mM9, mM10, mM11, mM12, mM13, mM14, mM15, mM16, mM17, mM18, mM19] ++ ([mM20, mM21, mM22, mM23, mM24, mM25, mM26, mM27, mM28, mM29, mM30, mM31, mM32, mM33, mM34, mM35, mM36, mM37, mM38, mM39] ++ ([mM40, mM41, mM42, mM43, mM44, mM45, mM46, mM47, mM48, mM49, mM50, mM51, mM52, mM53, mM54, mM55, mM56, mM57, mM58, mM59] ++ ([mM60, mM61, mM62, mM63, mM64, mM65, mM66, mM67, mM68, mM69, mM70, mM71, mM72, mM73, mM74, mM75, mM76, mM77, mM78, mM79] ++ ([mM80, mM81, mM82, mM83, mM84, mM85, mM86, mM87, mM88, mM89, mM90, mM91, mM92, mM93, mM94, mM95, mM96, mM97, mM98, mM99] ++ ([mM100, mM101, mM102, mM103, mM104, mM105, mM106, mM107, mM108, mM109, mM110, mM111, mM112, mM113, mM114, mM115, mM116, mM117, mM118, mM119] ++ ([mM120, mM121, mM122, mM123, mM124, mM125, mM126, mM127, mM128, mM129, mM130, mM131, mM132, mM133, mM134, mM135, mM136, mM137, mM138, mM139] ++ ([mM140, mM141, mM142, mM143, mM144, mM145, mM146, mM147, mM148, mM149, mM150, mM151, mM152, mM153, mM154, mM155, mM156]))))))), m_wd M ∈ m_tb
  exact List.forall_mem_append.mpr ⟨m_wdg0, List.forall_mem_append.mpr ⟨m_wdg1, List.forall_mem_append.mpr ⟨m_wdg2, List.forall_mem_append.mpr ⟨m_wdg3, List.forall_mem_append.mpr ⟨m_wdg4, List.forall_mem_append.mpr ⟨m_wdg5, List.forall_mem_append.mpr ⟨m_wdg6, m_wdg7⟩⟩⟩⟩⟩⟩⟩
theorem m_wd_tb {j : Nat} {M : mM} (h : m_prog[j]? = some M) (hj : j < 157) : m_wd M ∈ m_tb := m_wds M (List.mem_of_getElem? (i := j) (by rw [List.getElem?_take, if_pos hj]; exact h))
def m_ar (M : mM) : Nat := ((parseMethodDescriptor (m_y M).desc).map (fun d => d.parameters.length)).getD 0
def m_fact (M : mM) : Bool := plainName (m_y M).cls && decide ((m_y M).cls ≠ "java/lang/invoke/MethodHandle") && decide ((m_y M).cls ≠ "java/lang/invoke/VarHandle") && decide (m_cn[m_own M]? = some (m_y M).cls) && decide (m_mL M ≤ 21) && decide ((parseMethodDescriptor (m_y M).desc).map (fun d => d.parameters.length) = some (m_ar M))
theorem m_facts : m_prog.all m_fact = true := by decide +kernel
theorem m_fact_of {j : Nat} {M : mM} (h : m_prog[j]? = some M) : plainName (m_y M).cls = true ∧ (m_y M).cls ≠ "java/lang/invoke/MethodHandle" ∧ (m_y M).cls ≠ "java/lang/invoke/VarHandle" ∧ m_cn[m_own M]? = some (m_y M).cls ∧ m_mL M ≤ 21 ∧ (parseMethodDescriptor (m_y M).desc).map (fun d => d.parameters.length) = some (m_ar M) := by
  have h1 := List.all_eq_true.mp m_facts M (List.mem_of_getElem? h)
  simp only [m_fact, Bool.and_eq_true, decide_eq_true_eq] at h1
  obtain ⟨⟨⟨⟨⟨h1, h2⟩, h3⟩, h4⟩, h5⟩, h6⟩ := h1
  exact ⟨h1, h2, h3, h4, h5, h6⟩
def m_lnkok (f : Nat × Nat × Nat × Nat) : Bool := match m_cn[f.1]?, m_prog[f.2.2.1]? with
  | some o, some M => decide (tables_1[f.2.2.2]? = some (.methodLink o f.2.1 (m_y M))) && goodWord (.methodLink o f.2.1 (m_y M))
  | _, _ => false
theorem m_lnk_ok : m_lnkL.all m_lnkok = true := by decide +kernel
theorem m_lnk_at {own idx a : Nat} (h : m_lnkL.any (fun f => f.1 == own && f.2.1 == idx && f.2.2.1 == a) = true) {o : String} (ho : m_cn[own]? = some o) {M : mM} (hM : m_prog[a]? = some M) : Cond.methodLink o idx (m_y M) ∈ m_tb := by
  obtain ⟨f, hf, h⟩ := List.any_eq_true.mp h
  simp only [Bool.and_eq_true, beq_iff_eq] at h
  obtain ⟨⟨rfl, rfl⟩, rfl⟩ := h
  have h1 := List.all_eq_true.mp m_lnk_ok _ hf
  simp only [m_lnkok, ho, hM, Bool.and_eq_true, decide_eq_true_eq] at h1
  exact m_tb_t h1.1 h1.2
def m_mwok (j : Nat) : Bool := match m_prog[j]?, m_mw[j]? with
  | some M, some f => if f.2.2 = true then decide (lw_tbl[f.1]? = some (.static (m_y M))) && goodWord (.static (m_y M)) else decide (lw_tbl[f.1]? = some (.instanceMethod (m_y M))) && goodWord (.instanceMethod (m_y M)) && decide (lw_tbl[f.2.1]? = some (.selects (m_y M).cls (m_y M) (m_y M))) && goodWord (.selects (m_y M).cls (m_y M) (m_y M))
  | _, _ => false
theorem m_mw_ok : (List.range 157).all m_mwok = true := by decide +kernel
def m_sta (j : Nat) : Bool := match m_mw[j]? with
  | some f => f.2.2
  | none => false
theorem m_mw_s {j : Nat} {M : mM} (h : m_prog[j]? = some M) (hj : j < 157) (hs : m_sta j = true) : Cond.static (m_y M) ∈ m_tb := by
  have h1 := List.all_eq_true.mp m_mw_ok j (List.mem_range.mpr hj)
  unfold m_mwok at h1
  unfold m_sta at hs
  rw [h] at h1
  cases hf : m_mw[j]? with
  | none => rw [hf] at hs; cases hs
  | some f =>
    rw [hf] at h1 hs
    dsimp only at h1 hs
    rw [if_pos hs] at h1
    simp only [Bool.and_eq_true, decide_eq_true_eq] at h1
    exact m_tb_of h1.1 h1.2
theorem m_mw_v {j : Nat} {M : mM} (h : m_prog[j]? = some M) (hj : j < 157) (hs : m_sta j = false) : Cond.instanceMethod (m_y M) ∈ m_tb ∧ Cond.selects (m_y M).cls (m_y M) (m_y M) ∈ m_tb := by
  have h1 := List.all_eq_true.mp m_mw_ok j (List.mem_range.mpr hj)
  unfold m_mwok at h1
  unfold m_sta at hs
  rw [h] at h1
  cases hf : m_mw[j]? with
  | none => rw [hf] at h1; cases h1
  | some f =>
    rw [hf] at h1 hs
    dsimp only at h1 hs
    rw [if_neg (by rw [hs]; decide)] at h1
    simp only [Bool.and_eq_true, decide_eq_true_eq] at h1
    exact ⟨m_tb_of h1.1.1.1 h1.1.1.2, m_tb_of h1.1.2 h1.2⟩
def m_iniok (n : Nat) : Bool := match m_cn[n]?, m_ini[n]? with
  | some o, some i => decide (lw_tbl[i]? = some (.initialized o)) && goodWord (.initialized o)
  | _, _ => false
theorem m_ini_ok : (List.range 9).all m_iniok = true := by decide +kernel
theorem m_cn_len : m_cn.length = 9 := by decide +kernel
theorem m_ini_at {n : Nat} {o : String} (h : m_cn[n]? = some o) : Cond.initialized o ∈ m_tb := by
  have hn : n < 9 := by rw [← m_cn_len]; exact (List.getElem?_eq_some_iff.mp h).1
  have h1 := List.all_eq_true.mp m_ini_ok n (List.mem_range.mpr hn)
  unfold m_iniok at h1
  rw [h] at h1
  cases hi : m_ini[n]? with
  | none => rw [hi] at h1; cases h1
  | some i =>
    rw [hi] at h1
    simp only [Bool.and_eq_true, decide_eq_true_eq] at h1
    exact m_tb_of h1.1 h1.2
/-- the rows of calls: their callees, their numbers of arguments -/
def m_cok (q : mI) : Bool := match q.2.1 with
  | .invokevirtual _ => decide (1000 ≤ q.2.2.2.1) || (decide (q.2.2.2.1 < 157) && !m_sta q.2.2.2.1 && (match m_prog[q.2.2.2.1]? with | some M => m_ar M == q.2.2.2.2 | none => false))
  | .invokestatic _ => decide (1000 ≤ q.2.2.2.1) || (decide (q.2.2.2.1 < 157) && m_sta q.2.2.2.1 && (match m_prog[q.2.2.2.1]? with | some M => m_ar M == q.2.2.2.2 | none => false))
  | _ => true
theorem m_cok_all : m_prog.all (fun M => (m_cd M).all m_cok) = true := by decide +kernel
end
section
/-! an exception that came up over a call is taken by a row of this method's table -/
section Catch
variable {e : Env} {f : JFrame} {a : Addr}
theorem m_hrow {Q : Handler → Pre} {E : CtlPost} {d : Bool} {acts : List Action} {s : State} {x : ExceptionTableEntry} {t : List ExceptionTableEntry} {c : ClassId} {cell : Cell} (hx : covers x f.pc = true) (h0 : x.catchType ≠ 0)
    (hl : s.vm.ClassLinks e.platform f.method.cls x.catchType c) (hcell : s.heap[a]? = some cell) (hobj : ∀ k, cell.vm ≠ .statics k) (hk : ∃ k, s.vm.classes[cell.cls]? = some k) (hc : ∃ k, s.vm.classes[c]? = some k) :
    wp (findHandler.go f a (x :: t)) Q E e d acts s ↔ if s.vm.assignable cell.cls c = true then Q (.found x.handlerPc) d acts (s.setVm (s.vm.noted f.method.cls x.catchType (.cls c))) else wp (findHandler.go f a t) Q E e d acts (s.setVm (s.vm.noted f.method.cls x.catchType (.cls c))) := by
  simp only [covers] at hx
  obtain ⟨ha, ht⟩ := (resolveClass_links e.toSetting hl).op (op := VmOp.resolveClass f.method.cls x.catchType) rfl
  have hal : s.vm.Alike (s.vm.noted f.method.cls x.catchType (.cls c)) := (Vm.Alike.refl s.vm).noted _ _ _
  obtain ⟨k1, hk1⟩ := hk
  obtain ⟨k2, hk2⟩ := hc
  obtain ⟨k3, hk3, -⟩ := hal.2.2 _ _ hk1
  obtain ⟨k4, hk4, -⟩ := hal.2.2 _ _ hk2
  cases hfit : s.vm.assignable cell.cls c with
  | true =>
    have hfit2 : (s.vm.noted f.method.cls x.catchType (.cls c)).assignable cell.cls c = true := by rw [hal.assignable]; exact hfit
    simp [findHandler.go, hx, h0, ha, ht, hcell, hobj, hk3, hk4, hfit2, VmOp.dirties, VmOp.acts]
  | false =>
    have hfit2 : (s.vm.noted f.method.cls x.catchType (.cls c)).assignable cell.cls c = false := by rw [hal.assignable]; exact hfit
    simp [findHandler.go, hx, h0, ha, ht, hcell, hobj, hk3, hk4, hfit2, VmOp.dirties, VmOp.acts]
/-- the search through rows that pass it on, up to the one that takes it -/
theorem m_hgo {s₀ : State} {cell : Cell} (hobj : ∀ k, cell.vm ≠ .statics k) (hk0 : ∃ k, s₀.vm.classes[cell.cls]? = some k) (x : ExceptionTableEntry) (rest : List ExceptionTableEntry) (hx : covers x f.pc = true) (h0 : x.catchType ≠ 0)
    {c : ClassId} (hl : s₀.vm.ClassLinks e.platform f.method.cls x.catchType c) (hfit : s₀.vm.assignable cell.cls c = true) :
    ∀ (pre : List ExceptionTableEntry) (S : State), s₀.WarmedH S.vm → S.heap[a]? = some cell →
      (∀ y ∈ pre, covers y f.pc = false ∨ (y.catchType ≠ 0 ∧ ∃ c, s₀.vm.ClassLinks e.platform f.method.cls y.catchType c ∧ s₀.vm.assignable cell.cls c = false)) →
      ∃ vm', s₀.WarmedH vm' ∧ ∀ (Q : Handler → Pre) (E : CtlPost) (d : Bool) (acts : List Action), wp (findHandler.go f a (pre ++ x :: rest)) Q E e d acts S ↔ Q (.found x.handlerPc) d acts (S.setVm vm') := by
  obtain ⟨k0, hk0⟩ := hk0
  intro pre
  induction pre with
  | nil =>
    intro S hW hcell _
    obtain ⟨k1, hk1, -⟩ := hW.alike.2.2 _ _ hk0
    obtain ⟨dk, _, _, kt, hd, _, _, _, _, hkt, _, hopen⟩ := hl.here
    obtain ⟨k2, hk2, -⟩ := hW.alike.2.2 _ _ hkt
    refine ⟨_, hW.noted hd hopen (State.rightAt_cls hl), fun Q E d acts => ?_⟩
    rw [List.nil_append, m_hrow hx h0 (hW.classLinks hl) hcell hobj ⟨k1, hk1⟩ ⟨k2, hk2⟩, if_pos (by rw [hW.alike.assignable]; exact hfit)]
  | cons y ys ih =>
    intro S hW hcell hpass
    obtain ⟨k1, hk1, -⟩ := hW.alike.2.2 _ _ hk0
    have hrest := fun z (hz : z ∈ ys) => hpass z (List.mem_cons_of_mem _ hz)
    rcases hpass y List.mem_cons_self with hc | ⟨hy0, c2, hl2, hno⟩
    · obtain ⟨vm', hW', hq⟩ := ih S hW hcell hrest
      refine ⟨vm', hW', fun Q E d acts => ?_⟩
      rw [List.cons_append, Jvm.W.findHandler_go_skip hc]
      exact hq Q E d acts
    · by_cases hc : covers y f.pc = true
      · obtain ⟨dk, _, _, kt, hd, _, _, _, _, hkt, _, hopen⟩ := hl2.here
        obtain ⟨k2, hk2, -⟩ := hW.alike.2.2 _ _ hkt
        obtain ⟨vm', hW', hq⟩ := ih (S.setVm (S.vm.noted f.method.cls y.catchType (.cls c2))) (hW.noted hd hopen (State.rightAt_cls hl2)) hcell hrest
        refine ⟨vm', hW', fun Q E d acts => ?_⟩
        rw [List.cons_append, m_hrow hc hy0 (hW.classLinks hl2) hcell hobj ⟨k1, hk1⟩ ⟨k2, hk2⟩, if_neg (by rw [hW.alike.assignable, hno]; decide)]
        exact hq Q E d acts
      · obtain ⟨vm', hW', hq⟩ := ih S hW hcell hrest
        refine ⟨vm', hW', fun Q E d acts => ?_⟩
        rw [List.cons_append, Jvm.W.findHandler_go_skip (by simpa using hc)]
        exact hq Q E d acts
end Catch
section Catch2
variable {p : Program} {l : Launch} {e : Env} {R : Room} {s : State} {m : MethodId} {args : Array Value} {below : List Frame} {meth : Method} {c : Code} {H : Heap} {locs : List Loc} {cells slots : Nat} {Q : State → Prop} {ls : Array Slot} {rest : List Value} {pc : Nat}
theorem m_catch {own E : String} {ce : Cell} {q : Addr} (hown : s.vm.findClass own = some m.cls) (pre : List ExceptionTableEntry) (x : ExceptionTableEntry) (suf : List ExceptionTableEntry) (hsplit : c.exceptionTable.toList = pre ++ x :: suf)
    (hpass : ∀ z ∈ pre, covers z pc = false ∨ (z.catchType ≠ 0 ∧ ∃ nm : String, (Cond.classLink own z.catchType nm).before args s = true ∧ va_Nc E nm s)) (hx : covers x pc = true) (h0 : x.catchType ≠ 0)
    (hlink : (Cond.classLink own x.catchType E).before args s = true) (hcell : H[q]? = some ce) (hv : ce.vm = .none) (hcl : s.vm.findClass E = some ce.cls)
    (kk : W p l e R s m args below meth c H locs cells slots Q (F0 m x.handlerPc ls [.ref q])) : vx_W p l e R s m args below meth c H locs cells slots Q (F0 m pc ls rest) q := by
  intro T hT X
  have hpl : e.platform.magicAccessors = ({} : Platform).magicAccessors := by rw [X.admits.platform]
  obtain ⟨c5, hc5, hcl5⟩ := Cond.classLink_spec hown hlink e.platform hpl
  cases Option.some.inj (hcl.symm.trans hc5)
  have hcell2 : ((T.setTop (F0 m pc ls rest)).pushFrame (.throwing q)).heap[q]? = some ce := by
    show T.heap[q]? = some ce
    rw [hT]; exact hcell
  obtain ⟨vm', hW', hq⟩ := m_hgo (e := e) (f := F0 m pc ls rest) (a := q) (s₀ := s) (cell := ce) (fun k => by rw [hv]; exact fun h => by cases h) (by obtain ⟨k9, h9, -⟩ := Vm.findClass_spec hcl; exact ⟨k9, h9⟩) x suf hx h0 hcl5 (va_asg _ _)
    pre ((T.setTop (F0 m pc ls rest)).pushFrame (.throwing q)) X.warmed hcell2 (fun z hz => by
      rcases hpass z hz with h | ⟨hz0, nm, hl1, hn1⟩
      · exact Or.inl h
      · obtain ⟨c6, hc6, hcl6⟩ := Cond.classLink_spec hown hl1 e.platform hpl
        obtain ⟨a8, b8, h1, h2, h3⟩ := hn1
        cases Option.some.inj (h1.symm.trans hcl)
        cases Option.some.inj (h2.symm.trans hc6)
        exact Or.inr ⟨hz0, _, hcl6, h3⟩)
  obtain ⟨t, a1, b1⟩ := kk (T.setVm vm') hT (X.noted hW')
  refine ⟨t, ?_, b1⟩
  obtain ⟨hgo, hw⟩ := X.here.throwing (g := F0 m pc ls rest) q
  refine Steps.head hgo hw ?_
  have hfind : ∀ (Q : Handler → Pre) (E : CtlPost) (d : Bool) (acts : List Action), wp (findHandler (F0 m pc ls rest) q) Q E e d acts ((T.setTop (F0 m pc ls rest)).pushFrame (.throwing q)) ↔ Q (.found x.handlerPc) d acts (((T.setTop (F0 m pc ls rest)).pushFrame (.throwing q)).setVm vm') := by
    intro Q E d acts
    rw [Jvm.W.findHandler_eq (s := (T.setTop (F0 m pc ls rest)).pushFrame (.throwing q)) (f := F0 m pc ls rest) X.method' X.code, hsplit]
    exact hq Q E d acts
  have hstep : (stepThrowing e ((T.setTop (F0 m pc ls rest)).pushFrame (.throwing q)) q (.java (F0 m pc ls rest) :: below)).1 = (((T.setTop (F0 m pc ls rest)).pushFrame (.throwing q)).setVm vm').setFrames (.java (F0 m x.handlerPc ls [.ref q]) :: below) := by
    simp only [stepThrowing, searchFrame, vmDo]
    generalize hr : Sem.go _ e false [] _ = res
    obtain ⟨as, rfl, ha⟩ := Sem.eq_ok_of hr (a := Handler.found x.handlerPc) (s' := ((T.setTop (F0 m pc ls rest)).pushFrame (.throwing q)).setVm vm') (acts' := []) (by simp [hfind _ _ _ _])
    rfl
  obtain ⟨g₀, hfr⟩ := X.frames_eq
  have e1 : (T.setTop (F0 m pc ls rest)).pushFrame (.throwing q) = T.setFrames (.throwing q :: .java (F0 m pc ls rest) :: below) := by
    rw [State.pushFrame, State.frames_setTop _ hfr, State.setTop_of_frames _ hfr, State.setFrames_setFrames]
  rw [e1] at hstep ⊢
  rw [stepThread_throwing (State.frames_setFrames _ (State.cur_lt_of_frames hfr)), hstep]
  have hfr2 : (T.setVm vm').frames = .java g₀ :: below := hfr
  rw [State.setTop_of_frames _ hfr2] at a1
  have e2 : ((T.setFrames (.throwing q :: .java (F0 m pc ls rest) :: below)).setVm vm').setFrames (.java (F0 m x.handlerPc ls [.ref q]) :: below) = (T.setVm vm').setFrames (.java (F0 m x.handlerPc ls [.ref q]) :: below) := by
    have h1 : (T.setFrames (.throwing q :: .java (F0 m pc ls rest) :: below)).setVm vm' = (T.setVm vm').setFrames (.throwing q :: .java (F0 m pc ls rest) :: below) := rfl
    rw [h1, State.setFrames_setFrames]
  rw [e2]
  exact a1
end Catch2
end
section
/-! runs of the small machine: the least relation that is closed under its rules (depth, exceptions, method, pc, locals, stack, cells; how it ends, cells then) -/
abbrev mO : Type := Option Value ⊕ Nat
abbrev mP : Type := Nat → Nat → Nat → Nat → mL → List Value → mH → mO → mH → Prop
def m_at (j pc : Nat) : Option mI := m_opt m_prog[j]? fun M => (m_cd M).find? (fun q => q.1 == pc)
def m_step (X : Nat × (Nat → Int32)) (j : Nat) (c : mS) : Option mS := m_opt (m_at j c.1) fun q => m_loc m_ft X q.2.1 q.2.2.2.1 q.2.2.2.2 c.1 c.2.1 c.2.2.1 c.2.2.2
def m_ctg (st : List Value) : Nat := (st.map fun v => v.category).sum
/-- a call's row: its callee -/
def m_cal (h : mH) (vs : List Value) (q : mI) : Bool := match q.2.1 with
  | .invokestatic _ => decide (q.2.2.2.1 < 157) && decide (vs.length = q.2.2.2.2)
  | .invokevirtual _ => decide (q.2.2.2.1 < 157) && (match vs with
    | .ref r :: as => decide (as.length = q.2.2.2.2) && (match h[r]?, m_prog[q.2.2.2.1]? with
      | some (.inr (.inr (c, _))), some M => c == m_own M
      | _, _ => false)
    | _ => false)
  | _ => false
def m_fit (a : Nat) (vs : List Value) : Bool := match m_prog[a]? with
  | some M => decide ((lg_sl vs).length ≤ m_mL M)
  | none => false
def m_R0 (P : mP) : Prop := ∀ (d k j pc : Nat) (lv lv' : mL) (st : List Value) (h : mH) (o : mO) (h' : mH), (∀ q ∈ lv', q ∈ lv) → P d k j pc lv' st h o h' → P d k j pc lv st h o h'
def m_R1 (X : Nat × (Nat → Int32)) (P : mP) : Prop := ∀ (d k j : Nat) (c r : mS) (o : mO) (h' : mH), m_step X j c = some r → P d k j r.1 r.2.1 r.2.2.1 r.2.2.2 o h' → P d k j c.1 c.2.1 c.2.2.1 c.2.2.2 o h'
def m_R2 (P : mP) : Prop := ∀ (d k j pc : Nat) (lv : mL) (v : Int32) (h : mH) (M : mM) (ty : FieldType) (q : mI), m_prog[j]? = some M → m_at j pc = some q → q.2.1 = .ireturn → m_ret M = some ty → narrow ty (.int v) = .int v → P d k j pc lv [.int v] h (.inl (some (.int v))) h
def m_R3 (P : mP) : Prop := ∀ (d k j pc : Nat) (lv : mL) (h : mH) (M : mM) (q : mI), m_prog[j]? = some M → m_at j pc = some q → q.2.1 = .return_ → m_ret M = none → P d k j pc lv [] h (.inl none) h
def m_R5 (P : mP) : Prop := ∀ (d k1 k2 j pc : Nat) (lv : mL) (st vs : List Value) (v : Option Value) (h h1 h' : mH) (o : mO) (q : mI), m_at j pc = some q → m_cal h vs q = true → m_fit q.2.2.2.1 vs = true → m_ctg st ≤ 8 →
  P d k1 q.2.2.2.1 0 (lv_args 0 vs) [] h (.inl v) h1 → P (d + 1) k2 j (pc + 3) lv (v.toList ++ st) h1 o h' → P (d + 1) (k1 + k2) j pc lv (vs.reverse ++ st) h o h'
def m_R6 (P : mP) : Prop := ∀ (d k j pc : Nat) (lv : mL) (st vs : List Value) (h h1 : mH) (x : Nat) (M : mM) (q : mI), m_prog[j]? = some M → m_hh M = [] → m_at j pc = some q → m_cal h vs q = true → m_fit q.2.2.2.1 vs = true → m_ctg st ≤ 8 →
  P d k q.2.2.2.1 0 (lv_args 0 vs) [] h (.inr x) h1 → P (d + 1) k j pc lv (vs.reverse ++ st) h (.inr x) h1
theorem m_at_inv {j pc : Nat} {q : mI} (h : m_at j pc = some q) : ∃ M, m_prog[j]? = some M ∧ q ∈ m_cd M ∧ q.1 = pc := by
  obtain ⟨M, h1, h2⟩ := m_opt_inv h
  exact ⟨M, h1, List.mem_of_find?_eq_some h2, by simpa using List.find?_some h2⟩
theorem m_row {j : Nat} {M : mM} {q : mI} (hM : m_prog[j]? = some M) (hq : q ∈ m_cd M) : decode (m_by M) q.1 = .ok (q.2.1, q.2.2.1) ∧ m_sok (m_own M) (m_mL M) q = true ∧ (m_ln q.2.1 = 0 ∨ q.2.2.1 = m_ln q.2.1) ∧ m_cok q = true := by
  have h0 := List.mem_of_getElem? hM
  have h1 := List.all_eq_true.mp (List.all_eq_true.mp m_sok_all M h0) q hq
  have h2 := List.all_eq_true.mp (List.all_eq_true.mp m_ln_all M h0) q hq
  have h3 := List.all_eq_true.mp (List.all_eq_true.mp m_cok_all M h0) q hq
  exact ⟨m_decs M h0 q hq, h1, by simpa using h2, h3⟩
theorem m_row_ln {M : mM} {q : mI} {n : Nat} (h : m_ln q.2.1 = 0 ∨ q.2.2.1 = m_ln q.2.1) (hn : m_ln q.2.1 = n + 1) (hd : decode (m_by M) q.1 = .ok (q.2.1, q.2.2.1)) : decode (m_by M) q.1 = .ok (q.2.1, n + 1) := by
  rcases h with h | h
  · rw [hn] at h; cases h
  · rw [hn] at h; rw [← h]; exact hd
theorem m_Lv_args (ad : Nat → Nat) : ∀ (vs : List Value) (i : Nat), m_Lv ad (lv_args i vs) = lv_args i (vs.map (m_V ad))
  | [], _ => rfl
  | v :: vs, i => by
    show (i, m_V ad v) :: m_Lv ad (lv_args _ vs) = (i, m_V ad v) :: lv_args _ (vs.map (m_V ad))
    rw [m_Lv_args ad vs, m_V_cat]
theorem m_sl (ad : Nat → Nat) (vs : List Value) : (lg_sl (vs.map (m_V ad))).length = (lg_sl vs).length := by
  induction vs with
  | nil => rfl
  | cons v t ih =>
    have e1 : lg_sl ((v :: t).map (m_V ad)) = (if (m_V ad v).category = 2 then [.val (m_V ad v), .second] else [.val (m_V ad v)]) ++ lg_sl (t.map (m_V ad)) := by simp [lg_sl]
    have e2 : lg_sl (v :: t) = (if v.category = 2 then [.val v, .second] else [.val v]) ++ lg_sl t := by simp [lg_sl]
    rw [e1, e2, List.length_append, List.length_append, ih, m_V_cat]
    by_cases h : v.category = 2 <;> simp [h]
theorem m_ctg_V (ad : Nat → Nat) (st : List Value) : m_ctg (st.map (m_V ad)) = m_ctg st := by
  unfold m_ctg
  rw [List.map_map]
  congr 1
  apply List.map_congr_left
  intro v _
  exact m_V_cat ad v
/-! what the real machine owes -/
section SP
variable (D : va_G) (ad : Nat → Nat) (cI cJ : ClassId) (A : Nat → Prop)
def m_Pc (X : Nat × (Nat → Int32)) (vs : List Value) (h : mH) : Array Value → State → Prop := fun a U => a = (vs.map (m_V ad)).toArray ∧ va_P D m_cl (m_W ad cI cJ h) U.heap ∧ va_D A (m_W ad cI cJ h) ∧ m_EV D ad cI cJ A X U
def m_Qc (o : mO) (h' : mH) : Array Value → State → Outcome → State → Prop := fun _ st oc t => (∃ v, o = .inl v ∧ oc = .returned (v.map (m_V ad)) ∧ va_P D m_cl (m_W ad cI cJ h') t.heap ∧ va_D A (m_W ad cI cJ h')) ∧ va_F A st t
def m_XC (o : mO) (h' : mH) : String → State → State → Prop := fun E st t => (∃ x, o = .inr x ∧ m_en[x]? = some E ∧ va_P D m_cl (m_W ad cI cJ h') t.heap ∧ va_D A (m_W ad cI cJ h')) ∧ va_F A st t
def m_SP (l : Launch) (X : Nat × (Nat → Int32)) : mP := fun d k j pc lv st h o h' => ∀ (p : Program) (e : Env) (R : Room) (s : State) (m : MethodId) (args : Array Value) (below : List Frame) (meth : Method) (c : Code) (H : Heap) (locs : List Loc) (cells slots : Nat) (ls : Array Slot) (M : mM) (mc ms : Nat),
  m_prog[j]? = some M → p.tables.exec = Jvm.exec → c.code = m_by M → c.maxLocals = m_mL M → c.exceptionTable.toList = tableOf (m_hh M) → meth.locks = false → meth.sig.returnType = m_ret M → s.vm.findClass (m_y M).cls = some m.cls →
  (∀ w ∈ m_tb, w.before args s = true) → m_EV D ad cI cJ A X s → d + 12 ≤ R.frames → 40 * d + 200 ≤ R.locals → mc ≤ R.cells → ms ≤ R.slots → cells + k ≤ mc → slots + 6 * k ≤ ms →
  va_P D m_cl (m_W ad cI cJ h) H → va_D A (m_W ad cI cJ h) → va_S A s.heap H locs → lv_has ls (m_mL M) (m_Lv ad lv) →
  W p l e R s m args below meth c H locs cells slots (vx_MQ below (m_Qc D ad cI cJ A o h') (m_XC D ad cI cJ A o h') args s mc ms A) (F0 m pc ls (st.map (m_V ad)))
end SP
section Rules
variable {l : Launch} {D : va_G} {ad : Nat → Nat} {cI cJ : ClassId} {A : Nat → Prop} {X : Nat × (Nat → Int32)}
theorem m_sp0 : m_R0 (m_SP D ad cI cJ A l X) := by
  intro d k j pc lv lv' st h o h' hs hP p e R s m args below meth c H locs cells slots ls M mc ms hM hx hb hml htab hlk hret hown hts hE hf hlo hmc hms hc1 hc2 hPw hD hS hl
  exact hP p e R s m args below meth c H locs cells slots ls M mc ms hM hx hb hml htab hlk hret hown hts hE hf hlo hmc hms hc1 hc2 hPw hD hS (m_has_sub hl hs)
theorem m_sp1 : m_R1 X (m_SP D ad cI cJ A l X) := by
  intro d k j cc r o h' hs hP
  obtain ⟨pc, lv, st, h⟩ := cc
  dsimp only at hP ⊢
  intro p e R s m args below meth c H locs cells slots ls M mc ms hM hx hb hml htab hlk hret hown hts hE hf hlo hmc hms hc1 hc2 hPw hD hS hl
  obtain ⟨q, hq, hr⟩ := m_opt_inv hs
  obtain ⟨M2, hM2, hqm, hpc⟩ := m_at_inv hq
  cases Option.some.inj (hM.symm.trans hM2)
  obtain ⟨hd, hok, hln, -⟩ := m_row hM hqm
  dsimp only at hpc hr
  subst hpc
  exact m_locsim hx hb (m_fact_of hM).2.2.2.1 hown hts hE hd hok hln hr hPw hD hS hl (fun H1 locs1 ls1 g1 g2 g3 g4 => hP p e R s m args below meth c H1 locs1 cells slots ls1 M mc ms hM hx hb hml htab hlk hret hown hts hE hf hlo hmc hms hc1 hc2 g1 g2 g3 g4)
theorem m_sp2 : m_R2 (m_SP D ad cI cJ A l X) := by
  intro d k j pc lv v h M1 ty q hM1 hq hi hty hn p e R s m args below meth c H locs cells slots ls M mc ms hM hx hb hml htab hlk hret hown hts hE hf hlo hmc hms hc1 hc2 hPw hD hS hl
  cases Option.some.inj (hM.symm.trans hM1)
  obtain ⟨M2, hM2, hqm, rfl⟩ := m_at_inv hq
  cases Option.some.inj (hM.symm.trans hM2)
  obtain ⟨hd, -, hln, -⟩ := m_row hM hqm
  have hd1 := m_row_ln (n := 0) hln (by rw [hi]; rfl) hd
  rw [hi] at hd1
  exact vx_ret (W.widen (k := mc) (n := ms) (by omega) (by omega) (W.zret hx hb (hret.trans hty) hn (fun t ht hw => ⟨⟨some (.int v), rfl, rfl, by rw [ht]; exact hPw, hD⟩, hS.F ht⟩) hS.2.2 hd1 hlk))
theorem m_sp3 : m_R3 (m_SP D ad cI cJ A l X) := by
  intro d k j pc lv h M1 q hM1 hq hi hty p e R s m args below meth c H locs cells slots ls M mc ms hM hx hb hml htab hlk hret hown hts hE hf hlo hmc hms hc1 hc2 hPw hD hS hl
  cases Option.some.inj (hM.symm.trans hM1)
  obtain ⟨M2, hM2, hqm, rfl⟩ := m_at_inv hq
  cases Option.some.inj (hM.symm.trans hM2)
  obtain ⟨hd, -, hln, -⟩ := m_row hM hqm
  have hd1 := m_row_ln (n := 0) hln (by rw [hi]; rfl) hd
  rw [hi] at hd1
  exact vx_ret (W.widen (k := mc) (n := ms) (by omega) (by omega) (W.vret hx hb (hret.trans hty) (fun t ht hw => ⟨⟨none, rfl, rfl, by rw [ht]; exact hPw, hD⟩, hS.F ht⟩) hS.2.2 hd1 hlk))
end Rules
end
section
/-! calls -/
section CallSim
variable {l : Launch} {D : va_G} {ad : Nat → Nat} {cI cJ : ClassId} {A : Nat → Prop} {X : Nat × (Nat → Int32)}
theorem m_met {a : Nat} {M : mM} (hM : m_prog[a]? = some M) {d k : Nat} {vs : List Value} {h h1 : mH} {o : mO} (hfit : (lg_sl vs).length ≤ m_mL M) (IH : m_SP D ad cI cJ A l X d k a 0 (lv_args 0 vs) [] h o h1) :
    vx_Met l (m_y M) (m_wd M :: m_tb) { frames := d + 12, locals := 40 * d + 200, cells := k, slots := 6 * k } (m_Pc D ad cI cJ A X vs h) (m_Qc D ad cI cJ A o h1) (m_XC D ad cI cJ A o h1) k (6 * k) A := by
  have key : ∀ p e s m args below meth c s₁, BodyLoose p l (m_y M) (headSpec (m_wd M :: m_tb) { frames := d + 12, locals := 40 * d + 200, cells := k, slots := 6 * k }) (m_by M) (m_mL M) (m_ret M) e s m args below meth c s₁ → c.maxLocals = m_mL M → c.exceptionTable.toList = tableOf (m_hh M) → m_Pc D ad cI cJ A X vs h args s →
      W p l e (headSpec (m_wd M :: m_tb) { frames := d + 12, locals := 40 * d + 200, cells := k, slots := 6 * k }).room s m args below meth c s.heap [] 0 0 (vx_MQ below (m_Qc D ad cI cJ A o h1) (m_XC D ad cI cJ A o h1) args s k (6 * k) A) (entryFrame m args (m_mL M)) := by
    intro p e s m args below meth c s₁ B hml htab hp
    obtain ⟨ha, hP, hD, hE⟩ := hp
    subst ha
    rw [lg_entry_eq]
    exact IH p e _ s m _ below meth c s.heap [] 0 0 _ M k (6 * k) hM B.exec B.bytes hml htab B.notSynchronized B.returns (findClass_of_methodNamed B.named) (fun w hw => atoms_spec (ws := m_wd M :: m_tb) B.pre w (List.mem_cons_of_mem _ hw)) hE
      (Nat.le_refl (d + 12)) (Nat.le_refl (40 * d + 200)) (Nat.le_refl k) (Nat.le_refl (6 * k)) (by omega) (by omega) hP hD va_S.rf (by rw [m_Lv_args]; exact lv_entry _ (by rw [m_sl]; exact hfit))
  have hpl := (m_fact_of hM).1
  cases hh : m_hh M with
  | nil =>
    refine vx_ofW (cc := m_by M) (maxL := m_mL M) (ret := m_ret M) (ws' := m_tb) hpl (by unfold m_wd; rw [hh]) ?_
    intro p e s m args below meth c s₁ B hml hno hp
    exact key p e s m args below meth c s₁ B hml (by rw [hh]; exact List.eq_nil_iff_forall_not_mem.mpr (fun x hx => hno x hx)) hp
  | cons q t =>
    have hw : m_wd M = Cond.codeWith (m_y M) (m_by M) (m_mL M) (m_ret M) (q :: t) := by unfold m_wd; rw [hh]
    refine vx_ofWH (cc := m_by M) (maxL := m_mL M) (ret := m_ret M) (hh := q :: t) (ws' := m_tb) hpl (by rw [hw]) ?_
    intro p e s m args below meth c s₁ B hml hp
    exact key p e s m args below meth c s₁ B hml (by rw [hh]; exact vx_table (x := m_y M) B (bytes := m_by M) (maxL' := m_mL M) (ret' := m_ret M) (by rw [← hw]; exact atoms_spec (ws := m_wd M :: m_tb) B.pre _ List.mem_cons_self)) hp
theorem m_Pc_blind {vs : List Value} {h : mH} : FrameBlind (m_Pc D ad cI cJ A X vs h) := by
  intro a U g mk hh
  obtain ⟨h1, h2, h3, h4⟩ := hh
  exact ⟨h1, h2, h3, h4.move (State.WarmedH.refl U) (Nat.le_refl _) (fun _ _ _ => rfl)⟩
theorem m_clsn : ∀ (c : Nat) (r : vw_C), m_cl[c]? = some r → m_cn[c]? = some r.1 := by
  intro c r h
  match c, h with
  | 0, h => cases h; rfl
  | 1, h => cases h; rfl
  | 2, h => cases h; rfl
  | 3, h => cases h; rfl
  | 4, h => cases h; rfl
  | 5, h => cases h; rfl
  | 6, h => cases h; rfl
  | k + 7, h => simp [m_cl] at h
variable {p : Program} {e : Env} {R : Room} {s : State} {m : MethodId} {args : Array Value} {below : List Frame} {meth : Method} {c : Code} {H : Heap} {locs : List Loc} {cells slots : Nat} {Q : State → Prop} {ls : Array Slot}
theorem m_crun {M : mM} {j pc d k : Nat} {q : mI} {st vs : List Value} {h h1 : mH} {o : mO} (hM : m_prog[j]? = some M) (hx : p.tables.exec = Jvm.exec) (hb : c.code = m_by M) (hml : c.maxLocals = m_mL M) (hown : s.vm.findClass (m_y M).cls = some m.cls)
    (hts : ∀ w ∈ m_tb, w.before args s = true) (hE : m_EV D ad cI cJ A X s) (hf : d + 1 + 12 ≤ R.frames) (hlo : 40 * (d + 1) + 200 ≤ R.locals) (hc : cells + k ≤ R.cells) (hs : slots + 6 * k ≤ R.slots)
    (hP : va_P D m_cl (m_W ad cI cJ h) H) (hD : va_D A (m_W ad cI cJ h)) (hS : va_S A s.heap H locs) (hls : ls.size = m_mL M) (hq : m_at j pc = some q) (hcal : m_cal h vs q = true) (hfit : m_fit q.2.2.2.1 vs = true) (hst : m_ctg st ≤ 8)
    (IH : m_SP D ad cI cJ A l X d k q.2.2.2.1 0 (lv_args 0 vs) [] h o h1) :
    vx_Run p l e R s m args below meth c H locs cells slots k (6 * k) (F0 m pc ls ((vs.reverse ++ st).map (m_V ad))) (st.map (m_V ad)) (m_Qc D ad cI cJ A o h1 (vs.map (m_V ad)).toArray) (m_XC D ad cI cJ A o h1) A := by
  obtain ⟨M2, hM2, hqm, hpc⟩ := m_at_inv hq
  cases Option.some.inj (hM.symm.trans hM2)
  obtain ⟨hd, hok, hln, hck⟩ := m_row hM hqm
  obtain ⟨pc2, ins, len, a, b⟩ := q
  dsimp only at hpc hd hok hln hck hcal hfit IH
  subst hpc
  obtain ⟨-, -, -, ho, -, -⟩ := m_fact_of hM
  have hrm : m_ctg (st.map (m_V ad)) ≤ 8 := by rw [m_ctg_V]; exact hst
  unfold m_fit at hfit
  cases hM3 : m_prog[a]? with
  | none => rw [hM3] at hfit; cases hfit
  | some N =>
    rw [hM3] at hfit
    have hfit2 : (lg_sl vs).length ≤ m_mL N := of_decide_eq_true hfit
    have hmet := m_met hM3 hfit2 IH
    obtain ⟨hpl, hy1, hy2, hyo, hmx, hpar⟩ := m_fact_of hM3
    have hini := m_ini_at hyo
    have hroom : ({ frames := d + 12, locals := 40 * d + 200, cells := k, slots := 6 * k } : Room).frames + 1 ≤ R.frames ∧ 8 + (m_mL N + 11) + ({ frames := d + 12, locals := 40 * d + 200, cells := k, slots := 6 * k } : Room).locals ≤ R.locals := ⟨by show d + 12 + 1 ≤ _; omega, by show 8 + (m_mL N + 11) + (40 * d + 200) ≤ _; omega⟩
    cases ins with
    | invokevirtual idx =>
      have hd1 := m_row_ln (M := M) (q := (pc2, .invokevirtual idx, len, a, b)) (n := 2) hln rfl hd
      dsimp only at hd1
      simp only [m_cal, Bool.and_eq_true, decide_eq_true_eq] at hcal
      obtain ⟨ha, hcal⟩ := hcal
      split at hcal
      · rename_i r as
        rw [Bool.and_eq_true, decide_eq_true_eq] at hcal
        obtain ⟨hlen, hcal⟩ := hcal
        split at hcal
        · rename_i ci fs N2 hr hN2
          cases Option.some.inj (hM3.symm.trans hN2)
          simp only [beq_iff_eq] at hcal
          simp only [m_cok, Bool.or_eq_true, decide_eq_true_eq, Bool.and_eq_true, hM3, beq_iff_eq] at hck
          have hck2 : (a < 157 ∧ (!m_sta a) = true) ∧ m_ar N = b := hck.elim (fun z => absurd z (by omega)) id
          obtain ⟨⟨-, hsta⟩, har⟩ := hck2
          have hsta2 : m_sta a = false := by simpa using hsta
          simp only [m_sok, Bool.or_eq_true, decide_eq_true_eq] at hok
          have hok2 := hok.elim (fun z => absurd z (by omega)) id
          have hlk := m_lnk_at hok2 ho hM3
          obtain ⟨hin, hsel⟩ := m_mw_v hM3 ha hsta2
          have hwd := m_wd_tb hM3 ha
          have hgood : GoodIn m_tb (wsV (m_y M).cls idx (m_y N).cls (m_y N) (m_wd N :: m_tb)) := by
            intro w hw
            refine m_tb_good w ?_
            unfold wsV at hw
            simp only [List.cons_append, List.nil_append, List.mem_cons] at hw
            rcases hw with rfl | rfl | rfl | rfl | rfl | hw
            · exact hlk
            · exact hin
            · exact hsel
            · exact hini
            · exact hwd
            · exact hw
          have hw := m_W_at (ad := ad) (cI := cI) (cJ := cJ) hr
          obtain ⟨rr, hcl, cell, q1, q2, q3, q4⟩ := hP r _ hw
          have hnm : rr.1 = (m_y N).cls := by
            have h5 := m_clsn _ _ hcl
            rw [show (ci, fs.map (m_V ad)).1 = m_own N from hcal] at h5
            exact Option.some.inj (h5.symm.trans hyo)
          have hfc : s.vm.findClass (m_y N).cls = some cell.cls := by
            obtain ⟨-, h6, -⟩ := hE.1.1 _ _ hcl
            rw [← hnm, q2]; exact h6
          have hpre : PreV s H (m_y N).cls (ad r) (m_Pc D ad cI cJ A X (.ref r :: as) h) (as.map (m_V ad)) := by
            refine ⟨m_Pc_blind, ⟨cell, q1, by rw [q3]; rfl, hfc⟩, fun U hU hW => ⟨rfl, by rw [hU]; exact hP, hD, hE.move hW (by rw [hU]; exact hS.1) (by rw [hU]; exact hS.2.1)⟩⟩
          have hstk : (F0 m pc2 ls (((Value.ref r :: as).reverse ++ st).map (m_V ad))).stack = (as.map (m_V ad)).reverse ++ .ref (ad r) :: st.map (m_V ad) := by
            show ((Value.ref r :: as).reverse ++ st).map (m_V ad) = _
            simp [m_V]
          have hlen2 : (as.map (m_V ad)).length = b := by rw [List.length_map]; exact hlen
          cases hh : m_hh N with
          | nil =>
            have hwe : m_wd N = Cond.code (m_y N) (m_by N) (m_mL N) (m_ret N) := by unfold m_wd; rw [hh]
            exact vx_runV (nL := m_mL M) (own := (m_y M).cls) (C := (m_y N).cls) (index := idx) (n := b) (bytes := m_by N) (maxL := m_mL N) (ret := m_ret N) ⟨hx, hb, hml, hown, hts⟩ hmet
              (cwV b hts hgood (by rw [hwe]) rfl rfl ⟨rfl, hy1, hy2, by rw [hpar, har]⟩ hroom) hpre rfl hlen2 hls hstk (lv_room hrm) hd1 ⟨hc, hs⟩
          | cons z zs =>
            have hwe : m_wd N = Cond.codeWith (m_y N) (m_by N) (m_mL N) (m_ret N) (z :: zs) := by unfold m_wd; rw [hh]
            exact vx_runVX (nL := m_mL M) (own := (m_y M).cls) (C := (m_y N).cls) (index := idx) (n := b) (bytes := m_by N) (maxL := m_mL N) (ret := m_ret N) (hh := z :: zs) ⟨hx, hb, hml, hown, hts⟩ hmet
              (vx_cwVW b hts hgood (by rw [hwe]) rfl rfl ⟨rfl, hy1, hy2, by rw [hpar, har]⟩ hroom) hpre rfl hlen2 hls hstk (lv_room hrm) hd1 ⟨hc, hs⟩
        · cases hcal
      · cases hcal
    | invokestatic idx =>
      have hd1 := m_row_ln (M := M) (q := (pc2, .invokestatic idx, len, a, b)) (n := 2) hln rfl hd
      dsimp only at hd1
      simp only [m_cal, Bool.and_eq_true, decide_eq_true_eq] at hcal
      obtain ⟨ha, hlen⟩ := hcal
      simp only [m_cok, Bool.or_eq_true, decide_eq_true_eq, Bool.and_eq_true, hM3, beq_iff_eq] at hck
      have hck2 : (a < 157 ∧ m_sta a = true) ∧ m_ar N = b := hck.elim (fun z => absurd z (by omega)) id
      obtain ⟨⟨-, hsta⟩, har⟩ := hck2
      simp only [m_sok, Bool.or_eq_true, decide_eq_true_eq] at hok
      have hok2 := hok.elim (fun z => absurd z (by omega)) id
      have hlk := m_lnk_at hok2 ho hM3
      have hstt := m_mw_s hM3 ha hsta
      have hwd := m_wd_tb hM3 ha
      have hpre : PreS s H (m_Pc D ad cI cJ A X vs h) (vs.map (m_V ad)) := ⟨m_Pc_blind, fun U hU hW => ⟨rfl, by rw [hU]; exact hP, hD, hE.move hW (by rw [hU]; exact hS.1) (by rw [hU]; exact hS.2.1)⟩⟩
      have hstk : (F0 m pc2 ls ((vs.reverse ++ st).map (m_V ad))).stack = (vs.map (m_V ad)).reverse ++ st.map (m_V ad) := by
        show (vs.reverse ++ st).map (m_V ad) = _
        simp
      have hlen2 : (vs.map (m_V ad)).length = b := by rw [List.length_map]; exact hlen
      have hgood : GoodIn m_tb (m_wd N :: m_tb) := by
        intro w hw
        refine m_tb_good w ?_
        rcases List.mem_cons.mp hw with rfl | hw
        · exact hwd
        · exact hw
      cases hh : m_hh N with
      | nil =>
        have hwe : m_wd N = Cond.code (m_y N) (m_by N) (m_mL N) (m_ret N) := by unfold m_wd; rw [hh]
        exact vx_runS (nL := m_mL M) (own := (m_y M).cls) (index := idx) (n := b) (bytes := m_by N) (maxL := m_mL N) (ret := m_ret N) ⟨hx, hb, hml, hown, hts⟩ hmet
          ⟨callB_of b hts hgood (by rw [hwe]) rfl rfl (hts _ hini) (hts _ hlk) ⟨hy1, hy2, by rw [hpar, har]⟩ hroom, hts _ hstt⟩ hpre rfl hlen2 hls hstk (lv_room hrm) hd1 ⟨hc, hs⟩
      | cons z zs =>
        have hwe : m_wd N = Cond.codeWith (m_y N) (m_by N) (m_mL N) (m_ret N) (z :: zs) := by unfold m_wd; rw [hh]
        refine vx_runSX (nL := m_mL M) (own := (m_y M).cls) (index := idx) (n := b) (bytes := m_by N) (maxL := m_mL N) (ret := m_ret N) (hh := z :: zs) ⟨hx, hb, hml, hown, hts⟩ hmet
          ⟨⟨rfl, rfl, hroom.1, hroom.2, pay_in hts hgood, by rw [hwe]; exact List.mem_cons_self⟩, by rw [← hwe]; exact hts _ hwd, hts _ hini, ⟨hy1, hy2⟩, fun sig hsig => ?_, hts _ hlk, hts _ hstt⟩ hpre rfl hlen2 hls hstk (lv_room hrm) hd1 ⟨hc, hs⟩
        rw [hsig, har] at hpar
        exact (Option.some.inj hpar).symm
    | _ => simp [m_cal] at hcal
end CallSim
section Rules2
variable {l : Launch} {D : va_G} {ad : Nat → Nat} {cI cJ : ClassId} {A : Nat → Prop} {X : Nat × (Nat → Int32)}
theorem m_sp5 : m_R5 (m_SP D ad cI cJ A l X) := by
  intro d k1 k2 j pc lv st vs v h h1 h' o q hq hcal hfit hst IH1 IH2 p e R s m args below meth c H locs cells slots ls M mc ms hM hx hb hml htab hlk hret hown hts hE hf hlo hmc hms hc1 hc2 hPw hD hS hl
  have hr := m_crun (e := e) (below := below) (meth := meth) hM hx hb hml hown hts hE hf hlo (cells := cells) (slots := slots) (k := k1) (by omega) (by omega) hPw hD hS hl.1 hq hcal hfit hst IH1
  intro T hT X1
  rcases hr T hT X1 with ⟨v9, st₀, t, T', L, h0, X', hL, e1, e2, ⟨⟨v2, hv2, hv9, hP1, hD1⟩, hF⟩, stp⟩ | ⟨q9, st₀, t, T', L, E, ce, h0, X', hL, e1, e2, ⟨⟨x, hx2, -⟩, -⟩, -⟩
  · cases hv2
    cases hv9
    obtain ⟨g1, g2, g3⟩ := vx_keep h0 e1 hS (fun _ _ z => z) (fun _ z => z) hL hF
    have hw := IH2 p e R s m args below meth c T'.heap (locs ++ L) (cells + k1) (slots + 6 * k1) ls M mc ms hM hx hb hml htab hlk hret hown hts hE hf hlo hmc hms (by omega) (by omega) (by rw [e1]; exact hP1) hD1 g3 hl
    obtain ⟨t2, a1, b1⟩ := hw T' rfl X'
    refine ⟨t2, stp t2 ?_, b1⟩
    have e3 : (v.toList ++ st).map (m_V ad) = (v.map (m_V ad)).toList ++ st.map (m_V ad) := by cases v <;> simp
    rw [e3] at a1
    exact a1
  · cases hx2
theorem m_sp6 : m_R6 (m_SP D ad cI cJ A l X) := by
  intro d k j pc lv st vs h h1 x M1 q hM1 hhh hq hcal hfit hst IH1 p e R s m args below meth c H locs cells slots ls M mc ms hM hx hb hml htab hlk hret hown hts hE hf hlo hmc hms hc1 hc2 hPw hD hS hl
  cases Option.some.inj (hM.symm.trans hM1)
  have hr := m_crun (e := e) (below := below) (meth := meth) hM hx hb hml hown hts hE hf hlo (cells := cells) (slots := slots) (k := k) (by omega) (by omega) hPw hD hS hl.1 hq hcal hfit hst IH1
  intro T hT X1
  rcases hr T hT X1 with ⟨v9, st₀, t, T', L, h0, X', hL, e1, e2, ⟨⟨v2, hv2, -⟩, -⟩, -⟩ | ⟨q9, st₀, t, T', L, E, ce, h0, X', hL, e1, e2, ⟨⟨x2, hx2, hE2, hP1, hD1⟩, hF⟩, hce, hcv, hcl, stp⟩
  · cases hv2
  · cases hx2
    obtain ⟨g1, g2, g3⟩ := vx_keep h0 e1 hS (fun _ _ z => z) (fun _ z => z) hL hF
    have hw : vx_W p l e R s m args below meth c T'.heap (locs ++ L) (cells + k) (slots + 6 * k) (vx_MQ below (m_Qc D ad cI cJ A (.inr x) h1) (m_XC D ad cI cJ A (.inr x) h1) args s mc ms A) (F0 m pc ls (st.map (m_V ad))) q9 :=
      vx_out (E := E) (ce := ce) (by rw [htab, hhh]; exact fun z hz => nomatch hz) hlk (by rw [e1]; exact hce) hcv hcl
        (fun t2 ht2 ha => ⟨⟨x, rfl, hE2, by rw [ht2, e1]; exact hP1, hD1⟩, g3.F ht2⟩) g3.2.2 (by omega) (by omega)
    obtain ⟨t2, a1, b1⟩ := hw T' rfl X'
    exact ⟨t2, stp.trans a1, b1⟩
end Rules2
end
section
/-! own throws, catches, two callees of the JDK -/
/-- owner, class link, constructor link, exception -/
def m_thL : List (Nat × Nat × Nat × Nat) := [(0, 72, 189, 0), (5, 44, 48, 1), (5, 51, 55, 2), (5, 79, 83, 0), (5, 91, 95, 3)]
abbrev m_sup : List String := ["java/lang/RuntimeException", "java/lang/Exception"]
def m_thW (o E : String) (ik ic : Nat) : List Cond := Cond.classLink o ik E :: Cond.initialized E :: vx_atS o ic E m_sup
def m_thok (f : Nat × Nat × Nat × Nat) : Bool := match m_cn[f.1]?, m_en[f.2.2.2]? with
  | some o, some E => (m_thW o E f.2.1 f.2.2.1).all (fun w => decide (w ∈ lw_tbl) && (goodWord w || m_isN w) && vx_ot w) && Bundle.fit E
  | _, _ => false
theorem m_th_ok : m_thL.all m_thok = true := by decide +kernel
theorem m_sup_ok : ∀ n ∈ m_sup, Bundle.fit n = true := by decide +kernel
theorem m_words {args : Array Value} {s : State} (hts : ∀ w ∈ m_tb, w.before args s = true) (hnw : ∀ w ∈ m_nw, va_Nw w s) {w : Cond} (h1 : w ∈ lw_tbl) (h2 : (goodWord w || m_isN w) = true) : w.before args s = true := by
  rcases Bool.or_eq_true _ _ ▸ h2 with h2 | h2
  · exact hts w (List.mem_filter.mpr ⟨h1, h2⟩)
  · have h3 : w ∈ m_nw := List.mem_filter.mpr ⟨h1, h2⟩
    exact va_Nw.use (m_isN_tab h3) (hnw w h3)
/-- a throw's rows -/
def m_tsok (M : mM) (q : mI) : Bool := match q.2.1 with
  | .new ik => if q.2.2.2.1 < 4 then
      (m_cd M).any (fun r => r.1 == q.1 + 3 && (match r.2.1 with | .dup => true | _ => false)) &&
      (m_cd M).any (fun r => r.1 == q.1 + 4 && r.2.2.2.1 == 1 && r.2.2.2.2 == q.2.2.2.2 && (match r.2.1 with | .ldc _ => true | _ => false)) &&
      (m_cd M).any (fun r => r.1 == q.1 + 6 && (match r.2.1 with | .invokespecial ic => m_thL.any (fun f => f.1 == m_own M && f.2.1 == ik && f.2.2.1 == ic && f.2.2.2 == q.2.2.2.1) | _ => false)) &&
      (m_cd M).any (fun r => r.1 == q.1 + 9 && (match r.2.1 with | .athrow => true | _ => false)) else true
  | _ => true
theorem m_ts_ok : m_prog.all (fun M => (m_cd M).all (m_tsok M)) = true := by decide +kernel
def m_R4 (P : mP) : Prop := ∀ (d k j pc ik : Nat) (lv : mL) (st : List Value) (h : mH) (M : mM) (q : mI), m_prog[j]? = some M → m_hh M = [] → m_at j pc = some q → q.2.1 = .new ik → q.2.2.2.1 < 4 → m_ctg st ≤ 8 → P d (k + 1) j pc lv st h (.inr q.2.2.2.1) h
section Throws
variable {l : Launch} {D : va_G} {ad : Nat → Nat} {cI cJ : ClassId} {A : Nat → Prop} {X : Nat × (Nat → Int32)}
theorem m_sp4 (hnt : l.stackTraces = false) : m_R4 (m_SP D ad cI cJ A l X) := by
  intro d k j pc ik lv st h M1 q hM1 hhh hq hi he hst p e R s m args below meth c H locs cells slots ls M mc ms hM hx hb hml htab hlk hret hown hts hE hf hlo hmc hms hc1 hc2 hPw hD hS hl
  have e01 : M = M1 := Option.some.inj (hM.symm.trans hM1)
  rw [← e01] at hhh
  obtain ⟨M2, hM2, hqm, rfl⟩ := m_at_inv hq
  have e02 : M = M2 := Option.some.inj (hM.symm.trans hM2)
  rw [← e02] at hqm
  obtain ⟨hd, -, hln, -⟩ := m_row hM hqm
  have hd0 := m_row_ln (n := 2) hln (by rw [hi]; rfl) hd
  rw [hi] at hd0
  have hts0 := List.all_eq_true.mp (List.all_eq_true.mp m_ts_ok M (List.mem_of_getElem? hM)) q hqm
  unfold m_tsok at hts0
  rw [hi] at hts0
  dsimp only at hts0
  rw [if_pos he] at hts0
  simp only [Bool.and_eq_true] at hts0
  obtain ⟨⟨⟨t3, t4⟩, t6⟩, t9⟩ := hts0
  obtain ⟨r3, m3, t3⟩ := List.any_eq_true.mp t3
  rw [Bool.and_eq_true, beq_iff_eq] at t3
  obtain ⟨e3, i3⟩ := t3
  obtain ⟨r4, m4, t4⟩ := List.any_eq_true.mp t4
  simp only [Bool.and_eq_true, beq_iff_eq] at t4
  obtain ⟨⟨⟨e4, a4⟩, b4⟩, i4⟩ := t4
  obtain ⟨r6, m6, t6⟩ := List.any_eq_true.mp t6
  rw [Bool.and_eq_true, beq_iff_eq] at t6
  obtain ⟨e6, i6⟩ := t6
  obtain ⟨r9, m9, t9⟩ := List.any_eq_true.mp t9
  rw [Bool.and_eq_true, beq_iff_eq] at t9
  obtain ⟨e9, i9⟩ := t9
  obtain ⟨g3, -, n3, -⟩ := m_row hM m3
  obtain ⟨g4, o4, n4, -⟩ := m_row hM m4
  obtain ⟨g6, -, n6, -⟩ := m_row hM m6
  obtain ⟨g9, -, n9, -⟩ := m_row hM m9
  split at i3
  · rename_i z3
    have d3 := m_row_ln (n := 0) n3 (by rw [z3]; rfl) g3
    rw [z3, e3] at d3
    split at i4
    · rename_i is z4
      have d4 := m_row_ln (n := 1) n4 (by rw [z4]; rfl) g4
      rw [z4, e4] at d4
      split at i6
      · rename_i ic z6
        have d6 := m_row_ln (n := 2) n6 (by rw [z6]; rfl) g6
        rw [z6, e6] at d6
        split at i9
        · rename_i z9
          have d9 := m_row_ln (n := 0) n9 (by rw [z9]; rfl) g9
          rw [z9, e9] at d9
          obtain ⟨f, hf6, i6⟩ := List.any_eq_true.mp i6
          simp only [Bool.and_eq_true, beq_iff_eq] at i6
          obtain ⟨⟨⟨f1, f2⟩, f3⟩, f4⟩ := i6
          have hok := List.all_eq_true.mp m_th_ok f hf6
          unfold m_thok at hok
          obtain ⟨-, -, -, ho, -, -⟩ := m_fact_of hM
          rw [f1, f2, f3, f4, ho] at hok
          cases hEn : m_en[q.2.2.2.1]? with
          | none => rw [hEn] at hok; cases hok
          | some E =>
            rw [hEn] at hok
            simp only [Bool.and_eq_true, List.all_eq_true] at hok
            obtain ⟨hall, hfit⟩ := hok
            have hw : ∀ w ∈ m_thW (m_y M).cls E ik ic, w.before args s = true := fun w hw => m_words hts hE.2.1 (of_decide_eq_true (hall w hw).1.1) (hall w hw).1.2
            have hot : ∀ w ∈ m_thW (m_y M).cls E ik ic, vx_ot w = true := fun w hw => (hall w hw).2
            have hstr : ∃ text, vk_R (m_y M).cls is text (ad (m_scr + 1 + q.2.2.2.2)) s := by
              unfold m_sok at o4
              rw [z4] at o4
              dsimp only at o4
              rw [if_neg (by rw [a4]; decide), b4] at o4
              cases hf : m_strL[q.2.2.2.2]? with
              | none => rw [hf] at o4; cases o4
              | some f =>
                rw [hf] at o4
                simp only [Bool.and_eq_true, beq_iff_eq] at o4
                have h3 := hE.2.2.1 _ f hf (m_y M).cls (by rw [o4.1]; exact ho)
                rw [o4.2] at h3
                exact ⟨_, h3⟩
            obtain ⟨text, hstr⟩ := hstr
            have hc8 : (List.map (fun v => v.category) (st.map (m_V ad))).sum ≤ 8 := by
              have := m_ctg_V ad st
              unfold m_ctg at this hst
              rw [this]; exact hst
            have h5 : m_sup.length = 2 := rfl
            refine vx_throwS (names := m_sup) (text := text) hx hb hnt hown hfit m_sup_ok (hw _ List.mem_cons_self) (hw _ (List.mem_cons_of_mem _ List.mem_cons_self)) hstr (fun w h => hw w (List.mem_cons_of_mem _ (List.mem_cons_of_mem _ h))) hot
              hE.2.2.2.2.2.2.1 hE.2.2.2.2.2.2.2.1 hS (hl.1.trans hml.symm) hd0 d3 d4 d6 d9 (by rw [htab, hhh]; exact fun z hz => nomatch hz) (by rw [h5]; omega) (by rw [h5]; omega) (by omega) (by omega) hlk ?_ hS.2.2 (by omega) (by omega)
            intro t ha hz hk
            exact ⟨⟨_, rfl, hEn, hPw.kept (fun n z hn => hk _ (vx_lt hPw hn)), hD⟩, Nat.le_trans hS.1 hz, fun a h1 h2 => (hk a (Nat.lt_of_lt_of_le h1 hS.1)).trans (hS.2.1 a h1 h2)⟩
        · cases i9
      · cases i6
    · cases i4
  · cases i3
end Throws
/-- owner, entry of the pool, exception -/
def m_ctL : List (Nat × Nat × Nat) := [(0, 72, 0), (7, 13, 1), (7, 15, 2), (7, 24, 0), (7, 26, 3)]
def m_ctok (f : Nat × Nat × Nat) : Bool := match m_cn[f.1]?, m_en[f.2.2]? with
  | some o, some E => decide (Cond.classLink o f.2.1 E ∈ lw_tbl) && goodWord (.classLink o f.2.1 E) && decide (f.2.1 ≠ 0)
  | _, _ => false
theorem m_ct_ok : m_ctL.all m_ctok = true := by decide +kernel
def m_cty (own ct : Nat) : Option Nat := (m_ctL.find? (fun f => f.1 == own && f.2.1 == ct)).map (fun f => f.2.2)
theorem m_cty_at {own ct y : Nat} (h : m_cty own ct = some y) {o : String} (ho : m_cn[own]? = some o) : ∃ E, m_en[y]? = some E ∧ Cond.classLink o ct E ∈ m_tb ∧ ct ≠ 0 := by
  unfold m_cty at h
  cases hf : m_ctL.find? (fun f => f.1 == own && f.2.1 == ct) with
  | none => rw [hf] at h; cases h
  | some f =>
    rw [hf] at h
    cases h
    have h1 := List.mem_of_find?_eq_some hf
    have h2 := List.find?_some hf
    simp only [Bool.and_eq_true, beq_iff_eq] at h2
    have h3 := List.all_eq_true.mp m_ct_ok f h1
    unfold m_ctok at h3
    rw [h2.1, h2.2, ho] at h3
    cases hE : m_en[f.2.2]? with
    | none => rw [hE] at h3; cases h3
    | some E =>
      rw [hE] at h3
      simp only [Bool.and_eq_true, decide_eq_true_eq] at h3
      exact ⟨E, rfl, List.mem_filter.mpr ⟨h3.1.1, h3.1.2⟩, h3.2⟩
def m_nc (x y : Nat) : Bool := match m_en[x]?, m_en[y]? with
  | some a, some b => decide ((a, b) ∈ m_ncL)
  | _, _ => false
def m_hnd (own pc x : Nat) : List (Nat × Nat × Nat × Nat) → Option Nat
  | [] => none
  | (a, b, h, ct) :: t => if a ≤ pc ∧ pc < b then (match m_cty own ct with
      | some y => if y = x then some h else if m_nc x y = true then m_hnd own pc x t else none
      | none => none) else m_hnd own pc x t
theorem m_hnd_ok {own pc x : Nat} {o E : String} (ho : m_cn[own]? = some o) (hE : m_en[x]? = some E) {hp : Nat} : ∀ (hh : List (Nat × Nat × Nat × Nat)), m_hnd own pc x hh = some hp →
    ∃ (pre : List ExceptionTableEntry) (z : ExceptionTableEntry) (suf : List ExceptionTableEntry), tableOf hh = pre ++ z :: suf ∧ z.handlerPc = hp ∧ covers z pc = true ∧ z.catchType ≠ 0 ∧ Cond.classLink o z.catchType E ∈ m_tb ∧
      ∀ w ∈ pre, covers w pc = false ∨ (w.catchType ≠ 0 ∧ ∃ nm : String, Cond.classLink o w.catchType nm ∈ m_tb ∧ (E, nm) ∈ m_ncL)
  | [], h => by cases h
  | (a, b, h, ct) :: t, hh => by
    have step : ∀ (hw : covers (⟨a, b, h, ct⟩ : ExceptionTableEntry) pc = false ∨ (ct ≠ 0 ∧ ∃ nm : String, Cond.classLink o ct nm ∈ m_tb ∧ (E, nm) ∈ m_ncL)), m_hnd own pc x t = some hp →
        ∃ (pre : List ExceptionTableEntry) (z : ExceptionTableEntry) (suf : List ExceptionTableEntry), tableOf ((a, b, h, ct) :: t) = pre ++ z :: suf ∧ z.handlerPc = hp ∧ covers z pc = true ∧ z.catchType ≠ 0 ∧ Cond.classLink o z.catchType E ∈ m_tb ∧
          ∀ w ∈ pre, covers w pc = false ∨ (w.catchType ≠ 0 ∧ ∃ nm : String, Cond.classLink o w.catchType nm ∈ m_tb ∧ (E, nm) ∈ m_ncL) := by
      intro hw ht
      obtain ⟨pre, z, suf, h1, h2, h3, h4, h5, h6⟩ := m_hnd_ok ho hE t ht
      refine ⟨⟨a, b, h, ct⟩ :: pre, z, suf, ?_, h2, h3, h4, h5, fun w hw2 => ?_⟩
      · show (⟨a, b, h, ct⟩ : ExceptionTableEntry) :: tableOf t = _
        rw [h1]; rfl
      · rcases List.mem_cons.mp hw2 with rfl | hw2
        · exact hw
        · exact h6 w hw2
    unfold m_hnd at hh
    by_cases hc : a ≤ pc ∧ pc < b
    · rw [if_pos hc] at hh
      cases hy : m_cty own ct with
      | none => rw [hy] at hh; cases hh
      | some y =>
        rw [hy] at hh
        dsimp only at hh
        obtain ⟨E2, e1, e2, e3⟩ := m_cty_at hy ho
        by_cases hyx : y = x
        · rw [if_pos hyx] at hh
          cases hh
          subst hyx
          cases Option.some.inj (hE.symm.trans e1)
          exact ⟨[], ⟨a, b, hp, ct⟩, tableOf t, rfl, rfl, by simp [covers, hc.1, hc.2], e3, e2, fun w hw => nomatch hw⟩
        · rw [if_neg hyx] at hh
          obtain ⟨hn, hh⟩ := m_if_inv hh
          unfold m_nc at hn
          rw [hE, e1] at hn
          exact step (Or.inr ⟨e3, E2, e2, of_decide_eq_true hn⟩) hh
    · rw [if_neg hc] at hh
      refine step (Or.inl ?_) hh
      simp only [covers]
      by_cases h1 : a ≤ pc
      · simp [h1, show ¬ pc < b from fun z => hc ⟨h1, z⟩]
      · simp [h1]
def m_ast (q : mI) : Option Nat := match q.2.1 with
  | .astore_n k => some k
  | .astore i => some i
  | _ => none
def m_drp (lv : mL) (i : Nat) : mL := lv.filter (fun q => !(q.1 == i) && !(q.1 + 1 == i && q.2.category == 2))
def m_R7 (P : mP) : Prop := ∀ (d k1 k2 j pc hp i : Nat) (lv : mL) (st vs : List Value) (h h1 h' : mH) (x : Nat) (o : mO) (M : mM) (q r : mI), m_prog[j]? = some M → m_hnd (m_own M) pc x (m_hh M) = some hp → m_at j pc = some q → m_cal h vs q = true → m_fit q.2.2.2.1 vs = true → m_ctg st ≤ 8 →
  m_at j hp = some r → m_ast r = some i → i < m_mL M → P d k1 q.2.2.2.1 0 (lv_args 0 vs) [] h (.inr x) h1 → P (d + 1) k2 j (hp + r.2.2.1) (m_drp lv i) [] h1 o h' → P (d + 1) (k1 + k2) j pc lv (vs.reverse ++ st) h o h'
section Catches
variable {l : Launch} {D : va_G} {ad : Nat → Nat} {cI cJ : ClassId} {A : Nat → Prop} {X : Nat × (Nat → Int32)}
theorem m_drp_has {ad : Nat → Nat} {lv : mL} {i : Nat} {v : Value} {ls : Array Slot} {nL : Nat} (h : lv_has ls nL ((i, v) :: (m_Lv ad lv).filter (fun q => !(q.1 == i) && !(q.1 + 1 == i && q.2.category == 2)))) : lv_has ls nL (m_Lv ad (m_drp lv i)) := by
  refine ⟨h.1, h.2.1, fun q hq => h.2.2 q ?_⟩
  obtain ⟨q0, hq0, rfl⟩ := List.mem_map.mp hq
  obtain ⟨h1, h2⟩ := List.mem_filter.mp hq0
  exact List.mem_cons_of_mem _ (List.mem_filter.mpr ⟨List.mem_map.mpr ⟨q0, h1, rfl⟩, by simpa [m_V_cat] using h2⟩)
theorem m_sp7 : m_R7 (m_SP D ad cI cJ A l X) := by
  intro d k1 k2 j pc hp i lv st vs h h1 h' x o M1 q r hM1 hhn hq hcal hfit hst hr hast hi IH1 IH2 p e R s m args below meth c H locs cells slots ls M mc ms hM hx hb hml htab hlk hret hown hts hE hf hlo hmc hms hc1 hc2 hPw hD hS hl
  have e01 : M = M1 := Option.some.inj (hM.symm.trans hM1)
  rw [← e01] at hhn hi
  have hrun := m_crun (e := e) (below := below) (meth := meth) hM hx hb hml hown hts hE hf hlo (cells := cells) (slots := slots) (k := k1) (by omega) (by omega) hPw hD hS hl.1 hq hcal hfit hst IH1
  intro T hT X1
  rcases hrun T hT X1 with ⟨v9, st₀, t, T', L, h0, X', hL, e1, e2, ⟨⟨v2, hv2, -⟩, -⟩, -⟩ | ⟨q9, st₀, t, T', L, E, ce, h0, X', hL, e1, e2, ⟨⟨x2, hx2, hE2, hP1, hD1⟩, hF⟩, hce, hcv, hcl, stp⟩
  · cases hv2
  · cases hx2
    obtain ⟨g1, g2, g3⟩ := vx_keep h0 e1 hS (fun _ _ z => z) (fun _ z => z) hL hF
    obtain ⟨-, -, -, ho, -, -⟩ := m_fact_of hM
    obtain ⟨pre, z, suf, s1, s2, s3, s4, s5, s6⟩ := m_hnd_ok ho hE2 (m_hh M) hhn
    subst s2
    have hw : vx_W p l e R s m args below meth c T'.heap (locs ++ L) (cells + k1) (slots + 6 * k1) (vx_MQ below (m_Qc D ad cI cJ A o h') (m_XC D ad cI cJ A o h') args s mc ms A) (F0 m pc ls (st.map (m_V ad))) q9 := by
      refine m_catch (E := E) (own := (m_y M).cls) hown pre z suf (by rw [htab]; exact s1) (fun w hw => ?_) s3 s4 (hts _ s5) (by rw [e1]; exact hce) hcv hcl ?_
      · rcases s6 w hw with h | ⟨h6, nm, h7, h8⟩
        · exact Or.inl h
        · exact Or.inr ⟨h6, nm, hts _ h7, hE.2.2.2.2.2.2.2.2.1 _ h8⟩
      · obtain ⟨M2, hM2, hrm, hrp⟩ := m_at_inv hr
        have e02 : M = M2 := Option.some.inj (hM.symm.trans hM2)
        rw [← e02] at hrm
        obtain ⟨hd, -, hln, -⟩ := m_row hM hrm
        obtain ⟨pc2, ins, len, a, b⟩ := r
        dsimp only at hrp
        subst hrp
        unfold m_ast at hast
        dsimp only at hast hd hln IH2
        have fin : ∀ ls2, lv_has ls2 (m_mL M) ((i, Value.ref q9) :: (m_Lv ad lv).filter (fun q => !(q.1 == i) && !(q.1 + 1 == i && q.2.category == 2))) → W p l e R s m args below meth c T'.heap (locs ++ L) (cells + k1) (slots + 6 * k1) (vx_MQ below (m_Qc D ad cI cJ A o h') (m_XC D ad cI cJ A o h') args s mc ms A) (F0 m (z.handlerPc + len) ls2 []) := by
          intro ls2 hl2
          exact IH2 p e R s m args below meth c T'.heap (locs ++ L) (cells + k1) (slots + 6 * k1) ls2 M mc ms hM hx hb hml htab hlk hret hown hts hE hf hlo hmc hms (by omega) (by omega) (by rw [e1]; exact hP1) hD1 g3 (m_drp_has hl2)
        cases ins with
        | astore_n kf =>
          cases hast
          rcases hln with hln | hln
          · cases hln
          · subst hln
            exact lv_astore_n hx hb hd rfl hl hi rfl fin
        | astore kf =>
          cases hast
          rcases hln with hln | hln
          · cases hln
          · subst hln
            exact lv_astore hx hb hd hl hi rfl fin
        | _ => cases hast
    obtain ⟨t2, a1, b1⟩ := hw T' rfl X'
    exact ⟨t2, stp.trans a1, b1⟩
end Catches
end
section
/-! words of the JDK's own code, by their places -/
set_option maxRecDepth 40000 in
theorem m_jw13 : (Cond.initialized "java/lang/String") ∈ m_tb := m_tb_t (i := 13) rfl rfl
set_option maxRecDepth 40000 in
theorem m_jw14 : (Cond.initialized "java/lang/StringLatin1") ∈ m_tb := m_tb_t (i := 14) rfl rfl
set_option maxRecDepth 40000 in
theorem m_jw15 : (Cond.initialized "jdk/internal/util/Preconditions") ∈ m_tb := m_tb_t (i := 15) rfl rfl
set_option maxRecDepth 40000 in
theorem m_jw17 : (Cond.initialized "java/lang/Math") ∈ m_tb := m_tb_t (i := 17) rfl rfl
set_option maxRecDepth 40000 in
theorem m_jw19 : (Cond.initialized "java/lang/System") ∈ m_tb := m_tb_t (i := 19) rfl rfl
set_option maxRecDepth 40000 in
theorem m_jw271 : (Cond.methodLink "GasContract$Tokens" 113 ⟨"java/lang/String", "length", "()I"⟩) ∈ m_tb := m_tb_t (i := 271) rfl rfl
set_option maxRecDepth 40000 in
theorem m_jw272 : (Cond.instanceMethod ⟨"java/lang/String", "length", "()I"⟩) ∈ m_tb := m_tb_t (i := 272) rfl rfl
set_option maxRecDepth 40000 in
theorem m_jw273 : (Cond.selects "java/lang/String" ⟨"java/lang/String", "length", "()I"⟩ ⟨"java/lang/String", "length", "()I"⟩) ∈ m_tb := m_tb_t (i := 273) rfl rfl
set_option maxRecDepth 40000 in
theorem m_jw274 : (Cond.code ⟨"java/lang/String", "length", "()I"⟩ prog_20_method_54_code 1 (some .int)) ∈ m_tb := m_tb_t (i := 274) rfl rfl
set_option maxRecDepth 40000 in
theorem m_jw275 : (Cond.methodLink "java/lang/String" 335 ⟨"java/lang/String", "coder", "()B"⟩) ∈ m_tb := m_tb_t (i := 275) rfl rfl
set_option maxRecDepth 40000 in
theorem m_jw276 : (Cond.instanceMethod ⟨"java/lang/String", "coder", "()B"⟩) ∈ m_tb := m_tb_t (i := 276) rfl rfl
set_option maxRecDepth 40000 in
theorem m_jw277 : (Cond.selects "java/lang/String" ⟨"java/lang/String", "coder", "()B"⟩ ⟨"java/lang/String", "coder", "()B"⟩) ∈ m_tb := m_tb_t (i := 277) rfl rfl
set_option maxRecDepth 40000 in
theorem m_jw278 : (Cond.code ⟨"java/lang/String", "coder", "()B"⟩ prog_20_method_152_code 1 (some .byte)) ∈ m_tb := m_tb_t (i := 278) rfl rfl
set_option maxRecDepth 40000 in
theorem m_jw279 : (Cond.fieldLink "java/lang/String" 38 "java/lang/String" "COMPACT_STRINGS" "Z") ∈ m_tb := m_tb_t (i := 279) rfl rfl
set_option maxRecDepth 40000 in
theorem m_jw281 : (Cond.methodLink "GasContract$Tokens" 118 ⟨"java/lang/String", "charAt", "(I)C"⟩) ∈ m_tb := m_tb_t (i := 281) rfl rfl
set_option maxRecDepth 40000 in
theorem m_jw282 : (Cond.instanceMethod ⟨"java/lang/String", "charAt", "(I)C"⟩) ∈ m_tb := m_tb_t (i := 282) rfl rfl
set_option maxRecDepth 40000 in
theorem m_jw283 : (Cond.selects "java/lang/String" ⟨"java/lang/String", "charAt", "(I)C"⟩ ⟨"java/lang/String", "charAt", "(I)C"⟩) ∈ m_tb := m_tb_t (i := 283) rfl rfl
set_option maxRecDepth 40000 in
theorem m_jw284 : (Cond.code ⟨"java/lang/String", "charAt", "(I)C"⟩ prog_20_method_56_code 2 (some .char)) ∈ m_tb := m_tb_t (i := 284) rfl rfl
set_option maxRecDepth 40000 in
theorem m_jw285 : (Cond.methodLink "java/lang/String" 492 ⟨"java/lang/String", "isLatin1", "()Z"⟩) ∈ m_tb := m_tb_t (i := 285) rfl rfl
set_option maxRecDepth 40000 in
theorem m_jw286 : (Cond.instanceMethod ⟨"java/lang/String", "isLatin1", "()Z"⟩) ∈ m_tb := m_tb_t (i := 286) rfl rfl
set_option maxRecDepth 40000 in
theorem m_jw287 : (Cond.selects "java/lang/String" ⟨"java/lang/String", "isLatin1", "()Z"⟩ ⟨"java/lang/String", "isLatin1", "()Z"⟩) ∈ m_tb := m_tb_t (i := 287) rfl rfl
set_option maxRecDepth 40000 in
theorem m_jw288 : (Cond.code ⟨"java/lang/String", "isLatin1", "()Z"⟩ prog_20_method_154_code 1 (some .boolean)) ∈ m_tb := m_tb_t (i := 288) rfl rfl
set_option maxRecDepth 40000 in
theorem m_jw289 : (Cond.methodLink "java/lang/String" 495 ⟨"java/lang/StringLatin1", "charAt", "([BI)C"⟩) ∈ m_tb := m_tb_t (i := 289) rfl rfl
set_option maxRecDepth 40000 in
theorem m_jw290 : (Cond.static ⟨"java/lang/StringLatin1", "charAt", "([BI)C"⟩) ∈ m_tb := m_tb_t (i := 290) rfl rfl
set_option maxRecDepth 40000 in
theorem m_jw291 : (Cond.code ⟨"java/lang/StringLatin1", "charAt", "([BI)C"⟩ prog_22_method_2_code 2 (some .char)) ∈ m_tb := m_tb_t (i := 291) rfl rfl
set_option maxRecDepth 40000 in
theorem m_jw292 : (Cond.methodLink "java/lang/StringLatin1" 9 ⟨"java/lang/String", "checkIndex", "(II)V"⟩) ∈ m_tb := m_tb_t (i := 292) rfl rfl
set_option maxRecDepth 40000 in
theorem m_jw293 : (Cond.static ⟨"java/lang/String", "checkIndex", "(II)V"⟩) ∈ m_tb := m_tb_t (i := 293) rfl rfl
set_option maxRecDepth 40000 in
theorem m_jw294 : (Cond.code ⟨"java/lang/String", "checkIndex", "(II)V"⟩ prog_20_method_155_code 2 none) ∈ m_tb := m_tb_t (i := 294) rfl rfl
set_option maxRecDepth 40000 in
theorem m_jw295 : (Cond.fieldLink "java/lang/String" 1053 "jdk/internal/util/Preconditions" "SIOOBE_FORMATTER" "Ljava/util/function/BiFunction;") ∈ m_tb := m_tb_t (i := 295) rfl rfl
set_option maxRecDepth 40000 in
theorem m_jw297 : (Cond.methodLink "java/lang/String" 1059 ⟨"jdk/internal/util/Preconditions", "checkIndex", "(IILjava/util/function/BiFunction;)I"⟩) ∈ m_tb := m_tb_t (i := 297) rfl rfl
set_option maxRecDepth 40000 in
theorem m_jw298 : (Cond.static ⟨"jdk/internal/util/Preconditions", "checkIndex", "(IILjava/util/function/BiFunction;)I"⟩) ∈ m_tb := m_tb_t (i := 298) rfl rfl
set_option maxRecDepth 40000 in
theorem m_jw299 : (Cond.code ⟨"jdk/internal/util/Preconditions", "checkIndex", "(IILjava/util/function/BiFunction;)I"⟩ prog_29_method_11_code 3 (some .int)) ∈ m_tb := m_tb_t (i := 299) rfl rfl
set_option maxRecDepth 40000 in
theorem m_jw335 : (Cond.methodLink "GasContract$Tokens" 79 ⟨"java/lang/Math", "min", "(JJ)J"⟩) ∈ m_tb := m_tb_t (i := 335) rfl rfl
set_option maxRecDepth 40000 in
theorem m_jw336 : (Cond.static ⟨"java/lang/Math", "min", "(JJ)J"⟩) ∈ m_tb := m_tb_t (i := 336) rfl rfl
set_option maxRecDepth 40000 in
theorem m_jw337 : (Cond.code ⟨"java/lang/Math", "min", "(JJ)J"⟩ prog_18_method_70_code 4 (some .long)) ∈ m_tb := m_tb_t (i := 337) rfl rfl
set_option maxRecDepth 40000 in
theorem m_jw580 : (Cond.methodLink "GasContract$Contract" 31 ⟨"java/lang/System", "arraycopy", "(Ljava/lang/Object;ILjava/lang/Object;II)V"⟩) ∈ m_tb := m_tb_t (i := 580) rfl rfl
set_option maxRecDepth 40000 in
theorem m_jw581 : (Cond.static ⟨"java/lang/System", "arraycopy", "(Ljava/lang/Object;ILjava/lang/Object;II)V"⟩) ∈ m_tb := m_tb_t (i := 581) rfl rfl
set_option maxRecDepth 40000 in
theorem m_jw582 : (Cond.native ⟨"java/lang/System", "arraycopy", "(Ljava/lang/Object;ILjava/lang/Object;II)V"⟩) ∈ m_tb := m_tb_t (i := 582) rfl rfl
set_option maxRecDepth 40000 in
theorem m_jw695 : (Cond.methodLink "GasContract$Store" 35 ⟨"java/lang/System", "arraycopy", "(Ljava/lang/Object;ILjava/lang/Object;II)V"⟩) ∈ m_tb := m_tb_t (i := 695) rfl rfl
set_option maxRecDepth 40000 in
theorem m_jw925 : (Cond.fieldLink "java/lang/String" 9 "java/lang/String" "value" "[B") ∈ m_tb := m_tb_t (i := 925) rfl rfl
set_option maxRecDepth 40000 in
theorem m_jw926 : (Cond.fieldLink "java/lang/String" 15 "java/lang/String" "coder" "B") ∈ m_tb := m_tb_t (i := 926) rfl rfl
end
section
/-! length and charAt of the words' texts, arraycopy, min -/
section Jdk
variable {l : Launch} {ad : Nat → Nat} {A : Nat → Prop}
abbrev m_rmJ (n : Nat) : Room := { frames := n, locals := 30 * n, cells := 0, slots := 0 }
def m_JP (ad : Nat → Nat) (A : Nat → Prop) (av : List Value) : Array Value → State → Prop := fun a U => a = av.toArray ∧ m_ES ad A U
theorem m_JP_blind {av : List Value} : FrameBlind (m_JP ad A av) := by
  intro a U g mk hh
  exact ⟨hh.1, hh.2.move (State.WarmedH.refl U) (fun _ _ _ => rfl)⟩
abbrev mYci : MethodName := ⟨"jdk/internal/util/Preconditions", "checkIndex", "(IILjava/util/function/BiFunction;)I"⟩
abbrev mYsi : MethodName := ⟨"java/lang/String", "checkIndex", "(II)V"⟩
abbrev mYlc : MethodName := ⟨"java/lang/StringLatin1", "charAt", "([BI)C"⟩
abbrev mYil : MethodName := ⟨"java/lang/String", "isLatin1", "()Z"⟩
abbrev mYca : MethodName := ⟨"java/lang/String", "charAt", "(I)C"⟩
abbrev mYco : MethodName := ⟨"java/lang/String", "coder", "()B"⟩
abbrev mYle : MethodName := ⟨"java/lang/String", "length", "()I"⟩
theorem m_jgood {w : Cond} (h : w ∈ m_tb) : GoodIn m_tb (w :: m_tb) := by
  intro x hx
  refine m_tb_good x ?_
  rcases List.mem_cons.mp hx with rfl | hx
  · exact h
  · exact hx
theorem m_jci {i n : Int32} {F : Value} (hF : F.category = 1) (h1 : ¬ i < 0) (h2 : i < n) : Met l mYci (Cond.code mYci prog_29_method_11_code 3 (some .int) :: m_tb) (m_rmJ 0) (m_JP ad A [.int i, .int n, F]) (QcRead i) 0 0 (fun _ => False) := by
  refine Met.ofW (by decide) rfl ?_
  intro p e s m args below meth c s₁ B hml hp
  obtain ⟨rfl, hE⟩ := hp
  rw [lg_entry_eq]
  have hl := lv_entry [.int i, .int n, F] (n := 3) (by cases F <;> first | (cases hF; done) | simp [lg_sl, Value.category])
  refine lv_iload_n B.exec B.bytes (pc := 0) (k := 0) (by decide +kernel) rfl (lv_at hl 0 rfl) ?_
  refine lv_if_lt B.exec B.bytes (pc := 1) (tgt := 9) (off := 8) (by decide +kernel) rfl (fun h => absurd h h1) (fun _ => ?_)
  refine lv_iload_n B.exec B.bytes (pc := 4) (k := 0) (by decide +kernel) rfl (lv_at hl 0 rfl) ?_
  refine lv_iload_n B.exec B.bytes (pc := 5) (k := 1) (by decide +kernel) rfl (lv_at hl 1 rfl) ?_
  refine lv_icmp_lt B.exec B.bytes (pc := 6) (tgt := 16) (off := 10) (by decide +kernel) rfl (fun _ => ?_) (fun h => absurd h2 h)
  refine lv_iload_n B.exec B.bytes (pc := 16) (k := 0) (by decide +kernel) rfl (lv_at hl 0 rfl) ?_
  exact W.iret B.exec B.bytes B.returns (fun t ht hw => ⟨rfl, ht⟩) (fun q h => nomatch h) (by decide +kernel) B.notSynchronized
/-- nothing but an end -/
def m_Qn : Array Value → State → Outcome → State → Prop := fun _ st o t => o = .returned none ∧ t.heap = st.heap
theorem m_calln {p : Program} {e : Env} {R : Room} {s : State} {m : MethodId} {args : Array Value} {below : List Frame} {meth : Method} {c : Code} {H : Heap} {locs : List Loc} {cells slots : Nat} {Q : State → Prop} {g : JFrame} {rest : List Value} {a : Array Value} (hr : CallRun p l e R s m args below meth c H locs cells slots 0 0 g rest (m_Qn a) (fun _ => False))
    (kk : W p l e R s m args below meth c H locs cells slots Q { g with pc := g.pc + 3, stack := rest }) : W p l e R s m args below meth c H locs cells slots Q g := by
  intro T hT X
  obtain ⟨v, st₀, t, T', L, h0, X', hL, e1, ⟨hv, hh⟩, st⟩ := hr T hT X
  cases hv
  obtain ⟨t2, a1, b1⟩ := kk T' (by rw [e1, hh, h0]) (Stand.forget X' (fun q h => (hL q h).elim))
  exact ⟨t2, st t2 a1, b1⟩
theorem m_jsi {i n : Int32} (h1 : ¬ i < 0) (h2 : i < n) : Met l mYsi (Cond.code mYsi prog_20_method_155_code 2 none :: m_tb) (m_rmJ 1) (m_JP ad A [.int i, .int n]) m_Qn 0 0 (fun _ => False) := by
  refine Met.ofW (by decide) rfl ?_
  intro p e s m args below meth c s₁ B hml hp
  obtain ⟨rfl, hE⟩ := hp
  have hts : ∀ w ∈ m_tb, w.before _ s = true := fun w hw => atoms_spec (ws := Cond.code mYsi prog_20_method_155_code 2 none :: m_tb) B.pre w (List.mem_cons_of_mem _ hw)
  have hown := findClass_of_methodNamed B.named
  rw [lg_entry_eq]
  have hl := lv_entry [.int i, .int n] (n := 2) (by simp [lg_sl, Value.category])
  refine lv_iload_n B.exec B.bytes (pc := 0) (k := 0) (by decide +kernel) rfl (lv_at hl 0 rfl) ?_
  refine lv_iload_n B.exec B.bytes (pc := 1) (k := 1) (by decide +kernel) rfl (lv_at hl 1 rfl) ?_
  have go : ∀ F : Value, F.category = 1 → va_Z "jdk/internal/util/Preconditions" "SIOOBE_FORMATTER" "Ljava/util/function/BiFunction;" F A s s.heap → W p l e (m_rmJ 1) s m ([Value.int i, .int n].toArray) below meth c s.heap [] 0 0 (MQ below m_Qn ([Value.int i, .int n].toArray) s 0 0 (fun _ => False)) (F0 m (1 + 1) ((lg_sl [Value.int i, .int n] ++ List.replicate (2 - (lg_sl [Value.int i, .int n]).length) Slot.unset).toArray) (.int n :: .int i :: [])) := by
    intro F hF hZ
    refine va_gets (ref := "jdk/internal/util/Preconditions") B.exec B.bytes hZ va_S.rf hown (hts _ m_jw295) (fun _ h => h) (by decide +kernel) ?_
    have hr := W.runS (p := p) (e := e) (below := below) (meth := meth) (cells := 0) (slots := 0) (H := s.heap) (locs := []) (rest := []) (nL := 2) (g := F0 m (1 + 1 + 3) ((lg_sl [Value.int i, .int n] ++ List.replicate (2 - (lg_sl [Value.int i, .int n]).length) Slot.unset).toArray) (F :: .int n :: .int i :: [])) (R := m_rmJ 1) (own := "java/lang/String") (index := 1059) (As := [.int i, .int n, F]) (n := 3) (bytes := prog_29_method_11_code) (maxL := 3) (ret := some .int)
      ⟨B.exec, B.bytes, hml, hown, hts⟩ (m_jci (l := l) (ad := ad) (A := A) hF h1 h2) ⟨callB_of 3 hts (m_jgood m_jw299) rfl rfl rfl (hts _ m_jw15) (hts _ m_jw297) ⟨by decide, by decide, by decide +kernel⟩ ⟨by decide, by decide⟩, hts _ m_jw298⟩
      ⟨m_JP_blind, fun U hU hW => ⟨rfl, hE.move hW (fun q _ _ => by rw [hU])⟩⟩ rfl rfl hl.1 rfl (lv_room (by decide)) (show decode prog_20_method_155_code 5 = _ by decide +kernel) ⟨by decide, by decide⟩
    refine W.callR hr ?_
    refine lv_pop B.exec B.bytes (pc := 1 + 1 + 3 + 3) (by decide +kernel) rfl ?_
    exact W.vret B.exec B.bytes B.returns (fun t ht hw => ⟨rfl, ht⟩) (fun q h => nomatch h) (by decide +kernel) B.notSynchronized
  rcases hE.2.2 with hZ | ⟨t, hZ⟩
  · exact go .null rfl hZ
  · exact go (.ref t) rfl hZ
theorem m_ilt {i : Int32} {n : Nat} (hn : n < 2 ^ 31) (h0 : ¬ i < 0) (h : i.toNatClampNeg < n) : i < Int32.ofNat n := by
  rw [Int32.lt_iff_toInt_lt, toInt_of rfl hn]
  have h1 : (0 : Int) ≤ i.toInt := by
    have := Int32.not_lt.mp h0
    simpa using Int32.le_iff_toInt_le.mp this
  have h2 : i.toNatClampNeg = i.toInt.toNat := rfl
  omega
def m_ch (k i : Nat) : Int32 := (m_sByt.getD k []).getD i 0
theorem m_chb : ∀ k, k < 11 → ∀ i, i < m_sLen.getD k 0 → ((m_ch k i &&& 255).toUInt32 % 65536).toInt32 = m_ch k i := by decide +kernel
theorem m_chn : ∀ k, k < 11 → ∀ i, i < m_sLen.getD k 0 → narrow .char (.int (m_ch k i)) = .int (m_ch k i) := by decide +kernel
theorem m_sln : ∀ k, k < 11 → m_sLen.getD k 0 < 2 ^ 31 := by decide +kernel
theorem m_jlc {k : Nat} {i : Int32} (hk : k < 11) (h1 : ¬ i < 0) (h2 : i.toNatClampNeg < m_sLen.getD k 0) : Met l mYlc (Cond.code mYlc prog_22_method_2_code 2 (some .char) :: m_tb) (m_rmJ 2) (m_JP ad A [.ref (ad (m_scr + 101 + k)), .int i]) (QcRead (m_ch k i.toNatClampNeg)) 0 0 (fun _ => False) := by
  refine Met.ofW (by decide) rfl ?_
  intro p e s m args below meth c s₁ B hml hp
  obtain ⟨rfl, hE⟩ := hp
  have hts : ∀ w ∈ m_tb, w.before _ s = true := fun w hw => atoms_spec (ws := Cond.code mYlc prog_22_method_2_code 2 (some .char) :: m_tb) B.pre w (List.mem_cons_of_mem _ hw)
  have hown := findClass_of_methodNamed B.named
  obtain ⟨-, -, -, hT⟩ := hE.1.1 k hk
  rw [lg_entry_eq]
  have hl := lv_entry [.ref (ad (m_scr + 101 + k)), .int i] (n := 2) (by simp [lg_sl, Value.category])
  generalize ((lg_sl [Value.ref (ad (m_scr + 101 + k)), .int i] ++ List.replicate (2 - (lg_sl [Value.ref (ad (m_scr + 101 + k)), .int i]).length) Slot.unset).toArray) = ls at hl ⊢
  refine lv_iload_n B.exec B.bytes (pc := 0) (k := 1) (by decide +kernel) rfl (lv_at hl 1 rfl) ?_
  refine lv_aload_n B.exec B.bytes (pc := 1) (k := 0) (by decide +kernel) rfl (lv_at hl 0 rfl) ?_
  refine va_tlen B.exec B.bytes (pc := 2) hT va_S.rf rfl (by decide +kernel) ?_
  have hr := W.runS (p := p) (e := e) (below := below) (meth := meth) (cells := 0) (slots := 0) (H := s.heap) (locs := []) (rest := []) (nL := 2) (g := F0 m 3 ls (.int (Int32.ofNat (m_sLen.getD k 0)) :: .int i :: [])) (R := m_rmJ 2) (own := "java/lang/StringLatin1") (index := 9) (As := [.int i, .int (Int32.ofNat (m_sLen.getD k 0))]) (n := 2) (bytes := prog_20_method_155_code) (maxL := 2) (ret := none)
    ⟨B.exec, B.bytes, hml, hown, hts⟩ (m_jsi (l := l) (ad := ad) (A := A) h1 (m_ilt (m_sln k hk) h1 h2)) ⟨callB_of 2 hts (m_jgood m_jw294) rfl rfl rfl (hts _ m_jw13) (hts _ m_jw292) ⟨by decide, by decide, by decide +kernel⟩ ⟨by decide, by decide⟩, hts _ m_jw293⟩
    ⟨m_JP_blind, fun U hU hW => ⟨rfl, hE.move hW (fun q _ _ => by rw [hU])⟩⟩ rfl rfl hl.1 rfl (lv_room (by decide)) (show decode prog_22_method_2_code 3 = _ by decide +kernel) ⟨by decide, by decide⟩
  refine m_calln hr ?_
  refine lv_aload_n B.exec B.bytes (pc := 6) (k := 0) (by decide +kernel) rfl (lv_at hl 0 rfl) ?_
  refine lv_iload_n B.exec B.bytes (pc := 7) (k := 1) (by decide +kernel) rfl (lv_at hl 1 rfl) ?_
  refine va_tb B.exec B.bytes (pc := 8) hT va_S.rf (fun z => z.elim h1 (fun z => absurd h2 (Nat.not_lt.mpr z))) (v := .int (m_ch k i.toNatClampNeg)) rfl (by decide +kernel) ?_
  refine lv_sipush B.exec B.bytes (pc := 9) (n := 255) (v := 255) (by decide +kernel) (by decide) ?_
  refine lv_iand B.exec B.bytes (pc := 12) (by decide +kernel) ?_
  refine lv_i2c B.exec B.bytes (pc := 13) (by decide +kernel) (m_chb k hk _ h2) ?_
  exact W.zret B.exec B.bytes B.returns (m_chn k hk _ h2) (fun t ht hw => ⟨rfl, ht⟩) (fun q h => nomatch h) (by decide +kernel) B.notSynchronized
theorem m_jil {k : Nat} (hk : k < 11) : Met l mYil (Cond.code mYil prog_20_method_154_code 1 (some .boolean) :: m_tb) (m_rmJ 0) (m_JP ad A [.ref (ad (m_scr + 1 + k))]) (QcRead 1) 0 0 (fun _ => False) := by
  refine Met.ofW (by decide) rfl ?_
  intro p e s m args below meth c s₁ B hml hp
  obtain ⟨rfl, hE⟩ := hp
  have hts : ∀ w ∈ m_tb, w.before _ s = true := fun w hw => atoms_spec (ws := Cond.code mYil prog_20_method_154_code 1 (some .boolean) :: m_tb) B.pre w (List.mem_cons_of_mem _ hw)
  have hown := findClass_of_methodNamed B.named
  obtain ⟨-, hco, -, -⟩ := hE.1.1 k hk
  rw [lg_entry_eq]
  have hl := lv_entry [.ref (ad (m_scr + 1 + k))] (n := 1) (by simp [lg_sl, Value.category])
  generalize ((lg_sl [Value.ref (ad (m_scr + 1 + k))] ++ List.replicate (1 - (lg_sl [Value.ref (ad (m_scr + 1 + k))]).length) Slot.unset).toArray) = ls at hl ⊢
  refine va_gets (ref := "java/lang/String") B.exec B.bytes (pc := 0) hE.2.1 va_S.rf hown (hts _ m_jw279) (fun _ h => h) (by decide +kernel) ?_
  refine lv_if_eq B.exec B.bytes (pc := 3) (off := 14) (tgt := 17) (by decide +kernel) rfl (fun h => absurd h (by decide)) (fun _ => ?_)
  refine lv_aload_n B.exec B.bytes (pc := 6) (k := 0) (by decide +kernel) rfl (lv_at hl 0 rfl) ?_
  refine vk_getf (ref := "java/lang/String") B.exec B.bytes (pc := 7) hco va_S.rf hown (hts _ m_jw926) (fun _ h => h) (by decide +kernel) ?_
  refine lv_if_ne B.exec B.bytes (pc := 10) (off := 7) (tgt := 17) (by decide +kernel) rfl (fun h => absurd rfl h) (fun _ => ?_)
  refine lv_iconst B.exec B.bytes (pc := 13) (n := 1) (v := 1) (by decide +kernel) (by decide) ?_
  refine lv_goto B.exec B.bytes (pc := 14) (off := 4) (tgt := 18) (by decide +kernel) rfl ?_
  exact W.zret B.exec B.bytes B.returns (by decide) (fun t ht hw => ⟨rfl, ht⟩) (fun q h => nomatch h) (by decide +kernel) B.notSynchronized
theorem m_jco {k : Nat} (hk : k < 11) : Met l mYco (Cond.code mYco prog_20_method_152_code 1 (some .byte) :: m_tb) (m_rmJ 0) (m_JP ad A [.ref (ad (m_scr + 1 + k))]) (QcRead 0) 0 0 (fun _ => False) := by
  refine Met.ofW (by decide) rfl ?_
  intro p e s m args below meth c s₁ B hml hp
  obtain ⟨rfl, hE⟩ := hp
  have hts : ∀ w ∈ m_tb, w.before _ s = true := fun w hw => atoms_spec (ws := Cond.code mYco prog_20_method_152_code 1 (some .byte) :: m_tb) B.pre w (List.mem_cons_of_mem _ hw)
  have hown := findClass_of_methodNamed B.named
  obtain ⟨-, hco, -, -⟩ := hE.1.1 k hk
  rw [lg_entry_eq]
  have hl := lv_entry [.ref (ad (m_scr + 1 + k))] (n := 1) (by simp [lg_sl, Value.category])
  generalize ((lg_sl [Value.ref (ad (m_scr + 1 + k))] ++ List.replicate (1 - (lg_sl [Value.ref (ad (m_scr + 1 + k))]).length) Slot.unset).toArray) = ls at hl ⊢
  refine va_gets (ref := "java/lang/String") B.exec B.bytes (pc := 0) hE.2.1 va_S.rf hown (hts _ m_jw279) (fun _ h => h) (by decide +kernel) ?_
  refine lv_if_eq B.exec B.bytes (pc := 3) (off := 10) (tgt := 13) (by decide +kernel) rfl (fun h => absurd h (by decide)) (fun _ => ?_)
  refine lv_aload_n B.exec B.bytes (pc := 6) (k := 0) (by decide +kernel) rfl (lv_at hl 0 rfl) ?_
  refine vk_getf (ref := "java/lang/String") B.exec B.bytes (pc := 7) hco va_S.rf hown (hts _ m_jw926) (fun _ h => h) (by decide +kernel) ?_
  refine lv_goto B.exec B.bytes (pc := 10) (off := 4) (tgt := 14) (by decide +kernel) rfl ?_
  exact W.zret B.exec B.bytes B.returns (by decide) (fun t ht hw => ⟨rfl, ht⟩) (fun q h => nomatch h) (by decide +kernel) B.notSynchronized
theorem m_jwsV {own C : String} {idx : Nat} {y : MethodName} {w : Cond} (h1 : Cond.methodLink own idx y ∈ m_tb) (h2 : Cond.instanceMethod y ∈ m_tb) (h3 : Cond.selects C y y ∈ m_tb) (h4 : Cond.initialized C ∈ m_tb) (h5 : w ∈ m_tb) : GoodIn m_tb (wsV own idx C y (w :: m_tb)) := by
  intro x hx
  refine m_tb_good x ?_
  unfold wsV at hx
  simp only [List.cons_append, List.nil_append, List.mem_cons] at hx
  rcases hx with rfl | rfl | rfl | rfl | rfl | hx
  · exact h1
  · exact h2
  · exact h3
  · exact h4
  · exact h5
  · exact hx
theorem m_jrecv {k : Nat} {s : State} (hk : k < 11) (hE : m_ES ad A s) : ∃ cell : Cell, s.heap[ad (m_scr + 1 + k)]? = some cell ∧ cell.vm.isStatics = false ∧ s.vm.findClass "java/lang/String" = some cell.cls := vk_recv (adK := fun i => ad (m_scr + 1 + i)) (i := k) hE.1 hk va_S.rf
theorem m_jle {k : Nat} (hk : k < 11) : Met l mYle (Cond.code mYle prog_20_method_54_code 1 (some .int) :: m_tb) (m_rmJ 1) (m_JP ad A [.ref (ad (m_scr + 1 + k))]) (QcRead (Int32.ofNat (m_sLen.getD k 0))) 0 0 (fun _ => False) := by
  refine Met.ofW (by decide) rfl ?_
  intro p e s m args below meth c s₁ B hml hp
  obtain ⟨rfl, hE⟩ := hp
  have hts : ∀ w ∈ m_tb, w.before _ s = true := fun w hw => atoms_spec (ws := Cond.code mYle prog_20_method_54_code 1 (some .int) :: m_tb) B.pre w (List.mem_cons_of_mem _ hw)
  have hown := findClass_of_methodNamed B.named
  obtain ⟨-, -, hva, hT⟩ := hE.1.1 k hk
  rw [lg_entry_eq]
  have hl := lv_entry [.ref (ad (m_scr + 1 + k))] (n := 1) (by simp [lg_sl, Value.category])
  generalize ((lg_sl [Value.ref (ad (m_scr + 1 + k))] ++ List.replicate (1 - (lg_sl [Value.ref (ad (m_scr + 1 + k))]).length) Slot.unset).toArray) = ls at hl ⊢
  refine lv_aload_n B.exec B.bytes (pc := 0) (k := 0) (by decide +kernel) rfl (lv_at hl 0 rfl) ?_
  refine vk_getf (ref := "java/lang/String") B.exec B.bytes (pc := 1) hva va_S.rf hown (hts _ m_jw925) (fun _ h => h) (by decide +kernel) ?_
  refine va_tlen B.exec B.bytes (pc := 4) hT va_S.rf rfl (by decide +kernel) ?_
  refine lv_aload_n B.exec B.bytes (pc := 5) (k := 0) (by decide +kernel) rfl (lv_at hl 0 rfl) ?_
  have hr := W.runV (p := p) (e := e) (below := below) (meth := meth) (cells := 0) (slots := 0) (H := s.heap) (locs := []) (rest := [.int (Int32.ofNat (m_sLen.getD k 0))]) (nL := 1) (g := F0 m 6 ls (.ref (ad (m_scr + 1 + k)) :: .int (Int32.ofNat (m_sLen.getD k 0)) :: [])) (R := m_rmJ 1) (own := "java/lang/String") (C := "java/lang/String") (index := 335) (As := []) (b := ad (m_scr + 1 + k)) (n := 0) (bytes := prog_20_method_152_code) (maxL := 1) (ret := some .byte)
    ⟨B.exec, B.bytes, hml, hown, hts⟩ (m_jco (l := l) (ad := ad) (A := A) hk) (cwV 0 hts (m_jwsV m_jw275 m_jw276 m_jw277 m_jw13 m_jw278) rfl rfl rfl ⟨rfl, by decide, by decide, by decide +kernel⟩ ⟨by decide, by decide⟩)
    ⟨m_JP_blind, m_jrecv hk hE, fun U hU hW => ⟨rfl, hE.move hW (fun q _ _ => by rw [hU])⟩⟩ rfl rfl hl.1 rfl (lv_room (show 1 ≤ 8 by decide)) (show decode prog_20_method_54_code 6 = _ by decide +kernel) ⟨by decide, by decide⟩
  refine W.callR hr ?_
  refine lv_ishr B.exec B.bytes (pc := 9) (by decide +kernel) ?_
  have e0 : Int32.ofNat (m_sLen.getD k 0) >>> ((0 : Int32) &&& 31) = Int32.ofNat (m_sLen.getD k 0) := (by decide +kernel : ∀ k, k < 11 → Int32.ofNat (m_sLen.getD k 0) >>> ((0 : Int32) &&& 31) = Int32.ofNat (m_sLen.getD k 0)) k hk
  rw [e0]
  exact W.iret B.exec B.bytes B.returns (fun t ht hw => ⟨rfl, ht⟩) (fun q h => nomatch h) (by decide +kernel) B.notSynchronized
theorem m_jca {k : Nat} {i : Int32} (hk : k < 11) (h1 : ¬ i < 0) (h2 : i.toNatClampNeg < m_sLen.getD k 0) : Met l mYca (Cond.code mYca prog_20_method_56_code 2 (some .char) :: m_tb) (m_rmJ 3) (m_JP ad A [.ref (ad (m_scr + 1 + k)), .int i]) (QcRead (m_ch k i.toNatClampNeg)) 0 0 (fun _ => False) := by
  refine Met.ofW (by decide) rfl ?_
  intro p e s m args below meth c s₁ B hml hp
  obtain ⟨rfl, hE⟩ := hp
  have hts : ∀ w ∈ m_tb, w.before _ s = true := fun w hw => atoms_spec (ws := Cond.code mYca prog_20_method_56_code 2 (some .char) :: m_tb) B.pre w (List.mem_cons_of_mem _ hw)
  have hown := findClass_of_methodNamed B.named
  obtain ⟨-, -, hva, hT⟩ := hE.1.1 k hk
  rw [lg_entry_eq]
  have hl := lv_entry [.ref (ad (m_scr + 1 + k)), .int i] (n := 2) (by simp [lg_sl, Value.category])
  generalize ((lg_sl [Value.ref (ad (m_scr + 1 + k)), .int i] ++ List.replicate (2 - (lg_sl [Value.ref (ad (m_scr + 1 + k)), .int i]).length) Slot.unset).toArray) = ls at hl ⊢
  refine lv_aload_n B.exec B.bytes (pc := 0) (k := 0) (by decide +kernel) rfl (lv_at hl 0 rfl) ?_
  have hr := W.runV (p := p) (e := e) (below := below) (meth := meth) (cells := 0) (slots := 0) (H := s.heap) (locs := []) (rest := []) (nL := 2) (g := F0 m 1 ls (.ref (ad (m_scr + 1 + k)) :: [])) (R := m_rmJ 3) (own := "java/lang/String") (C := "java/lang/String") (index := 492) (As := []) (b := ad (m_scr + 1 + k)) (n := 0) (bytes := prog_20_method_154_code) (maxL := 1) (ret := some .boolean)
    ⟨B.exec, B.bytes, hml, hown, hts⟩ (m_jil (l := l) (ad := ad) (A := A) hk) (cwV 0 hts (m_jwsV m_jw285 m_jw286 m_jw287 m_jw13 m_jw288) rfl rfl rfl ⟨rfl, by decide, by decide, by decide +kernel⟩ ⟨by decide, by decide⟩)
    ⟨m_JP_blind, m_jrecv hk hE, fun U hU hW => ⟨rfl, hE.move hW (fun q _ _ => by rw [hU])⟩⟩ rfl rfl hl.1 rfl (lv_room (by decide)) (show decode prog_20_method_56_code 1 = _ by decide +kernel) ⟨by decide, by decide⟩
  refine W.callR hr ?_
  refine lv_if_eq B.exec B.bytes (pc := 4) (off := 12) (tgt := 16) (by decide +kernel) rfl (fun h => absurd h (by decide)) (fun _ => ?_)
  refine lv_aload_n B.exec B.bytes (pc := 7) (k := 0) (by decide +kernel) rfl (lv_at hl 0 rfl) ?_
  refine vk_getf (ref := "java/lang/String") B.exec B.bytes (pc := 8) hva va_S.rf hown (hts _ m_jw925) (fun _ h => h) (by decide +kernel) ?_
  refine lv_iload_n B.exec B.bytes (pc := 11) (k := 1) (by decide +kernel) rfl (lv_at hl 1 rfl) ?_
  have hr2 := W.runS (p := p) (e := e) (below := below) (meth := meth) (cells := 0) (slots := 0) (H := s.heap) (locs := []) (rest := []) (nL := 2) (g := F0 m 12 ls (.int i :: .ref (ad (m_scr + 101 + k)) :: [])) (R := m_rmJ 3) (own := "java/lang/String") (index := 495) (As := [.ref (ad (m_scr + 101 + k)), .int i]) (n := 2) (bytes := prog_22_method_2_code) (maxL := 2) (ret := some .char)
    ⟨B.exec, B.bytes, hml, hown, hts⟩ (m_jlc (l := l) (ad := ad) (A := A) hk h1 h2) ⟨callB_of 2 hts (m_jgood m_jw291) rfl rfl rfl (hts _ m_jw14) (hts _ m_jw289) ⟨by decide, by decide, by decide +kernel⟩ ⟨by decide, by decide⟩, hts _ m_jw290⟩
    ⟨m_JP_blind, fun U hU hW => ⟨rfl, hE.move hW (fun q _ _ => by rw [hU])⟩⟩ rfl rfl hl.1 rfl (lv_room (by decide)) (show decode prog_20_method_56_code 12 = _ by decide +kernel) ⟨by decide, by decide⟩
  refine W.callR hr2 ?_
  exact W.zret B.exec B.bytes B.returns (m_chn k hk _ h2) (fun t ht hw => ⟨rfl, ht⟩) (fun q h => nomatch h) (show decode prog_20_method_56_code 15 = _ by decide +kernel) B.notSynchronized
end Jdk
/-! the rules of the four callees -/
def m_prL : List (Nat × Nat × Nat) := [(1, 31, 1000), (3, 35, 1000), (4, 79, 1001), (4, 113, 1002), (4, 118, 1003)]
def m_prok (M : mM) (q : mI) : Bool := match q.2.1 with
  | .invokestatic idx => decide (q.2.2.2.1 < 1000) || (m_prL.contains (m_own M, idx, q.2.2.2.1) && decide (q.2.2.2.1 ≤ 1001))
  | .invokevirtual idx => decide (q.2.2.2.1 < 1000) || (m_prL.contains (m_own M, idx, q.2.2.2.1) && decide (1002 ≤ q.2.2.2.1))
  | _ => true
theorem m_pr_ok : m_prog.all (fun M => (m_cd M).all (m_prok M)) = true := by decide +kernel
def m_R8 (P : mP) : Prop := ∀ (d k j pc idx q0 q1 n0 n1 : Nat) (lv : mL) (st : List Value) (h : mH) (f g : Nat → Int32) (sp dp n : Int32) (o : mO) (h' : mH) (q : mI), m_at j pc = some q → q.2.1 = .invokestatic idx → q.2.2.2.1 = 1000 → h[q0]? = some (.inl (n0, f)) → h[q1]? = some (.inl (n1, g)) →
  ¬ sp < 0 → ¬ dp < 0 → ¬ n < 0 → sp.toNatClampNeg + n.toNatClampNeg ≤ n0 → dp.toNatClampNeg + n.toNatClampNeg ≤ n1 → m_ctg st ≤ 8 → P d k j (pc + 3) lv st (h.set q1 (.inl (n1, va_cpy f g sp.toNatClampNeg dp.toNatClampNeg n.toNatClampNeg))) o h' →
  P d k j pc lv (.int n :: .int dp :: .ref q1 :: .int sp :: .ref q0 :: st) h o h'
def m_R9 (P : mP) : Prop := ∀ (d k j pc idx : Nat) (lv : mL) (st : List Value) (h : mH) (x y : Int64) (o : mO) (h' : mH) (q : mI), m_at j pc = some q → q.2.1 = .invokestatic idx → q.2.2.2.1 = 1001 → m_ctg st ≤ 8 → P d k j (pc + 3) lv (.long (if y < x then y else x) :: st) h o h' → P d k j pc lv (.long y :: .long x :: st) h o h'
def m_R10 (P : mP) : Prop := ∀ (d k j pc idx n : Nat) (lv : mL) (st : List Value) (h : mH) (o : mO) (h' : mH) (q : mI), m_at j pc = some q → q.2.1 = .invokevirtual idx → q.2.2.2.1 = 1002 → n < 11 → m_ctg st ≤ 8 → P d k j (pc + 3) lv (.int (Int32.ofNat (m_sLen.getD n 0)) :: st) h o h' → P d k j pc lv (.ref (m_scr + 1 + n) :: st) h o h'
def m_R11 (P : mP) : Prop := ∀ (d k j pc idx n : Nat) (i : Int32) (lv : mL) (st : List Value) (h : mH) (o : mO) (h' : mH) (q : mI), m_at j pc = some q → q.2.1 = .invokevirtual idx → q.2.2.2.1 = 1003 → n < 11 → ¬ i < 0 → i.toNatClampNeg < m_sLen.getD n 0 → m_ctg st ≤ 8 → P d k j (pc + 3) lv (.int (m_ch n i.toNatClampNeg) :: st) h o h' → P d k j pc lv (.int i :: .ref (m_scr + 1 + n) :: st) h o h'
theorem m_prow {j pc idx : Nat} {M : mM} {q : mI} (hM : m_prog[j]? = some M) (hq : m_at j pc = some q) (hi : q.2.1 = .invokestatic idx ∨ q.2.1 = .invokevirtual idx) (ha : 1000 ≤ q.2.2.2.1) : decode (m_by M) pc = .ok (q.2.1, 3) ∧ (m_own M, idx, q.2.2.2.1) ∈ m_prL := by
  obtain ⟨M2, hM2, hqm, rfl⟩ := m_at_inv hq
  have e02 : M = M2 := Option.some.inj (hM.symm.trans hM2)
  rw [← e02] at hqm
  obtain ⟨hd, -, hln, -⟩ := m_row hM hqm
  have hp := List.all_eq_true.mp (List.all_eq_true.mp m_pr_ok M (List.mem_of_getElem? hM)) q hqm
  unfold m_prok at hp
  rcases hi with hi | hi
  · rw [hi] at hp
    simp only [Bool.or_eq_true, decide_eq_true_eq, Bool.and_eq_true, List.contains_iff_mem] at hp
    exact ⟨m_row_ln (n := 2) hln (by rw [hi]; rfl) hd, (hp.elim (fun z => absurd z (by omega)) id).1⟩
  · rw [hi] at hp
    simp only [Bool.or_eq_true, decide_eq_true_eq, Bool.and_eq_true, List.contains_iff_mem] at hp
    exact ⟨m_row_ln (n := 2) hln (by rw [hi]; rfl) hd, (hp.elim (fun z => absurd z (by omega)) id).1⟩
theorem m_pr_cases {own idx a : Nat} (h : (own, idx, a) ∈ m_prL) : (own = 1 ∧ idx = 31 ∧ a = 1000) ∨ (own = 3 ∧ idx = 35 ∧ a = 1000) ∨ (own = 4 ∧ idx = 79 ∧ a = 1001) ∨ (own = 4 ∧ idx = 113 ∧ a = 1002) ∨ (own = 4 ∧ idx = 118 ∧ a = 1003) := by
  simpa [m_prL] using h
section Rules3
variable {l : Launch} {D : va_G} {ad : Nat → Nat} {cI cJ : ClassId} {A : Nat → Prop} {X : Nat × (Nat → Int32)}
theorem m_cat8 {ad : Nat → Nat} {st : List Value} (h : m_ctg st ≤ 8) : (List.map (fun v => v.category) (st.map (m_V ad))).sum ≤ 8 := by
  have := m_ctg_V ad st
  unfold m_ctg at this h
  rw [this]; exact h
theorem m_nfw : nativeFrameWords "java/lang/System" "arraycopy" 5 + 11 ≤ 100 := by decide +kernel
theorem m_sp8 : m_R8 (m_SP D ad cI cJ A l X) := by
  intro d k j pc idx q0 q1 n0 n1 lv st h f g sp dp n o h' q hq hi ha h0 h1 z1 z2 z3 z4 z5 hst IH p e R s m args below meth c H locs cells slots ls M mc ms hM hx hb hml htab hlk hret hown hts hE hf hlo hmc hms hc1 hc2 hPw hD hS hl
  obtain ⟨hd, hmem⟩ := m_prow hM hq (Or.inl hi) (by omega)
  rw [hi] at hd
  obtain ⟨-, -, -, ho, -, -⟩ := m_fact_of hM
  have hlink : Cond.methodLink (m_y M).cls idx arraycopyName ∈ m_tb := by
    rcases m_pr_cases hmem with ⟨e1, e2, -⟩ | ⟨e1, e2, -⟩ | ⟨-, -, e3⟩ | ⟨-, -, e3⟩ | ⟨-, -, e3⟩
    · rw [e1] at ho; rw [← Option.some.inj ho, e2]; exact m_jw580
    · rw [e1] at ho; rw [← Option.some.inj ho, e2]; exact m_jw695
    · omega
    · omega
    · omega
  have h8 := m_cat8 (ad := ad) hst
  have hn := m_nfw
  refine va_copyi hx hb (by rw [hml]; exact hl.1.symm) hown (hts _ hlink) (hts _ m_jw582) (hts _ m_jw581) (hts _ m_jw19) hE.1 hPw hD hS q0 q1 0 0 (m_W_at h0) (m_W_at h1) rfl rfl rfl z1 z2 z3 z4 z5 (fun _ _ => rfl) (by omega) (by omega) hd (fun H1 locs1 g1 g2 g3 => ?_)
  refine IH p e R s m args below meth c H1 locs1 cells slots ls M mc ms hM hx hb hml htab hlk hret hown hts hE hf hlo hmc hms hc1 hc2 ?_ ?_ g3 hl
  · rw [m_W_set]; exact g1
  · rw [m_W_set]; exact g2
theorem m_sp9 : m_R9 (m_SP D ad cI cJ A l X) := by
  intro d k j pc idx lv st h x y o h' q hq hi ha hst IH p e R s m args below meth c H locs cells slots ls M mc ms hM hx hb hml htab hlk hret hown hts hE hf hlo hmc hms hc1 hc2 hPw hD hS hl
  obtain ⟨hd, hmem⟩ := m_prow hM hq (Or.inl hi) (by omega)
  rw [hi] at hd
  obtain ⟨-, -, -, ho, -, -⟩ := m_fact_of hM
  have hlink : Cond.methodLink (m_y M).cls idx Lib.MathLoose.min_long.x ∈ m_tb := by
    rcases m_pr_cases hmem with ⟨-, -, e3⟩ | ⟨-, -, e3⟩ | ⟨e1, e2, -⟩ | ⟨-, -, e3⟩ | ⟨-, -, e3⟩
    · omega
    · omega
    · rw [e1] at ho; rw [← Option.some.inj ho, e2]; exact m_jw335
    · omega
    · omega
  have h8 := m_cat8 (ad := ad) hst
  exact va_mmin_long hx hb (by rw [hml]; exact hl.1.symm) hown (hts _ hlink) (hts _ m_jw336) (hts _ m_jw17) (hts _ m_jw337) (by omega) (by omega) (by omega) (by omega) hd
    (IH p e R s m args below meth c H locs cells slots ls M mc ms hM hx hb hml htab hlk hret hown hts hE hf hlo hmc hms hc1 hc2 hPw hD hS hl)
theorem m_recvH {n : Nat} {s : State} {H : Heap} {locs : List Loc} (hn : n < 11) (hE : m_ES ad A s) (hS : va_S A s.heap H locs) : ∃ cell : Cell, H[ad (m_scr + 1 + n)]? = some cell ∧ cell.vm.isStatics = false ∧ s.vm.findClass "java/lang/String" = some cell.cls := vk_recv (adK := fun i => ad (m_scr + 1 + i)) (i := n) hE.1 hn hS
theorem m_sp10 : m_R10 (m_SP D ad cI cJ A l X) := by
  intro d k j pc idx n lv st h o h' q hq hi ha hn hst IH p e R s m args below meth c H locs cells slots ls M mc ms hM hx hb hml htab hlk hret hown hts hE hf hlo hmc hms hc1 hc2 hPw hD hS hl
  obtain ⟨hd, hmem⟩ := m_prow hM hq (Or.inr hi) (by omega)
  rw [hi] at hd
  obtain ⟨-, -, -, ho, -, -⟩ := m_fact_of hM
  have hlink : (m_y M).cls = "GasContract$Tokens" ∧ idx = 113 := by
    rcases m_pr_cases hmem with ⟨-, -, e3⟩ | ⟨-, -, e3⟩ | ⟨-, -, e3⟩ | ⟨e1, e2, -⟩ | ⟨-, -, e3⟩
    · omega
    · omega
    · omega
    · rw [e1] at ho; exact ⟨(Option.some.inj ho).symm, e2⟩
    · omega
  rw [hlink.1] at hown
  rw [hlink.2] at hd
  have hES : m_ES ad A s := hE.2.2.2.2.2.2.2.2.2
  have hr := W.runV (p := p) (e := e) (below := below) (meth := meth) (cells := cells) (slots := slots) (H := H) (locs := locs) (rest := st.map (m_V ad)) (nL := m_mL M) (g := F0 m pc ls (.ref (ad (m_scr + 1 + n)) :: st.map (m_V ad))) (R := R) (own := "GasContract$Tokens") (C := "java/lang/String") (index := 113) (As := []) (b := ad (m_scr + 1 + n)) (n := 0) (bytes := prog_20_method_54_code) (maxL := 1) (ret := some .int)
    ⟨hx, hb, hml, hown, hts⟩ (m_jle (l := l) (ad := ad) (A := A) hn) (cwV 0 hts (m_jwsV m_jw271 m_jw272 m_jw273 m_jw13 m_jw274) rfl rfl rfl ⟨rfl, by decide, by decide, by decide +kernel⟩ ⟨by show 1 + 1 ≤ _; omega, by show 8 + (1 + 11) + 30 * 1 ≤ _; omega⟩)
    ⟨m_JP_blind, m_recvH hn hES hS, fun U hU hW => ⟨rfl, hES.move hW (fun q h1 h2 => by rw [hU]; exact hS.2.1 q h1 h2)⟩⟩ rfl rfl hl.1 rfl (lv_room (m_cat8 hst)) hd ⟨by omega, by omega⟩
  refine W.callR hr ?_
  exact IH p e R s m args below meth c H locs cells slots ls M mc ms hM hx hb hml htab hlk hret (by rw [hlink.1]; exact hown) hts hE hf hlo hmc hms hc1 hc2 hPw hD hS hl
theorem m_sp11 : m_R11 (m_SP D ad cI cJ A l X) := by
  intro d k j pc idx n i lv st h o h' q hq hi ha hn h1 h2 hst IH p e R s m args below meth c H locs cells slots ls M mc ms hM hx hb hml htab hlk hret hown hts hE hf hlo hmc hms hc1 hc2 hPw hD hS hl
  obtain ⟨hd, hmem⟩ := m_prow hM hq (Or.inr hi) (by omega)
  rw [hi] at hd
  obtain ⟨-, -, -, ho, -, -⟩ := m_fact_of hM
  have hlink : (m_y M).cls = "GasContract$Tokens" ∧ idx = 118 := by
    rcases m_pr_cases hmem with ⟨-, -, e3⟩ | ⟨-, -, e3⟩ | ⟨-, -, e3⟩ | ⟨-, -, e3⟩ | ⟨e1, e2, -⟩
    · omega
    · omega
    · omega
    · omega
    · rw [e1] at ho; exact ⟨(Option.some.inj ho).symm, e2⟩
  rw [hlink.1] at hown
  rw [hlink.2] at hd
  have hES : m_ES ad A s := hE.2.2.2.2.2.2.2.2.2
  have hr := W.runV (p := p) (e := e) (below := below) (meth := meth) (cells := cells) (slots := slots) (H := H) (locs := locs) (rest := st.map (m_V ad)) (nL := m_mL M) (g := F0 m pc ls (.int i :: .ref (ad (m_scr + 1 + n)) :: st.map (m_V ad))) (R := R) (own := "GasContract$Tokens") (C := "java/lang/String") (index := 118) (As := [.int i]) (b := ad (m_scr + 1 + n)) (n := 1) (bytes := prog_20_method_56_code) (maxL := 2) (ret := some .char)
    ⟨hx, hb, hml, hown, hts⟩ (m_jca (l := l) (ad := ad) (A := A) hn h1 h2) (cwV 1 hts (m_jwsV m_jw281 m_jw282 m_jw283 m_jw13 m_jw284) rfl rfl rfl ⟨rfl, by decide, by decide, by decide +kernel⟩ ⟨by show 3 + 1 ≤ _; omega, by show 8 + (2 + 11) + 30 * 3 ≤ _; omega⟩)
    ⟨m_JP_blind, m_recvH hn hES hS, fun U hU hW => ⟨rfl, hES.move hW (fun q h1 h2 => by rw [hU]; exact hS.2.1 q h1 h2)⟩⟩ rfl rfl hl.1 rfl (lv_room (m_cat8 hst)) hd ⟨by omega, by omega⟩
  refine W.callR hr ?_
  exact IH p e R s m args below meth c H locs cells slots ls M mc ms hM hx hb hml htab hlk hret (by rw [hlink.1]; exact hown) hts hE hf hlo hmc hms hc1 hc2 hPw hD hS hl
end Rules3
end
section
/-! the least relation under the rules, and that the real machine does what it says -/
def m_R12 (P : mP) : Prop := ∀ (d d' k k' j pc : Nat) (lv : mL) (st : List Value) (h : mH) (o : mO) (h' : mH), d ≤ d' → k ≤ k' → P d k j pc lv st h o h' → P d' k' j pc lv st h o h'
def m_Cl (X : Nat × (Nat → Int32)) (P : mP) : Prop := m_R0 P ∧ m_R1 X P ∧ m_R2 P ∧ m_R3 P ∧ m_R4 P ∧ m_R5 P ∧ m_R6 P ∧ m_R7 P ∧ m_R8 P ∧ m_R9 P ∧ m_R10 P ∧ m_R11 P ∧ m_R12 P
def m_Run (X : Nat × (Nat → Int32)) : mP := fun d k j pc lv st h o h' => ∀ P : mP, m_Cl X P → P d k j pc lv st h o h'
section Least
variable {l : Launch} {D : va_G} {ad : Nat → Nat} {cI cJ : ClassId} {A : Nat → Prop} {X : Nat × (Nat → Int32)}
theorem m_sp12 : m_R12 (m_SP D ad cI cJ A l X) := by
  intro d d' k k' j pc lv st h o h' h1 h2 IH p e R s m args below meth c H locs cells slots ls M mc ms hM hx hb hml htab hlk hret hown hts hE hf hlo hmc hms hc1 hc2 hPw hD hS hl
  exact IH p e R s m args below meth c H locs cells slots ls M mc ms hM hx hb hml htab hlk hret hown hts hE (by omega) (by omega) hmc hms (by omega) (by omega) hPw hD hS hl
theorem m_sim (hnt : l.stackTraces = false) {d k j pc : Nat} {lv : mL} {st : List Value} {h : mH} {o : mO} {h' : mH} (hr : m_Run X d k j pc lv st h o h') : m_SP D ad cI cJ A l X d k j pc lv st h o h' :=
  hr _ ⟨m_sp0, m_sp1, m_sp2, m_sp3, m_sp4 hnt, m_sp5, m_sp6, m_sp7, m_sp8, m_sp9, m_sp10, m_sp11, m_sp12⟩
theorem m_r0 : m_R0 (m_Run X) := fun d k j pc lv lv' st h o h' hs hr P hP => hP.1 d k j pc lv lv' st h o h' hs (hr P hP)
theorem m_r1 : m_R1 X (m_Run X) := fun d k j c r o h' hs hr P hP => hP.2.1 d k j c r o h' hs (hr P hP)
theorem m_r2 : m_R2 (m_Run X) := fun d k j pc lv v h M ty q h1 h2 h3 h4 h5 P hP => hP.2.2.1 d k j pc lv v h M ty q h1 h2 h3 h4 h5
theorem m_r3 : m_R3 (m_Run X) := fun d k j pc lv h M q h1 h2 h3 h4 P hP => hP.2.2.2.1 d k j pc lv h M q h1 h2 h3 h4
theorem m_r4 : m_R4 (m_Run X) := fun d k j pc ik lv st h M q h1 h2 h3 h4 h5 h6 P hP => hP.2.2.2.2.1 d k j pc ik lv st h M q h1 h2 h3 h4 h5 h6
theorem m_r5 : m_R5 (m_Run X) := fun d k1 k2 j pc lv st vs v h h1 h' o q a1 a2 a3 a4 r1 r2 P hP => hP.2.2.2.2.2.1 d k1 k2 j pc lv st vs v h h1 h' o q a1 a2 a3 a4 (r1 P hP) (r2 P hP)
theorem m_r6 : m_R6 (m_Run X) := fun d k j pc lv st vs h h1 x M q a1 a2 a3 a4 a5 a6 r P hP => hP.2.2.2.2.2.2.1 d k j pc lv st vs h h1 x M q a1 a2 a3 a4 a5 a6 (r P hP)
theorem m_r7 : m_R7 (m_Run X) := fun d k1 k2 j pc hp i lv st vs h h1 h' x o M q r a1 a2 a3 a4 a5 a6 a7 a8 a9 r1 r2 P hP => hP.2.2.2.2.2.2.2.1 d k1 k2 j pc hp i lv st vs h h1 h' x o M q r a1 a2 a3 a4 a5 a6 a7 a8 a9 (r1 P hP) (r2 P hP)
theorem m_r8 : m_R8 (m_Run X) := fun d k j pc idx q0 q1 n0 n1 lv st h f g sp dp n o h' q a1 a2 a3 a4 a5 a6 a7 a8 a9 a10 a11 r P hP => hP.2.2.2.2.2.2.2.2.1 d k j pc idx q0 q1 n0 n1 lv st h f g sp dp n o h' q a1 a2 a3 a4 a5 a6 a7 a8 a9 a10 a11 (r P hP)
theorem m_r9 : m_R9 (m_Run X) := fun d k j pc idx lv st h x y o h' q a1 a2 a3 a4 r P hP => hP.2.2.2.2.2.2.2.2.2.1 d k j pc idx lv st h x y o h' q a1 a2 a3 a4 (r P hP)
theorem m_r10 : m_R10 (m_Run X) := fun d k j pc idx n lv st h o h' q a1 a2 a3 a4 a5 r P hP => hP.2.2.2.2.2.2.2.2.2.2.1 d k j pc idx n lv st h o h' q a1 a2 a3 a4 a5 (r P hP)
theorem m_r11 : m_R11 (m_Run X) := fun d k j pc idx n i lv st h o h' q a1 a2 a3 a4 a5 a6 a7 r P hP => hP.2.2.2.2.2.2.2.2.2.2.2.1 d k j pc idx n i lv st h o h' q a1 a2 a3 a4 a5 a6 a7 (r P hP)
theorem m_r12 : m_R12 (m_Run X) := fun d d' k k' j pc lv st h o h' h1 h2 r P hP => hP.2.2.2.2.2.2.2.2.2.2.2.2 d d' k k' j pc lv st h o h' h1 h2 (r P hP)
/-- a stretch of rows -/
def m_xs (X : Nat × (Nat → Int32)) : List mI → mS → Option mS
  | [], c => some c
  | q :: t, c => if q.1 = c.1 then m_opt (m_loc m_ft X q.2.1 q.2.2.2.1 q.2.2.2.2 c.1 c.2.1 c.2.2.1 c.2.2.2) (m_xs X t) else none
theorem m_go {L : List mI} {d k j pc pc1 : Nat} {lv lv1 : mL} {st st1 : List Value} {h h1 h' : mH} {o : mO} (hL : L.all (fun q => decide (m_at j q.1 = some q)) = true) (hx : m_xs X L (pc, lv, st, h) = some (pc1, lv1, st1, h1)) (hk : m_Run X d k j pc1 lv1 st1 h1 o h') : m_Run X d k j pc lv st h o h' := by
  induction L generalizing pc lv st h with
  | nil => cases hx; exact hk
  | cons q t ih =>
    have hL2 := List.all_eq_true.mp hL
    obtain ⟨e1, hx⟩ := m_if_inv hx
    obtain ⟨r, e2, hx⟩ := m_opt_inv hx
    obtain ⟨pc2, lv2, st2, h2⟩ := r
    have e3 : m_at j q.1 = some q := of_decide_eq_true (hL2 q List.mem_cons_self)
    dsimp only at e1
    refine m_r1 d k j (pc, lv, st, h) (pc2, lv2, st2, h2) o h' ?_ (ih (List.all_eq_true.mpr (fun z hz => hL2 z (List.mem_cons_of_mem _ hz))) hx)
    show m_opt (m_at j pc) _ = _
    rw [← e1, e3]
    rw [e1]
    exact e2
theorem m_gob {L : List mI} {c : Prop} [Decidable c] {d k j pc t f : Nat} {lv lv1 : mL} {st st1 : List Value} {h h1 h' : mH} {o : mO} (hL : L.all (fun q => decide (m_at j q.1 = some q)) = true) (hx : m_xs X L (pc, lv, st, h) = some (if c then t else f, lv1, st1, h1)) (kt : c → m_Run X d k j t lv1 st1 h1 o h') (kf : ¬ c → m_Run X d k j f lv1 st1 h1 o h') : m_Run X d k j pc lv st h o h' := by
  by_cases hc : c
  · rw [if_pos hc] at hx
    exact m_go hL hx (kt hc)
  · rw [if_neg hc] at hx
    exact m_go hL hx (kf hc)
theorem m_go1 {q : mI} {d k j pc pc1 : Nat} {lv lv1 : mL} {st st1 : List Value} {h h1 h' : mH} {o : mO} (hL : m_at j pc = some q) (hx : m_loc m_ft X q.2.1 q.2.2.2.1 q.2.2.2.2 pc lv st h = some (pc1, lv1, st1, h1)) (hk : m_Run X d k j pc1 lv1 st1 h1 o h') : m_Run X d k j pc lv st h o h' := by
  refine m_r1 d k j (pc, lv, st, h) (pc1, lv1, st1, h1) o h' ?_ hk
  show m_opt (m_at j pc) _ = _
  rw [hL]
  exact hx
def m_rok (j pc : Nat) (ty : Option FieldType) : Bool := match m_prog[j]?, m_at j pc with
  | some M, some q => decide (m_ret M = ty) && (match ty, q.2.1 with
    | some _, .ireturn => true
    | none, .return_ => true
    | _, _ => false)
  | _, _ => false
theorem m_rok_inv {j pc : Nat} {ty : Option FieldType} (h : m_rok j pc ty = true) : ∃ M q, m_prog[j]? = some M ∧ m_at j pc = some q ∧ m_ret M = ty ∧ ((∃ t, ty = some t ∧ q.2.1 = .ireturn) ∨ (ty = none ∧ q.2.1 = .return_)) := by
  unfold m_rok at h
  split at h
  · rename_i M q h1 h2
    rw [Bool.and_eq_true, decide_eq_true_eq] at h
    refine ⟨M, q, h1, h2, h.1, ?_⟩
    have h3 := h.2
    split at h3
    · rename_i t _ hq; exact Or.inl ⟨_, rfl, hq⟩
    · rename_i hq; exact Or.inr ⟨rfl, hq⟩
    · cases h3
  · cases h
theorem m_ri {d k j pc : Nat} {lv : mL} {v : Int32} {h : mH} (hc : m_rok j pc (some .int) = true) : m_Run X d k j pc lv [.int v] h (.inl (some (.int v))) h := by
  obtain ⟨M, q, h1, h2, h3, ⟨t, -, h4⟩ | ⟨h4, -⟩⟩ := m_rok_inv hc
  · exact m_r2 d k j pc lv v h M .int q h1 h2 h4 h3 rfl
  · cases h4
theorem m_rz {d k j pc : Nat} {lv : mL} {v : Int32} {h : mH} (hc : m_rok j pc (some .boolean) = true) (hv : v = 0 ∨ v = 1) : m_Run X d k j pc lv [.int v] h (.inl (some (.int v))) h := by
  obtain ⟨M, q, h1, h2, h3, ⟨t, -, h4⟩ | ⟨h4, -⟩⟩ := m_rok_inv hc
  · exact m_r2 d k j pc lv v h M .boolean q h1 h2 h4 h3 (by rcases hv with rfl | rfl <;> decide)
  · cases h4
theorem m_rv {d k j pc : Nat} {lv : mL} {h : mH} (hc : m_rok j pc none = true) : m_Run X d k j pc lv [] h (.inl none) h := by
  obtain ⟨M, q, h1, h2, h3, ⟨t, h4, -⟩ | ⟨-, h4⟩⟩ := m_rok_inv hc
  · cases h4
  · exact m_r3 d k j pc lv h M q h1 h2 h4 h3
theorem m_ca {d d1 k j pc a : Nat} {lv : mL} {st vs : List Value} {v : Option Value} {h h1 h' : mH} {o : mO} {q : mI} (hq : m_at j pc = some q) (ha : q.2.2.2.1 = a) (hcal : m_cal h vs q = true) (hfit : m_fit a vs = true) (hst : Nat.ble (m_ctg st) 8 = true) (hd : d1 ≤ d)
    (r1 : m_Run X d1 0 a 0 (lv_args 0 vs) [] h (.inl v) h1) (r2 : m_Run X (d + 1) k j (pc + 3) lv (v.toList ++ st) h1 o h') : m_Run X (d + 1) k j pc lv (vs.reverse ++ st) h o h' := by
  subst ha
  have r := m_r5 d 0 k j pc lv st vs v h h1 h' o q hq hcal hfit (Nat.le_of_ble_eq_true hst) (m_r12 _ _ _ _ _ _ _ _ _ _ _ hd (Nat.le_refl 0) r1) r2
  rw [Nat.zero_add] at r
  exact r
theorem m_ca1 {d d1 j pc a : Nat} {lv : mL} {st vs : List Value} {v : Option Value} {h h1 h' : mH} {o : mO} {q : mI} (hq : m_at j pc = some q) (ha : q.2.2.2.1 = a) (hcal : m_cal h vs q = true) (hfit : m_fit a vs = true) (hst : Nat.ble (m_ctg st) 8 = true) (hd : d1 ≤ d)
    (r1 : m_Run X d1 1 a 0 (lv_args 0 vs) [] h (.inl v) h1) (r2 : m_Run X (d + 1) 0 j (pc + 3) lv (v.toList ++ st) h1 o h') : m_Run X (d + 1) 1 j pc lv (vs.reverse ++ st) h o h' := by
  subst ha
  exact m_r5 d 1 0 j pc lv st vs v h h1 h' o q hq hcal hfit (Nat.le_of_ble_eq_true hst) (m_r12 _ _ _ _ _ _ _ _ _ _ _ hd (Nat.le_refl 1) r1) r2
def m_noh (j : Nat) : Bool := match m_prog[j]? with
  | some M => (m_hh M).isEmpty
  | none => false
theorem m_noh_inv {j : Nat} (h : m_noh j = true) : ∃ M, m_prog[j]? = some M ∧ m_hh M = [] := by
  unfold m_noh at h
  split at h
  · rename_i M h1
    exact ⟨M, h1, List.isEmpty_iff.mp h⟩
  · cases h
theorem m_cx {d d1 j pc a x : Nat} {lv : mL} {st vs : List Value} {h h1 : mH} {q : mI} (hq : m_at j pc = some q) (hn : m_noh j = true) (ha : q.2.2.2.1 = a) (hcal : m_cal h vs q = true) (hfit : m_fit a vs = true) (hst : Nat.ble (m_ctg st) 8 = true) (hd : d1 ≤ d)
    (r1 : m_Run X d1 1 a 0 (lv_args 0 vs) [] h (.inr x) h1) : m_Run X (d + 1) 1 j pc lv (vs.reverse ++ st) h (.inr x) h1 := by
  subst ha
  obtain ⟨M, h1, h2⟩ := m_noh_inv hn
  exact m_r6 d 1 j pc lv st vs h _ x M q h1 h2 hq hcal hfit (Nat.le_of_ble_eq_true hst) (m_r12 _ _ _ _ _ _ _ _ _ _ _ hd (Nat.le_refl 1) r1)
def m_tok (j pc x : Nat) : Bool := match m_at j pc with
  | some q => decide (q.2.2.2.1 = x) && decide (x < 4) && (match q.2.1 with | .new _ => true | _ => false)
  | none => false
theorem m_th {d j pc x : Nat} {lv : mL} {st : List Value} {h : mH} (hc : m_tok j pc x = true) (hn : m_noh j = true) (hst : Nat.ble (m_ctg st) 8 = true) : m_Run X d 1 j pc lv st h (.inr x) h := by
  obtain ⟨M, h1, h2⟩ := m_noh_inv hn
  unfold m_tok at hc
  cases hq : m_at j pc with
  | none => rw [hq] at hc; cases hc
  | some q =>
    rw [hq] at hc
    simp only [Bool.and_eq_true, decide_eq_true_eq] at hc
    obtain ⟨⟨rfl, h4⟩, h5⟩ := hc
    split at h5
    · rename_i ik hi
      exact m_r4 d 0 j pc ik lv st h M q h1 h2 hq hi h4 (Nat.le_of_ble_eq_true hst)
    · cases h5
/-- a call whose exception is taken here -/
def m_hok (j pc x hp i len : Nat) : Bool := match m_prog[j]?, m_at j hp with
  | some M, some r => decide (m_hnd (m_own M) pc x (m_hh M) = some hp) && decide (m_ast r = some i) && decide (i < m_mL M) && decide (r.2.2.1 = len)
  | _, _ => false
theorem m_ct {d d1 j pc a x hp i len : Nat} {lv lv1 : mL} {st vs : List Value} {h h1 h' : mH} {o : mO} {q : mI} (hq : m_at j pc = some q) (hh : m_hok j pc x hp i len = true) (ha : q.2.2.2.1 = a) (hcal : m_cal h vs q = true) (hfit : m_fit a vs = true) (hst : Nat.ble (m_ctg st) 8 = true) (hd : d1 ≤ d)
    (r1 : m_Run X d1 1 a 0 (lv_args 0 vs) [] h (.inr x) h1) (hlv : m_drp lv i = lv1) (r2 : m_Run X (d + 1) 0 j (hp + len) lv1 [] h1 o h') : m_Run X (d + 1) 1 j pc lv (vs.reverse ++ st) h o h' := by
  subst ha
  subst hlv
  unfold m_hok at hh
  split at hh
  · rename_i M r h2 h3
    simp only [Bool.and_eq_true, decide_eq_true_eq] at hh
    obtain ⟨⟨⟨h4, h5⟩, h6⟩, rfl⟩ := hh
    exact m_r7 d 1 0 j pc hp i lv st vs h h1 h' x o M q r h2 h4 hq hcal hfit (Nat.le_of_ble_eq_true hst) h3 h5 h6 (m_r12 _ _ _ _ _ _ _ _ _ _ _ hd (Nat.le_refl 1) r1) r2
  · cases hh
theorem m_pick {lv lv' : mL} (ks : List Nat) (h : lv_pick lv ks = lv') : ∀ q ∈ lv', q ∈ lv := by
  intro q hq
  rw [← h] at hq
  obtain ⟨k, -, hk⟩ := List.mem_filterMap.mp hq
  exact List.mem_of_getElem? hk
theorem m_ne {x k : Int32} {z : Int} (hk : k.toInt = z) (h : ¬ x = k) : z ≠ x.toInt := fun e => h (Int32.toInt_inj.mp (by rw [hk]; exact e.symm))
theorem m_lkd {d x : Int} : ∀ (ps : List (Int × Int)), (∀ p ∈ ps, p.1 ≠ x) → Op.lookupswitch.offset ps d x = d
  | [], _ => Op.lookupswitch.offset_nil ..
  | (a, o) :: t, h => by
    rw [Op.lookupswitch.offset_cons, if_neg (h (a, o) List.mem_cons_self)]
    exact m_lkd t (fun q hq => h q (List.mem_cons_of_mem _ hq))
end Least
end
section
/-! printed by wip/whole/dec.py: the pure state and its cells
0: GasContract.length
1: GasContract.compiled
2: GasContract.given
3: GasContract.charged
4: GasContract.transactions
5: Compiler.at
6: Compiler.fault
7: Compiler.variableCount
8: Tokens.size
9: Tokens.length
10: Tokens.stop
11: Tokens.number
12: draft.size
13: draft.functionCount
14: Machine.top
15: Machine.calls
16: Machine.next
17: Machine.outcome
18: Machine.cost
19: Machine.given
20: contract.size
21: contract.functionCount
22: Store.size
23: Store.keptSize
24: Model.thrown
25: Model.size
26: Model.kind
27: Model.at
28: Model.behind
29: Model.number
30: Model.fault
31: Model.height
32: Model.noted
33: Model.typed
34: Model.depth
35: Model.functions
36: Model.variables
37: Model.steps
38: Model.contract
39: Model.stored
40: Model.wasStored
41: Model.worths
42: Model.calls
43: Model.gave
44: Model.charged
45: Model.transactions
-/
/-- scalars, arrays, the reference's cost, the long of the law -/
abbrev mG : Type := (Nat → Int32) × (Nat → Nat → Int32) × Int64 × (Nat → Int64)
def gI (g : mG) (i : Nat) (v : Int32) : mG := (fun j => bif Nat.beq j i then v else g.1 j, g.2)
def gS (g : mG) (a : Nat) (f : Nat → Int32) : mG := (g.1, fun b => bif Nat.beq b a then f else g.2.1 b, g.2.2)
def gC (g : mG) (v : Int64) : mG := (g.1, g.2.1, v, g.2.2.2)
def gO (g : mG) (f : Nat → Int64) : mG := (g.1, g.2.1, g.2.2.1, f)
abbrev mZ : Type := Option (mO × mG)
def hO (R : Nat) (g : mG) : mH := [.inr (.inr (5, [.ref 8, .int (g.1 0), .ref 1, .ref 4, .int (g.1 1), .int (g.1 2), .int (g.1 3), .int (g.1 4)])), .inr (.inr (0, [.ref 2, .ref 3, .int (g.1 5), .int (g.1 6), .ref 9, .ref 10, .ref 11, .int (g.1 7)])), .inr (.inr (4, [.ref 12, .ref 13, .ref 14, .ref 15, .int (g.1 8), .ref R, .int (g.1 9), .int (g.1 10), .int (g.1 11)])), .inr (.inr (1, [.ref 17, .ref 18, .int (g.1 12), .ref 19, .ref 20, .int (g.1 13)])), .inr (.inr (2, [.ref 6, .ref 5, .ref 25, .int (g.1 14), .ref 26, .ref 27, .int (g.1 15), .int (g.1 16), .int (g.1 17), .int (g.1 18), .int (g.1 19)])), .inr (.inr (1, [.ref 21, .ref 22, .int (g.1 20), .ref 23, .ref 24, .int (g.1 21)])), .inr (.inr (3, [.ref 28, .ref 29, .int (g.1 22), .ref 30, .ref 31, .int (g.1 23)])), .inr (.inr (6, [.int (g.1 24), .ref 32, .int (g.1 25), .int (g.1 26), .int (g.1 27), .int (g.1 28), .int (g.1 29), .int (g.1 30), .ref 33, .int (g.1 31), .ref 34, .int (g.1 32), .ref 35, .int (g.1 33), .int (g.1 34), .int (g.1 35), .ref 36, .ref 37, .ref 38, .ref 39, .int (g.1 36), .ref 40, .ref 41, .ref 42, .int (g.1 37), .ref 43, .ref 44, .int (g.1 38), .ref 45, .ref 46, .ref 47, .ref 48, .int (g.1 39), .ref 49, .ref 50, .int (g.1 40), .ref 51, .ref 52, .long g.2.2.1, .ref 53, .int (g.1 41), .int (g.1 42), .ref 54, .ref 55, .int (g.1 43), .int (g.1 44), .int (g.1 45)])), .inl (600, g.2.1 8), .inl (8, g.2.1 9), .inl (8, g.2.1 10), .inl (8, g.2.1 11), .inl (601, g.2.1 12), .inl (601, g.2.1 13), .inl (601, g.2.1 14), .inl (601, g.2.1 15), .inl (0, g.2.1 16), .inl (600, g.2.1 17), .inl (600, g.2.1 18), .inl (8, g.2.1 19), .inl (8, g.2.1 20), .inl (600, g.2.1 21), .inl (600, g.2.1 22), .inl (8, g.2.1 23), .inl (8, g.2.1 24), .inl (1080, g.2.1 25), .inl (96, g.2.1 26), .inl (12, g.2.1 27), .inl (32, g.2.1 28), .inl (32, g.2.1 29), .inl (32, g.2.1 30), .inl (32, g.2.1 31), .inl (600, g.2.1 32), .inl (900, g.2.1 33), .inl (600, g.2.1 34), .inl (400, g.2.1 35), .inl (9, g.2.1 36), .inl (9, g.2.1 37), .inl (9, g.2.1 38), .inl (9, g.2.1 39), .inl (8, g.2.1 40), .inl (8, g.2.1 41), .inl (8, g.2.1 42), .inl (2400, g.2.1 43), .inl (2400, g.2.1 44), .inl (8, g.2.1 45), .inl (8, g.2.1 46), .inl (2400, g.2.1 47), .inl (2400, g.2.1 48), .inl (32, g.2.1 49), .inl (32, g.2.1 50), .inl (32, g.2.1 51), .inl (32, g.2.1 52), .inl (3000, g.2.1 53), .inl (13, g.2.1 54), .inl (104, g.2.1 55), .inr (.inl (1, g.2.2.2))]
def m_ko (o : mO) : Nat := match o with
  | .inl _ => 0
  | .inr _ => 1
def m_ci (r : mZ) (k : Int32 → mG → mZ) : mZ := match r with
  | some (.inl (some (.int v)), g) => k v g
  | some (.inr x, g) => some (.inr x, g)
  | _ => none
def m_cv (r : mZ) (k : mG → mZ) : mZ := match r with
  | some (.inl none, g) => k g
  | some (.inr x, g) => some (.inr x, g)
  | _ => none
def m_ti (r : mZ) (k : Int32 → mG → mZ) (c : Nat → mG → mZ) : mZ := match r with
  | some (.inl (some (.int v)), g) => k v g
  | some (.inr x, g) => c x g
  | _ => none
def m_tv (r : mZ) (k : mG → mZ) (c : Nat → mG → mZ) : mZ := match r with
  | some (.inl none, g) => k g
  | some (.inr x, g) => c x g
  | _ => none
theorem m_ci_inv {r : mZ} {k : Int32 → mG → mZ} {o : mO} {g' : mG} (h : m_ci r k = some (o, g')) : (∃ v g1, r = some (.inl (some (.int v)), g1) ∧ k v g1 = some (o, g')) ∨ (∃ x g1, r = some (.inr x, g1) ∧ o = .inr x ∧ g' = g1) := by
  unfold m_ci at h
  split at h
  · exact Or.inl ⟨_, _, rfl, h⟩
  · cases h; exact Or.inr ⟨_, _, rfl, rfl, rfl⟩
  · cases h
theorem m_cv_inv {r : mZ} {k : mG → mZ} {o : mO} {g' : mG} (h : m_cv r k = some (o, g')) : (∃ g1, r = some (.inl none, g1) ∧ k g1 = some (o, g')) ∨ (∃ x g1, r = some (.inr x, g1) ∧ o = .inr x ∧ g' = g1) := by
  unfold m_cv at h
  split at h
  · exact Or.inl ⟨_, rfl, h⟩
  · cases h; exact Or.inr ⟨_, _, rfl, rfl, rfl⟩
  · cases h
theorem m_ti_inv {r : mZ} {k : Int32 → mG → mZ} {c : Nat → mG → mZ} {o : mO} {g' : mG} (h : m_ti r k c = some (o, g')) : (∃ v g1, r = some (.inl (some (.int v)), g1) ∧ k v g1 = some (o, g')) ∨ (∃ x g1, r = some (.inr x, g1) ∧ c x g1 = some (o, g')) := by
  unfold m_ti at h
  split at h
  · exact Or.inl ⟨_, _, rfl, h⟩
  · exact Or.inr ⟨_, _, rfl, h⟩
  · cases h
theorem m_tv_inv {r : mZ} {k : mG → mZ} {c : Nat → mG → mZ} {o : mO} {g' : mG} (h : m_tv r k c = some (o, g')) : (∃ g1, r = some (.inl none, g1) ∧ k g1 = some (o, g')) ∨ (∃ x g1, r = some (.inr x, g1) ∧ c x g1 = some (o, g')) := by
  unfold m_tv at h
  split at h
  · exact Or.inl ⟨_, rfl, h⟩
  · exact Or.inr ⟨_, _, rfl, h⟩
  · cases h
/-- the arguments of the methods that call themselves -/
def m_av (w : Nat) (x y z : Int32) : List Value := bif Nat.beq w 17 then [.ref 1, .int x, .int y, .int z] else bif Nat.beq w 15 || Nat.beq w 19 || Nat.beq w 30 then [.ref 1, .int x, .int y] else [.ref 1, .int x]
abbrev mRec : Type := Nat → Int32 → Int32 → Int32 → mG → mZ
def m_Rec (X : Nat × (Nat → Int32)) (d : Nat) (rc : mRec) : Prop := ∀ (w : Nat) (x y z : Int32) (g : mG) (o : mO) (g' : mG), rc w x y z g = some (o, g') → m_Run X (d + 30) (m_ko o) w 0 (lv_args 0 (m_av w x y z)) [] (hO 8 g) o (hO 8 g')
theorem m_swx {x k : Int32} {r : Option mS} (f : Int32 → Option mS) (h : x = k) (hk : f k = r) : f x = r := by rw [h]; exact hk
end
section
section Dec
variable {X : Nat × (Nat → Int32)} {n : Nat}
def f73 (n : Nat) (x1 : Int32) (g : mG) : mZ := if x1 < 0 then some (.inl (some (.int (0 : Int32))), g) else if (g.1 8) ≤ x1 then some (.inl (some (.int (0 : Int32))), g) else if x1 < 0 ∨ 601 ≤ Int32.toNatClampNeg x1 then none else some (.inl (some (.int ((g.2.1 12) (Int32.toNatClampNeg x1)))), g)
theorem F73 {R : Nat} {x1 : Int32} {g g' : mG} {o : mO} (h : f73 n x1 g = some (o, g')) : m_Run X (0) (m_ko o) 73 0 [(0, .ref 2), (1, .int x1)] [] (hO R g) o (hO R g') := by
  unfold f73 at h
  refine m_gob (c := x1 < 0) (t := 21) (f := 4) (L := [(0, .iload_n 1, 1, 0, 0), (1, .ifCond .lt 20, 3, 0, 0)]) (lv1 := [(0, .ref 2), (1, .int x1)]) (st1 := []) (h1 := hO R g) (by decide +kernel) rfl (fun c1 => ?_) (fun c1 => ?_)
  · rw [if_pos c1] at h
    refine m_go (L := [(21, .iconst 0, 1, 0, 0)]) (pc1 := 22) (lv1 := [(0, .ref 2), (1, .int x1)]) (st1 := [.int (0 : Int32)]) (h1 := hO R g) (by decide +kernel) rfl ?_
    cases h
    exact m_ri (by decide +kernel)
  · rw [if_neg c1] at h
    refine m_gob (c := (g.1 8) ≤ x1) (t := 21) (f := 12) (L := [(4, .iload_n 1, 1, 0, 0), (5, .aload_n 0, 1, 0, 0), (6, .getfield 24, 3, 4, 4), (9, .if_icmp .ge 12, 3, 0, 0)]) (lv1 := [(0, .ref 2), (1, .int x1)]) (st1 := []) (h1 := hO R g) (by decide +kernel) rfl (fun c2 => ?_) (fun c2 => ?_)
    · rw [if_pos c2] at h
      refine m_go (L := [(21, .iconst 0, 1, 0, 0)]) (pc1 := 22) (lv1 := [(0, .ref 2), (1, .int x1)]) (st1 := [.int (0 : Int32)]) (h1 := hO R g) (by decide +kernel) rfl ?_
      cases h
      exact m_ri (by decide +kernel)
    · rw [if_neg c2] at h
      refine m_go (L := [(12, .aload_n 0, 1, 0, 0), (13, .getfield 9, 3, 4, 0), (16, .iload_n 1, 1, 0, 0)]) (pc1 := 17) (lv1 := [(0, .ref 2), (1, .int x1)]) (st1 := [.int x1, .ref 12]) (h1 := hO R g) (by decide +kernel) rfl ?_
      obtain ⟨c3, h⟩ := m_ifn_inv h
      refine m_go1 (q := (17, .iaload, 1, 0, 0)) (pc1 := 18) (lv1 := [(0, .ref 2), (1, .int x1)]) (st1 := [.int ((g.2.1 12) (Int32.toNatClampNeg x1))]) (h1 := hO R g) (by decide +kernel) (if_neg c3) ?_
      refine m_go (L := [(18, .goto 4, 3, 0, 0)]) (pc1 := 22) (lv1 := [(0, .ref 2), (1, .int x1)]) (st1 := [.int ((g.2.1 12) (Int32.toNatClampNeg x1))]) (h1 := hO R g) (by decide +kernel) rfl ?_
      cases h
      exact m_ri (by decide +kernel)
def f1 (n : Nat) (g : mG) : mZ := m_ci (f73 n (g.1 5) g) (fun v2 g1 => some (.inl (some (.int v2)), g1))
theorem F1 {R : Nat} {g g' : mG} {o : mO} (h : f1 n g = some (o, g')) : m_Run X (1) (m_ko o) 1 0 [(0, .ref 1)] [] (hO R g) o (hO R g') := by
  unfold f1 at h
  refine m_go (L := [(0, .aload_n 0, 1, 0, 0), (1, .getfield 12, 3, 0, 0), (4, .aload_n 0, 1, 0, 0), (5, .getfield 25, 3, 0, 2)]) (pc1 := 8) (lv1 := [(0, .ref 1)]) (st1 := [.int (g.1 5), .ref 2]) (h1 := hO R g) (by decide +kernel) rfl ?_
  rcases m_ci_inv h with ⟨v2, g1, e3, h⟩ | ⟨y4, g1, e3, rfl, rfl⟩
  · refine m_ca (q := (8, .invokevirtual 149, 3, 73, 1)) (a := 73) (vs := [.ref 2, .int (g.1 5)]) (st := []) (d1 := 0) (by decide +kernel) rfl rfl rfl rfl (by decide) (F73 e3) ?_
    show m_Run X _ _ 1 11 [(0, .ref 1)] [.int v2] (hO R g1) _ _
    cases h
    exact m_ri (by decide +kernel)
  · exact m_cx (q := (8, .invokevirtual 149, 3, 73, 1)) (a := 73) (vs := [.ref 2, .int (g.1 5)]) (st := []) (d1 := 0) (by decide +kernel) (by decide +kernel) rfl rfl rfl rfl (by decide) (F73 e3)
def f74 (n : Nat) (x1 : Int32) (g : mG) : mZ := if x1 < 0 then some (.inl (some (.int (g.1 9))), g) else if (g.1 8) ≤ x1 then some (.inl (some (.int (g.1 9))), g) else if x1 < 0 ∨ 601 ≤ Int32.toNatClampNeg x1 then none else some (.inl (some (.int ((g.2.1 13) (Int32.toNatClampNeg x1)))), g)
theorem F74 {R : Nat} {x1 : Int32} {g g' : mG} {o : mO} (h : f74 n x1 g = some (o, g')) : m_Run X (0) (m_ko o) 74 0 [(0, .ref 2), (1, .int x1)] [] (hO R g) o (hO R g') := by
  unfold f74 at h
  refine m_gob (c := x1 < 0) (t := 21) (f := 4) (L := [(0, .iload_n 1, 1, 0, 0), (1, .ifCond .lt 20, 3, 0, 0)]) (lv1 := [(0, .ref 2), (1, .int x1)]) (st1 := []) (h1 := hO R g) (by decide +kernel) rfl (fun c1 => ?_) (fun c1 => ?_)
  · rw [if_pos c1] at h
    refine m_go (L := [(21, .aload_n 0, 1, 0, 0), (22, .getfield 31, 3, 4, 6)]) (pc1 := 25) (lv1 := [(0, .ref 2), (1, .int x1)]) (st1 := [.int (g.1 9)]) (h1 := hO R g) (by decide +kernel) rfl ?_
    cases h
    exact m_ri (by decide +kernel)
  · rw [if_neg c1] at h
    refine m_gob (c := (g.1 8) ≤ x1) (t := 21) (f := 12) (L := [(4, .iload_n 1, 1, 0, 0), (5, .aload_n 0, 1, 0, 0), (6, .getfield 24, 3, 4, 4), (9, .if_icmp .ge 12, 3, 0, 0)]) (lv1 := [(0, .ref 2), (1, .int x1)]) (st1 := []) (h1 := hO R g) (by decide +kernel) rfl (fun c2 => ?_) (fun c2 => ?_)
    · rw [if_pos c2] at h
      refine m_go (L := [(21, .aload_n 0, 1, 0, 0), (22, .getfield 31, 3, 4, 6)]) (pc1 := 25) (lv1 := [(0, .ref 2), (1, .int x1)]) (st1 := [.int (g.1 9)]) (h1 := hO R g) (by decide +kernel) rfl ?_
      cases h
      exact m_ri (by decide +kernel)
    · rw [if_neg c2] at h
      refine m_go (L := [(12, .aload_n 0, 1, 0, 0), (13, .getfield 15, 3, 4, 1), (16, .iload_n 1, 1, 0, 0)]) (pc1 := 17) (lv1 := [(0, .ref 2), (1, .int x1)]) (st1 := [.int x1, .ref 13]) (h1 := hO R g) (by decide +kernel) rfl ?_
      obtain ⟨c3, h⟩ := m_ifn_inv h
      refine m_go1 (q := (17, .iaload, 1, 0, 0)) (pc1 := 18) (lv1 := [(0, .ref 2), (1, .int x1)]) (st1 := [.int ((g.2.1 13) (Int32.toNatClampNeg x1))]) (h1 := hO R g) (by decide +kernel) (if_neg c3) ?_
      refine m_go (L := [(18, .goto 7, 3, 0, 0)]) (pc1 := 25) (lv1 := [(0, .ref 2), (1, .int x1)]) (st1 := [.int ((g.2.1 13) (Int32.toNatClampNeg x1))]) (h1 := hO R g) (by decide +kernel) rfl ?_
      cases h
      exact m_ri (by decide +kernel)
def f3 (n : Nat) (x1 : Int32) (g : mG) : mZ := m_ci (f74 n x1 g) (fun v2 g1 => some (.inr 0, (gI g1 6 v2)))
theorem F3 {R : Nat} {x1 : Int32} {g g' : mG} {o : mO} (h : f3 n x1 g = some (o, g')) : m_Run X (1) (m_ko o) 3 0 [(0, .ref 1), (1, .int x1)] [] (hO R g) o (hO R g') := by
  unfold f3 at h
  refine m_go (L := [(0, .aload_n 0, 1, 0, 0), (1, .aload_n 0, 1, 0, 0), (2, .getfield 12, 3, 0, 0), (5, .iload_n 1, 1, 0, 0)]) (pc1 := 6) (lv1 := [(0, .ref 1), (1, .int x1)]) (st1 := [.int x1, .ref 2, .ref 1]) (h1 := hO R g) (by decide +kernel) rfl ?_
  rcases m_ci_inv h with ⟨v2, g1, e3, h⟩ | ⟨y4, g1, e3, rfl, rfl⟩
  · refine m_ca (q := (6, .invokevirtual 184, 3, 74, 1)) (a := 74) (vs := [.ref 2, .int x1]) (st := [.ref 1]) (d1 := 0) (by decide +kernel) rfl rfl rfl rfl (by decide) (F74 e3) ?_
    show m_Run X _ _ 3 9 [(0, .ref 1), (1, .int x1)] [.int v2, .ref 1] (hO R g1) _ _
    refine m_go (L := [(9, .putfield 29, 3, 0, 3)]) (pc1 := 12) (lv1 := [(0, .ref 1), (1, .int x1)]) (st1 := []) (h1 := hO R (gI g1 6 v2)) (by decide +kernel) rfl ?_
    cases h
    exact m_th (by decide +kernel) (by decide +kernel) rfl
  · exact m_cx (q := (6, .invokevirtual 184, 3, 74, 1)) (a := 74) (vs := [.ref 2, .int x1]) (st := [.ref 1]) (d1 := 0) (by decide +kernel) (by decide +kernel) rfl rfl rfl rfl (by decide) (F74 e3)
def f6_16 (n : Nat) (g : mG) : mZ := some (.inl none, (gI g 5 ((g.1 5) + (1 : Int32))))
theorem F6_16 {R : Nat} {g g' : mG} {o : mO} (h : f6_16 n g = some (o, g')) : m_Run X (2) (m_ko o) 6 16 [(0, .ref 1)] [] (hO R g) o (hO R g') := by
  unfold f6_16 at h
  refine m_go (L := [(16, .aload_n 0, 1, 0, 0), (17, .dup, 1, 0, 0), (18, .getfield 25, 3, 0, 2), (21, .iconst 1, 1, 0, 0), (22, .iadd, 1, 0, 0), (23, .putfield 25, 3, 0, 2)]) (pc1 := 26) (lv1 := [(0, .ref 1)]) (st1 := []) (h1 := hO R (gI g 5 ((g.1 5) + (1 : Int32)))) (by decide +kernel) rfl ?_
  cases h
  exact m_rv (by decide +kernel)
def f6 (n : Nat) (x1 : Int32) (g : mG) : mZ := m_ci (f1 n g) (fun v2 g1 => if v2 = x1 then f6_16 n g1 else m_cv (f3 n (g1.1 5) g1) (fun g6 => f6_16 n g6))
theorem F6 {R : Nat} {x1 : Int32} {g g' : mG} {o : mO} (h : f6 n x1 g = some (o, g')) : m_Run X (2) (m_ko o) 6 0 [(0, .ref 1), (1, .int x1)] [] (hO R g) o (hO R g') := by
  unfold f6 at h
  refine m_go (L := [(0, .aload_n 0, 1, 0, 0)]) (pc1 := 1) (lv1 := [(0, .ref 1), (1, .int x1)]) (st1 := [.ref 1]) (h1 := hO R g) (by decide +kernel) rfl ?_
  rcases m_ci_inv h with ⟨v2, g1, e3, h⟩ | ⟨y4, g1, e3, rfl, rfl⟩
  · refine m_ca (q := (1, .invokevirtual 52, 3, 1, 0)) (a := 1) (vs := [.ref 1]) (st := []) (d1 := 1) (by decide +kernel) rfl rfl rfl rfl (by decide) (F1 e3) ?_
    show m_Run X _ _ 6 4 [(0, .ref 1), (1, .int x1)] [.int v2] (hO R g1) _ _
    refine m_gob (c := v2 = x1) (t := 16) (f := 8) (L := [(4, .iload_n 1, 1, 0, 0), (5, .if_icmp .eq 11, 3, 0, 0)]) (lv1 := [(0, .ref 1), (1, .int x1)]) (st1 := []) (h1 := hO R g1) (by decide +kernel) rfl (fun c5 => ?_) (fun c5 => ?_)
    · rw [if_pos c5] at h
      exact m_r0 _ _ _ _ _ _ _ _ _ _ (m_pick [0] rfl) (F6_16 h)
    · rw [if_neg c5] at h
      refine m_go (L := [(8, .aload_n 0, 1, 0, 0), (9, .aload_n 0, 1, 0, 0), (10, .getfield 25, 3, 0, 2)]) (pc1 := 13) (lv1 := [(0, .ref 1), (1, .int x1)]) (st1 := [.int (g1.1 5), .ref 1]) (h1 := hO R g1) (by decide +kernel) rfl ?_
      rcases m_cv_inv h with ⟨g6, e8, h⟩ | ⟨y9, g6, e8, rfl, rfl⟩
      · refine m_ca (q := (13, .invokevirtual 77, 3, 3, 1)) (a := 3) (vs := [.ref 1, .int (g1.1 5)]) (st := []) (d1 := 1) (by decide +kernel) rfl rfl rfl rfl (by decide) (F3 e8) ?_
        show m_Run X _ _ 6 16 [(0, .ref 1), (1, .int x1)] [] (hO R g6) _ _
        exact m_r0 _ _ _ _ _ _ _ _ _ _ (m_pick [0] rfl) (F6_16 h)
      · exact m_cx (q := (13, .invokevirtual 77, 3, 3, 1)) (a := 3) (vs := [.ref 1, .int (g1.1 5)]) (st := []) (d1 := 1) (by decide +kernel) (by decide +kernel) rfl rfl rfl rfl (by decide) (F3 e8)
  · exact m_cx (q := (1, .invokevirtual 52, 3, 1, 0)) (a := 1) (vs := [.ref 1]) (st := []) (d1 := 1) (by decide +kernel) (by decide +kernel) rfl rfl rfl rfl (by decide) (F1 e3)
def f18 (n : Nat) (x1 : Int32) (x2 : Int32) (x3 : Int32) (g : mG) : mZ := if x2 = x1 then some (.inl none, g) else m_cv (f3 n x3 g) (fun g2 => some (.inl none, g2))
theorem F18 {R : Nat} {x1 : Int32} {x2 : Int32} {x3 : Int32} {g g' : mG} {o : mO} (h : f18 n x1 x2 x3 g = some (o, g')) : m_Run X (2) (m_ko o) 18 0 [(0, .ref 1), (1, .int x1), (2, .int x2), (3, .int x3)] [] (hO R g) o (hO R g') := by
  unfold f18 at h
  refine m_gob (c := x2 = x1) (t := 10) (f := 5) (L := [(0, .iload_n 2, 1, 0, 0), (1, .iload_n 1, 1, 0, 0), (2, .if_icmp .eq 8, 3, 0, 0)]) (lv1 := [(0, .ref 1), (1, .int x1), (2, .int x2), (3, .int x3)]) (st1 := []) (h1 := hO R g) (by decide +kernel) rfl (fun c1 => ?_) (fun c1 => ?_)
  · rw [if_pos c1] at h
    cases h
    exact m_rv (by decide +kernel)
  · rw [if_neg c1] at h
    refine m_go (L := [(5, .aload_n 0, 1, 0, 0), (6, .iload_n 3, 1, 0, 0)]) (pc1 := 7) (lv1 := [(0, .ref 1), (1, .int x1), (2, .int x2), (3, .int x3)]) (st1 := [.int x3, .ref 1]) (h1 := hO R g) (by decide +kernel) rfl ?_
    rcases m_cv_inv h with ⟨g2, e4, h⟩ | ⟨y5, g2, e4, rfl, rfl⟩
    · refine m_ca (q := (7, .invokevirtual 77, 3, 3, 1)) (a := 3) (vs := [.ref 1, .int x3]) (st := []) (d1 := 1) (by decide +kernel) rfl rfl rfl rfl (by decide) (F3 e4) ?_
      show m_Run X _ _ 18 10 [(0, .ref 1), (1, .int x1), (2, .int x2), (3, .int x3)] [] (hO R g2) _ _
      cases h
      exact m_rv (by decide +kernel)
    · exact m_cx (q := (7, .invokevirtual 77, 3, 3, 1)) (a := 3) (vs := [.ref 1, .int x3]) (st := []) (d1 := 1) (by decide +kernel) (by decide +kernel) rfl rfl rfl rfl (by decide) (F3 e4)
def f36_3 (n : Nat) (x1 : Int32) (g : mG) : mZ := if x1 < 0 then some (.inl (some (.int (0 : Int32))), g) else if (g.1 13) ≤ x1 then some (.inl (some (.int (0 : Int32))), g) else some (.inl (some (.int (1 : Int32))), g)
theorem F36_3 {R : Nat} {x1 : Int32} {g g' : mG} {o : mO} (h : f36_3 n x1 g = some (o, g')) : m_Run X (0) (m_ko o) 36 0 [(0, .ref 3), (1, .int x1)] [] (hO R g) o (hO R g') := by
  unfold f36_3 at h
  refine m_gob (c := x1 < 0) (t := 16) (f := 4) (L := [(0, .iload_n 1, 1, 0, 0), (1, .ifCond .lt 15, 3, 0, 0)]) (lv1 := [(0, .ref 3), (1, .int x1)]) (st1 := []) (h1 := hO R g) (by decide +kernel) rfl (fun c1 => ?_) (fun c1 => ?_)
  · rw [if_pos c1] at h
    refine m_go (L := [(16, .iconst 0, 1, 0, 0)]) (pc1 := 17) (lv1 := [(0, .ref 3), (1, .int x1)]) (st1 := [.int (0 : Int32)]) (h1 := hO R g) (by decide +kernel) rfl ?_
    cases h
    exact m_rz (by decide +kernel) (Or.inl rfl)
  · rw [if_neg c1] at h
    refine m_gob (c := (g.1 13) ≤ x1) (t := 16) (f := 12) (L := [(4, .iload_n 1, 1, 0, 0), (5, .aload_n 0, 1, 0, 0), (6, .getfield 28, 3, 1, 5), (9, .if_icmp .ge 7, 3, 0, 0)]) (lv1 := [(0, .ref 3), (1, .int x1)]) (st1 := []) (h1 := hO R g) (by decide +kernel) rfl (fun c2 => ?_) (fun c2 => ?_)
    · rw [if_pos c2] at h
      refine m_go (L := [(16, .iconst 0, 1, 0, 0)]) (pc1 := 17) (lv1 := [(0, .ref 3), (1, .int x1)]) (st1 := [.int (0 : Int32)]) (h1 := hO R g) (by decide +kernel) rfl ?_
      cases h
      exact m_rz (by decide +kernel) (Or.inl rfl)
    · rw [if_neg c2] at h
      refine m_go (L := [(12, .iconst 1, 1, 0, 0), (13, .goto 4, 3, 0, 0)]) (pc1 := 17) (lv1 := [(0, .ref 3), (1, .int x1)]) (st1 := [.int (1 : Int32)]) (h1 := hO R g) (by decide +kernel) rfl ?_
      cases h
      exact m_rz (by decide +kernel) (Or.inr rfl)
def f35_3 (n : Nat) (x1 : Int32) (g : mG) : mZ := m_ci (f36_3 n x1 g) (fun v2 g1 => if v2 = 0 then some (.inl (some (.int (0 : Int32))), g1) else if x1 < 0 ∨ 8 ≤ Int32.toNatClampNeg x1 then none else some (.inl (some (.int ((g1.2.1 20) (Int32.toNatClampNeg x1)))), g1))
theorem F35_3 {R : Nat} {x1 : Int32} {g g' : mG} {o : mO} (h : f35_3 n x1 g = some (o, g')) : m_Run X (1) (m_ko o) 35 0 [(0, .ref 3), (1, .int x1)] [] (hO R g) o (hO R g') := by
  unfold f35_3 at h
  refine m_go (L := [(0, .aload_n 0, 1, 0, 0), (1, .iload_n 1, 1, 0, 0)]) (pc1 := 2) (lv1 := [(0, .ref 3), (1, .int x1)]) (st1 := [.int x1, .ref 3]) (h1 := hO R g) (by decide +kernel) rfl ?_
  rcases m_ci_inv h with ⟨v2, g1, e3, h⟩ | ⟨y4, g1, e3, rfl, rfl⟩
  · refine m_ca (q := (2, .invokevirtual 37, 3, 36, 1)) (a := 36) (vs := [.ref 3, .int x1]) (st := []) (d1 := 0) (by decide +kernel) rfl rfl rfl rfl (by decide) (F36_3 e3) ?_
    show m_Run X _ _ 35 5 [(0, .ref 3), (1, .int x1)] [.int v2] (hO R g1) _ _
    refine m_gob (c := v2 = 0) (t := 17) (f := 8) (L := [(5, .ifCond .eq 12, 3, 0, 0)]) (lv1 := [(0, .ref 3), (1, .int x1)]) (st1 := []) (h1 := hO R g1) (by decide +kernel) rfl (fun c5 => ?_) (fun c5 => ?_)
    · rw [if_pos c5] at h
      refine m_go (L := [(17, .iconst 0, 1, 0, 0)]) (pc1 := 18) (lv1 := [(0, .ref 3), (1, .int x1)]) (st1 := [.int (0 : Int32)]) (h1 := hO R g1) (by decide +kernel) rfl ?_
      cases h
      exact m_ri (by decide +kernel)
    · rw [if_neg c5] at h
      refine m_go (L := [(8, .aload_n 0, 1, 0, 0), (9, .getfield 25, 3, 1, 4), (12, .iload_n 1, 1, 0, 0)]) (pc1 := 13) (lv1 := [(0, .ref 3), (1, .int x1)]) (st1 := [.int x1, .ref 20]) (h1 := hO R g1) (by decide +kernel) rfl ?_
      obtain ⟨c6, h⟩ := m_ifn_inv h
      refine m_go1 (q := (13, .iaload, 1, 0, 0)) (pc1 := 14) (lv1 := [(0, .ref 3), (1, .int x1)]) (st1 := [.int ((g1.2.1 20) (Int32.toNatClampNeg x1))]) (h1 := hO R g1) (by decide +kernel) (if_neg c6) ?_
      refine m_go (L := [(14, .goto 4, 3, 0, 0)]) (pc1 := 18) (lv1 := [(0, .ref 3), (1, .int x1)]) (st1 := [.int ((g1.2.1 20) (Int32.toNatClampNeg x1))]) (h1 := hO R g1) (by decide +kernel) rfl ?_
      cases h
      exact m_ri (by decide +kernel)
  · exact m_cx (q := (2, .invokevirtual 37, 3, 36, 1)) (a := 36) (vs := [.ref 3, .int x1]) (st := []) (d1 := 0) (by decide +kernel) (by decide +kernel) rfl rfl rfl rfl (by decide) (F36_3 e3)
def f34_3 (n : Nat) (x1 : Int32) (x2 : Int32) (g : mG) : mZ := if (600 : Int32) ≤ (g.1 12) then some (.inl (some (.int ((g.1 12) - (1 : Int32)))), g) else if (g.1 12) < 0 ∨ 600 ≤ Int32.toNatClampNeg (g.1 12) then none else if (g.1 12) < 0 ∨ 600 ≤ Int32.toNatClampNeg (g.1 12) then none else some (.inl (some (.int (((g.1 12) + (1 : Int32)) - (1 : Int32)))), (gI (gS (gS g 17 (upd (g.2.1 17) (Int32.toNatClampNeg (g.1 12)) x1)) 18 (upd (g.2.1 18) (Int32.toNatClampNeg (g.1 12)) x2)) 12 ((g.1 12) + (1 : Int32))))
theorem F34_3 {R : Nat} {x1 : Int32} {x2 : Int32} {g g' : mG} {o : mO} (h : f34_3 n x1 x2 g = some (o, g')) : m_Run X (0) (m_ko o) 34 0 [(0, .ref 3), (1, .int x1), (2, .int x2)] [] (hO R g) o (hO R g') := by
  unfold f34_3 at h
  refine m_gob (c := (600 : Int32) ≤ (g.1 12)) (t := 40) (f := 10) (L := [(0, .aload_n 0, 1, 0, 0), (1, .getfield 18, 3, 1, 2), (4, .sipush 600, 3, 0, 0), (7, .if_icmp .ge 33, 3, 0, 0)]) (lv1 := [(0, .ref 3), (1, .int x1), (2, .int x2)]) (st1 := []) (h1 := hO R g) (by decide +kernel) rfl (fun c1 => ?_) (fun c1 => ?_)
  · rw [if_pos c1] at h
    refine m_go (L := [(40, .aload_n 0, 1, 0, 0), (41, .getfield 18, 3, 1, 2), (44, .iconst 1, 1, 0, 0), (45, .isub, 1, 0, 0)]) (pc1 := 46) (lv1 := [(0, .ref 3), (1, .int x1), (2, .int x2)]) (st1 := [.int ((g.1 12) - (1 : Int32))]) (h1 := hO R g) (by decide +kernel) rfl ?_
    cases h
    exact m_ri (by decide +kernel)
  · rw [if_neg c1] at h
    refine m_go (L := [(10, .aload_n 0, 1, 0, 0), (11, .getfield 9, 3, 1, 0), (14, .aload_n 0, 1, 0, 0), (15, .getfield 18, 3, 1, 2), (18, .iload_n 1, 1, 0, 0)]) (pc1 := 19) (lv1 := [(0, .ref 3), (1, .int x1), (2, .int x2)]) (st1 := [.int x1, .int (g.1 12), .ref 17]) (h1 := hO R g) (by decide +kernel) rfl ?_
    obtain ⟨c2, h⟩ := m_ifn_inv h
    refine m_go1 (q := (19, .iastore, 1, 0, 0)) (pc1 := 20) (lv1 := [(0, .ref 3), (1, .int x1), (2, .int x2)]) (st1 := []) (h1 := hO R (gS g 17 (upd (g.2.1 17) (Int32.toNatClampNeg (g.1 12)) x1))) (by decide +kernel) (if_neg c2) ?_
    refine m_go (L := [(20, .aload_n 0, 1, 0, 0), (21, .getfield 15, 3, 1, 1), (24, .aload_n 0, 1, 0, 0), (25, .getfield 18, 3, 1, 2), (28, .iload_n 2, 1, 0, 0)]) (pc1 := 29) (lv1 := [(0, .ref 3), (1, .int x1), (2, .int x2)]) (st1 := [.int x2, .int (g.1 12), .ref 18]) (h1 := hO R (gS g 17 (upd (g.2.1 17) (Int32.toNatClampNeg (g.1 12)) x1))) (by decide +kernel) rfl ?_
    obtain ⟨c3, h⟩ := m_ifn_inv h
    refine m_go1 (q := (29, .iastore, 1, 0, 0)) (pc1 := 30) (lv1 := [(0, .ref 3), (1, .int x1), (2, .int x2)]) (st1 := []) (h1 := hO R (gS (gS g 17 (upd (g.2.1 17) (Int32.toNatClampNeg (g.1 12)) x1)) 18 (upd (g.2.1 18) (Int32.toNatClampNeg (g.1 12)) x2))) (by decide +kernel) (if_neg c3) ?_
    refine m_go (L := [(30, .aload_n 0, 1, 0, 0), (31, .dup, 1, 0, 0), (32, .getfield 18, 3, 1, 2), (35, .iconst 1, 1, 0, 0), (36, .iadd, 1, 0, 0), (37, .putfield 18, 3, 1, 2), (40, .aload_n 0, 1, 0, 0), (41, .getfield 18, 3, 1, 2), (44, .iconst 1, 1, 0, 0), (45, .isub, 1, 0, 0)]) (pc1 := 46) (lv1 := [(0, .ref 3), (1, .int x1), (2, .int x2)]) (st1 := [.int (((g.1 12) + (1 : Int32)) - (1 : Int32))]) (h1 := hO R (gI (gS (gS g 17 (upd (g.2.1 17) (Int32.toNatClampNeg (g.1 12)) x1)) 18 (upd (g.2.1 18) (Int32.toNatClampNeg (g.1 12)) x2)) 12 ((g.1 12) + (1 : Int32)))) (by decide +kernel) rfl ?_
    cases h
    exact m_ri (by decide +kernel)
def f37_3 (n : Nat) (x1 : Int32) (g : mG) : mZ := if x1 < 0 then some (.inl none, g) else if (g.1 12) ≤ x1 then some (.inl none, g) else if x1 < 0 ∨ 600 ≤ Int32.toNatClampNeg x1 then none else some (.inl none, (gS g 18 (upd (g.2.1 18) (Int32.toNatClampNeg x1) (g.1 12))))
theorem F37_3 {R : Nat} {x1 : Int32} {g g' : mG} {o : mO} (h : f37_3 n x1 g = some (o, g')) : m_Run X (0) (m_ko o) 37 0 [(0, .ref 3), (1, .int x1)] [] (hO R g) o (hO R g') := by
  unfold f37_3 at h
  refine m_gob (c := x1 < 0) (t := 22) (f := 4) (L := [(0, .iload_n 1, 1, 0, 0), (1, .ifCond .lt 21, 3, 0, 0)]) (lv1 := [(0, .ref 3), (1, .int x1)]) (st1 := []) (h1 := hO R g) (by decide +kernel) rfl (fun c1 => ?_) (fun c1 => ?_)
  · rw [if_pos c1] at h
    cases h
    exact m_rv (by decide +kernel)
  · rw [if_neg c1] at h
    refine m_gob (c := (g.1 12) ≤ x1) (t := 22) (f := 12) (L := [(4, .iload_n 1, 1, 0, 0), (5, .aload_n 0, 1, 0, 0), (6, .getfield 18, 3, 1, 2), (9, .if_icmp .ge 13, 3, 0, 0)]) (lv1 := [(0, .ref 3), (1, .int x1)]) (st1 := []) (h1 := hO R g) (by decide +kernel) rfl (fun c2 => ?_) (fun c2 => ?_)
    · rw [if_pos c2] at h
      cases h
      exact m_rv (by decide +kernel)
    · rw [if_neg c2] at h
      refine m_go (L := [(12, .aload_n 0, 1, 0, 0), (13, .getfield 15, 3, 1, 1), (16, .iload_n 1, 1, 0, 0), (17, .aload_n 0, 1, 0, 0), (18, .getfield 18, 3, 1, 2)]) (pc1 := 21) (lv1 := [(0, .ref 3), (1, .int x1)]) (st1 := [.int (g.1 12), .int x1, .ref 18]) (h1 := hO R g) (by decide +kernel) rfl ?_
      obtain ⟨c3, h⟩ := m_ifn_inv h
      refine m_go1 (q := (21, .iastore, 1, 0, 0)) (pc1 := 22) (lv1 := [(0, .ref 3), (1, .int x1)]) (st1 := []) (h1 := hO R (gS g 18 (upd (g.2.1 18) (Int32.toNatClampNeg x1) (g.1 12)))) (by decide +kernel) (if_neg c3) ?_
      cases h
      exact m_rv (by decide +kernel)
def f72 (n : Nat) (x0 : Int32) (g : mG) : mZ := if x0 = 33 then some (.inl (some (.int (22 : Int32))), g) else if x0 = 37 then some (.inl (some (.int (21 : Int32))), g) else if x0 = 40 then some (.inl (some (.int (4 : Int32))), g) else if x0 = 41 then some (.inl (some (.int (5 : Int32))), g) else if x0 = 42 then some (.inl (some (.int (19 : Int32))), g) else if x0 = 43 then some (.inl (some (.int (17 : Int32))), g) else if x0 = 44 then some (.inl (some (.int (10 : Int32))), g) else if x0 = 45 then some (.inl (some (.int (18 : Int32))), g) else if x0 = 47 then some (.inl (some (.int (20 : Int32))), g) else if x0 = 59 then some (.inl (some (.int (11 : Int32))), g) else if x0 = 60 then some (.inl (some (.int (15 : Int32))), g) else if x0 = 61 then some (.inl (some (.int (12 : Int32))), g) else if x0 = 91 then some (.inl (some (.int (8 : Int32))), g) else if x0 = 93 then some (.inl (some (.int (9 : Int32))), g) else if x0 = 123 then some (.inl (some (.int (6 : Int32))), g) else if x0 = 125 then some (.inl (some (.int (7 : Int32))), g) else some (.inl (some (.int (1 : Int32))), g)
theorem F72 {R : Nat} {x0 : Int32} {g g' : mG} {o : mO} (h : f72 n x0 g = some (o, g')) : m_Run X (0) (m_ko o) 72 0 [(0, .int x0)] [] (hO R g) o (hO R g') := by
  unfold f72 at h
  refine m_go (L := [(0, .iload_n 0, 1, 0, 0)]) (pc1 := 1) (lv1 := [(0, .int x0)]) (st1 := [.int x0]) (h1 := hO R g) (by decide +kernel) rfl ?_
  by_cases c1 : x0 = 33
  · rw [if_pos c1] at h
    refine m_go1 (q := (1, .lookupswitch 185 #[(33, 182), (37, 179), (40, 139), (41, 141), (42, 173), (43, 167), (44, 155), (45, 170), (47, 176), (59, 158), (60, 164), (61, 161), (91, 149), (93, 152), (123, 143), (125, 146)], 139, 0, 0)) (pc1 := 183) (lv1 := [(0, .int x0)]) (st1 := []) (h1 := hO R g) (by decide +kernel) (m_swx (fun z => m_loc m_ft X (.lookupswitch 185 #[(33, 182), (37, 179), (40, 139), (41, 141), (42, 173), (43, 167), (44, 155), (45, 170), (47, 176), (59, 158), (60, 164), (61, 161), (91, 149), (93, 152), (123, 143), (125, 146)]) 0 0 1 [(0, .int x0)] (.int z :: []) (hO R g)) c1 rfl) ?_
    refine m_go (L := [(183, .bipush 22, 2, 0, 0)]) (pc1 := 185) (lv1 := [(0, .int x0)]) (st1 := [.int (22 : Int32)]) (h1 := hO R g) (by decide +kernel) rfl ?_
    cases h
    exact m_ri (by decide +kernel)
  · rw [if_neg c1] at h
    by_cases c2 : x0 = 37
    · rw [if_pos c2] at h
      refine m_go1 (q := (1, .lookupswitch 185 #[(33, 182), (37, 179), (40, 139), (41, 141), (42, 173), (43, 167), (44, 155), (45, 170), (47, 176), (59, 158), (60, 164), (61, 161), (91, 149), (93, 152), (123, 143), (125, 146)], 139, 0, 0)) (pc1 := 180) (lv1 := [(0, .int x0)]) (st1 := []) (h1 := hO R g) (by decide +kernel) (m_swx (fun z => m_loc m_ft X (.lookupswitch 185 #[(33, 182), (37, 179), (40, 139), (41, 141), (42, 173), (43, 167), (44, 155), (45, 170), (47, 176), (59, 158), (60, 164), (61, 161), (91, 149), (93, 152), (123, 143), (125, 146)]) 0 0 1 [(0, .int x0)] (.int z :: []) (hO R g)) c2 rfl) ?_
      refine m_go (L := [(180, .bipush 21, 2, 0, 0)]) (pc1 := 182) (lv1 := [(0, .int x0)]) (st1 := [.int (21 : Int32)]) (h1 := hO R g) (by decide +kernel) rfl ?_
      cases h
      exact m_ri (by decide +kernel)
    · rw [if_neg c2] at h
      by_cases c3 : x0 = 40
      · rw [if_pos c3] at h
        refine m_go1 (q := (1, .lookupswitch 185 #[(33, 182), (37, 179), (40, 139), (41, 141), (42, 173), (43, 167), (44, 155), (45, 170), (47, 176), (59, 158), (60, 164), (61, 161), (91, 149), (93, 152), (123, 143), (125, 146)], 139, 0, 0)) (pc1 := 140) (lv1 := [(0, .int x0)]) (st1 := []) (h1 := hO R g) (by decide +kernel) (m_swx (fun z => m_loc m_ft X (.lookupswitch 185 #[(33, 182), (37, 179), (40, 139), (41, 141), (42, 173), (43, 167), (44, 155), (45, 170), (47, 176), (59, 158), (60, 164), (61, 161), (91, 149), (93, 152), (123, 143), (125, 146)]) 0 0 1 [(0, .int x0)] (.int z :: []) (hO R g)) c3 rfl) ?_
        refine m_go (L := [(140, .iconst 4, 1, 0, 0)]) (pc1 := 141) (lv1 := [(0, .int x0)]) (st1 := [.int (4 : Int32)]) (h1 := hO R g) (by decide +kernel) rfl ?_
        cases h
        exact m_ri (by decide +kernel)
      · rw [if_neg c3] at h
        by_cases c4 : x0 = 41
        · rw [if_pos c4] at h
          refine m_go1 (q := (1, .lookupswitch 185 #[(33, 182), (37, 179), (40, 139), (41, 141), (42, 173), (43, 167), (44, 155), (45, 170), (47, 176), (59, 158), (60, 164), (61, 161), (91, 149), (93, 152), (123, 143), (125, 146)], 139, 0, 0)) (pc1 := 142) (lv1 := [(0, .int x0)]) (st1 := []) (h1 := hO R g) (by decide +kernel) (m_swx (fun z => m_loc m_ft X (.lookupswitch 185 #[(33, 182), (37, 179), (40, 139), (41, 141), (42, 173), (43, 167), (44, 155), (45, 170), (47, 176), (59, 158), (60, 164), (61, 161), (91, 149), (93, 152), (123, 143), (125, 146)]) 0 0 1 [(0, .int x0)] (.int z :: []) (hO R g)) c4 rfl) ?_
          refine m_go (L := [(142, .iconst 5, 1, 0, 0)]) (pc1 := 143) (lv1 := [(0, .int x0)]) (st1 := [.int (5 : Int32)]) (h1 := hO R g) (by decide +kernel) rfl ?_
          cases h
          exact m_ri (by decide +kernel)
        · rw [if_neg c4] at h
          by_cases c5 : x0 = 42
          · rw [if_pos c5] at h
            refine m_go1 (q := (1, .lookupswitch 185 #[(33, 182), (37, 179), (40, 139), (41, 141), (42, 173), (43, 167), (44, 155), (45, 170), (47, 176), (59, 158), (60, 164), (61, 161), (91, 149), (93, 152), (123, 143), (125, 146)], 139, 0, 0)) (pc1 := 174) (lv1 := [(0, .int x0)]) (st1 := []) (h1 := hO R g) (by decide +kernel) (m_swx (fun z => m_loc m_ft X (.lookupswitch 185 #[(33, 182), (37, 179), (40, 139), (41, 141), (42, 173), (43, 167), (44, 155), (45, 170), (47, 176), (59, 158), (60, 164), (61, 161), (91, 149), (93, 152), (123, 143), (125, 146)]) 0 0 1 [(0, .int x0)] (.int z :: []) (hO R g)) c5 rfl) ?_
            refine m_go (L := [(174, .bipush 19, 2, 0, 0)]) (pc1 := 176) (lv1 := [(0, .int x0)]) (st1 := [.int (19 : Int32)]) (h1 := hO R g) (by decide +kernel) rfl ?_
            cases h
            exact m_ri (by decide +kernel)
          · rw [if_neg c5] at h
            by_cases c6 : x0 = 43
            · rw [if_pos c6] at h
              refine m_go1 (q := (1, .lookupswitch 185 #[(33, 182), (37, 179), (40, 139), (41, 141), (42, 173), (43, 167), (44, 155), (45, 170), (47, 176), (59, 158), (60, 164), (61, 161), (91, 149), (93, 152), (123, 143), (125, 146)], 139, 0, 0)) (pc1 := 168) (lv1 := [(0, .int x0)]) (st1 := []) (h1 := hO R g) (by decide +kernel) (m_swx (fun z => m_loc m_ft X (.lookupswitch 185 #[(33, 182), (37, 179), (40, 139), (41, 141), (42, 173), (43, 167), (44, 155), (45, 170), (47, 176), (59, 158), (60, 164), (61, 161), (91, 149), (93, 152), (123, 143), (125, 146)]) 0 0 1 [(0, .int x0)] (.int z :: []) (hO R g)) c6 rfl) ?_
              refine m_go (L := [(168, .bipush 17, 2, 0, 0)]) (pc1 := 170) (lv1 := [(0, .int x0)]) (st1 := [.int (17 : Int32)]) (h1 := hO R g) (by decide +kernel) rfl ?_
              cases h
              exact m_ri (by decide +kernel)
            · rw [if_neg c6] at h
              by_cases c7 : x0 = 44
              · rw [if_pos c7] at h
                refine m_go1 (q := (1, .lookupswitch 185 #[(33, 182), (37, 179), (40, 139), (41, 141), (42, 173), (43, 167), (44, 155), (45, 170), (47, 176), (59, 158), (60, 164), (61, 161), (91, 149), (93, 152), (123, 143), (125, 146)], 139, 0, 0)) (pc1 := 156) (lv1 := [(0, .int x0)]) (st1 := []) (h1 := hO R g) (by decide +kernel) (m_swx (fun z => m_loc m_ft X (.lookupswitch 185 #[(33, 182), (37, 179), (40, 139), (41, 141), (42, 173), (43, 167), (44, 155), (45, 170), (47, 176), (59, 158), (60, 164), (61, 161), (91, 149), (93, 152), (123, 143), (125, 146)]) 0 0 1 [(0, .int x0)] (.int z :: []) (hO R g)) c7 rfl) ?_
                refine m_go (L := [(156, .bipush 10, 2, 0, 0)]) (pc1 := 158) (lv1 := [(0, .int x0)]) (st1 := [.int (10 : Int32)]) (h1 := hO R g) (by decide +kernel) rfl ?_
                cases h
                exact m_ri (by decide +kernel)
              · rw [if_neg c7] at h
                by_cases c8 : x0 = 45
                · rw [if_pos c8] at h
                  refine m_go1 (q := (1, .lookupswitch 185 #[(33, 182), (37, 179), (40, 139), (41, 141), (42, 173), (43, 167), (44, 155), (45, 170), (47, 176), (59, 158), (60, 164), (61, 161), (91, 149), (93, 152), (123, 143), (125, 146)], 139, 0, 0)) (pc1 := 171) (lv1 := [(0, .int x0)]) (st1 := []) (h1 := hO R g) (by decide +kernel) (m_swx (fun z => m_loc m_ft X (.lookupswitch 185 #[(33, 182), (37, 179), (40, 139), (41, 141), (42, 173), (43, 167), (44, 155), (45, 170), (47, 176), (59, 158), (60, 164), (61, 161), (91, 149), (93, 152), (123, 143), (125, 146)]) 0 0 1 [(0, .int x0)] (.int z :: []) (hO R g)) c8 rfl) ?_
                  refine m_go (L := [(171, .bipush 18, 2, 0, 0)]) (pc1 := 173) (lv1 := [(0, .int x0)]) (st1 := [.int (18 : Int32)]) (h1 := hO R g) (by decide +kernel) rfl ?_
                  cases h
                  exact m_ri (by decide +kernel)
                · rw [if_neg c8] at h
                  by_cases c9 : x0 = 47
                  · rw [if_pos c9] at h
                    refine m_go1 (q := (1, .lookupswitch 185 #[(33, 182), (37, 179), (40, 139), (41, 141), (42, 173), (43, 167), (44, 155), (45, 170), (47, 176), (59, 158), (60, 164), (61, 161), (91, 149), (93, 152), (123, 143), (125, 146)], 139, 0, 0)) (pc1 := 177) (lv1 := [(0, .int x0)]) (st1 := []) (h1 := hO R g) (by decide +kernel) (m_swx (fun z => m_loc m_ft X (.lookupswitch 185 #[(33, 182), (37, 179), (40, 139), (41, 141), (42, 173), (43, 167), (44, 155), (45, 170), (47, 176), (59, 158), (60, 164), (61, 161), (91, 149), (93, 152), (123, 143), (125, 146)]) 0 0 1 [(0, .int x0)] (.int z :: []) (hO R g)) c9 rfl) ?_
                    refine m_go (L := [(177, .bipush 20, 2, 0, 0)]) (pc1 := 179) (lv1 := [(0, .int x0)]) (st1 := [.int (20 : Int32)]) (h1 := hO R g) (by decide +kernel) rfl ?_
                    cases h
                    exact m_ri (by decide +kernel)
                  · rw [if_neg c9] at h
                    by_cases c10 : x0 = 59
                    · rw [if_pos c10] at h
                      refine m_go1 (q := (1, .lookupswitch 185 #[(33, 182), (37, 179), (40, 139), (41, 141), (42, 173), (43, 167), (44, 155), (45, 170), (47, 176), (59, 158), (60, 164), (61, 161), (91, 149), (93, 152), (123, 143), (125, 146)], 139, 0, 0)) (pc1 := 159) (lv1 := [(0, .int x0)]) (st1 := []) (h1 := hO R g) (by decide +kernel) (m_swx (fun z => m_loc m_ft X (.lookupswitch 185 #[(33, 182), (37, 179), (40, 139), (41, 141), (42, 173), (43, 167), (44, 155), (45, 170), (47, 176), (59, 158), (60, 164), (61, 161), (91, 149), (93, 152), (123, 143), (125, 146)]) 0 0 1 [(0, .int x0)] (.int z :: []) (hO R g)) c10 rfl) ?_
                      refine m_go (L := [(159, .bipush 11, 2, 0, 0)]) (pc1 := 161) (lv1 := [(0, .int x0)]) (st1 := [.int (11 : Int32)]) (h1 := hO R g) (by decide +kernel) rfl ?_
                      cases h
                      exact m_ri (by decide +kernel)
                    · rw [if_neg c10] at h
                      by_cases c11 : x0 = 60
                      · rw [if_pos c11] at h
                        refine m_go1 (q := (1, .lookupswitch 185 #[(33, 182), (37, 179), (40, 139), (41, 141), (42, 173), (43, 167), (44, 155), (45, 170), (47, 176), (59, 158), (60, 164), (61, 161), (91, 149), (93, 152), (123, 143), (125, 146)], 139, 0, 0)) (pc1 := 165) (lv1 := [(0, .int x0)]) (st1 := []) (h1 := hO R g) (by decide +kernel) (m_swx (fun z => m_loc m_ft X (.lookupswitch 185 #[(33, 182), (37, 179), (40, 139), (41, 141), (42, 173), (43, 167), (44, 155), (45, 170), (47, 176), (59, 158), (60, 164), (61, 161), (91, 149), (93, 152), (123, 143), (125, 146)]) 0 0 1 [(0, .int x0)] (.int z :: []) (hO R g)) c11 rfl) ?_
                        refine m_go (L := [(165, .bipush 15, 2, 0, 0)]) (pc1 := 167) (lv1 := [(0, .int x0)]) (st1 := [.int (15 : Int32)]) (h1 := hO R g) (by decide +kernel) rfl ?_
                        cases h
                        exact m_ri (by decide +kernel)
                      · rw [if_neg c11] at h
                        by_cases c12 : x0 = 61
                        · rw [if_pos c12] at h
                          refine m_go1 (q := (1, .lookupswitch 185 #[(33, 182), (37, 179), (40, 139), (41, 141), (42, 173), (43, 167), (44, 155), (45, 170), (47, 176), (59, 158), (60, 164), (61, 161), (91, 149), (93, 152), (123, 143), (125, 146)], 139, 0, 0)) (pc1 := 162) (lv1 := [(0, .int x0)]) (st1 := []) (h1 := hO R g) (by decide +kernel) (m_swx (fun z => m_loc m_ft X (.lookupswitch 185 #[(33, 182), (37, 179), (40, 139), (41, 141), (42, 173), (43, 167), (44, 155), (45, 170), (47, 176), (59, 158), (60, 164), (61, 161), (91, 149), (93, 152), (123, 143), (125, 146)]) 0 0 1 [(0, .int x0)] (.int z :: []) (hO R g)) c12 rfl) ?_
                          refine m_go (L := [(162, .bipush 12, 2, 0, 0)]) (pc1 := 164) (lv1 := [(0, .int x0)]) (st1 := [.int (12 : Int32)]) (h1 := hO R g) (by decide +kernel) rfl ?_
                          cases h
                          exact m_ri (by decide +kernel)
                        · rw [if_neg c12] at h
                          by_cases c13 : x0 = 91
                          · rw [if_pos c13] at h
                            refine m_go1 (q := (1, .lookupswitch 185 #[(33, 182), (37, 179), (40, 139), (41, 141), (42, 173), (43, 167), (44, 155), (45, 170), (47, 176), (59, 158), (60, 164), (61, 161), (91, 149), (93, 152), (123, 143), (125, 146)], 139, 0, 0)) (pc1 := 150) (lv1 := [(0, .int x0)]) (st1 := []) (h1 := hO R g) (by decide +kernel) (m_swx (fun z => m_loc m_ft X (.lookupswitch 185 #[(33, 182), (37, 179), (40, 139), (41, 141), (42, 173), (43, 167), (44, 155), (45, 170), (47, 176), (59, 158), (60, 164), (61, 161), (91, 149), (93, 152), (123, 143), (125, 146)]) 0 0 1 [(0, .int x0)] (.int z :: []) (hO R g)) c13 rfl) ?_
                            refine m_go (L := [(150, .bipush 8, 2, 0, 0)]) (pc1 := 152) (lv1 := [(0, .int x0)]) (st1 := [.int (8 : Int32)]) (h1 := hO R g) (by decide +kernel) rfl ?_
                            cases h
                            exact m_ri (by decide +kernel)
                          · rw [if_neg c13] at h
                            by_cases c14 : x0 = 93
                            · rw [if_pos c14] at h
                              refine m_go1 (q := (1, .lookupswitch 185 #[(33, 182), (37, 179), (40, 139), (41, 141), (42, 173), (43, 167), (44, 155), (45, 170), (47, 176), (59, 158), (60, 164), (61, 161), (91, 149), (93, 152), (123, 143), (125, 146)], 139, 0, 0)) (pc1 := 153) (lv1 := [(0, .int x0)]) (st1 := []) (h1 := hO R g) (by decide +kernel) (m_swx (fun z => m_loc m_ft X (.lookupswitch 185 #[(33, 182), (37, 179), (40, 139), (41, 141), (42, 173), (43, 167), (44, 155), (45, 170), (47, 176), (59, 158), (60, 164), (61, 161), (91, 149), (93, 152), (123, 143), (125, 146)]) 0 0 1 [(0, .int x0)] (.int z :: []) (hO R g)) c14 rfl) ?_
                              refine m_go (L := [(153, .bipush 9, 2, 0, 0)]) (pc1 := 155) (lv1 := [(0, .int x0)]) (st1 := [.int (9 : Int32)]) (h1 := hO R g) (by decide +kernel) rfl ?_
                              cases h
                              exact m_ri (by decide +kernel)
                            · rw [if_neg c14] at h
                              by_cases c15 : x0 = 123
                              · rw [if_pos c15] at h
                                refine m_go1 (q := (1, .lookupswitch 185 #[(33, 182), (37, 179), (40, 139), (41, 141), (42, 173), (43, 167), (44, 155), (45, 170), (47, 176), (59, 158), (60, 164), (61, 161), (91, 149), (93, 152), (123, 143), (125, 146)], 139, 0, 0)) (pc1 := 144) (lv1 := [(0, .int x0)]) (st1 := []) (h1 := hO R g) (by decide +kernel) (m_swx (fun z => m_loc m_ft X (.lookupswitch 185 #[(33, 182), (37, 179), (40, 139), (41, 141), (42, 173), (43, 167), (44, 155), (45, 170), (47, 176), (59, 158), (60, 164), (61, 161), (91, 149), (93, 152), (123, 143), (125, 146)]) 0 0 1 [(0, .int x0)] (.int z :: []) (hO R g)) c15 rfl) ?_
                                refine m_go (L := [(144, .bipush 6, 2, 0, 0)]) (pc1 := 146) (lv1 := [(0, .int x0)]) (st1 := [.int (6 : Int32)]) (h1 := hO R g) (by decide +kernel) rfl ?_
                                cases h
                                exact m_ri (by decide +kernel)
                              · rw [if_neg c15] at h
                                by_cases c16 : x0 = 125
                                · rw [if_pos c16] at h
                                  refine m_go1 (q := (1, .lookupswitch 185 #[(33, 182), (37, 179), (40, 139), (41, 141), (42, 173), (43, 167), (44, 155), (45, 170), (47, 176), (59, 158), (60, 164), (61, 161), (91, 149), (93, 152), (123, 143), (125, 146)], 139, 0, 0)) (pc1 := 147) (lv1 := [(0, .int x0)]) (st1 := []) (h1 := hO R g) (by decide +kernel) (m_swx (fun z => m_loc m_ft X (.lookupswitch 185 #[(33, 182), (37, 179), (40, 139), (41, 141), (42, 173), (43, 167), (44, 155), (45, 170), (47, 176), (59, 158), (60, 164), (61, 161), (91, 149), (93, 152), (123, 143), (125, 146)]) 0 0 1 [(0, .int x0)] (.int z :: []) (hO R g)) c16 rfl) ?_
                                  refine m_go (L := [(147, .bipush 7, 2, 0, 0)]) (pc1 := 149) (lv1 := [(0, .int x0)]) (st1 := [.int (7 : Int32)]) (h1 := hO R g) (by decide +kernel) rfl ?_
                                  cases h
                                  exact m_ri (by decide +kernel)
                                · rw [if_neg c16] at h
                                  refine m_go1 (q := (1, .lookupswitch 185 #[(33, 182), (37, 179), (40, 139), (41, 141), (42, 173), (43, 167), (44, 155), (45, 170), (47, 176), (59, 158), (60, 164), (61, 161), (91, 149), (93, 152), (123, 143), (125, 146)], 139, 0, 0)) (pc1 := 186) (lv1 := [(0, .int x0)]) (st1 := []) (h1 := hO R g) (by decide +kernel) (by show some (m_tg _ (Op.lookupswitch.offset _ _ _), _, _, _) = _; rw [m_lkd _ (List.forall_mem_cons.mpr ⟨m_ne (k := 33) (by decide) c1, List.forall_mem_cons.mpr ⟨m_ne (k := 37) (by decide) c2, List.forall_mem_cons.mpr ⟨m_ne (k := 40) (by decide) c3, List.forall_mem_cons.mpr ⟨m_ne (k := 41) (by decide) c4, List.forall_mem_cons.mpr ⟨m_ne (k := 42) (by decide) c5, List.forall_mem_cons.mpr ⟨m_ne (k := 43) (by decide) c6, List.forall_mem_cons.mpr ⟨m_ne (k := 44) (by decide) c7, List.forall_mem_cons.mpr ⟨m_ne (k := 45) (by decide) c8, List.forall_mem_cons.mpr ⟨m_ne (k := 47) (by decide) c9, List.forall_mem_cons.mpr ⟨m_ne (k := 59) (by decide) c10, List.forall_mem_cons.mpr ⟨m_ne (k := 60) (by decide) c11, List.forall_mem_cons.mpr ⟨m_ne (k := 61) (by decide) c12, List.forall_mem_cons.mpr ⟨m_ne (k := 91) (by decide) c13, List.forall_mem_cons.mpr ⟨m_ne (k := 93) (by decide) c14, List.forall_mem_cons.mpr ⟨m_ne (k := 123) (by decide) c15, List.forall_mem_cons.mpr ⟨m_ne (k := 125) (by decide) c16, fun _ hq => nomatch hq⟩⟩⟩⟩⟩⟩⟩⟩⟩⟩⟩⟩⟩⟩⟩⟩)]; rfl) ?_
                                  refine m_go (L := [(186, .iconst 1, 1, 0, 0)]) (pc1 := 187) (lv1 := [(0, .int x0)]) (st1 := [.int (1 : Int32)]) (h1 := hO R g) (by decide +kernel) rfl ?_
                                  cases h
                                  exact m_ri (by decide +kernel)
end Dec
end
