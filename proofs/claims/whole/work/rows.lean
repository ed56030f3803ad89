section
-- ===== PART A: goes FIRST, ahead of the names: the tables' words, and 'selects' of the private methods out of them =====
/-- a private method of a class that the tables say can be made, by its rows of tables_1 -/
def lw_okq (q : MethodName × Nat) : Prop := (q.1.cls ≠ "java/lang/invoke/MethodHandle" ∧ q.1.cls ≠ "java/lang/invoke/VarHandle") ∧ Cond.instantiable q.1.cls q.2 ∈ tables_1 ∧ Cond.privateMethod q.1 ∈ tables_1 ∧ Cond.instanceMethod q.1 ∈ tables_1
theorem lw_p0 : lw_okq (⟨"PackageRules$UnitReader", "take", "(II)Z"⟩, 14) := ⟨⟨by decide +kernel, by decide +kernel⟩, List.mem_of_getElem? (i := 18) (by decide +kernel), List.mem_of_getElem? (i := 263) (by decide +kernel), List.mem_of_getElem? (i := 264) (by decide +kernel)⟩
theorem lw_p1 : lw_okq (⟨"PackageRules$UnitReader", "readConstants", "()Z"⟩, 14) := ⟨⟨by decide +kernel, by decide +kernel⟩, List.mem_of_getElem? (i := 18) (by decide +kernel), List.mem_of_getElem? (i := 267) (by decide +kernel), List.mem_of_getElem? (i := 268) (by decide +kernel)⟩
theorem lw_p2 : lw_okq (⟨"PackageRules$UnitReader", "readConstant", "(I)Z"⟩, 14) := ⟨⟨by decide +kernel, by decide +kernel⟩, List.mem_of_getElem? (i := 18) (by decide +kernel), List.mem_of_getElem? (i := 271) (by decide +kernel), List.mem_of_getElem? (i := 272) (by decide +kernel)⟩
theorem lw_p3 : lw_okq (⟨"PackageRules$UnitReader", "readText", "(I)Z"⟩, 14) := ⟨⟨by decide +kernel, by decide +kernel⟩, List.mem_of_getElem? (i := 18) (by decide +kernel), List.mem_of_getElem? (i := 275) (by decide +kernel), List.mem_of_getElem? (i := 276) (by decide +kernel)⟩
theorem lw_p4 : lw_okq (⟨"PackageRules$UnitReader", "fail", "(I)Z"⟩, 14) := ⟨⟨by decide +kernel, by decide +kernel⟩, List.mem_of_getElem? (i := 18) (by decide +kernel), List.mem_of_getElem? (i := 282) (by decide +kernel), List.mem_of_getElem? (i := 283) (by decide +kernel)⟩
theorem lw_p5 : lw_okq (⟨"PackageRules$UnitReader", "checkNumbers", "()Z"⟩, 14) := ⟨⟨by decide +kernel, by decide +kernel⟩, List.mem_of_getElem? (i := 18) (by decide +kernel), List.mem_of_getElem? (i := 289) (by decide +kernel), List.mem_of_getElem? (i := 290) (by decide +kernel)⟩
theorem lw_p6 : lw_okq (⟨"PackageRules$UnitReader", "isName", "(I)Z"⟩, 14) := ⟨⟨by decide +kernel, by decide +kernel⟩, List.mem_of_getElem? (i := 18) (by decide +kernel), List.mem_of_getElem? (i := 293) (by decide +kernel), List.mem_of_getElem? (i := 294) (by decide +kernel)⟩
theorem lw_p7 : lw_okq (⟨"PackageRules$UnitReader", "tagOf", "(I)I"⟩, 14) := ⟨⟨by decide +kernel, by decide +kernel⟩, List.mem_of_getElem? (i := 18) (by decide +kernel), List.mem_of_getElem? (i := 297) (by decide +kernel), List.mem_of_getElem? (i := 298) (by decide +kernel)⟩
theorem lw_p8 : lw_okq (⟨"PackageRules$UnitReader", "isWord", "(I)Z"⟩, 14) := ⟨⟨by decide +kernel, by decide +kernel⟩, List.mem_of_getElem? (i := 18) (by decide +kernel), List.mem_of_getElem? (i := 310) (by decide +kernel), List.mem_of_getElem? (i := 311) (by decide +kernel)⟩
theorem lw_p9 : lw_okq (⟨"PackageRules$UnitReader", "readParents", "()Z"⟩, 14) := ⟨⟨by decide +kernel, by decide +kernel⟩, List.mem_of_getElem? (i := 18) (by decide +kernel), List.mem_of_getElem? (i := 317) (by decide +kernel), List.mem_of_getElem? (i := 318) (by decide +kernel)⟩
theorem lw_p10 : lw_okq (⟨"PackageRules$UnitReader", "takeClass", "()Z"⟩, 14) := ⟨⟨by decide +kernel, by decide +kernel⟩, List.mem_of_getElem? (i := 18) (by decide +kernel), List.mem_of_getElem? (i := 321) (by decide +kernel), List.mem_of_getElem? (i := 322) (by decide +kernel)⟩
theorem lw_p11 : lw_okq (⟨"PackageRules$UnitReader", "lastText", "(I)J"⟩, 14) := ⟨⟨by decide +kernel, by decide +kernel⟩, List.mem_of_getElem? (i := 18) (by decide +kernel), List.mem_of_getElem? (i := 325) (by decide +kernel), List.mem_of_getElem? (i := 326) (by decide +kernel)⟩
theorem lw_p12 : lw_okq (⟨"PackageRules$UnitReader", "readInterfaces", "()Z"⟩, 14) := ⟨⟨by decide +kernel, by decide +kernel⟩, List.mem_of_getElem? (i := 18) (by decide +kernel), List.mem_of_getElem? (i := 333) (by decide +kernel), List.mem_of_getElem? (i := 334) (by decide +kernel)⟩
theorem lw_p13 : lw_okq (⟨"PackageRules$UnitReader", "readFields", "()Z"⟩, 14) := ⟨⟨by decide +kernel, by decide +kernel⟩, List.mem_of_getElem? (i := 18) (by decide +kernel), List.mem_of_getElem? (i := 341) (by decide +kernel), List.mem_of_getElem? (i := 342) (by decide +kernel)⟩
theorem lw_p14 : lw_okq (⟨"PackageRules$UnitReader", "takeWord", "()Z"⟩, 14) := ⟨⟨by decide +kernel, by decide +kernel⟩, List.mem_of_getElem? (i := 18) (by decide +kernel), List.mem_of_getElem? (i := 345) (by decide +kernel), List.mem_of_getElem? (i := 346) (by decide +kernel)⟩
theorem lw_p15 : lw_okq (⟨"PackageRules$UnitReader", "readMethods", "()Z"⟩, 14) := ⟨⟨by decide +kernel, by decide +kernel⟩, List.mem_of_getElem? (i := 18) (by decide +kernel), List.mem_of_getElem? (i := 353) (by decide +kernel), List.mem_of_getElem? (i := 354) (by decide +kernel)⟩
def lw_privs_1 : List (MethodName × Nat) := [(⟨"PackageRules$UnitReader", "take", "(II)Z"⟩, 14), (⟨"PackageRules$UnitReader", "readConstants", "()Z"⟩, 14), (⟨"PackageRules$UnitReader", "readConstant", "(I)Z"⟩, 14), (⟨"PackageRules$UnitReader", "readText", "(I)Z"⟩, 14), (⟨"PackageRules$UnitReader", "fail", "(I)Z"⟩, 14), (⟨"PackageRules$UnitReader", "checkNumbers", "()Z"⟩, 14), (⟨"PackageRules$UnitReader", "isName", "(I)Z"⟩, 14), (⟨"PackageRules$UnitReader", "tagOf", "(I)I"⟩, 14), (⟨"PackageRules$UnitReader", "isWord", "(I)Z"⟩, 14), (⟨"PackageRules$UnitReader", "readParents", "()Z"⟩, 14), (⟨"PackageRules$UnitReader", "takeClass", "()Z"⟩, 14), (⟨"PackageRules$UnitReader", "lastText", "(I)J"⟩, 14), (⟨"PackageRules$UnitReader", "readInterfaces", "()Z"⟩, 14), (⟨"PackageRules$UnitReader", "readFields", "()Z"⟩, 14), (⟨"PackageRules$UnitReader", "takeWord", "()Z"⟩, 14), (⟨"PackageRules$UnitReader", "readMethods", "()Z"⟩, 14)]
theorem lw_r1 : ∀ q ∈ lw_privs_1, lw_okq q := List.forall_mem_cons.mpr ⟨lw_p0, List.forall_mem_cons.mpr ⟨lw_p1, List.forall_mem_cons.mpr ⟨lw_p2, List.forall_mem_cons.mpr ⟨lw_p3, List.forall_mem_cons.mpr ⟨lw_p4, List.forall_mem_cons.mpr ⟨lw_p5, List.forall_mem_cons.mpr ⟨lw_p6, List.forall_mem_cons.mpr ⟨lw_p7, List.forall_mem_cons.mpr ⟨lw_p8, List.forall_mem_cons.mpr ⟨lw_p9, List.forall_mem_cons.mpr ⟨lw_p10, List.forall_mem_cons.mpr ⟨lw_p11, List.forall_mem_cons.mpr ⟨lw_p12, List.forall_mem_cons.mpr ⟨lw_p13, List.forall_mem_cons.mpr ⟨lw_p14, List.forall_mem_cons.mpr ⟨lw_p15, fun _ h => absurd h List.not_mem_nil⟩⟩⟩⟩⟩⟩⟩⟩⟩⟩⟩⟩⟩⟩⟩⟩
theorem lw_p16 : lw_okq (⟨"PackageRules$UnitReader", "readMethod", "()Z"⟩, 14) := ⟨⟨by decide +kernel, by decide +kernel⟩, List.mem_of_getElem? (i := 18) (by decide +kernel), List.mem_of_getElem? (i := 357) (by decide +kernel), List.mem_of_getElem? (i := 358) (by decide +kernel)⟩
theorem lw_p17 : lw_okq (⟨"PackageRules$UnitReader", "readInstruction", "()Z"⟩, 14) := ⟨⟨by decide +kernel, by decide +kernel⟩, List.mem_of_getElem? (i := 18) (by decide +kernel), List.mem_of_getElem? (i := 368) (by decide +kernel), List.mem_of_getElem? (i := 369) (by decide +kernel)⟩
theorem lw_p18 : lw_okq (⟨"PackageRules$UnitReader", "readStep", "()Z"⟩, 14) := ⟨⟨by decide +kernel, by decide +kernel⟩, List.mem_of_getElem? (i := 18) (by decide +kernel), List.mem_of_getElem? (i := 372) (by decide +kernel), List.mem_of_getElem? (i := 373) (by decide +kernel)⟩
theorem lw_p19 : lw_okq (⟨"PackageRules$UnitReader", "readSwitch", "()Z"⟩, 14) := ⟨⟨by decide +kernel, by decide +kernel⟩, List.mem_of_getElem? (i := 18) (by decide +kernel), List.mem_of_getElem? (i := 376) (by decide +kernel), List.mem_of_getElem? (i := 377) (by decide +kernel)⟩
theorem lw_p20 : lw_okq (⟨"PackageRules$UnitReader", "readWide", "()Z"⟩, 14) := ⟨⟨by decide +kernel, by decide +kernel⟩, List.mem_of_getElem? (i := 18) (by decide +kernel), List.mem_of_getElem? (i := 380) (by decide +kernel), List.mem_of_getElem? (i := 381) (by decide +kernel)⟩
theorem lw_p21 : lw_okq (⟨"PackageRules$UnitReader", "useConstant", "(II)Z"⟩, 14) := ⟨⟨by decide +kernel, by decide +kernel⟩, List.mem_of_getElem? (i := 18) (by decide +kernel), List.mem_of_getElem? (i := 387) (by decide +kernel), List.mem_of_getElem? (i := 388) (by decide +kernel)⟩
theorem lw_p22 : lw_okq (⟨"PackageRules$UnitReader", "readUse", "(I)Z"⟩, 14) := ⟨⟨by decide +kernel, by decide +kernel⟩, List.mem_of_getElem? (i := 18) (by decide +kernel), List.mem_of_getElem? (i := 394) (by decide +kernel), List.mem_of_getElem? (i := 395) (by decide +kernel)⟩
theorem lw_p23 : lw_okq (⟨"PackageRules$ClassGraph", "linkParents", "()V"⟩, 10) := ⟨⟨by decide +kernel, by decide +kernel⟩, List.mem_of_getElem? (i := 70) (by decide +kernel), List.mem_of_getElem? (i := 406) (by decide +kernel), List.mem_of_getElem? (i := 407) (by decide +kernel)⟩
theorem lw_p24 : lw_okq (⟨"PackageRules$ClassGraph", "follow", "([I)V"⟩, 10) := ⟨⟨by decide +kernel, by decide +kernel⟩, List.mem_of_getElem? (i := 70) (by decide +kernel), List.mem_of_getElem? (i := 413) (by decide +kernel), List.mem_of_getElem? (i := 414) (by decide +kernel)⟩
theorem lw_p25 : lw_okq (⟨"PackageRules", "canBeRule", "(III)Z"⟩, 8) := ⟨⟨by decide +kernel, by decide +kernel⟩, List.mem_of_getElem? (i := 10) (by decide +kernel), List.mem_of_getElem? (i := 435) (by decide +kernel), List.mem_of_getElem? (i := 436) (by decide +kernel)⟩
theorem lw_p26 : lw_okq (⟨"PackageRules", "isPattern", "(I)Z"⟩, 8) := ⟨⟨by decide +kernel, by decide +kernel⟩, List.mem_of_getElem? (i := 10) (by decide +kernel), List.mem_of_getElem? (i := 442) (by decide +kernel), List.mem_of_getElem? (i := 443) (by decide +kernel)⟩
theorem lw_p27 : lw_okq (⟨"PackageRules", "isRule", "(I)Z"⟩, 8) := ⟨⟨by decide +kernel, by decide +kernel⟩, List.mem_of_getElem? (i := 10) (by decide +kernel), List.mem_of_getElem? (i := 454) (by decide +kernel), List.mem_of_getElem? (i := 455) (by decide +kernel)⟩
theorem lw_p28 : lw_okq (⟨"PackageRules", "findNew", "(LPackageRules$Rule;)I"⟩, 8) := ⟨⟨by decide +kernel, by decide +kernel⟩, List.mem_of_getElem? (i := 10) (by decide +kernel), List.mem_of_getElem? (i := 458) (by decide +kernel), List.mem_of_getElem? (i := 459) (by decide +kernel)⟩
theorem lw_p29 : lw_okq (⟨"PackageRules", "findAll", "(LPackageRules$Rule;)I"⟩, 8) := ⟨⟨by decide +kernel, by decide +kernel⟩, List.mem_of_getElem? (i := 10) (by decide +kernel), List.mem_of_getElem? (i := 462) (by decide +kernel), List.mem_of_getElem? (i := 463) (by decide +kernel)⟩
theorem lw_p30 : lw_okq (⟨"PackageRules", "findCycles", "(I)I"⟩, 8) := ⟨⟨by decide +kernel, by decide +kernel⟩, List.mem_of_getElem? (i := 10) (by decide +kernel), List.mem_of_getElem? (i := 466) (by decide +kernel), List.mem_of_getElem? (i := 467) (by decide +kernel)⟩
theorem lw_p31 : lw_okq (⟨"PackageRules$ClassGraph", "headOf", "(I)I"⟩, 10) := ⟨⟨by decide +kernel, by decide +kernel⟩, List.mem_of_getElem? (i := 70) (by decide +kernel), List.mem_of_getElem? (i := 481) (by decide +kernel), List.mem_of_getElem? (i := 482) (by decide +kernel)⟩
def lw_privs_2 : List (MethodName × Nat) := [(⟨"PackageRules$UnitReader", "readMethod", "()Z"⟩, 14), (⟨"PackageRules$UnitReader", "readInstruction", "()Z"⟩, 14), (⟨"PackageRules$UnitReader", "readStep", "()Z"⟩, 14), (⟨"PackageRules$UnitReader", "readSwitch", "()Z"⟩, 14), (⟨"PackageRules$UnitReader", "readWide", "()Z"⟩, 14), (⟨"PackageRules$UnitReader", "useConstant", "(II)Z"⟩, 14), (⟨"PackageRules$UnitReader", "readUse", "(I)Z"⟩, 14), (⟨"PackageRules$ClassGraph", "linkParents", "()V"⟩, 10), (⟨"PackageRules$ClassGraph", "follow", "([I)V"⟩, 10), (⟨"PackageRules", "canBeRule", "(III)Z"⟩, 8), (⟨"PackageRules", "isPattern", "(I)Z"⟩, 8), (⟨"PackageRules", "isRule", "(I)Z"⟩, 8), (⟨"PackageRules", "findNew", "(LPackageRules$Rule;)I"⟩, 8), (⟨"PackageRules", "findAll", "(LPackageRules$Rule;)I"⟩, 8), (⟨"PackageRules", "findCycles", "(I)I"⟩, 8), (⟨"PackageRules$ClassGraph", "headOf", "(I)I"⟩, 10)]
theorem lw_r2 : ∀ q ∈ lw_privs_2, lw_okq q := List.forall_mem_cons.mpr ⟨lw_p16, List.forall_mem_cons.mpr ⟨lw_p17, List.forall_mem_cons.mpr ⟨lw_p18, List.forall_mem_cons.mpr ⟨lw_p19, List.forall_mem_cons.mpr ⟨lw_p20, List.forall_mem_cons.mpr ⟨lw_p21, List.forall_mem_cons.mpr ⟨lw_p22, List.forall_mem_cons.mpr ⟨lw_p23, List.forall_mem_cons.mpr ⟨lw_p24, List.forall_mem_cons.mpr ⟨lw_p25, List.forall_mem_cons.mpr ⟨lw_p26, List.forall_mem_cons.mpr ⟨lw_p27, List.forall_mem_cons.mpr ⟨lw_p28, List.forall_mem_cons.mpr ⟨lw_p29, List.forall_mem_cons.mpr ⟨lw_p30, List.forall_mem_cons.mpr ⟨lw_p31, fun _ h => absurd h List.not_mem_nil⟩⟩⟩⟩⟩⟩⟩⟩⟩⟩⟩⟩⟩⟩⟩⟩
theorem lw_p32 : lw_okq (⟨"PackageRules$ClassGraph", "slicesNamedIn", "(I)I"⟩, 10) := ⟨⟨by decide +kernel, by decide +kernel⟩, List.mem_of_getElem? (i := 70) (by decide +kernel), List.mem_of_getElem? (i := 485) (by decide +kernel), List.mem_of_getElem? (i := 486) (by decide +kernel)⟩
theorem lw_p33 : lw_okq (⟨"PackageRules", "watches", "(LPackageRules$Rule;J)Z"⟩, 8) := ⟨⟨by decide +kernel, by decide +kernel⟩, List.mem_of_getElem? (i := 10) (by decide +kernel), List.mem_of_getElem? (i := 493) (by decide +kernel), List.mem_of_getElem? (i := 494) (by decide +kernel)⟩
theorem lw_p34 : lw_okq (⟨"PackageRules", "fitsText", "(IJ)Z"⟩, 8) := ⟨⟨by decide +kernel, by decide +kernel⟩, List.mem_of_getElem? (i := 10) (by decide +kernel), List.mem_of_getElem? (i := 497) (by decide +kernel), List.mem_of_getElem? (i := 498) (by decide +kernel)⟩
theorem lw_p35 : lw_okq (⟨"PackageRules", "breaks", "(LPackageRules$Rule;II)Z"⟩, 8) := ⟨⟨by decide +kernel, by decide +kernel⟩, List.mem_of_getElem? (i := 10) (by decide +kernel), List.mem_of_getElem? (i := 510) (by decide +kernel), List.mem_of_getElem? (i := 511) (by decide +kernel)⟩
theorem lw_p36 : lw_okq (⟨"PackageRules$ClassGraph", "methodFrom", "(IJ)I"⟩, 10) := ⟨⟨by decide +kernel, by decide +kernel⟩, List.mem_of_getElem? (i := 70) (by decide +kernel), List.mem_of_getElem? (i := 522) (by decide +kernel), List.mem_of_getElem? (i := 523) (by decide +kernel)⟩
theorem lw_p37 : lw_okq (⟨"PackageRules$ClassGraph", "interfaceOf", "(II)I"⟩, 10) := ⟨⟨by decide +kernel, by decide +kernel⟩, List.mem_of_getElem? (i := 70) (by decide +kernel), List.mem_of_getElem? (i := 530) (by decide +kernel), List.mem_of_getElem? (i := 531) (by decide +kernel)⟩
theorem lw_p38 : lw_okq (⟨"PackageRules$ClassGraph", "faceFrom", "(IJI)I"⟩, 10) := ⟨⟨by decide +kernel, by decide +kernel⟩, List.mem_of_getElem? (i := 70) (by decide +kernel), List.mem_of_getElem? (i := 534) (by decide +kernel), List.mem_of_getElem? (i := 535) (by decide +kernel)⟩
theorem lw_p39 : lw_okq (⟨"PackageRules$ClassGraph", "fieldFrom", "(IJI)I"⟩, 10) := ⟨⟨by decide +kernel, by decide +kernel⟩, List.mem_of_getElem? (i := 70) (by decide +kernel), List.mem_of_getElem? (i := 538) (by decide +kernel), List.mem_of_getElem? (i := 539) (by decide +kernel)⟩
theorem lw_p40 : lw_okq (⟨"PackageRulesModel", "readConstants", "()Z"⟩, 32) := ⟨⟨by decide +kernel, by decide +kernel⟩, List.mem_of_getElem? (i := 626) (by decide +kernel), List.mem_of_getElem? (i := 741) (by decide +kernel), List.mem_of_getElem? (i := 742) (by decide +kernel)⟩
theorem lw_p41 : lw_okq (⟨"PackageRulesModel", "buffer", "(I)I"⟩, 32) := ⟨⟨by decide +kernel, by decide +kernel⟩, List.mem_of_getElem? (i := 626) (by decide +kernel), List.mem_of_getElem? (i := 745) (by decide +kernel), List.mem_of_getElem? (i := 746) (by decide +kernel)⟩
theorem lw_p42 : lw_okq (⟨"PackageRulesModel", "constant", "(I)Z"⟩, 32) := ⟨⟨by decide +kernel, by decide +kernel⟩, List.mem_of_getElem? (i := 626) (by decide +kernel), List.mem_of_getElem? (i := 749) (by decide +kernel), List.mem_of_getElem? (i := 750) (by decide +kernel)⟩
theorem lw_p43 : lw_okq (⟨"PackageRulesModel", "bytesHere", "(I)Z"⟩, 32) := ⟨⟨by decide +kernel, by decide +kernel⟩, List.mem_of_getElem? (i := 626) (by decide +kernel), List.mem_of_getElem? (i := 753) (by decide +kernel), List.mem_of_getElem? (i := 754) (by decide +kernel)⟩
theorem lw_p44 : lw_okq (⟨"PackageRulesModel", "checkConstants", "()Z"⟩, 32) := ⟨⟨by decide +kernel, by decide +kernel⟩, List.mem_of_getElem? (i := 626) (by decide +kernel), List.mem_of_getElem? (i := 760) (by decide +kernel), List.mem_of_getElem? (i := 761) (by decide +kernel)⟩
theorem lw_p45 : lw_okq (⟨"PackageRulesModel", "tag", "(I)I"⟩, 32) := ⟨⟨by decide +kernel, by decide +kernel⟩, List.mem_of_getElem? (i := 626) (by decide +kernel), List.mem_of_getElem? (i := 764) (by decide +kernel), List.mem_of_getElem? (i := 765) (by decide +kernel)⟩
theorem lw_p46 : lw_okq (⟨"PackageRulesModel", "fitting", "(II)Z"⟩, 32) := ⟨⟨by decide +kernel, by decide +kernel⟩, List.mem_of_getElem? (i := 626) (by decide +kernel), List.mem_of_getElem? (i := 768) (by decide +kernel), List.mem_of_getElem? (i := 769) (by decide +kernel)⟩
theorem lw_p47 : lw_okq (⟨"PackageRulesModel", "worded", "(IZ)Z"⟩, 32) := ⟨⟨by decide +kernel, by decide +kernel⟩, List.mem_of_getElem? (i := 626) (by decide +kernel), List.mem_of_getElem? (i := 772) (by decide +kernel), List.mem_of_getElem? (i := 773) (by decide +kernel)⟩
def lw_privs_3 : List (MethodName × Nat) := [(⟨"PackageRules$ClassGraph", "slicesNamedIn", "(I)I"⟩, 10), (⟨"PackageRules", "watches", "(LPackageRules$Rule;J)Z"⟩, 8), (⟨"PackageRules", "fitsText", "(IJ)Z"⟩, 8), (⟨"PackageRules", "breaks", "(LPackageRules$Rule;II)Z"⟩, 8), (⟨"PackageRules$ClassGraph", "methodFrom", "(IJ)I"⟩, 10), (⟨"PackageRules$ClassGraph", "interfaceOf", "(II)I"⟩, 10), (⟨"PackageRules$ClassGraph", "faceFrom", "(IJI)I"⟩, 10), (⟨"PackageRules$ClassGraph", "fieldFrom", "(IJI)I"⟩, 10), (⟨"PackageRulesModel", "readConstants", "()Z"⟩, 32), (⟨"PackageRulesModel", "buffer", "(I)I"⟩, 32), (⟨"PackageRulesModel", "constant", "(I)Z"⟩, 32), (⟨"PackageRulesModel", "bytesHere", "(I)Z"⟩, 32), (⟨"PackageRulesModel", "checkConstants", "()Z"⟩, 32), (⟨"PackageRulesModel", "tag", "(I)I"⟩, 32), (⟨"PackageRulesModel", "fitting", "(II)Z"⟩, 32), (⟨"PackageRulesModel", "worded", "(IZ)Z"⟩, 32)]
theorem lw_r3 : ∀ q ∈ lw_privs_3, lw_okq q := List.forall_mem_cons.mpr ⟨lw_p32, List.forall_mem_cons.mpr ⟨lw_p33, List.forall_mem_cons.mpr ⟨lw_p34, List.forall_mem_cons.mpr ⟨lw_p35, List.forall_mem_cons.mpr ⟨lw_p36, List.forall_mem_cons.mpr ⟨lw_p37, List.forall_mem_cons.mpr ⟨lw_p38, List.forall_mem_cons.mpr ⟨lw_p39, List.forall_mem_cons.mpr ⟨lw_p40, List.forall_mem_cons.mpr ⟨lw_p41, List.forall_mem_cons.mpr ⟨lw_p42, List.forall_mem_cons.mpr ⟨lw_p43, List.forall_mem_cons.mpr ⟨lw_p44, List.forall_mem_cons.mpr ⟨lw_p45, List.forall_mem_cons.mpr ⟨lw_p46, List.forall_mem_cons.mpr ⟨lw_p47, fun _ h => absurd h List.not_mem_nil⟩⟩⟩⟩⟩⟩⟩⟩⟩⟩⟩⟩⟩⟩⟩⟩
theorem lw_p48 : lw_okq (⟨"PackageRulesModel", "number", "(II)Z"⟩, 32) := ⟨⟨by decide +kernel, by decide +kernel⟩, List.mem_of_getElem? (i := 626) (by decide +kernel), List.mem_of_getElem? (i := 776) (by decide +kernel), List.mem_of_getElem? (i := 777) (by decide +kernel)⟩
theorem lw_p49 : lw_okq (⟨"PackageRulesModel", "rest", "()Z"⟩, 32) := ⟨⟨by decide +kernel, by decide +kernel⟩, List.mem_of_getElem? (i := 626) (by decide +kernel), List.mem_of_getElem? (i := 780) (by decide +kernel), List.mem_of_getElem? (i := 781) (by decide +kernel)⟩
theorem lw_p50 : lw_okq (⟨"PackageRulesModel", "several", "(II)Z"⟩, 32) := ⟨⟨by decide +kernel, by decide +kernel⟩, List.mem_of_getElem? (i := 626) (by decide +kernel), List.mem_of_getElem? (i := 784) (by decide +kernel), List.mem_of_getElem? (i := 785) (by decide +kernel)⟩
theorem lw_p51 : lw_okq (⟨"PackageRulesModel", "upTo", "(II)Z"⟩, 32) := ⟨⟨by decide +kernel, by decide +kernel⟩, List.mem_of_getElem? (i := 626) (by decide +kernel), List.mem_of_getElem? (i := 788) (by decide +kernel), List.mem_of_getElem? (i := 789) (by decide +kernel)⟩
theorem lw_p52 : lw_okq (⟨"PackageRulesModel", "method", "()Z"⟩, 32) := ⟨⟨by decide +kernel, by decide +kernel⟩, List.mem_of_getElem? (i := 626) (by decide +kernel), List.mem_of_getElem? (i := 792) (by decide +kernel), List.mem_of_getElem? (i := 793) (by decide +kernel)⟩
theorem lw_p53 : lw_okq (⟨"PackageRulesModel", "code", "(II)Z"⟩, 32) := ⟨⟨by decide +kernel, by decide +kernel⟩, List.mem_of_getElem? (i := 626) (by decide +kernel), List.mem_of_getElem? (i := 796) (by decide +kernel), List.mem_of_getElem? (i := 797) (by decide +kernel)⟩
theorem lw_p54 : lw_okq (⟨"PackageRulesModel", "turn", "(II)Z"⟩, 32) := ⟨⟨by decide +kernel, by decide +kernel⟩, List.mem_of_getElem? (i := 626) (by decide +kernel), List.mem_of_getElem? (i := 803) (by decide +kernel), List.mem_of_getElem? (i := 804) (by decide +kernel)⟩
theorem lw_p55 : lw_okq (⟨"PackageRulesModel", "wide", "(I)Z"⟩, 32) := ⟨⟨by decide +kernel, by decide +kernel⟩, List.mem_of_getElem? (i := 626) (by decide +kernel), List.mem_of_getElem? (i := 807) (by decide +kernel), List.mem_of_getElem? (i := 808) (by decide +kernel)⟩
theorem lw_p56 : lw_okq (⟨"PackageRulesModel", "ownName", "(I)J"⟩, 32) := ⟨⟨by decide +kernel, by decide +kernel⟩, List.mem_of_getElem? (i := 626) (by decide +kernel), List.mem_of_getElem? (i := 811) (by decide +kernel), List.mem_of_getElem? (i := 812) (by decide +kernel)⟩
theorem lw_p57 : lw_okq (⟨"PackageRulesModel", "headOf", "(I)I"⟩, 32) := ⟨⟨by decide +kernel, by decide +kernel⟩, List.mem_of_getElem? (i := 626) (by decide +kernel), List.mem_of_getElem? (i := 815) (by decide +kernel), List.mem_of_getElem? (i := 816) (by decide +kernel)⟩
theorem lw_p58 : lw_okq (⟨"PackageRulesModel", "constantAt", "(II)I"⟩, 32) := ⟨⟨by decide +kernel, by decide +kernel⟩, List.mem_of_getElem? (i := 626) (by decide +kernel), List.mem_of_getElem? (i := 819) (by decide +kernel), List.mem_of_getElem? (i := 820) (by decide +kernel)⟩
theorem lw_p59 : lw_okq (⟨"PackageRulesModel", "nameOf", "(II)J"⟩, 32) := ⟨⟨by decide +kernel, by decide +kernel⟩, List.mem_of_getElem? (i := 626) (by decide +kernel), List.mem_of_getElem? (i := 823) (by decide +kernel), List.mem_of_getElem? (i := 824) (by decide +kernel)⟩
theorem lw_p60 : lw_okq (⟨"PackageRulesModel", "textOf", "(II)J"⟩, 32) := ⟨⟨by decide +kernel, by decide +kernel⟩, List.mem_of_getElem? (i := 626) (by decide +kernel), List.mem_of_getElem? (i := 827) (by decide +kernel), List.mem_of_getElem? (i := 828) (by decide +kernel)⟩
theorem lw_p61 : lw_okq (⟨"PackageRulesModel", "indexOf", "(J)I"⟩, 32) := ⟨⟨by decide +kernel, by decide +kernel⟩, List.mem_of_getElem? (i := 626) (by decide +kernel), List.mem_of_getElem? (i := 835) (by decide +kernel), List.mem_of_getElem? (i := 836) (by decide +kernel)⟩
theorem lw_p62 : lw_okq (⟨"PackageRulesModel", "isClass", "(I)Z"⟩, 32) := ⟨⟨by decide +kernel, by decide +kernel⟩, List.mem_of_getElem? (i := 626) (by decide +kernel), List.mem_of_getElem? (i := 843) (by decide +kernel), List.mem_of_getElem? (i := 844) (by decide +kernel)⟩
theorem lw_p63 : lw_okq (⟨"PackageRulesModel", "ancestors", "()V"⟩, 32) := ⟨⟨by decide +kernel, by decide +kernel⟩, List.mem_of_getElem? (i := 626) (by decide +kernel), List.mem_of_getElem? (i := 847) (by decide +kernel), List.mem_of_getElem? (i := 848) (by decide +kernel)⟩
def lw_privs_4 : List (MethodName × Nat) := [(⟨"PackageRulesModel", "number", "(II)Z"⟩, 32), (⟨"PackageRulesModel", "rest", "()Z"⟩, 32), (⟨"PackageRulesModel", "several", "(II)Z"⟩, 32), (⟨"PackageRulesModel", "upTo", "(II)Z"⟩, 32), (⟨"PackageRulesModel", "method", "()Z"⟩, 32), (⟨"PackageRulesModel", "code", "(II)Z"⟩, 32), (⟨"PackageRulesModel", "turn", "(II)Z"⟩, 32), (⟨"PackageRulesModel", "wide", "(I)Z"⟩, 32), (⟨"PackageRulesModel", "ownName", "(I)J"⟩, 32), (⟨"PackageRulesModel", "headOf", "(I)I"⟩, 32), (⟨"PackageRulesModel", "constantAt", "(II)I"⟩, 32), (⟨"PackageRulesModel", "nameOf", "(II)J"⟩, 32), (⟨"PackageRulesModel", "textOf", "(II)J"⟩, 32), (⟨"PackageRulesModel", "indexOf", "(J)I"⟩, 32), (⟨"PackageRulesModel", "isClass", "(I)Z"⟩, 32), (⟨"PackageRulesModel", "ancestors", "()V"⟩, 32)]
theorem lw_r4 : ∀ q ∈ lw_privs_4, lw_okq q := List.forall_mem_cons.mpr ⟨lw_p48, List.forall_mem_cons.mpr ⟨lw_p49, List.forall_mem_cons.mpr ⟨lw_p50, List.forall_mem_cons.mpr ⟨lw_p51, List.forall_mem_cons.mpr ⟨lw_p52, List.forall_mem_cons.mpr ⟨lw_p53, List.forall_mem_cons.mpr ⟨lw_p54, List.forall_mem_cons.mpr ⟨lw_p55, List.forall_mem_cons.mpr ⟨lw_p56, List.forall_mem_cons.mpr ⟨lw_p57, List.forall_mem_cons.mpr ⟨lw_p58, List.forall_mem_cons.mpr ⟨lw_p59, List.forall_mem_cons.mpr ⟨lw_p60, List.forall_mem_cons.mpr ⟨lw_p61, List.forall_mem_cons.mpr ⟨lw_p62, List.forall_mem_cons.mpr ⟨lw_p63, fun _ h => absurd h List.not_mem_nil⟩⟩⟩⟩⟩⟩⟩⟩⟩⟩⟩⟩⟩⟩⟩⟩
theorem lw_p64 : lw_okq (⟨"PackageRulesModel", "parent", "(II)I"⟩, 32) := ⟨⟨by decide +kernel, by decide +kernel⟩, List.mem_of_getElem? (i := 626) (by decide +kernel), List.mem_of_getElem? (i := 851) (by decide +kernel), List.mem_of_getElem? (i := 852) (by decide +kernel)⟩
theorem lw_p65 : lw_okq (⟨"PackageRulesModel", "close", "()V"⟩, 32) := ⟨⟨by decide +kernel, by decide +kernel⟩, List.mem_of_getElem? (i := 626) (by decide +kernel), List.mem_of_getElem? (i := 855) (by decide +kernel), List.mem_of_getElem? (i := 856) (by decide +kernel)⟩
theorem lw_p66 : lw_okq (⟨"PackageRulesModel", "fitsName", "(IJ)Z"⟩, 32) := ⟨⟨by decide +kernel, by decide +kernel⟩, List.mem_of_getElem? (i := 626) (by decide +kernel), List.mem_of_getElem? (i := 874) (by decide +kernel), List.mem_of_getElem? (i := 875) (by decide +kernel)⟩
theorem lw_p67 : lw_okq (⟨"PackageRulesModel", "spell", "(J)I"⟩, 32) := ⟨⟨by decide +kernel, by decide +kernel⟩, List.mem_of_getElem? (i := 626) (by decide +kernel), List.mem_of_getElem? (i := 878) (by decide +kernel), List.mem_of_getElem? (i := 879) (by decide +kernel)⟩
theorem lw_p68 : lw_okq (⟨"PackageRulesModel", "isRule", "(I)Z"⟩, 32) := ⟨⟨by decide +kernel, by decide +kernel⟩, List.mem_of_getElem? (i := 626) (by decide +kernel), List.mem_of_getElem? (i := 890) (by decide +kernel), List.mem_of_getElem? (i := 891) (by decide +kernel)⟩
theorem lw_p69 : lw_okq (⟨"PackageRulesModel", "renew", "(I)V"⟩, 32) := ⟨⟨by decide +kernel, by decide +kernel⟩, List.mem_of_getElem? (i := 626) (by decide +kernel), List.mem_of_getElem? (i := 894) (by decide +kernel), List.mem_of_getElem? (i := 895) (by decide +kernel)⟩
theorem lw_p70 : lw_okq (⟨"PackageRulesModel", "cycles", "(I)V"⟩, 32) := ⟨⟨by decide +kernel, by decide +kernel⟩, List.mem_of_getElem? (i := 626) (by decide +kernel), List.mem_of_getElem? (i := 898) (by decide +kernel), List.mem_of_getElem? (i := 899) (by decide +kernel)⟩
theorem lw_p71 : lw_okq (⟨"PackageRulesModel", "least", "(II)I"⟩, 32) := ⟨⟨by decide +kernel, by decide +kernel⟩, List.mem_of_getElem? (i := 626) (by decide +kernel), List.mem_of_getElem? (i := 902) (by decide +kernel), List.mem_of_getElem? (i := 903) (by decide +kernel)⟩
theorem lw_p72 : lw_okq (⟨"PackageRulesModel", "slice", "(II)J"⟩, 32) := ⟨⟨by decide +kernel, by decide +kernel⟩, List.mem_of_getElem? (i := 626) (by decide +kernel), List.mem_of_getElem? (i := 906) (by decide +kernel), List.mem_of_getElem? (i := 907) (by decide +kernel)⟩
theorem lw_p73 : lw_okq (⟨"PackageRulesModel", "list", "(I)V"⟩, 32) := ⟨⟨by decide +kernel, by decide +kernel⟩, List.mem_of_getElem? (i := 626) (by decide +kernel), List.mem_of_getElem? (i := 910) (by decide +kernel), List.mem_of_getElem? (i := 911) (by decide +kernel)⟩
theorem lw_p74 : lw_okq (⟨"PackageRulesModel", "occurrence", "(IIJJ)V"⟩, 32) := ⟨⟨by decide +kernel, by decide +kernel⟩, List.mem_of_getElem? (i := 626) (by decide +kernel), List.mem_of_getElem? (i := 914) (by decide +kernel), List.mem_of_getElem? (i := 915) (by decide +kernel)⟩
theorem lw_p75 : lw_okq (⟨"PackageRulesModel", "listCode", "(IIII)V"⟩, 32) := ⟨⟨by decide +kernel, by decide +kernel⟩, List.mem_of_getElem? (i := 626) (by decide +kernel), List.mem_of_getElem? (i := 918) (by decide +kernel), List.mem_of_getElem? (i := 919) (by decide +kernel)⟩
theorem lw_p76 : lw_okq (⟨"PackageRulesModel", "names", "(IIII)V"⟩, 32) := ⟨⟨by decide +kernel, by decide +kernel⟩, List.mem_of_getElem? (i := 626) (by decide +kernel), List.mem_of_getElem? (i := 922) (by decide +kernel), List.mem_of_getElem? (i := 923) (by decide +kernel)⟩
theorem lw_p77 : lw_okq (⟨"PackageRulesModel", "gather", "(I)V"⟩, 32) := ⟨⟨by decide +kernel, by decide +kernel⟩, List.mem_of_getElem? (i := 626) (by decide +kernel), List.mem_of_getElem? (i := 926) (by decide +kernel), List.mem_of_getElem? (i := 927) (by decide +kernel)⟩
theorem lw_p78 : lw_okq (⟨"PackageRulesModel", "violates", "(III)Z"⟩, 32) := ⟨⟨by decide +kernel, by decide +kernel⟩, List.mem_of_getElem? (i := 626) (by decide +kernel), List.mem_of_getElem? (i := 930) (by decide +kernel), List.mem_of_getElem? (i := 931) (by decide +kernel)⟩
theorem lw_p79 : lw_okq (⟨"PackageRulesModel", "targetOf", "(IJJ)I"⟩, 32) := ⟨⟨by decide +kernel, by decide +kernel⟩, List.mem_of_getElem? (i := 626) (by decide +kernel), List.mem_of_getElem? (i := 935) (by decide +kernel), List.mem_of_getElem? (i := 936) (by decide +kernel)⟩
def lw_privs_5 : List (MethodName × Nat) := [(⟨"PackageRulesModel", "parent", "(II)I"⟩, 32), (⟨"PackageRulesModel", "close", "()V"⟩, 32), (⟨"PackageRulesModel", "fitsName", "(IJ)Z"⟩, 32), (⟨"PackageRulesModel", "spell", "(J)I"⟩, 32), (⟨"PackageRulesModel", "isRule", "(I)Z"⟩, 32), (⟨"PackageRulesModel", "renew", "(I)V"⟩, 32), (⟨"PackageRulesModel", "cycles", "(I)V"⟩, 32), (⟨"PackageRulesModel", "least", "(II)I"⟩, 32), (⟨"PackageRulesModel", "slice", "(II)J"⟩, 32), (⟨"PackageRulesModel", "list", "(I)V"⟩, 32), (⟨"PackageRulesModel", "occurrence", "(IIJJ)V"⟩, 32), (⟨"PackageRulesModel", "listCode", "(IIII)V"⟩, 32), (⟨"PackageRulesModel", "names", "(IIII)V"⟩, 32), (⟨"PackageRulesModel", "gather", "(I)V"⟩, 32), (⟨"PackageRulesModel", "violates", "(III)Z"⟩, 32), (⟨"PackageRulesModel", "targetOf", "(IJJ)I"⟩, 32)]
theorem lw_r5 : ∀ q ∈ lw_privs_5, lw_okq q := List.forall_mem_cons.mpr ⟨lw_p64, List.forall_mem_cons.mpr ⟨lw_p65, List.forall_mem_cons.mpr ⟨lw_p66, List.forall_mem_cons.mpr ⟨lw_p67, List.forall_mem_cons.mpr ⟨lw_p68, List.forall_mem_cons.mpr ⟨lw_p69, List.forall_mem_cons.mpr ⟨lw_p70, List.forall_mem_cons.mpr ⟨lw_p71, List.forall_mem_cons.mpr ⟨lw_p72, List.forall_mem_cons.mpr ⟨lw_p73, List.forall_mem_cons.mpr ⟨lw_p74, List.forall_mem_cons.mpr ⟨lw_p75, List.forall_mem_cons.mpr ⟨lw_p76, List.forall_mem_cons.mpr ⟨lw_p77, List.forall_mem_cons.mpr ⟨lw_p78, List.forall_mem_cons.mpr ⟨lw_p79, fun _ h => absurd h List.not_mem_nil⟩⟩⟩⟩⟩⟩⟩⟩⟩⟩⟩⟩⟩⟩⟩⟩
theorem lw_p80 : lw_okq (⟨"PackageRulesModel", "methodOf", "(IJ)I"⟩, 32) := ⟨⟨by decide +kernel, by decide +kernel⟩, List.mem_of_getElem? (i := 626) (by decide +kernel), List.mem_of_getElem? (i := 940) (by decide +kernel), List.mem_of_getElem? (i := 941) (by decide +kernel)⟩
theorem lw_p81 : lw_okq (⟨"PackageRulesModel", "has", "(IJZ)Z"⟩, 32) := ⟨⟨by decide +kernel, by decide +kernel⟩, List.mem_of_getElem? (i := 626) (by decide +kernel), List.mem_of_getElem? (i := 944) (by decide +kernel), List.mem_of_getElem? (i := 945) (by decide +kernel)⟩
theorem lw_p82 : lw_okq (⟨"PackageRulesModel", "search", "(IJZ)I"⟩, 32) := ⟨⟨by decide +kernel, by decide +kernel⟩, List.mem_of_getElem? (i := 626) (by decide +kernel), List.mem_of_getElem? (i := 948) (by decide +kernel), List.mem_of_getElem? (i := 949) (by decide +kernel)⟩
theorem lw_p83 : lw_okq (⟨"PackageRulesModel", "isOccurrence", "(II)Z"⟩, 32) := ⟨⟨by decide +kernel, by decide +kernel⟩, List.mem_of_getElem? (i := 626) (by decide +kernel), List.mem_of_getElem? (i := 977) (by decide +kernel), List.mem_of_getElem? (i := 978) (by decide +kernel)⟩
def lw_privs_6 : List (MethodName × Nat) := [(⟨"PackageRulesModel", "methodOf", "(IJ)I"⟩, 32), (⟨"PackageRulesModel", "has", "(IJZ)Z"⟩, 32), (⟨"PackageRulesModel", "search", "(IJZ)I"⟩, 32), (⟨"PackageRulesModel", "isOccurrence", "(II)Z"⟩, 32)]
theorem lw_r6 : ∀ q ∈ lw_privs_6, lw_okq q := List.forall_mem_cons.mpr ⟨lw_p80, List.forall_mem_cons.mpr ⟨lw_p81, List.forall_mem_cons.mpr ⟨lw_p82, List.forall_mem_cons.mpr ⟨lw_p83, fun _ h => absurd h List.not_mem_nil⟩⟩⟩⟩
def lw_privs : List (MethodName × Nat) := lw_privs_1 ++ (lw_privs_2 ++ (lw_privs_3 ++ (lw_privs_4 ++ (lw_privs_5 ++ (lw_privs_6)))))
def lw_tbl : List Cond := k2_sels lw_privs ++ tables_1
theorem lw_privs_ok : ∀ q ∈ lw_privs, lw_okq q := by
  show ∀ q ∈ lw_privs_1 ++ (lw_privs_2 ++ (lw_privs_3 ++ (lw_privs_4 ++ (lw_privs_5 ++ (lw_privs_6))))), lw_okq q
  exact List.forall_mem_append.mpr ⟨lw_r1, List.forall_mem_append.mpr ⟨lw_r2, List.forall_mem_append.mpr ⟨lw_r3, List.forall_mem_append.mpr ⟨lw_r4, List.forall_mem_append.mpr ⟨lw_r5, lw_r6⟩⟩⟩⟩⟩
end
section
abbrev ax_M : Type := Nat × Jvm.MethodName × ByteArray × Nat × Option FieldType
def ax_own (o : Nat) : String := match o with
  | 0 => "PackageRules"
  | 1 => "PackageRules$UnitReader"
  | 2 => "PackageRules$ClassGraph"
  | 3 => "PackageRules$Unit"
  | 4 => "PackageRules$Rule"
  | 5 => "PackageRulesModel"
  | 6 => "PackageRules$Texts"
  | _ => "PackageRulesLaw"
def ax_T0 : u_T := fun k => match k with
  | 0 => ("PackageRules", "reader", "LPackageRules$UnitReader;", true)
  | 1 => ("PackageRules", "graph", "LPackageRules$ClassGraph;", true)
  | 2 => ("PackageRules", "patterns", "[J", true)
  | 3 => ("PackageRules", "rules", "[LPackageRules$Rule;", true)
  | 4 => ("PackageRules", "found", "[I", true)
  | 5 => ("PackageRules", "patternCount", "I", false)
  | 6 => ("PackageRules", "ruleCount", "I", false)
  | _ => ("PackageRules", "typed", "J", false)
def ax_ty0 : Nat → FieldType := fun k => match k with
  | 0 => .object "PackageRules$UnitReader"
  | 1 => .object "PackageRules$ClassGraph"
  | 2 => .array .long
  | 3 => .array (.object "PackageRules$Rule")
  | 4 => .array .int
  | 5 => .int
  | 6 => .int
  | _ => .long
theorem ax_nm0 : ∀ a, a < 8 → ∀ b, b < 8 → a ≠ b → (ax_T0 a).2.1 ≠ (ax_T0 b).2.1 := by decide +kernel
theorem ax_tyok0 : ∀ k, k < 8 → parseFieldDescriptor (ax_T0 k).2.2.1 = some (ax_ty0 k) := by decide +kernel
def ax_T1 : u_T := fun k => match k with
  | 0 => ("PackageRules$UnitReader", "buffer", "[I", true)
  | 1 => ("PackageRules$UnitReader", "size", "I", false)
  | 2 => ("PackageRules$UnitReader", "at", "I", false)
  | 3 => ("PackageRules$UnitReader", "limit", "I", false)
  | 4 => ("PackageRules$UnitReader", "value", "I", false)
  | 5 => ("PackageRules$UnitReader", "fault", "I", false)
  | 6 => ("PackageRules$UnitReader", "unit", "LPackageRules$Unit;", false)
  | 7 => ("PackageRules$UnitReader", "constantCount", "I", false)
  | 8 => ("PackageRules$UnitReader", "tags", "[I", true)
  | 9 => ("PackageRules$UnitReader", "texts", "[J", true)
  | 10 => ("PackageRules$UnitReader", "offsets", "[I", true)
  | 11 => ("PackageRules$UnitReader", "codeStart", "I", false)
  | 12 => ("PackageRules$UnitReader", "codeLength", "I", false)
  | _ => ("PackageRules$UnitReader", "lineNow", "I", false)
def ax_ty1 : Nat → FieldType := fun k => match k with
  | 0 => .array .int
  | 1 => .int
  | 2 => .int
  | 3 => .int
  | 4 => .int
  | 5 => .int
  | 6 => .object "PackageRules$Unit"
  | 7 => .int
  | 8 => .array .int
  | 9 => .array .long
  | 10 => .array .int
  | 11 => .int
  | 12 => .int
  | _ => .int
theorem ax_nm1 : ∀ a, a < 14 → ∀ b, b < 14 → a ≠ b → (ax_T1 a).2.1 ≠ (ax_T1 b).2.1 := by decide +kernel
theorem ax_tyok1 : ∀ k, k < 14 → parseFieldDescriptor (ax_T1 k).2.2.1 = some (ax_ty1 k) := by decide +kernel
def ax_T2 : u_T := fun k => match k with
  | 0 => ("PackageRules$ClassGraph", "units", "[LPackageRules$Unit;", true)
  | 1 => ("PackageRules$ClassGraph", "count", "I", false)
  | 2 => ("PackageRules$ClassGraph", "spare", "LPackageRules$Unit;", false)
  | 3 => ("PackageRules$ClassGraph", "supers", "[I", true)
  | 4 => ("PackageRules$ClassGraph", "interfaces", "[I", true)
  | 5 => ("PackageRules$ClassGraph", "ancestors", "[I", true)
  | 6 => ("PackageRules$ClassGraph", "sliceNames", "[J", true)
  | 7 => ("PackageRules$ClassGraph", "heads", "[I", true)
  | 8 => ("PackageRules$ClassGraph", "ways", "[I", true)
  | _ => ("PackageRules$ClassGraph", "seen", "I", false)
def ax_ty2 : Nat → FieldType := fun k => match k with
  | 0 => .array (.object "PackageRules$Unit")
  | 1 => .int
  | 2 => .object "PackageRules$Unit"
  | 3 => .array .int
  | 4 => .array .int
  | 5 => .array .int
  | 6 => .array .long
  | 7 => .array .int
  | 8 => .array .int
  | _ => .int
theorem ax_nm2 : ∀ a, a < 10 → ∀ b, b < 10 → a ≠ b → (ax_T2 a).2.1 ≠ (ax_T2 b).2.1 := by decide +kernel
theorem ax_tyok2 : ∀ k, k < 10 → parseFieldDescriptor (ax_T2 k).2.2.1 = some (ax_ty2 k) := by decide +kernel
def ax_T3 : u_T := fun k => match k with
  | 0 => ("PackageRules$Unit", "ownName", "J", false)
  | 1 => ("PackageRules$Unit", "superName", "J", false)
  | 2 => ("PackageRules$Unit", "interfaceCount", "I", false)
  | 3 => ("PackageRules$Unit", "interfaceNames", "[J", true)
  | 4 => ("PackageRules$Unit", "fieldCount", "I", false)
  | 5 => ("PackageRules$Unit", "fieldWords", "[J", true)
  | 6 => ("PackageRules$Unit", "methodCount", "I", false)
  | 7 => ("PackageRules$Unit", "methodWords", "[J", true)
  | 8 => ("PackageRules$Unit", "occurrenceCount", "I", false)
  | 9 => ("PackageRules$Unit", "kinds", "[I", true)
  | 10 => ("PackageRules$Unit", "lines", "[I", true)
  | 11 => ("PackageRules$Unit", "names", "[J", true)
  | _ => ("PackageRules$Unit", "words", "[J", true)
def ax_ty3 : Nat → FieldType := fun k => match k with
  | 0 => .long
  | 1 => .long
  | 2 => .int
  | 3 => .array .long
  | 4 => .int
  | 5 => .array .long
  | 6 => .int
  | 7 => .array .long
  | 8 => .int
  | 9 => .array .int
  | 10 => .array .int
  | 11 => .array .long
  | _ => .array .long
theorem ax_nm3 : ∀ a, a < 13 → ∀ b, b < 13 → a ≠ b → (ax_T3 a).2.1 ≠ (ax_T3 b).2.1 := by decide +kernel
theorem ax_tyok3 : ∀ k, k < 13 → parseFieldDescriptor (ax_T3 k).2.2.1 = some (ax_ty3 k) := by decide +kernel
def ax_T4 : u_T := fun k => match k with
  | 0 => ("PackageRules$Rule", "sort", "I", false)
  | 1 => ("PackageRules$Rule", "first", "I", false)
  | 2 => ("PackageRules$Rule", "second", "I", false)
  | 3 => ("PackageRules$Rule", "knownCount", "I", false)
  | 4 => ("PackageRules$Rule", "knownClasses", "[I", true)
  | 5 => ("PackageRules$Rule", "knownKinds", "[I", true)
  | 6 => ("PackageRules$Rule", "knownNames", "[J", true)
  | 7 => ("PackageRules$Rule", "knownWords", "[J", true)
  | _ => ("PackageRules$Rule", "used", "[Z", true)
def ax_ty4 : Nat → FieldType := fun k => match k with
  | 0 => .int
  | 1 => .int
  | 2 => .int
  | 3 => .int
  | 4 => .array .int
  | 5 => .array .int
  | 6 => .array .long
  | 7 => .array .long
  | _ => .array .boolean
theorem ax_nm4 : ∀ a, a < 9 → ∀ b, b < 9 → a ≠ b → (ax_T4 a).2.1 ≠ (ax_T4 b).2.1 := by decide +kernel
theorem ax_tyok4 : ∀ k, k < 9 → parseFieldDescriptor (ax_T4 k).2.2.1 = some (ax_ty4 k) := by decide +kernel
def ax_T5 : u_T := fun k => match k with
  | 0 => ("PackageRulesModel", "bytes", "[I", true)
  | 1 => ("PackageRulesModel", "size", "[I", true)
  | 2 => ("PackageRulesModel", "classes", "I", false)
  | 3 => ("PackageRulesModel", "at", "I", false)
  | 4 => ("PackageRulesModel", "constants", "I", false)
  | 5 => ("PackageRulesModel", "offset", "[I", true)
  | 6 => ("PackageRulesModel", "pattern", "[I", true)
  | 7 => ("PackageRulesModel", "patternSize", "[I", true)
  | 8 => ("PackageRulesModel", "patterns", "I", false)
  | 9 => ("PackageRulesModel", "rules", "I", false)
  | 10 => ("PackageRulesModel", "ruleKind", "[I", true)
  | 11 => ("PackageRulesModel", "ruleP", "[I", true)
  | 12 => ("PackageRulesModel", "ruleQ", "[I", true)
  | 13 => ("PackageRulesModel", "knownCount", "[I", true)
  | 14 => ("PackageRulesModel", "knownPlace", "[I", true)
  | 15 => ("PackageRulesModel", "knownName", "[J", true)
  | 16 => ("PackageRulesModel", "knownWord", "[J", true)
  | 17 => ("PackageRulesModel", "count", "I", false)
  | 18 => ("PackageRulesModel", "oKind", "[I", true)
  | 19 => ("PackageRulesModel", "oLine", "[I", true)
  | 20 => ("PackageRulesModel", "oName", "[J", true)
  | 21 => ("PackageRulesModel", "oWord", "[J", true)
  | 22 => ("PackageRulesModel", "all", "I", false)
  | 23 => ("PackageRulesModel", "vPlace", "[I", true)
  | 24 => ("PackageRulesModel", "vCode", "[I", true)
  | 25 => ("PackageRulesModel", "vName", "[J", true)
  | 26 => ("PackageRulesModel", "vWord", "[J", true)
  | 27 => ("PackageRulesModel", "fresh", "I", false)
  | 28 => ("PackageRulesModel", "freshCode", "[I", true)
  | 29 => ("PackageRulesModel", "letters", "[I", true)
  | 30 => ("PackageRulesModel", "waiting", "[I", true)
  | _ => ("PackageRulesModel", "way", "[Z", true)
def ax_ty5 : Nat → FieldType := fun k => match k with
  | 0 => .array .int
  | 1 => .array .int
  | 2 => .int
  | 3 => .int
  | 4 => .int
  | 5 => .array .int
  | 6 => .array .int
  | 7 => .array .int
  | 8 => .int
  | 9 => .int
  | 10 => .array .int
  | 11 => .array .int
  | 12 => .array .int
  | 13 => .array .int
  | 14 => .array .int
  | 15 => .array .long
  | 16 => .array .long
  | 17 => .int
  | 18 => .array .int
  | 19 => .array .int
  | 20 => .array .long
  | 21 => .array .long
  | 22 => .int
  | 23 => .array .int
  | 24 => .array .int
  | 25 => .array .long
  | 26 => .array .long
  | 27 => .int
  | 28 => .array .int
  | 29 => .array .int
  | 30 => .array .int
  | _ => .array .boolean
theorem ax_nm5 : ∀ a, a < 32 → ∀ b, b < 32 → a ≠ b → (ax_T5 a).2.1 ≠ (ax_T5 b).2.1 := by decide +kernel
theorem ax_tyok5 : ∀ k, k < 32 → parseFieldDescriptor (ax_T5 k).2.2.1 = some (ax_ty5 k) := by decide +kernel
def ax_cl : List vw_C := [("PackageRules", ax_T0, 8), ("PackageRules$UnitReader", ax_T1, 14), ("PackageRules$ClassGraph", ax_T2, 10), ("PackageRules$Unit", ax_T3, 13), ("PackageRules$Rule", ax_T4, 9), ("PackageRulesModel", ax_T5, 32)]
def ax_N (ci : Nat) : Nat := match ci with
  | 0 => 8
  | 1 => 14
  | 2 => 10
  | 3 => 13
  | 4 => 9
  | _ => 32
def ax_ty (ci : Nat) : Nat → FieldType := match ci with
  | 0 => ax_ty0
  | 1 => ax_ty1
  | 2 => ax_ty2
  | 3 => ax_ty3
  | 4 => ax_ty4
  | _ => ax_ty5
def ax_Tb (ci : Nat) : u_T := match ci with
  | 0 => ax_T0
  | 1 => ax_T1
  | 2 => ax_T2
  | 3 => ax_T3
  | 4 => ax_T4
  | _ => ax_T5
def mP_put : ax_M := (0, ⟨"PackageRules", "put", "(II)Z"⟩, prog_1_method_2_code, 3, (some .boolean))
def mR_append : ax_M := (1, ⟨"PackageRules$UnitReader", "append", "(II)Z"⟩, prog_6_method_2_code, 4, (some .boolean))
def mP_bytes : ax_M := (0, ⟨"PackageRules", "bytes", "()I"⟩, prog_1_method_3_code, 1, (some .int))
def mP_load : ax_M := (0, ⟨"PackageRules", "load", "()I"⟩, prog_1_method_4_code, 3, (some .int))
def mR_readInto : ax_M := (1, ⟨"PackageRules$UnitReader", "readInto", "(LPackageRules$Unit;)I"⟩, prog_6_method_3_code, 3, (some .int))
def mU_clear : ax_M := (3, ⟨"PackageRules$Unit", "clear", "()V"⟩, prog_5_method_2_code, 1, none)
def mR_take : ax_M := (1, ⟨"PackageRules$UnitReader", "take", "(II)Z"⟩, prog_6_method_5_code, 3, (some .boolean))
def mR_readConstants : ax_M := (1, ⟨"PackageRules$UnitReader", "readConstants", "()Z"⟩, prog_6_method_12_code, 2, (some .boolean))
def mR_readConstant : ax_M := (1, ⟨"PackageRules$UnitReader", "readConstant", "(I)Z"⟩, prog_6_method_13_code, 2, (some .boolean))
def mR_readText : ax_M := (1, ⟨"PackageRules$UnitReader", "readText", "(I)Z"⟩, prog_6_method_14_code, 5, (some .boolean))
def mT_codeOf : ax_M := (6, ⟨"PackageRules$Texts", "codeOf", "(I)I"⟩, prog_4_method_2_code, 1, (some .int))
def mR_fail : ax_M := (1, ⟨"PackageRules$UnitReader", "fail", "(I)Z"⟩, prog_6_method_4_code, 2, (some .boolean))
def mT_withCode : ax_M := (6, ⟨"PackageRules$Texts", "withCode", "(JII)J"⟩, prog_4_method_6_code, 4, (some .long))
def mR_checkNumbers : ax_M := (1, ⟨"PackageRules$UnitReader", "checkNumbers", "()Z"⟩, prog_6_method_15_code, 3, (some .boolean))
def mR_isName : ax_M := (1, ⟨"PackageRules$UnitReader", "isName", "(I)Z"⟩, prog_6_method_10_code, 2, (some .boolean))
def mR_tagOf : ax_M := (1, ⟨"PackageRules$UnitReader", "tagOf", "(I)I"⟩, prog_6_method_6_code, 2, (some .int))
def mT_isName : ax_M := (6, ⟨"PackageRules$Texts", "isName", "(J)Z"⟩, prog_4_method_8_code, 6, (some .boolean))
def mT_lengthOf : ax_M := (6, ⟨"PackageRules$Texts", "lengthOf", "(J)I"⟩, prog_4_method_5_code, 3, (some .int))
def mT_codeAt : ax_M := (6, ⟨"PackageRules$Texts", "codeAt", "(JI)I"⟩, prog_4_method_4_code, 3, (some .int))
def mR_isWord : ax_M := (1, ⟨"PackageRules$UnitReader", "isWord", "(I)Z"⟩, prog_6_method_9_code, 2, (some .boolean))
def mT_isWord : ax_M := (6, ⟨"PackageRules$Texts", "isWord", "(J)Z"⟩, prog_4_method_7_code, 3, (some .boolean))
def mR_readParents : ax_M := (1, ⟨"PackageRules$UnitReader", "readParents", "()Z"⟩, prog_6_method_16_code, 1, (some .boolean))
def mR_takeClass : ax_M := (1, ⟨"PackageRules$UnitReader", "takeClass", "()Z"⟩, prog_6_method_7_code, 1, (some .boolean))
def mR_lastText : ax_M := (1, ⟨"PackageRules$UnitReader", "lastText", "(I)J"⟩, prog_6_method_11_code, 3, (some .long))
def mU_addOccurrence : ax_M := (3, ⟨"PackageRules$Unit", "addOccurrence", "(IIJJ)V"⟩, prog_5_method_6_code, 7, none)
def mR_readInterfaces : ax_M := (1, ⟨"PackageRules$UnitReader", "readInterfaces", "()Z"⟩, prog_6_method_17_code, 3, (some .boolean))
def mU_addInterface : ax_M := (3, ⟨"PackageRules$Unit", "addInterface", "(J)V"⟩, prog_5_method_3_code, 3, none)
def mR_readFields : ax_M := (1, ⟨"PackageRules$UnitReader", "readFields", "()Z"⟩, prog_6_method_18_code, 3, (some .boolean))
def mR_takeWord : ax_M := (1, ⟨"PackageRules$UnitReader", "takeWord", "()Z"⟩, prog_6_method_8_code, 1, (some .boolean))
def mU_addField : ax_M := (3, ⟨"PackageRules$Unit", "addField", "(J)V"⟩, prog_5_method_4_code, 3, none)
def mR_readMethods : ax_M := (1, ⟨"PackageRules$UnitReader", "readMethods", "()Z"⟩, prog_6_method_19_code, 3, (some .boolean))
def mR_readMethod : ax_M := (1, ⟨"PackageRules$UnitReader", "readMethod", "()Z"⟩, prog_6_method_20_code, 3, (some .boolean))
def mU_addMethod : ax_M := (3, ⟨"PackageRules$Unit", "addMethod", "(J)V"⟩, prog_5_method_5_code, 3, none)
def mR_readInstruction : ax_M := (1, ⟨"PackageRules$UnitReader", "readInstruction", "()Z"⟩, prog_6_method_21_code, 1, (some .boolean))
def mR_readStep : ax_M := (1, ⟨"PackageRules$UnitReader", "readStep", "()Z"⟩, prog_6_method_23_code, 1, (some .boolean))
def mR_readSwitch : ax_M := (1, ⟨"PackageRules$UnitReader", "readSwitch", "()Z"⟩, prog_6_method_24_code, 4, (some .boolean))
def mR_readWide : ax_M := (1, ⟨"PackageRules$UnitReader", "readWide", "()Z"⟩, prog_6_method_25_code, 3, (some .boolean))
def mR_kindOf : ax_M := (1, ⟨"PackageRules$UnitReader", "kindOf", "(I)I"⟩, prog_6_method_22_code, 1, (some .int))
def mR_useConstant : ax_M := (1, ⟨"PackageRules$UnitReader", "useConstant", "(II)Z"⟩, prog_6_method_27_code, 4, (some .boolean))
def mR_tagFor : ax_M := (1, ⟨"PackageRules$UnitReader", "tagFor", "(I)I"⟩, prog_6_method_28_code, 1, (some .int))
def mR_readUse : ax_M := (1, ⟨"PackageRules$UnitReader", "readUse", "(I)Z"⟩, prog_6_method_26_code, 2, (some .boolean))
def mG_adoptSpare : ax_M := (2, ⟨"PackageRules$ClassGraph", "adoptSpare", "()I"⟩, prog_2_method_2_code, 3, (some .int))
def mG_numberOf : ax_M := (2, ⟨"PackageRules$ClassGraph", "numberOf", "(J)I"⟩, prog_2_method_5_code, 4, (some .int))
def mG_linkParents : ax_M := (2, ⟨"PackageRules$ClassGraph", "linkParents", "()V"⟩, prog_2_method_9_code, 4, none)
def mG_with : ax_M := (2, ⟨"PackageRules$ClassGraph", "with", "(II)I"⟩, prog_2_method_8_code, 2, (some .int))
def mG_follow : ax_M := (2, ⟨"PackageRules$ClassGraph", "follow", "([I)V"⟩, prog_2_method_10_code, 4, none)
def mG_isIn : ax_M := (2, ⟨"PackageRules$ClassGraph", "isIn", "(II)Z"⟩, prog_2_method_7_code, 2, (some .boolean))
def mP_type : ax_M := (0, ⟨"PackageRules", "type", "(C)Z"⟩, prog_1_method_5_code, 4, (some .boolean))
def mP_pattern : ax_M := (0, ⟨"PackageRules", "pattern", "()I"⟩, prog_1_method_6_code, 1, (some .int))
def mP_rule : ax_M := (0, ⟨"PackageRules", "rule", "(III)I"⟩, prog_1_method_7_code, 4, (some .int))
def mP_canBeRule : ax_M := (0, ⟨"PackageRules", "canBeRule", "(III)Z"⟩, prog_1_method_24_code, 4, (some .boolean))
def mP_isDepth : ax_M := (0, ⟨"PackageRules", "isDepth", "(I)Z"⟩, prog_1_method_23_code, 1, (some .boolean))
def mP_isPattern : ax_M := (0, ⟨"PackageRules", "isPattern", "(I)Z"⟩, prog_1_method_21_code, 2, (some .boolean))
def mK_become : ax_M := (4, ⟨"PackageRules$Rule", "become", "(III)V"⟩, prog_3_method_2_code, 4, none)
def mP_violations : ax_M := (0, ⟨"PackageRules", "violations", "(I)I"⟩, prog_1_method_8_code, 2, (some .int))
def mP_isRule : ax_M := (0, ⟨"PackageRules", "isRule", "(I)Z"⟩, prog_1_method_22_code, 2, (some .boolean))
def mP_findNew : ax_M := (0, ⟨"PackageRules", "findNew", "(LPackageRules$Rule;)I"⟩, prog_1_method_26_code, 6, (some .int))
def mP_findAll : ax_M := (0, ⟨"PackageRules", "findAll", "(LPackageRules$Rule;)I"⟩, prog_1_method_27_code, 6, (some .int))
def mP_findCycles : ax_M := (0, ⟨"PackageRules", "findCycles", "(I)I"⟩, prog_1_method_28_code, 4, (some .int))
def mG_linkSlices : ax_M := (2, ⟨"PackageRules$ClassGraph", "linkSlices", "(I)V"⟩, prog_2_method_18_code, 3, none)
def mG_cutSlices : ax_M := (2, ⟨"PackageRules$ClassGraph", "cutSlices", "(I)I"⟩, prog_2_method_16_code, 4, (some .int))
def mT_firstWords : ax_M := (6, ⟨"PackageRules$Texts", "firstWords", "(JI)J"⟩, prog_4_method_9_code, 5, (some .long))
def mG_headOf : ax_M := (2, ⟨"PackageRules$ClassGraph", "headOf", "(I)I"⟩, prog_2_method_17_code, 3, (some .int))
def mG_slicesNamedIn : ax_M := (2, ⟨"PackageRules$ClassGraph", "slicesNamedIn", "(I)I"⟩, prog_2_method_19_code, 5, (some .int))
def mG_headsCycle : ax_M := (2, ⟨"PackageRules$ClassGraph", "headsCycle", "(I)Z"⟩, prog_2_method_20_code, 2, (some .boolean))
def mP_watches : ax_M := (0, ⟨"PackageRules", "watches", "(LPackageRules$Rule;J)Z"⟩, prog_1_method_29_code, 4, (some .boolean))
def mP_fitsText : ax_M := (0, ⟨"PackageRules", "fitsText", "(IJ)Z"⟩, prog_1_method_25_code, 4, (some .boolean))
def mT_matches : ax_M := (6, ⟨"PackageRules$Texts", "matches", "(JJ)Z"⟩, prog_4_method_10_code, 8, (some .boolean))
def mT_passStars : ax_M := (6, ⟨"PackageRules$Texts", "passStars", "(JII)I"⟩, prog_4_method_11_code, 6, (some .int))
def mT_step : ax_M := (6, ⟨"PackageRules$Texts", "step", "(JIII)I"⟩, prog_4_method_12_code, 8, (some .int))
def mP_breaks : ax_M := (0, ⟨"PackageRules", "breaks", "(LPackageRules$Rule;II)Z"⟩, prog_1_method_30_code, 7, (some .boolean))
def mG_targetOf : ax_M := (2, ⟨"PackageRules$ClassGraph", "targetOf", "(II)I"⟩, prog_2_method_12_code, 7, (some .int))
def mG_isCircular : ax_M := (2, ⟨"PackageRules$ClassGraph", "isCircular", "(I)Z"⟩, prog_2_method_6_code, 4, (some .boolean))
def mG_methodFrom : ax_M := (2, ⟨"PackageRules$ClassGraph", "methodFrom", "(IJ)I"⟩, prog_2_method_14_code, 8, (some .int))
def mU_hasMethod : ax_M := (3, ⟨"PackageRules$Unit", "hasMethod", "(J)Z"⟩, prog_5_method_8_code, 4, (some .boolean))
def mG_interfaceOf : ax_M := (2, ⟨"PackageRules$ClassGraph", "interfaceOf", "(II)I"⟩, prog_2_method_11_code, 3, (some .int))
def mG_faceFrom : ax_M := (2, ⟨"PackageRules$ClassGraph", "faceFrom", "(IJI)I"⟩, prog_2_method_15_code, 7, (some .int))
def mG_fieldFrom : ax_M := (2, ⟨"PackageRules$ClassGraph", "fieldFrom", "(IJI)I"⟩, prog_2_method_13_code, 7, (some .int))
def mU_hasField : ax_M := (3, ⟨"PackageRules$Unit", "hasField", "(J)Z"⟩, prog_5_method_7_code, 4, (some .boolean))
def mK_forgetUses : ax_M := (4, ⟨"PackageRules$Rule", "forgetUses", "()V"⟩, prog_3_method_4_code, 2, none)
def mK_useKnown : ax_M := (4, ⟨"PackageRules$Rule", "useKnown", "(ILPackageRules$Unit;I)Z"⟩, prog_3_method_6_code, 5, (some .boolean))
def mP_violation : ax_M := (0, ⟨"PackageRules", "violation", "(II)I"⟩, prog_1_method_9_code, 4, (some .int))
def mP_freeze : ax_M := (0, ⟨"PackageRules", "freeze", "(I)I"⟩, prog_1_method_10_code, 5, (some .int))
def mK_forgetKnown : ax_M := (4, ⟨"PackageRules$Rule", "forgetKnown", "()V"⟩, prog_3_method_3_code, 1, none)
def mK_addKnown : ax_M := (4, ⟨"PackageRules$Rule", "addKnown", "(ILPackageRules$Unit;I)V"⟩, prog_3_method_5_code, 4, none)
def mP_classes : ax_M := (0, ⟨"PackageRules", "classes", "()I"⟩, prog_1_method_11_code, 1, (some .int))
def mP_name : ax_M := (0, ⟨"PackageRules", "name", "(II)I"⟩, prog_1_method_12_code, 3, (some .int))
def mG_isClass : ax_M := (2, ⟨"PackageRules$ClassGraph", "isClass", "(I)Z"⟩, prog_2_method_3_code, 2, (some .boolean))
def mT_characterOf : ax_M := (6, ⟨"PackageRules$Texts", "characterOf", "(I)I"⟩, prog_4_method_3_code, 1, (some .int))
def mP_occurrences : ax_M := (0, ⟨"PackageRules", "occurrences", "(I)I"⟩, prog_1_method_13_code, 2, (some .int))
def mP_kind : ax_M := (0, ⟨"PackageRules", "kind", "(II)I"⟩, prog_1_method_14_code, 3, (some .int))
def mG_isOccurrence : ax_M := (2, ⟨"PackageRules$ClassGraph", "isOccurrence", "(II)Z"⟩, prog_2_method_4_code, 3, (some .boolean))
def mP_line : ax_M := (0, ⟨"PackageRules", "line", "(II)I"⟩, prog_1_method_15_code, 3, (some .int))
def mP_named : ax_M := (0, ⟨"PackageRules", "named", "(II)I"⟩, prog_1_method_16_code, 3, (some .int))
def mP_target : ax_M := (0, ⟨"PackageRules", "target", "(II)I"⟩, prog_1_method_17_code, 3, (some .int))
def mP_circular : ax_M := (0, ⟨"PackageRules", "circular", "(I)Z"⟩, prog_1_method_18_code, 2, (some .boolean))
def mP_fits : ax_M := (0, ⟨"PackageRules", "fits", "(II)Z"⟩, prog_1_method_19_code, 3, (some .boolean))
def mP_slices : ax_M := (0, ⟨"PackageRules", "slices", "(I)I"⟩, prog_1_method_20_code, 2, (some .int))
def mQ_put : ax_M := (5, ⟨"PackageRulesModel", "put", "(II)Z"⟩, prog_8_method_2_code, 4, (some .boolean))
def mQ_bytes : ax_M := (5, ⟨"PackageRulesModel", "bytes", "()I"⟩, prog_8_method_3_code, 1, (some .int))
def mQ_load : ax_M := (5, ⟨"PackageRulesModel", "load", "()I"⟩, prog_8_method_22_code, 5, (some .int))
def mQ_readConstants : ax_M := (5, ⟨"PackageRulesModel", "readConstants", "()Z"⟩, prog_8_method_8_code, 2, (some .boolean))
def mQ_buffer : ax_M := (5, ⟨"PackageRulesModel", "buffer", "(I)I"⟩, prog_8_method_4_code, 2, (some .int))
def mQ_constant : ax_M := (5, ⟨"PackageRulesModel", "constant", "(I)Z"⟩, prog_8_method_7_code, 5, (some .boolean))
def mQ_bytesHere : ax_M := (5, ⟨"PackageRulesModel", "bytesHere", "(I)Z"⟩, prog_8_method_6_code, 3, (some .boolean))
def mQ_letter : ax_M := (5, ⟨"PackageRulesModel", "letter", "(I)Z"⟩, prog_8_method_5_code, 1, (some .boolean))
def mQ_checkConstants : ax_M := (5, ⟨"PackageRulesModel", "checkConstants", "()Z"⟩, prog_8_method_12_code, 3, (some .boolean))
def mQ_tag : ax_M := (5, ⟨"PackageRulesModel", "tag", "(I)I"⟩, prog_8_method_9_code, 2, (some .int))
def mQ_fitting : ax_M := (5, ⟨"PackageRulesModel", "fitting", "(II)Z"⟩, prog_8_method_11_code, 3, (some .boolean))
def mQ_worded : ax_M := (5, ⟨"PackageRulesModel", "worded", "(IZ)Z"⟩, prog_8_method_10_code, 8, (some .boolean))
def mQ_number : ax_M := (5, ⟨"PackageRulesModel", "number", "(II)Z"⟩, prog_8_method_13_code, 3, (some .boolean))
def mQ_rest : ax_M := (5, ⟨"PackageRulesModel", "rest", "()Z"⟩, prog_8_method_21_code, 5, (some .boolean))
def mQ_several : ax_M := (5, ⟨"PackageRulesModel", "several", "(II)Z"⟩, prog_8_method_15_code, 5, (some .boolean))
def mQ_upTo : ax_M := (5, ⟨"PackageRulesModel", "upTo", "(II)Z"⟩, prog_8_method_14_code, 3, (some .boolean))
def mQ_method : ax_M := (5, ⟨"PackageRulesModel", "method", "()Z"⟩, prog_8_method_20_code, 2, (some .boolean))
def mQ_code : ax_M := (5, ⟨"PackageRulesModel", "code", "(II)Z"⟩, prog_8_method_19_code, 6, (some .boolean))
def mQ_operand : ax_M := (5, ⟨"PackageRulesModel", "operand", "(I)I"⟩, prog_8_method_18_code, 1, (some .int))
def mQ_turn : ax_M := (5, ⟨"PackageRulesModel", "turn", "(II)Z"⟩, prog_8_method_17_code, 5, (some .boolean))
def mQ_wide : ax_M := (5, ⟨"PackageRulesModel", "wide", "(I)Z"⟩, prog_8_method_16_code, 4, (some .boolean))
def mQ_ownName : ax_M := (5, ⟨"PackageRulesModel", "ownName", "(I)J"⟩, prog_8_method_28_code, 2, (some .long))
def mQ_headOf : ax_M := (5, ⟨"PackageRulesModel", "headOf", "(I)I"⟩, prog_8_method_24_code, 2, (some .int))
def mQ_constantAt : ax_M := (5, ⟨"PackageRulesModel", "constantAt", "(II)I"⟩, prog_8_method_23_code, 6, (some .int))
def mQ_nameOf : ax_M := (5, ⟨"PackageRulesModel", "nameOf", "(II)J"⟩, prog_8_method_27_code, 3, (some .long))
def mQ_textOf : ax_M := (5, ⟨"PackageRulesModel", "textOf", "(II)J"⟩, prog_8_method_26_code, 7, (some .long))
def mQ_sign : ax_M := (5, ⟨"PackageRulesModel", "sign", "(I)I"⟩, prog_8_method_25_code, 1, (some .int))
def mQ_indexOf : ax_M := (5, ⟨"PackageRulesModel", "indexOf", "(J)I"⟩, prog_8_method_29_code, 5, (some .int))
def mQ_circular : ax_M := (5, ⟨"PackageRulesModel", "circular", "(I)Z"⟩, prog_8_method_40_code, 4, (some .boolean))
def mQ_isClass : ax_M := (5, ⟨"PackageRulesModel", "isClass", "(I)Z"⟩, prog_8_method_36_code, 2, (some .boolean))
def mQ_ancestors : ax_M := (5, ⟨"PackageRulesModel", "ancestors", "()V"⟩, prog_8_method_38_code, 4, none)
def mQ_parent : ax_M := (5, ⟨"PackageRulesModel", "parent", "(II)I"⟩, prog_8_method_30_code, 5, (some .int))
def mQ_close : ax_M := (5, ⟨"PackageRulesModel", "close", "()V"⟩, prog_8_method_39_code, 3, none)
def mQ_type : ax_M := (5, ⟨"PackageRulesModel", "type", "(C)Z"⟩, prog_8_method_45_code, 2, (some .boolean))
def mQ_typeable : ax_M := (5, ⟨"PackageRulesModel", "typeable", "(C)Z"⟩, prog_8_method_44_code, 1, (some .boolean))
def mQ_pattern : ax_M := (5, ⟨"PackageRulesModel", "pattern", "()I"⟩, prog_8_method_46_code, 2, (some .int))
def mQ_fits : ax_M := (5, ⟨"PackageRulesModel", "fits", "(II)Z"⟩, prog_8_method_49_code, 3, (some .boolean))
def mQ_fitsName : ax_M := (5, ⟨"PackageRulesModel", "fitsName", "(IJ)Z"⟩, prog_8_method_48_code, 12, (some .boolean))
def mQ_spell : ax_M := (5, ⟨"PackageRulesModel", "spell", "(J)I"⟩, prog_8_method_47_code, 7, (some .int))
def mQ_rule : ax_M := (5, ⟨"PackageRulesModel", "rule", "(III)I"⟩, prog_8_method_50_code, 6, (some .int))
def mQ_violations : ax_M := (5, ⟨"PackageRulesModel", "violations", "(I)I"⟩, prog_8_method_58_code, 2, (some .int))
def mQ_isRule : ax_M := (5, ⟨"PackageRulesModel", "isRule", "(I)Z"⟩, prog_8_method_51_code, 2, (some .boolean))
def mQ_renew : ax_M := (5, ⟨"PackageRulesModel", "renew", "(I)V"⟩, prog_8_method_57_code, 8, none)
def mQ_cycles : ax_M := (5, ⟨"PackageRulesModel", "cycles", "(I)V"⟩, prog_8_method_55_code, 7, none)
def mQ_least : ax_M := (5, ⟨"PackageRulesModel", "least", "(II)I"⟩, prog_8_method_54_code, 6, (some .int))
def mQ_slice : ax_M := (5, ⟨"PackageRulesModel", "slice", "(II)J"⟩, prog_8_method_53_code, 10, (some .long))
def mQ_list : ax_M := (5, ⟨"PackageRulesModel", "list", "(I)V"⟩, prog_8_method_35_code, 6, none)
def mQ_occurrence : ax_M := (5, ⟨"PackageRulesModel", "occurrence", "(IIJJ)V"⟩, prog_8_method_32_code, 7, none)
def mQ_listCode : ax_M := (5, ⟨"PackageRulesModel", "listCode", "(IIII)V"⟩, prog_8_method_34_code, 8, none)
def mQ_names : ax_M := (5, ⟨"PackageRulesModel", "names", "(IIII)V"⟩, prog_8_method_33_code, 6, none)
def mQ_gather : ax_M := (5, ⟨"PackageRulesModel", "gather", "(I)V"⟩, prog_8_method_56_code, 4, none)
def mQ_violates : ax_M := (5, ⟨"PackageRulesModel", "violates", "(III)Z"⟩, prog_8_method_52_code, 9, (some .boolean))
def mQ_targetOf : ax_M := (5, ⟨"PackageRulesModel", "targetOf", "(IJJ)I"⟩, prog_8_method_43_code, 7, (some .int))
def mQ_methodOf : ax_M := (5, ⟨"PackageRulesModel", "methodOf", "(IJ)I"⟩, prog_8_method_42_code, 9, (some .int))
def mQ_has : ax_M := (5, ⟨"PackageRulesModel", "has", "(IJZ)Z"⟩, prog_8_method_31_code, 9, (some .boolean))
def mQ_search : ax_M := (5, ⟨"PackageRulesModel", "search", "(IJZ)I"⟩, prog_8_method_41_code, 11, (some .int))
def mQ_violation : ax_M := (5, ⟨"PackageRulesModel", "violation", "(II)I"⟩, prog_8_method_59_code, 4, (some .int))
def mQ_freeze : ax_M := (5, ⟨"PackageRulesModel", "freeze", "(I)I"⟩, prog_8_method_60_code, 3, (some .int))
def mQ_classes : ax_M := (5, ⟨"PackageRulesModel", "classes", "()I"⟩, prog_8_method_61_code, 1, (some .int))
def mQ_name : ax_M := (5, ⟨"PackageRulesModel", "name", "(II)I"⟩, prog_8_method_62_code, 4, (some .int))
def mQ_occurrences : ax_M := (5, ⟨"PackageRulesModel", "occurrences", "(I)I"⟩, prog_8_method_63_code, 2, (some .int))
def mQ_kind : ax_M := (5, ⟨"PackageRulesModel", "kind", "(II)I"⟩, prog_8_method_64_code, 3, (some .int))
def mQ_isOccurrence : ax_M := (5, ⟨"PackageRulesModel", "isOccurrence", "(II)Z"⟩, prog_8_method_37_code, 3, (some .boolean))
def mQ_line : ax_M := (5, ⟨"PackageRulesModel", "line", "(II)I"⟩, prog_8_method_65_code, 3, (some .int))
def mQ_named : ax_M := (5, ⟨"PackageRulesModel", "named", "(II)I"⟩, prog_8_method_66_code, 3, (some .int))
def mQ_target : ax_M := (5, ⟨"PackageRulesModel", "target", "(II)I"⟩, prog_8_method_67_code, 3, (some .int))
def mQ_slices : ax_M := (5, ⟨"PackageRulesModel", "slices", "(I)I"⟩, prog_8_method_68_code, 4, (some .int))
/-- links to fields: own class and index; class, place, by the nest, place in the tables -/
def ax_flL : List (Nat × Nat × Nat × Bool × Nat) := [(10, 0, 0, false, 297), (19, 0, 1, false, 298), (23, 0, 2, false, 299), (29, 0, 3, false, 300), (36, 0, 4, false, 301), (40, 0, 5, false, 302), (44, 0, 6, false, 303), (49, 0, 7, false, 304), (57, 1, 1, true, 109), (60, 2, 2, true, 229), (100, 4, 0, true, 266), (109, 2, 0, true, 225), (117, 2, 1, true, 227), (123, 3, 0, true, 168), (133, 3, 8, true, 183), (139, 3, 9, true, 187), (142, 3, 10, true, 189), (145, 3, 11, true, 193), (182, 4, 1, true, 268), (203, 4, 2, true, 270), (1011, 1, 0, false, 107), (1015, 1, 8, false, 116), (1018, 1, 9, false, 117), (1022, 1, 10, false, 118), (1025, 1, 1, false, 108), (1029, 1, 6, false, 114), (1038, 1, 2, false, 110), (1041, 1, 3, false, 111), (1044, 1, 5, false, 113), (1067, 1, 4, false, 112), (1070, 1, 7, false, 115), (1114, 3, 0, true, 169), (1118, 3, 1, true, 172), (1144, 1, 13, false, 121), (1147, 1, 11, false, 119), (1150, 1, 12, false, 120), (2011, 2, 0, false, 224), (2018, 2, 2, false, 228), (2022, 2, 3, false, 230), (2026, 2, 4, false, 231), (2029, 2, 5, false, 232), (2032, 2, 6, false, 233), (2036, 2, 7, false, 234), (2039, 2, 8, false, 235), (2042, 3, 0, true, 167), (2050, 2, 1, false, 226), (2061, 3, 8, true, 182), (2068, 3, 1, true, 171), (2075, 3, 2, true, 174), (2078, 3, 3, true, 176), (2085, 3, 9, true, 186), (2088, 3, 11, true, 192), (2094, 2, 9, false, 236), (2097, 3, 12, true, 196), (3009, 3, 3, false, 175), (3013, 3, 5, false, 178), (3016, 3, 7, false, 180), (3019, 3, 9, false, 184), (3023, 3, 10, false, 188), (3026, 3, 11, false, 190), (3029, 3, 12, false, 194), (3034, 3, 0, false, 166), (3038, 3, 1, false, 170), (3041, 3, 2, false, 173), (3045, 3, 4, false, 177), (3048, 3, 6, false, 179), (3051, 3, 8, false, 181), (4009, 4, 4, false, 272), (4015, 4, 5, false, 273), (4018, 4, 6, false, 274), (4022, 4, 7, false, 275), (4025, 4, 8, false, 276), (4029, 4, 0, false, 265), (4033, 4, 1, false, 267), (4036, 4, 2, false, 269), (4039, 4, 3, false, 271), (4042, 3, 9, true, 185), (4047, 3, 11, true, 191), (4050, 3, 12, true, 195), (5007, 5, 0, false, 715), (5013, 5, 1, false, 716), (5016, 5, 5, false, 720), (5019, 5, 6, false, 721), (5022, 5, 7, false, 722), (5025, 5, 10, false, 725), (5028, 5, 11, false, 726), (5031, 5, 12, false, 727), (5034, 5, 13, false, 728), (5037, 5, 14, false, 729), (5040, 5, 15, false, 730), (5044, 5, 16, false, 731), (5047, 5, 18, false, 733), (5050, 5, 19, false, 734), (5053, 5, 20, false, 735), (5056, 5, 21, false, 736), (5059, 5, 23, false, 738), (5062, 5, 24, false, 739), (5065, 5, 25, false, 740), (5068, 5, 26, false, 741), (5071, 5, 28, false, 743), (5074, 5, 29, false, 744), (5077, 5, 30, false, 745), (5080, 5, 31, false, 746), (5084, 5, 3, false, 718), (5092, 5, 4, false, 719), (5158, 5, 2, false, 717), (5180, 5, 17, false, 732), (5229, 5, 8, false, 723), (5239, 5, 9, false, 724), (5255, 5, 27, false, 742), (5258, 5, 22, false, 737)]
/-- links to methods: own class and index; method, static, parameters, and the places of its words in the tables: link, code, initialized, instanceMethod or static, selects -/
def ax_mlLa : List (Nat × ax_M × Bool × Nat × Nat × Nat × Nat × Nat × Nat) := [(53, mR_append, false, 2, 326, 329, 86, 327, 328), (64, mR_readInto, false, 1, 338, 341, 86, 339, 340), (68, mG_adoptSpare, false, 0, 481, 484, 87, 482, 483), (72, mT_codeOf, true, 1, 507, 364, 91, 363, 363), (76, mT_lengthOf, true, 1, 508, 389, 91, 388, 388), (80, mT_withCode, true, 3, 509, 371, 91, 370, 370), (84, mP_canBeRule, false, 3, 518, 521, 85, 520, 25), (88, mK_become, false, 3, 529, 532, 89, 530, 531), (92, mP_isRule, false, 1, 537, 540, 85, 539, 27), (96, mP_findNew, false, 1, 541, 544, 85, 543, 28), (103, mP_findAll, false, 1, 545, 548, 85, 547, 29), (106, mK_forgetKnown, false, 0, 645, 648, 89, 646, 647), (113, mK_addKnown, false, 3, 649, 652, 89, 650, 651), (120, mG_isClass, false, 1, 661, 664, 87, 662, 663), (126, mT_codeAt, true, 2, 665, 392, 91, 391, 391), (130, mT_characterOf, true, 1, 666, 668, 91, 667, 667), (136, mG_isOccurrence, false, 2, 677, 680, 87, 678, 679), (148, mG_numberOf, false, 1, 690, 488, 87, 486, 487), (151, mG_targetOf, false, 2, 597, 600, 87, 598, 599), (155, mG_isCircular, false, 1, 699, 604, 87, 602, 603), (158, mP_isPattern, false, 1, 525, 528, 85, 527, 26), (161, mP_fitsText, false, 2, 580, 583, 85, 582, 34), (165, mP_isDepth, true, 1, 522, 524, 85, 523, 523), (168, mG_cutSlices, false, 1, 708, 560, 87, 558, 559), (171, mT_matches, true, 2, 584, 586, 91, 585, 585), (175, mK_forgetUses, false, 0, 629, 632, 89, 630, 631), (178, mK_useKnown, false, 3, 633, 636, 89, 634, 635), (185, mP_findCycles, false, 1, 549, 552, 85, 551, 30), (188, mP_watches, false, 2, 576, 579, 85, 578, 33), (192, mP_breaks, false, 3, 593, 596, 85, 595, 35), (196, mG_linkSlices, false, 1, 553, 556, 87, 554, 555), (200, mG_headsCycle, false, 1, 572, 575, 87, 573, 574), (1033, mU_clear, false, 0, 342, 345, 88, 343, 344), (1047, mR_take, false, 2, 346, 349, 86, 348, 0), (1051, mR_readConstants, false, 0, 350, 353, 86, 352, 1), (1055, mR_checkNumbers, false, 0, 372, 375, 86, 374, 5), (1058, mR_readParents, false, 0, 400, 403, 86, 402, 9), (1061, mR_readFields, false, 0, 424, 427, 86, 426, 13), (1064, mR_readMethods, false, 0, 436, 439, 86, 438, 15), (1073, mR_tagOf, false, 1, 380, 383, 86, 382, 7), (1077, mR_fail, false, 1, 365, 368, 86, 367, 4), (1081, mR_isWord, false, 1, 393, 396, 86, 395, 8), (1084, mT_isWord, true, 1, 397, 399, 91, 398, 398), (1089, mT_isName, true, 1, 384, 386, 91, 385, 385), (1092, mR_readConstant, false, 1, 354, 357, 86, 356, 2), (1095, mR_readText, false, 1, 358, 361, 86, 360, 3), (1098, mT_codeOf, true, 1, 362, 364, 91, 363, 363), (1101, mT_withCode, true, 3, 369, 371, 91, 370, 370), (1105, mR_isName, false, 1, 376, 379, 86, 378, 6), (1107, mR_takeClass, false, 0, 404, 407, 86, 406, 10), (1110, mR_lastText, false, 1, 408, 411, 86, 410, 11), (1121, mU_addOccurrence, false, 4, 412, 415, 88, 413, 414), (1125, mR_readInterfaces, false, 0, 416, 419, 86, 418, 12), (1128, mU_addInterface, false, 1, 420, 423, 88, 421, 422), (1132, mR_takeWord, false, 0, 428, 431, 86, 430, 14), (1135, mU_addField, false, 1, 432, 435, 88, 433, 434), (1138, mR_readMethod, false, 0, 440, 443, 86, 442, 16), (1141, mU_addMethod, false, 1, 444, 447, 88, 445, 446), (1159, mR_readInstruction, false, 0, 451, 454, 86, 453, 17), (1162, mR_readStep, false, 0, 455, 458, 86, 457, 18), (1165, mR_readSwitch, false, 0, 459, 462, 86, 461, 19), (1168, mR_readWide, false, 0, 463, 466, 86, 465, 20), (1171, mR_kindOf, true, 1, 467, 469, 86, 468, 468), (1174, mR_readUse, false, 1, 477, 480, 86, 479, 22), (1177, mR_useConstant, false, 2, 470, 473, 86, 472, 21), (1180, mR_tagFor, true, 1, 474, 476, 86, 475, 475), (2046, mG_numberOf, false, 1, 485, 488, 87, 486, 487), (2054, mG_linkParents, false, 0, 489, 492, 87, 491, 23), (2057, mG_isClass, false, 1, 681, 664, 87, 662, 663), (2064, mG_isIn, true, 2, 500, 502, 87, 501, 501), (2071, mG_with, true, 2, 493, 495, 87, 494, 494), (2081, mG_follow, false, 1, 496, 499, 87, 498, 24), (2091, mG_isCircular, false, 1, 601, 604, 87, 602, 603), (2100, mG_methodFrom, false, 2, 605, 608, 87, 607, 36), (2104, mG_fieldFrom, false, 3, 621, 624, 87, 623, 39), (2108, mU_hasField, false, 1, 625, 628, 88, 626, 627), (2112, mG_interfaceOf, false, 2, 613, 616, 87, 615, 37), (2115, mU_hasMethod, false, 1, 609, 612, 88, 610, 611), (2118, mG_faceFrom, false, 3, 617, 620, 87, 619, 38), (2121, mT_firstWords, true, 2, 561, 563, 91, 562, 562), (2127, mG_headOf, false, 1, 564, 567, 87, 566, 31), (2131, mG_cutSlices, false, 1, 557, 560, 87, 558, 559), (2134, mG_slicesNamedIn, false, 1, 568, 571, 87, 570, 32), (5088, mQ_buffer, false, 1, 828, 831, 90, 830, 41), (5095, mQ_bytesHere, false, 1, 836, 839, 90, 838, 43), (5099, mQ_letter, true, 1, 840, 842, 90, 841, 841), (5102, mQ_constant, false, 1, 832, 835, 90, 834, 42), (5105, mQ_tag, false, 1, 847, 850, 90, 849, 45)]
def ax_mlLb : List (Nat × ax_M × Bool × Nat × Nat × Nat × Nat × Nat × Nat) := [(5108, mQ_worded, false, 2, 855, 858, 90, 857, 47), (5112, mQ_fitting, false, 2, 851, 854, 90, 853, 46), (5116, mQ_upTo, false, 2, 871, 874, 90, 873, 51), (5119, mQ_number, false, 2, 859, 862, 90, 861, 48), (5122, mQ_operand, true, 1, 883, 885, 90, 884, 884), (5125, mQ_turn, false, 2, 886, 889, 90, 888, 54), (5128, mQ_wide, false, 1, 890, 893, 90, 892, 55), (5131, mQ_code, false, 2, 879, 882, 90, 881, 53), (5134, mQ_several, false, 2, 867, 870, 90, 869, 50), (5137, mQ_method, false, 0, 875, 878, 90, 877, 52), (5141, mQ_readConstants, false, 0, 824, 827, 90, 826, 40), (5144, mQ_checkConstants, false, 0, 843, 846, 90, 845, 44), (5147, mQ_rest, false, 0, 863, 866, 90, 865, 49), (5150, mQ_ownName, false, 1, 894, 897, 90, 896, 56), (5154, mQ_indexOf, false, 1, 918, 921, 90, 920, 61), (5161, mQ_constantAt, false, 2, 902, 905, 90, 904, 58), (5167, mQ_sign, true, 1, 915, 917, 90, 916, 916), (5170, mQ_textOf, false, 2, 910, 913, 90, 912, 60), (5174, mQ_headOf, false, 1, 898, 901, 90, 900, 57), (5177, mQ_nameOf, false, 2, 906, 909, 90, 908, 59), (5183, mQ_occurrence, false, 4, 997, 1000, 90, 999, 74), (5187, mQ_names, false, 4, 1005, 1008, 90, 1007, 76), (5191, mQ_listCode, false, 4, 1001, 1004, 90, 1003, 75), (5194, mQ_isClass, false, 1, 926, 929, 90, 928, 62), (5197, mQ_list, false, 1, 993, 996, 90, 995, 73), (5201, mQ_parent, false, 2, 934, 937, 90, 936, 64), (5204, mQ_close, false, 0, 938, 941, 90, 940, 65), (5207, mQ_ancestors, false, 0, 930, 933, 90, 932, 63), (5210, mQ_has, false, 3, 1027, 1030, 90, 1029, 81), (5214, mQ_search, false, 3, 1031, 1034, 90, 1033, 82), (5218, mQ_circular, false, 1, 1022, 925, 90, 923, 924), (5221, mQ_methodOf, false, 2, 1023, 1026, 90, 1025, 80), (5225, mQ_typeable, true, 1, 946, 948, 90, 947, 947), (5232, mQ_spell, false, 1, 961, 964, 90, 963, 67), (5235, mQ_fitsName, false, 2, 957, 960, 90, 959, 66), (5242, mQ_fits, false, 2, 1017, 956, 90, 954, 955), (5245, mQ_targetOf, false, 3, 1018, 1021, 90, 1020, 79), (5249, mQ_slice, false, 2, 989, 992, 90, 991, 72), (5252, mQ_least, false, 2, 985, 988, 90, 987, 71), (5261, mQ_violates, false, 3, 1013, 1016, 90, 1015, 78), (5265, mQ_cycles, false, 1, 981, 984, 90, 983, 70), (5268, mQ_gather, false, 1, 1009, 1012, 90, 1011, 77), (5271, mQ_isRule, false, 1, 973, 976, 90, 975, 68), (5274, mQ_renew, false, 1, 977, 980, 90, 979, 69), (5277, mQ_violations, false, 1, 1039, 972, 90, 970, 971), (5280, mQ_isOccurrence, false, 2, 1060, 1063, 90, 1062, 83), (6011, mT_codeAt, true, 2, 390, 392, 91, 391, 391), (6015, mT_lengthOf, true, 1, 387, 389, 91, 388, 388), (6019, mT_passStars, true, 3, 587, 589, 91, 588, 588), (6023, mT_step, true, 4, 590, 592, 91, 591, 591), (7013, mP_put, false, 2, 322, 325, 85, 323, 324), (7017, mQ_put, false, 2, 812, 815, 90, 813, 814), (7018, mP_bytes, false, 0, 330, 333, 85, 331, 332), (7022, mQ_bytes, false, 0, 816, 819, 90, 817, 818), (7023, mP_load, false, 0, 334, 337, 85, 335, 336), (7026, mQ_load, false, 0, 820, 823, 90, 821, 822), (7027, mP_type, false, 1, 503, 506, 85, 504, 505), (7031, mQ_type, false, 1, 942, 945, 90, 943, 944), (7032, mP_pattern, false, 0, 510, 513, 85, 511, 512), (7035, mQ_pattern, false, 0, 949, 952, 90, 950, 951), (7036, mP_rule, false, 3, 514, 517, 85, 515, 516), (7040, mQ_rule, false, 3, 965, 968, 90, 966, 967), (7041, mP_violations, false, 1, 533, 536, 85, 534, 535), (7045, mQ_violations, false, 1, 969, 972, 90, 970, 971), (7046, mP_violation, false, 2, 637, 640, 85, 638, 639), (7050, mQ_violation, false, 2, 1035, 1038, 90, 1036, 1037), (7051, mP_freeze, false, 1, 641, 644, 85, 642, 643), (7054, mQ_freeze, false, 1, 1040, 1043, 90, 1041, 1042), (7055, mP_classes, false, 0, 653, 656, 85, 654, 655), (7058, mQ_classes, false, 0, 1044, 1047, 90, 1045, 1046), (7059, mP_name, false, 2, 657, 660, 85, 658, 659), (7062, mQ_name, false, 2, 1048, 1051, 90, 1049, 1050), (7063, mP_occurrences, false, 1, 669, 672, 85, 670, 671), (7066, mQ_occurrences, false, 1, 1052, 1055, 90, 1053, 1054), (7067, mP_kind, false, 2, 673, 676, 85, 674, 675), (7070, mQ_kind, false, 2, 1056, 1059, 90, 1057, 1058), (7071, mP_line, false, 2, 682, 685, 85, 683, 684), (7074, mQ_line, false, 2, 1064, 1067, 90, 1065, 1066), (7075, mP_named, false, 2, 686, 689, 85, 687, 688), (7078, mQ_named, false, 2, 1068, 1071, 90, 1069, 1070), (7079, mP_target, false, 2, 691, 694, 85, 692, 693), (7082, mQ_target, false, 2, 1072, 1075, 90, 1073, 1074), (7083, mP_circular, false, 1, 695, 698, 85, 696, 697), (7087, mQ_circular, false, 1, 922, 925, 90, 923, 924), (7088, mP_fits, false, 2, 700, 703, 85, 701, 702), (7091, mQ_fits, false, 2, 953, 956, 90, 954, 955), (7092, mP_slices, false, 1, 704, 707, 85, 705, 706), (7095, mQ_slices, false, 1, 1076, 1079, 90, 1077, 1078)]
def ax_mlL : List (Nat × ax_M × Bool × Nat × Nat × Nat × Nat × Nat × Nat) := ax_mlLa ++ ax_mlLb
end
section
/-! what the tables say of the names: checked by program -/
def ax_fok (e : Nat × Nat × Nat × Bool × Nat) : Bool :=
  decide (e.2.1 < 6) && decide (e.2.2.1 < ax_N e.2.1) && decide ((ax_Tb e.2.1 e.2.2.1).1 = ax_own e.2.1) &&
  decide (lw_tbl[e.2.2.2.2]? = some (if e.2.2.2.1 = true then .fieldLinkNest (ax_own (e.1 / 1000)) (e.1 % 1000) (ax_own e.2.1) (ax_Tb e.2.1 e.2.2.1).2.1 (ax_Tb e.2.1 e.2.2.1).2.2.1 "PackageRules" else .fieldLink (ax_own (e.1 / 1000)) (e.1 % 1000) (ax_own e.2.1) (ax_Tb e.2.1 e.2.2.1).2.1 (ax_Tb e.2.1 e.2.2.1).2.2.1))
set_option maxRecDepth 100000 in
theorem ax_flok : ax_flL.all ax_fok = true := by decide +kernel
def ax_mok (e : Nat × ax_M × Bool × Nat × Nat × Nat × Nat × Nat × Nat) : Bool :=
  decide (lw_tbl[e.2.2.2.2.1]? = some (.methodLink (ax_own (e.1 / 1000)) (e.1 % 1000) e.2.1.2.1)) &&
  decide (lw_tbl[e.2.2.2.2.2.2.1]? = some (.initialized e.2.1.2.1.cls)) &&
  decide (lw_tbl[e.2.2.2.2.2.2.2.1]? = some (if e.2.2.1 = true then .static e.2.1.2.1 else .instanceMethod e.2.1.2.1)) &&
  (e.2.2.1 || decide (lw_tbl[e.2.2.2.2.2.2.2.2]? = some (.selects e.2.1.2.1.cls e.2.1.2.1 e.2.1.2.1))) &&
  decide (e.2.1.2.1.cls = ax_own e.2.1.1) && (e.2.2.1 || decide (e.2.1.1 < 6)) && plainName e.2.1.2.1.cls && decide (e.2.1.2.1.cls ≠ "java/lang/invoke/MethodHandle") && decide (e.2.1.2.1.cls ≠ "java/lang/invoke/VarHandle") &&
  decide ((parseMethodDescriptor e.2.1.2.1.desc).map (fun d => d.parameters.length) = some e.2.2.2.1) && decide (e.2.1.2.2.2.1 ≤ 40)
set_option maxRecDepth 100000 in
theorem ax_mloka : ax_mlLa.all ax_mok = true := by decide +kernel
set_option maxRecDepth 100000 in
theorem ax_mlokb : ax_mlLb.all ax_mok = true := by decide +kernel
set_option maxRecDepth 100000 in
theorem ax_usok : (List.range 6).all (fun ci => (u_ws (ax_own ci) (ax_Tb ci) (ax_N ci)).all (fun w => decide (w ∈ lw_tbl) && goodWord w)) = true := by decide +kernel
end
section
set_option maxRecDepth 100000 in
theorem cw_mP_put : lw_tbl[325]? = some (Jvm.Cond.code mP_put.2.1 mP_put.2.2.1 mP_put.2.2.2.1 mP_put.2.2.2.2) := rfl
set_option maxRecDepth 100000 in
theorem cw_mR_append : lw_tbl[329]? = some (Jvm.Cond.code mR_append.2.1 mR_append.2.2.1 mR_append.2.2.2.1 mR_append.2.2.2.2) := rfl
set_option maxRecDepth 100000 in
theorem cw_mP_bytes : lw_tbl[333]? = some (Jvm.Cond.code mP_bytes.2.1 mP_bytes.2.2.1 mP_bytes.2.2.2.1 mP_bytes.2.2.2.2) := rfl
set_option maxRecDepth 100000 in
theorem cw_mP_load : lw_tbl[337]? = some (Jvm.Cond.code mP_load.2.1 mP_load.2.2.1 mP_load.2.2.2.1 mP_load.2.2.2.2) := rfl
set_option maxRecDepth 100000 in
theorem cw_mR_readInto : lw_tbl[341]? = some (Jvm.Cond.code mR_readInto.2.1 mR_readInto.2.2.1 mR_readInto.2.2.2.1 mR_readInto.2.2.2.2) := rfl
set_option maxRecDepth 100000 in
theorem cw_mU_clear : lw_tbl[345]? = some (Jvm.Cond.code mU_clear.2.1 mU_clear.2.2.1 mU_clear.2.2.2.1 mU_clear.2.2.2.2) := rfl
set_option maxRecDepth 100000 in
theorem cw_mR_take : lw_tbl[349]? = some (Jvm.Cond.code mR_take.2.1 mR_take.2.2.1 mR_take.2.2.2.1 mR_take.2.2.2.2) := rfl
set_option maxRecDepth 100000 in
theorem cw_mR_readConstants : lw_tbl[353]? = some (Jvm.Cond.code mR_readConstants.2.1 mR_readConstants.2.2.1 mR_readConstants.2.2.2.1 mR_readConstants.2.2.2.2) := rfl
set_option maxRecDepth 100000 in
theorem cw_mR_readConstant : lw_tbl[357]? = some (Jvm.Cond.code mR_readConstant.2.1 mR_readConstant.2.2.1 mR_readConstant.2.2.2.1 mR_readConstant.2.2.2.2) := rfl
set_option maxRecDepth 100000 in
theorem cw_mR_readText : lw_tbl[361]? = some (Jvm.Cond.code mR_readText.2.1 mR_readText.2.2.1 mR_readText.2.2.2.1 mR_readText.2.2.2.2) := rfl
set_option maxRecDepth 100000 in
theorem cw_mT_codeOf : lw_tbl[364]? = some (Jvm.Cond.code mT_codeOf.2.1 mT_codeOf.2.2.1 mT_codeOf.2.2.2.1 mT_codeOf.2.2.2.2) := rfl
set_option maxRecDepth 100000 in
theorem cw_mR_fail : lw_tbl[368]? = some (Jvm.Cond.code mR_fail.2.1 mR_fail.2.2.1 mR_fail.2.2.2.1 mR_fail.2.2.2.2) := rfl
set_option maxRecDepth 100000 in
theorem cw_mT_withCode : lw_tbl[371]? = some (Jvm.Cond.code mT_withCode.2.1 mT_withCode.2.2.1 mT_withCode.2.2.2.1 mT_withCode.2.2.2.2) := rfl
set_option maxRecDepth 100000 in
theorem cw_mR_checkNumbers : lw_tbl[375]? = some (Jvm.Cond.code mR_checkNumbers.2.1 mR_checkNumbers.2.2.1 mR_checkNumbers.2.2.2.1 mR_checkNumbers.2.2.2.2) := rfl
set_option maxRecDepth 100000 in
theorem cw_mR_isName : lw_tbl[379]? = some (Jvm.Cond.code mR_isName.2.1 mR_isName.2.2.1 mR_isName.2.2.2.1 mR_isName.2.2.2.2) := rfl
set_option maxRecDepth 100000 in
theorem cw_mR_tagOf : lw_tbl[383]? = some (Jvm.Cond.code mR_tagOf.2.1 mR_tagOf.2.2.1 mR_tagOf.2.2.2.1 mR_tagOf.2.2.2.2) := rfl
set_option maxRecDepth 100000 in
theorem cw_mT_isName : lw_tbl[386]? = some (Jvm.Cond.code mT_isName.2.1 mT_isName.2.2.1 mT_isName.2.2.2.1 mT_isName.2.2.2.2) := rfl
set_option maxRecDepth 100000 in
theorem cw_mT_lengthOf : lw_tbl[389]? = some (Jvm.Cond.code mT_lengthOf.2.1 mT_lengthOf.2.2.1 mT_lengthOf.2.2.2.1 mT_lengthOf.2.2.2.2) := rfl
set_option maxRecDepth 100000 in
theorem cw_mT_codeAt : lw_tbl[392]? = some (Jvm.Cond.code mT_codeAt.2.1 mT_codeAt.2.2.1 mT_codeAt.2.2.2.1 mT_codeAt.2.2.2.2) := rfl
set_option maxRecDepth 100000 in
theorem cw_mR_isWord : lw_tbl[396]? = some (Jvm.Cond.code mR_isWord.2.1 mR_isWord.2.2.1 mR_isWord.2.2.2.1 mR_isWord.2.2.2.2) := rfl
set_option maxRecDepth 100000 in
theorem cw_mT_isWord : lw_tbl[399]? = some (Jvm.Cond.code mT_isWord.2.1 mT_isWord.2.2.1 mT_isWord.2.2.2.1 mT_isWord.2.2.2.2) := rfl
set_option maxRecDepth 100000 in
theorem cw_mR_readParents : lw_tbl[403]? = some (Jvm.Cond.code mR_readParents.2.1 mR_readParents.2.2.1 mR_readParents.2.2.2.1 mR_readParents.2.2.2.2) := rfl
set_option maxRecDepth 100000 in
theorem cw_mR_takeClass : lw_tbl[407]? = some (Jvm.Cond.code mR_takeClass.2.1 mR_takeClass.2.2.1 mR_takeClass.2.2.2.1 mR_takeClass.2.2.2.2) := rfl
set_option maxRecDepth 100000 in
theorem cw_mR_lastText : lw_tbl[411]? = some (Jvm.Cond.code mR_lastText.2.1 mR_lastText.2.2.1 mR_lastText.2.2.2.1 mR_lastText.2.2.2.2) := rfl
set_option maxRecDepth 100000 in
theorem cw_mU_addOccurrence : lw_tbl[415]? = some (Jvm.Cond.code mU_addOccurrence.2.1 mU_addOccurrence.2.2.1 mU_addOccurrence.2.2.2.1 mU_addOccurrence.2.2.2.2) := rfl
set_option maxRecDepth 100000 in
theorem cw_mR_readInterfaces : lw_tbl[419]? = some (Jvm.Cond.code mR_readInterfaces.2.1 mR_readInterfaces.2.2.1 mR_readInterfaces.2.2.2.1 mR_readInterfaces.2.2.2.2) := rfl
set_option maxRecDepth 100000 in
theorem cw_mU_addInterface : lw_tbl[423]? = some (Jvm.Cond.code mU_addInterface.2.1 mU_addInterface.2.2.1 mU_addInterface.2.2.2.1 mU_addInterface.2.2.2.2) := rfl
set_option maxRecDepth 100000 in
theorem cw_mR_readFields : lw_tbl[427]? = some (Jvm.Cond.code mR_readFields.2.1 mR_readFields.2.2.1 mR_readFields.2.2.2.1 mR_readFields.2.2.2.2) := rfl
set_option maxRecDepth 100000 in
theorem cw_mR_takeWord : lw_tbl[431]? = some (Jvm.Cond.code mR_takeWord.2.1 mR_takeWord.2.2.1 mR_takeWord.2.2.2.1 mR_takeWord.2.2.2.2) := rfl
set_option maxRecDepth 100000 in
theorem cw_mU_addField : lw_tbl[435]? = some (Jvm.Cond.code mU_addField.2.1 mU_addField.2.2.1 mU_addField.2.2.2.1 mU_addField.2.2.2.2) := rfl
set_option maxRecDepth 100000 in
theorem cw_mR_readMethods : lw_tbl[439]? = some (Jvm.Cond.code mR_readMethods.2.1 mR_readMethods.2.2.1 mR_readMethods.2.2.2.1 mR_readMethods.2.2.2.2) := rfl
set_option maxRecDepth 100000 in
theorem cw_mR_readMethod : lw_tbl[443]? = some (Jvm.Cond.code mR_readMethod.2.1 mR_readMethod.2.2.1 mR_readMethod.2.2.2.1 mR_readMethod.2.2.2.2) := rfl
set_option maxRecDepth 100000 in
theorem cw_mU_addMethod : lw_tbl[447]? = some (Jvm.Cond.code mU_addMethod.2.1 mU_addMethod.2.2.1 mU_addMethod.2.2.2.1 mU_addMethod.2.2.2.2) := rfl
set_option maxRecDepth 100000 in
theorem cw_mR_readInstruction : lw_tbl[454]? = some (Jvm.Cond.code mR_readInstruction.2.1 mR_readInstruction.2.2.1 mR_readInstruction.2.2.2.1 mR_readInstruction.2.2.2.2) := rfl
set_option maxRecDepth 100000 in
theorem cw_mR_readStep : lw_tbl[458]? = some (Jvm.Cond.code mR_readStep.2.1 mR_readStep.2.2.1 mR_readStep.2.2.2.1 mR_readStep.2.2.2.2) := rfl
set_option maxRecDepth 100000 in
theorem cw_mR_readSwitch : lw_tbl[462]? = some (Jvm.Cond.code mR_readSwitch.2.1 mR_readSwitch.2.2.1 mR_readSwitch.2.2.2.1 mR_readSwitch.2.2.2.2) := rfl
set_option maxRecDepth 100000 in
theorem cw_mR_readWide : lw_tbl[466]? = some (Jvm.Cond.code mR_readWide.2.1 mR_readWide.2.2.1 mR_readWide.2.2.2.1 mR_readWide.2.2.2.2) := rfl
set_option maxRecDepth 100000 in
theorem cw_mR_kindOf : lw_tbl[469]? = some (Jvm.Cond.code mR_kindOf.2.1 mR_kindOf.2.2.1 mR_kindOf.2.2.2.1 mR_kindOf.2.2.2.2) := rfl
set_option maxRecDepth 100000 in
theorem cw_mR_useConstant : lw_tbl[473]? = some (Jvm.Cond.code mR_useConstant.2.1 mR_useConstant.2.2.1 mR_useConstant.2.2.2.1 mR_useConstant.2.2.2.2) := rfl
set_option maxRecDepth 100000 in
theorem cw_mR_tagFor : lw_tbl[476]? = some (Jvm.Cond.code mR_tagFor.2.1 mR_tagFor.2.2.1 mR_tagFor.2.2.2.1 mR_tagFor.2.2.2.2) := rfl
set_option maxRecDepth 100000 in
theorem cw_mR_readUse : lw_tbl[480]? = some (Jvm.Cond.code mR_readUse.2.1 mR_readUse.2.2.1 mR_readUse.2.2.2.1 mR_readUse.2.2.2.2) := rfl
set_option maxRecDepth 100000 in
theorem cw_mG_adoptSpare : lw_tbl[484]? = some (Jvm.Cond.code mG_adoptSpare.2.1 mG_adoptSpare.2.2.1 mG_adoptSpare.2.2.2.1 mG_adoptSpare.2.2.2.2) := rfl
set_option maxRecDepth 100000 in
theorem cw_mG_numberOf : lw_tbl[488]? = some (Jvm.Cond.code mG_numberOf.2.1 mG_numberOf.2.2.1 mG_numberOf.2.2.2.1 mG_numberOf.2.2.2.2) := rfl
set_option maxRecDepth 100000 in
theorem cw_mG_linkParents : lw_tbl[492]? = some (Jvm.Cond.code mG_linkParents.2.1 mG_linkParents.2.2.1 mG_linkParents.2.2.2.1 mG_linkParents.2.2.2.2) := rfl
set_option maxRecDepth 100000 in
theorem cw_mG_with : lw_tbl[495]? = some (Jvm.Cond.code mG_with.2.1 mG_with.2.2.1 mG_with.2.2.2.1 mG_with.2.2.2.2) := rfl
set_option maxRecDepth 100000 in
theorem cw_mG_follow : lw_tbl[499]? = some (Jvm.Cond.code mG_follow.2.1 mG_follow.2.2.1 mG_follow.2.2.2.1 mG_follow.2.2.2.2) := rfl
set_option maxRecDepth 100000 in
theorem cw_mG_isIn : lw_tbl[502]? = some (Jvm.Cond.code mG_isIn.2.1 mG_isIn.2.2.1 mG_isIn.2.2.2.1 mG_isIn.2.2.2.2) := rfl
set_option maxRecDepth 100000 in
theorem cw_mP_type : lw_tbl[506]? = some (Jvm.Cond.code mP_type.2.1 mP_type.2.2.1 mP_type.2.2.2.1 mP_type.2.2.2.2) := rfl
set_option maxRecDepth 100000 in
theorem cw_mP_pattern : lw_tbl[513]? = some (Jvm.Cond.code mP_pattern.2.1 mP_pattern.2.2.1 mP_pattern.2.2.2.1 mP_pattern.2.2.2.2) := rfl
set_option maxRecDepth 100000 in
theorem cw_mP_rule : lw_tbl[517]? = some (Jvm.Cond.code mP_rule.2.1 mP_rule.2.2.1 mP_rule.2.2.2.1 mP_rule.2.2.2.2) := rfl
set_option maxRecDepth 100000 in
theorem cw_mP_canBeRule : lw_tbl[521]? = some (Jvm.Cond.code mP_canBeRule.2.1 mP_canBeRule.2.2.1 mP_canBeRule.2.2.2.1 mP_canBeRule.2.2.2.2) := rfl
set_option maxRecDepth 100000 in
theorem cw_mP_isDepth : lw_tbl[524]? = some (Jvm.Cond.code mP_isDepth.2.1 mP_isDepth.2.2.1 mP_isDepth.2.2.2.1 mP_isDepth.2.2.2.2) := rfl
set_option maxRecDepth 100000 in
theorem cw_mP_isPattern : lw_tbl[528]? = some (Jvm.Cond.code mP_isPattern.2.1 mP_isPattern.2.2.1 mP_isPattern.2.2.2.1 mP_isPattern.2.2.2.2) := rfl
set_option maxRecDepth 100000 in
theorem cw_mK_become : lw_tbl[532]? = some (Jvm.Cond.code mK_become.2.1 mK_become.2.2.1 mK_become.2.2.2.1 mK_become.2.2.2.2) := rfl
set_option maxRecDepth 100000 in
theorem cw_mP_violations : lw_tbl[536]? = some (Jvm.Cond.code mP_violations.2.1 mP_violations.2.2.1 mP_violations.2.2.2.1 mP_violations.2.2.2.2) := rfl
set_option maxRecDepth 100000 in
theorem cw_mP_isRule : lw_tbl[540]? = some (Jvm.Cond.code mP_isRule.2.1 mP_isRule.2.2.1 mP_isRule.2.2.2.1 mP_isRule.2.2.2.2) := rfl
set_option maxRecDepth 100000 in
theorem cw_mP_findNew : lw_tbl[544]? = some (Jvm.Cond.code mP_findNew.2.1 mP_findNew.2.2.1 mP_findNew.2.2.2.1 mP_findNew.2.2.2.2) := rfl
set_option maxRecDepth 100000 in
theorem cw_mP_findAll : lw_tbl[548]? = some (Jvm.Cond.code mP_findAll.2.1 mP_findAll.2.2.1 mP_findAll.2.2.2.1 mP_findAll.2.2.2.2) := rfl
set_option maxRecDepth 100000 in
theorem cw_mP_findCycles : lw_tbl[552]? = some (Jvm.Cond.code mP_findCycles.2.1 mP_findCycles.2.2.1 mP_findCycles.2.2.2.1 mP_findCycles.2.2.2.2) := rfl
set_option maxRecDepth 100000 in
theorem cw_mG_linkSlices : lw_tbl[556]? = some (Jvm.Cond.code mG_linkSlices.2.1 mG_linkSlices.2.2.1 mG_linkSlices.2.2.2.1 mG_linkSlices.2.2.2.2) := rfl
set_option maxRecDepth 100000 in
theorem cw_mG_cutSlices : lw_tbl[560]? = some (Jvm.Cond.code mG_cutSlices.2.1 mG_cutSlices.2.2.1 mG_cutSlices.2.2.2.1 mG_cutSlices.2.2.2.2) := rfl
set_option maxRecDepth 100000 in
theorem cw_mT_firstWords : lw_tbl[563]? = some (Jvm.Cond.code mT_firstWords.2.1 mT_firstWords.2.2.1 mT_firstWords.2.2.2.1 mT_firstWords.2.2.2.2) := rfl
set_option maxRecDepth 100000 in
theorem cw_mG_headOf : lw_tbl[567]? = some (Jvm.Cond.code mG_headOf.2.1 mG_headOf.2.2.1 mG_headOf.2.2.2.1 mG_headOf.2.2.2.2) := rfl
set_option maxRecDepth 100000 in
theorem cw_mG_slicesNamedIn : lw_tbl[571]? = some (Jvm.Cond.code mG_slicesNamedIn.2.1 mG_slicesNamedIn.2.2.1 mG_slicesNamedIn.2.2.2.1 mG_slicesNamedIn.2.2.2.2) := rfl
set_option maxRecDepth 100000 in
theorem cw_mG_headsCycle : lw_tbl[575]? = some (Jvm.Cond.code mG_headsCycle.2.1 mG_headsCycle.2.2.1 mG_headsCycle.2.2.2.1 mG_headsCycle.2.2.2.2) := rfl
set_option maxRecDepth 100000 in
theorem cw_mP_watches : lw_tbl[579]? = some (Jvm.Cond.code mP_watches.2.1 mP_watches.2.2.1 mP_watches.2.2.2.1 mP_watches.2.2.2.2) := rfl
set_option maxRecDepth 100000 in
theorem cw_mP_fitsText : lw_tbl[583]? = some (Jvm.Cond.code mP_fitsText.2.1 mP_fitsText.2.2.1 mP_fitsText.2.2.2.1 mP_fitsText.2.2.2.2) := rfl
set_option maxRecDepth 100000 in
theorem cw_mT_matches : lw_tbl[586]? = some (Jvm.Cond.code mT_matches.2.1 mT_matches.2.2.1 mT_matches.2.2.2.1 mT_matches.2.2.2.2) := rfl
set_option maxRecDepth 100000 in
theorem cw_mT_passStars : lw_tbl[589]? = some (Jvm.Cond.code mT_passStars.2.1 mT_passStars.2.2.1 mT_passStars.2.2.2.1 mT_passStars.2.2.2.2) := rfl
set_option maxRecDepth 100000 in
theorem cw_mT_step : lw_tbl[592]? = some (Jvm.Cond.code mT_step.2.1 mT_step.2.2.1 mT_step.2.2.2.1 mT_step.2.2.2.2) := rfl
set_option maxRecDepth 100000 in
theorem cw_mP_breaks : lw_tbl[596]? = some (Jvm.Cond.code mP_breaks.2.1 mP_breaks.2.2.1 mP_breaks.2.2.2.1 mP_breaks.2.2.2.2) := rfl
set_option maxRecDepth 100000 in
theorem cw_mG_targetOf : lw_tbl[600]? = some (Jvm.Cond.code mG_targetOf.2.1 mG_targetOf.2.2.1 mG_targetOf.2.2.2.1 mG_targetOf.2.2.2.2) := rfl
set_option maxRecDepth 100000 in
theorem cw_mG_isCircular : lw_tbl[604]? = some (Jvm.Cond.code mG_isCircular.2.1 mG_isCircular.2.2.1 mG_isCircular.2.2.2.1 mG_isCircular.2.2.2.2) := rfl
set_option maxRecDepth 100000 in
theorem cw_mG_methodFrom : lw_tbl[608]? = some (Jvm.Cond.code mG_methodFrom.2.1 mG_methodFrom.2.2.1 mG_methodFrom.2.2.2.1 mG_methodFrom.2.2.2.2) := rfl
set_option maxRecDepth 100000 in
theorem cw_mU_hasMethod : lw_tbl[612]? = some (Jvm.Cond.code mU_hasMethod.2.1 mU_hasMethod.2.2.1 mU_hasMethod.2.2.2.1 mU_hasMethod.2.2.2.2) := rfl
set_option maxRecDepth 100000 in
theorem cw_mG_interfaceOf : lw_tbl[616]? = some (Jvm.Cond.code mG_interfaceOf.2.1 mG_interfaceOf.2.2.1 mG_interfaceOf.2.2.2.1 mG_interfaceOf.2.2.2.2) := rfl
set_option maxRecDepth 100000 in
theorem cw_mG_faceFrom : lw_tbl[620]? = some (Jvm.Cond.code mG_faceFrom.2.1 mG_faceFrom.2.2.1 mG_faceFrom.2.2.2.1 mG_faceFrom.2.2.2.2) := rfl
set_option maxRecDepth 100000 in
theorem cw_mG_fieldFrom : lw_tbl[624]? = some (Jvm.Cond.code mG_fieldFrom.2.1 mG_fieldFrom.2.2.1 mG_fieldFrom.2.2.2.1 mG_fieldFrom.2.2.2.2) := rfl
set_option maxRecDepth 100000 in
theorem cw_mU_hasField : lw_tbl[628]? = some (Jvm.Cond.code mU_hasField.2.1 mU_hasField.2.2.1 mU_hasField.2.2.2.1 mU_hasField.2.2.2.2) := rfl
set_option maxRecDepth 100000 in
theorem cw_mK_forgetUses : lw_tbl[632]? = some (Jvm.Cond.code mK_forgetUses.2.1 mK_forgetUses.2.2.1 mK_forgetUses.2.2.2.1 mK_forgetUses.2.2.2.2) := rfl
set_option maxRecDepth 100000 in
theorem cw_mK_useKnown : lw_tbl[636]? = some (Jvm.Cond.code mK_useKnown.2.1 mK_useKnown.2.2.1 mK_useKnown.2.2.2.1 mK_useKnown.2.2.2.2) := rfl
set_option maxRecDepth 100000 in
theorem cw_mP_violation : lw_tbl[640]? = some (Jvm.Cond.code mP_violation.2.1 mP_violation.2.2.1 mP_violation.2.2.2.1 mP_violation.2.2.2.2) := rfl
set_option maxRecDepth 100000 in
theorem cw_mP_freeze : lw_tbl[644]? = some (Jvm.Cond.code mP_freeze.2.1 mP_freeze.2.2.1 mP_freeze.2.2.2.1 mP_freeze.2.2.2.2) := rfl
set_option maxRecDepth 100000 in
theorem cw_mK_forgetKnown : lw_tbl[648]? = some (Jvm.Cond.code mK_forgetKnown.2.1 mK_forgetKnown.2.2.1 mK_forgetKnown.2.2.2.1 mK_forgetKnown.2.2.2.2) := rfl
set_option maxRecDepth 100000 in
theorem cw_mK_addKnown : lw_tbl[652]? = some (Jvm.Cond.code mK_addKnown.2.1 mK_addKnown.2.2.1 mK_addKnown.2.2.2.1 mK_addKnown.2.2.2.2) := rfl
set_option maxRecDepth 100000 in
theorem cw_mP_classes : lw_tbl[656]? = some (Jvm.Cond.code mP_classes.2.1 mP_classes.2.2.1 mP_classes.2.2.2.1 mP_classes.2.2.2.2) := rfl
set_option maxRecDepth 100000 in
theorem cw_mP_name : lw_tbl[660]? = some (Jvm.Cond.code mP_name.2.1 mP_name.2.2.1 mP_name.2.2.2.1 mP_name.2.2.2.2) := rfl
set_option maxRecDepth 100000 in
theorem cw_mG_isClass : lw_tbl[664]? = some (Jvm.Cond.code mG_isClass.2.1 mG_isClass.2.2.1 mG_isClass.2.2.2.1 mG_isClass.2.2.2.2) := rfl
set_option maxRecDepth 100000 in
theorem cw_mT_characterOf : lw_tbl[668]? = some (Jvm.Cond.code mT_characterOf.2.1 mT_characterOf.2.2.1 mT_characterOf.2.2.2.1 mT_characterOf.2.2.2.2) := rfl
set_option maxRecDepth 100000 in
theorem cw_mP_occurrences : lw_tbl[672]? = some (Jvm.Cond.code mP_occurrences.2.1 mP_occurrences.2.2.1 mP_occurrences.2.2.2.1 mP_occurrences.2.2.2.2) := rfl
set_option maxRecDepth 100000 in
theorem cw_mP_kind : lw_tbl[676]? = some (Jvm.Cond.code mP_kind.2.1 mP_kind.2.2.1 mP_kind.2.2.2.1 mP_kind.2.2.2.2) := rfl
set_option maxRecDepth 100000 in
theorem cw_mG_isOccurrence : lw_tbl[680]? = some (Jvm.Cond.code mG_isOccurrence.2.1 mG_isOccurrence.2.2.1 mG_isOccurrence.2.2.2.1 mG_isOccurrence.2.2.2.2) := rfl
set_option maxRecDepth 100000 in
theorem cw_mP_line : lw_tbl[685]? = some (Jvm.Cond.code mP_line.2.1 mP_line.2.2.1 mP_line.2.2.2.1 mP_line.2.2.2.2) := rfl
set_option maxRecDepth 100000 in
theorem cw_mP_named : lw_tbl[689]? = some (Jvm.Cond.code mP_named.2.1 mP_named.2.2.1 mP_named.2.2.2.1 mP_named.2.2.2.2) := rfl
set_option maxRecDepth 100000 in
theorem cw_mP_target : lw_tbl[694]? = some (Jvm.Cond.code mP_target.2.1 mP_target.2.2.1 mP_target.2.2.2.1 mP_target.2.2.2.2) := rfl
set_option maxRecDepth 100000 in
theorem cw_mP_circular : lw_tbl[698]? = some (Jvm.Cond.code mP_circular.2.1 mP_circular.2.2.1 mP_circular.2.2.2.1 mP_circular.2.2.2.2) := rfl
set_option maxRecDepth 100000 in
theorem cw_mP_fits : lw_tbl[703]? = some (Jvm.Cond.code mP_fits.2.1 mP_fits.2.2.1 mP_fits.2.2.2.1 mP_fits.2.2.2.2) := rfl
set_option maxRecDepth 100000 in
theorem cw_mP_slices : lw_tbl[707]? = some (Jvm.Cond.code mP_slices.2.1 mP_slices.2.2.1 mP_slices.2.2.2.1 mP_slices.2.2.2.2) := rfl
set_option maxRecDepth 100000 in
theorem cw_mQ_put : lw_tbl[815]? = some (Jvm.Cond.code mQ_put.2.1 mQ_put.2.2.1 mQ_put.2.2.2.1 mQ_put.2.2.2.2) := rfl
set_option maxRecDepth 100000 in
theorem cw_mQ_bytes : lw_tbl[819]? = some (Jvm.Cond.code mQ_bytes.2.1 mQ_bytes.2.2.1 mQ_bytes.2.2.2.1 mQ_bytes.2.2.2.2) := rfl
set_option maxRecDepth 100000 in
theorem cw_mQ_load : lw_tbl[823]? = some (Jvm.Cond.code mQ_load.2.1 mQ_load.2.2.1 mQ_load.2.2.2.1 mQ_load.2.2.2.2) := rfl
set_option maxRecDepth 100000 in
theorem cw_mQ_readConstants : lw_tbl[827]? = some (Jvm.Cond.code mQ_readConstants.2.1 mQ_readConstants.2.2.1 mQ_readConstants.2.2.2.1 mQ_readConstants.2.2.2.2) := rfl
set_option maxRecDepth 100000 in
theorem cw_mQ_buffer : lw_tbl[831]? = some (Jvm.Cond.code mQ_buffer.2.1 mQ_buffer.2.2.1 mQ_buffer.2.2.2.1 mQ_buffer.2.2.2.2) := rfl
set_option maxRecDepth 100000 in
theorem cw_mQ_constant : lw_tbl[835]? = some (Jvm.Cond.code mQ_constant.2.1 mQ_constant.2.2.1 mQ_constant.2.2.2.1 mQ_constant.2.2.2.2) := rfl
set_option maxRecDepth 100000 in
theorem cw_mQ_bytesHere : lw_tbl[839]? = some (Jvm.Cond.code mQ_bytesHere.2.1 mQ_bytesHere.2.2.1 mQ_bytesHere.2.2.2.1 mQ_bytesHere.2.2.2.2) := rfl
set_option maxRecDepth 100000 in
theorem cw_mQ_letter : lw_tbl[842]? = some (Jvm.Cond.code mQ_letter.2.1 mQ_letter.2.2.1 mQ_letter.2.2.2.1 mQ_letter.2.2.2.2) := rfl
set_option maxRecDepth 100000 in
theorem cw_mQ_checkConstants : lw_tbl[846]? = some (Jvm.Cond.code mQ_checkConstants.2.1 mQ_checkConstants.2.2.1 mQ_checkConstants.2.2.2.1 mQ_checkConstants.2.2.2.2) := rfl
set_option maxRecDepth 100000 in
theorem cw_mQ_tag : lw_tbl[850]? = some (Jvm.Cond.code mQ_tag.2.1 mQ_tag.2.2.1 mQ_tag.2.2.2.1 mQ_tag.2.2.2.2) := rfl
set_option maxRecDepth 100000 in
theorem cw_mQ_fitting : lw_tbl[854]? = some (Jvm.Cond.code mQ_fitting.2.1 mQ_fitting.2.2.1 mQ_fitting.2.2.2.1 mQ_fitting.2.2.2.2) := rfl
set_option maxRecDepth 100000 in
theorem cw_mQ_worded : lw_tbl[858]? = some (Jvm.Cond.code mQ_worded.2.1 mQ_worded.2.2.1 mQ_worded.2.2.2.1 mQ_worded.2.2.2.2) := rfl
set_option maxRecDepth 100000 in
theorem cw_mQ_number : lw_tbl[862]? = some (Jvm.Cond.code mQ_number.2.1 mQ_number.2.2.1 mQ_number.2.2.2.1 mQ_number.2.2.2.2) := rfl
set_option maxRecDepth 100000 in
theorem cw_mQ_rest : lw_tbl[866]? = some (Jvm.Cond.code mQ_rest.2.1 mQ_rest.2.2.1 mQ_rest.2.2.2.1 mQ_rest.2.2.2.2) := rfl
set_option maxRecDepth 100000 in
theorem cw_mQ_several : lw_tbl[870]? = some (Jvm.Cond.code mQ_several.2.1 mQ_several.2.2.1 mQ_several.2.2.2.1 mQ_several.2.2.2.2) := rfl
set_option maxRecDepth 100000 in
theorem cw_mQ_upTo : lw_tbl[874]? = some (Jvm.Cond.code mQ_upTo.2.1 mQ_upTo.2.2.1 mQ_upTo.2.2.2.1 mQ_upTo.2.2.2.2) := rfl
set_option maxRecDepth 100000 in
theorem cw_mQ_method : lw_tbl[878]? = some (Jvm.Cond.code mQ_method.2.1 mQ_method.2.2.1 mQ_method.2.2.2.1 mQ_method.2.2.2.2) := rfl
set_option maxRecDepth 100000 in
theorem cw_mQ_code : lw_tbl[882]? = some (Jvm.Cond.code mQ_code.2.1 mQ_code.2.2.1 mQ_code.2.2.2.1 mQ_code.2.2.2.2) := rfl
set_option maxRecDepth 100000 in
theorem cw_mQ_operand : lw_tbl[885]? = some (Jvm.Cond.code mQ_operand.2.1 mQ_operand.2.2.1 mQ_operand.2.2.2.1 mQ_operand.2.2.2.2) := rfl
set_option maxRecDepth 100000 in
theorem cw_mQ_turn : lw_tbl[889]? = some (Jvm.Cond.code mQ_turn.2.1 mQ_turn.2.2.1 mQ_turn.2.2.2.1 mQ_turn.2.2.2.2) := rfl
set_option maxRecDepth 100000 in
theorem cw_mQ_wide : lw_tbl[893]? = some (Jvm.Cond.code mQ_wide.2.1 mQ_wide.2.2.1 mQ_wide.2.2.2.1 mQ_wide.2.2.2.2) := rfl
set_option maxRecDepth 100000 in
theorem cw_mQ_ownName : lw_tbl[897]? = some (Jvm.Cond.code mQ_ownName.2.1 mQ_ownName.2.2.1 mQ_ownName.2.2.2.1 mQ_ownName.2.2.2.2) := rfl
set_option maxRecDepth 100000 in
theorem cw_mQ_headOf : lw_tbl[901]? = some (Jvm.Cond.code mQ_headOf.2.1 mQ_headOf.2.2.1 mQ_headOf.2.2.2.1 mQ_headOf.2.2.2.2) := rfl
set_option maxRecDepth 100000 in
theorem cw_mQ_constantAt : lw_tbl[905]? = some (Jvm.Cond.code mQ_constantAt.2.1 mQ_constantAt.2.2.1 mQ_constantAt.2.2.2.1 mQ_constantAt.2.2.2.2) := rfl
set_option maxRecDepth 100000 in
theorem cw_mQ_nameOf : lw_tbl[909]? = some (Jvm.Cond.code mQ_nameOf.2.1 mQ_nameOf.2.2.1 mQ_nameOf.2.2.2.1 mQ_nameOf.2.2.2.2) := rfl
set_option maxRecDepth 100000 in
theorem cw_mQ_textOf : lw_tbl[913]? = some (Jvm.Cond.code mQ_textOf.2.1 mQ_textOf.2.2.1 mQ_textOf.2.2.2.1 mQ_textOf.2.2.2.2) := rfl
set_option maxRecDepth 100000 in
theorem cw_mQ_sign : lw_tbl[917]? = some (Jvm.Cond.code mQ_sign.2.1 mQ_sign.2.2.1 mQ_sign.2.2.2.1 mQ_sign.2.2.2.2) := rfl
set_option maxRecDepth 100000 in
theorem cw_mQ_indexOf : lw_tbl[921]? = some (Jvm.Cond.code mQ_indexOf.2.1 mQ_indexOf.2.2.1 mQ_indexOf.2.2.2.1 mQ_indexOf.2.2.2.2) := rfl
set_option maxRecDepth 100000 in
theorem cw_mQ_circular : lw_tbl[925]? = some (Jvm.Cond.code mQ_circular.2.1 mQ_circular.2.2.1 mQ_circular.2.2.2.1 mQ_circular.2.2.2.2) := rfl
set_option maxRecDepth 100000 in
theorem cw_mQ_isClass : lw_tbl[929]? = some (Jvm.Cond.code mQ_isClass.2.1 mQ_isClass.2.2.1 mQ_isClass.2.2.2.1 mQ_isClass.2.2.2.2) := rfl
set_option maxRecDepth 100000 in
theorem cw_mQ_ancestors : lw_tbl[933]? = some (Jvm.Cond.code mQ_ancestors.2.1 mQ_ancestors.2.2.1 mQ_ancestors.2.2.2.1 mQ_ancestors.2.2.2.2) := rfl
set_option maxRecDepth 100000 in
theorem cw_mQ_parent : lw_tbl[937]? = some (Jvm.Cond.code mQ_parent.2.1 mQ_parent.2.2.1 mQ_parent.2.2.2.1 mQ_parent.2.2.2.2) := rfl
set_option maxRecDepth 100000 in
theorem cw_mQ_close : lw_tbl[941]? = some (Jvm.Cond.code mQ_close.2.1 mQ_close.2.2.1 mQ_close.2.2.2.1 mQ_close.2.2.2.2) := rfl
set_option maxRecDepth 100000 in
theorem cw_mQ_type : lw_tbl[945]? = some (Jvm.Cond.code mQ_type.2.1 mQ_type.2.2.1 mQ_type.2.2.2.1 mQ_type.2.2.2.2) := rfl
set_option maxRecDepth 100000 in
theorem cw_mQ_typeable : lw_tbl[948]? = some (Jvm.Cond.code mQ_typeable.2.1 mQ_typeable.2.2.1 mQ_typeable.2.2.2.1 mQ_typeable.2.2.2.2) := rfl
set_option maxRecDepth 100000 in
theorem cw_mQ_pattern : lw_tbl[952]? = some (Jvm.Cond.code mQ_pattern.2.1 mQ_pattern.2.2.1 mQ_pattern.2.2.2.1 mQ_pattern.2.2.2.2) := rfl
set_option maxRecDepth 100000 in
theorem cw_mQ_fits : lw_tbl[956]? = some (Jvm.Cond.code mQ_fits.2.1 mQ_fits.2.2.1 mQ_fits.2.2.2.1 mQ_fits.2.2.2.2) := rfl
set_option maxRecDepth 100000 in
theorem cw_mQ_fitsName : lw_tbl[960]? = some (Jvm.Cond.code mQ_fitsName.2.1 mQ_fitsName.2.2.1 mQ_fitsName.2.2.2.1 mQ_fitsName.2.2.2.2) := rfl
set_option maxRecDepth 100000 in
theorem cw_mQ_spell : lw_tbl[964]? = some (Jvm.Cond.code mQ_spell.2.1 mQ_spell.2.2.1 mQ_spell.2.2.2.1 mQ_spell.2.2.2.2) := rfl
set_option maxRecDepth 100000 in
theorem cw_mQ_rule : lw_tbl[968]? = some (Jvm.Cond.code mQ_rule.2.1 mQ_rule.2.2.1 mQ_rule.2.2.2.1 mQ_rule.2.2.2.2) := rfl
set_option maxRecDepth 100000 in
theorem cw_mQ_violations : lw_tbl[972]? = some (Jvm.Cond.code mQ_violations.2.1 mQ_violations.2.2.1 mQ_violations.2.2.2.1 mQ_violations.2.2.2.2) := rfl
set_option maxRecDepth 100000 in
theorem cw_mQ_isRule : lw_tbl[976]? = some (Jvm.Cond.code mQ_isRule.2.1 mQ_isRule.2.2.1 mQ_isRule.2.2.2.1 mQ_isRule.2.2.2.2) := rfl
set_option maxRecDepth 100000 in
theorem cw_mQ_renew : lw_tbl[980]? = some (Jvm.Cond.code mQ_renew.2.1 mQ_renew.2.2.1 mQ_renew.2.2.2.1 mQ_renew.2.2.2.2) := rfl
set_option maxRecDepth 100000 in
theorem cw_mQ_cycles : lw_tbl[984]? = some (Jvm.Cond.code mQ_cycles.2.1 mQ_cycles.2.2.1 mQ_cycles.2.2.2.1 mQ_cycles.2.2.2.2) := rfl
set_option maxRecDepth 100000 in
theorem cw_mQ_least : lw_tbl[988]? = some (Jvm.Cond.code mQ_least.2.1 mQ_least.2.2.1 mQ_least.2.2.2.1 mQ_least.2.2.2.2) := rfl
set_option maxRecDepth 100000 in
theorem cw_mQ_slice : lw_tbl[992]? = some (Jvm.Cond.code mQ_slice.2.1 mQ_slice.2.2.1 mQ_slice.2.2.2.1 mQ_slice.2.2.2.2) := rfl
set_option maxRecDepth 100000 in
theorem cw_mQ_list : lw_tbl[996]? = some (Jvm.Cond.code mQ_list.2.1 mQ_list.2.2.1 mQ_list.2.2.2.1 mQ_list.2.2.2.2) := rfl
set_option maxRecDepth 100000 in
theorem cw_mQ_occurrence : lw_tbl[1000]? = some (Jvm.Cond.code mQ_occurrence.2.1 mQ_occurrence.2.2.1 mQ_occurrence.2.2.2.1 mQ_occurrence.2.2.2.2) := rfl
set_option maxRecDepth 100000 in
theorem cw_mQ_listCode : lw_tbl[1004]? = some (Jvm.Cond.code mQ_listCode.2.1 mQ_listCode.2.2.1 mQ_listCode.2.2.2.1 mQ_listCode.2.2.2.2) := rfl
set_option maxRecDepth 100000 in
theorem cw_mQ_names : lw_tbl[1008]? = some (Jvm.Cond.code mQ_names.2.1 mQ_names.2.2.1 mQ_names.2.2.2.1 mQ_names.2.2.2.2) := rfl
set_option maxRecDepth 100000 in
theorem cw_mQ_gather : lw_tbl[1012]? = some (Jvm.Cond.code mQ_gather.2.1 mQ_gather.2.2.1 mQ_gather.2.2.2.1 mQ_gather.2.2.2.2) := rfl
set_option maxRecDepth 100000 in
theorem cw_mQ_violates : lw_tbl[1016]? = some (Jvm.Cond.code mQ_violates.2.1 mQ_violates.2.2.1 mQ_violates.2.2.2.1 mQ_violates.2.2.2.2) := rfl
set_option maxRecDepth 100000 in
theorem cw_mQ_targetOf : lw_tbl[1021]? = some (Jvm.Cond.code mQ_targetOf.2.1 mQ_targetOf.2.2.1 mQ_targetOf.2.2.2.1 mQ_targetOf.2.2.2.2) := rfl
set_option maxRecDepth 100000 in
theorem cw_mQ_methodOf : lw_tbl[1026]? = some (Jvm.Cond.code mQ_methodOf.2.1 mQ_methodOf.2.2.1 mQ_methodOf.2.2.2.1 mQ_methodOf.2.2.2.2) := rfl
set_option maxRecDepth 100000 in
theorem cw_mQ_has : lw_tbl[1030]? = some (Jvm.Cond.code mQ_has.2.1 mQ_has.2.2.1 mQ_has.2.2.2.1 mQ_has.2.2.2.2) := rfl
set_option maxRecDepth 100000 in
theorem cw_mQ_search : lw_tbl[1034]? = some (Jvm.Cond.code mQ_search.2.1 mQ_search.2.2.1 mQ_search.2.2.2.1 mQ_search.2.2.2.2) := rfl
set_option maxRecDepth 100000 in
theorem cw_mQ_violation : lw_tbl[1038]? = some (Jvm.Cond.code mQ_violation.2.1 mQ_violation.2.2.1 mQ_violation.2.2.2.1 mQ_violation.2.2.2.2) := rfl
set_option maxRecDepth 100000 in
theorem cw_mQ_freeze : lw_tbl[1043]? = some (Jvm.Cond.code mQ_freeze.2.1 mQ_freeze.2.2.1 mQ_freeze.2.2.2.1 mQ_freeze.2.2.2.2) := rfl
set_option maxRecDepth 100000 in
theorem cw_mQ_classes : lw_tbl[1047]? = some (Jvm.Cond.code mQ_classes.2.1 mQ_classes.2.2.1 mQ_classes.2.2.2.1 mQ_classes.2.2.2.2) := rfl
set_option maxRecDepth 100000 in
theorem cw_mQ_name : lw_tbl[1051]? = some (Jvm.Cond.code mQ_name.2.1 mQ_name.2.2.1 mQ_name.2.2.2.1 mQ_name.2.2.2.2) := rfl
set_option maxRecDepth 100000 in
theorem cw_mQ_occurrences : lw_tbl[1055]? = some (Jvm.Cond.code mQ_occurrences.2.1 mQ_occurrences.2.2.1 mQ_occurrences.2.2.2.1 mQ_occurrences.2.2.2.2) := rfl
set_option maxRecDepth 100000 in
theorem cw_mQ_kind : lw_tbl[1059]? = some (Jvm.Cond.code mQ_kind.2.1 mQ_kind.2.2.1 mQ_kind.2.2.2.1 mQ_kind.2.2.2.2) := rfl
set_option maxRecDepth 100000 in
theorem cw_mQ_isOccurrence : lw_tbl[1063]? = some (Jvm.Cond.code mQ_isOccurrence.2.1 mQ_isOccurrence.2.2.1 mQ_isOccurrence.2.2.2.1 mQ_isOccurrence.2.2.2.2) := rfl
set_option maxRecDepth 100000 in
theorem cw_mQ_line : lw_tbl[1067]? = some (Jvm.Cond.code mQ_line.2.1 mQ_line.2.2.1 mQ_line.2.2.2.1 mQ_line.2.2.2.2) := rfl
set_option maxRecDepth 100000 in
theorem cw_mQ_named : lw_tbl[1071]? = some (Jvm.Cond.code mQ_named.2.1 mQ_named.2.2.1 mQ_named.2.2.2.1 mQ_named.2.2.2.2) := rfl
set_option maxRecDepth 100000 in
theorem cw_mQ_target : lw_tbl[1075]? = some (Jvm.Cond.code mQ_target.2.1 mQ_target.2.2.1 mQ_target.2.2.2.1 mQ_target.2.2.2.2) := rfl
set_option maxRecDepth 100000 in
theorem cw_mQ_slices : lw_tbl[1079]? = some (Jvm.Cond.code mQ_slices.2.1 mQ_slices.2.2.1 mQ_slices.2.2.2.1 mQ_slices.2.2.2.2) := rfl
set_option maxRecDepth 100000 in
theorem ax_mca : ∀ e ∈ ax_mlLa, lw_tbl[e.2.2.2.2.2.1]? = some (Jvm.Cond.code e.2.1.2.1 e.2.1.2.2.1 e.2.1.2.2.2.1 e.2.1.2.2.2.2) := List.forall_mem_cons.mpr ⟨cw_mR_append, List.forall_mem_cons.mpr ⟨cw_mR_readInto, List.forall_mem_cons.mpr ⟨cw_mG_adoptSpare, List.forall_mem_cons.mpr ⟨cw_mT_codeOf, List.forall_mem_cons.mpr ⟨cw_mT_lengthOf, List.forall_mem_cons.mpr ⟨cw_mT_withCode, List.forall_mem_cons.mpr ⟨cw_mP_canBeRule, List.forall_mem_cons.mpr ⟨cw_mK_become, List.forall_mem_cons.mpr ⟨cw_mP_isRule, List.forall_mem_cons.mpr ⟨cw_mP_findNew, List.forall_mem_cons.mpr ⟨cw_mP_findAll, List.forall_mem_cons.mpr ⟨cw_mK_forgetKnown, List.forall_mem_cons.mpr ⟨cw_mK_addKnown, List.forall_mem_cons.mpr ⟨cw_mG_isClass, List.forall_mem_cons.mpr ⟨cw_mT_codeAt, List.forall_mem_cons.mpr ⟨cw_mT_characterOf, List.forall_mem_cons.mpr ⟨cw_mG_isOccurrence, List.forall_mem_cons.mpr ⟨cw_mG_numberOf, List.forall_mem_cons.mpr ⟨cw_mG_targetOf, List.forall_mem_cons.mpr ⟨cw_mG_isCircular, List.forall_mem_cons.mpr ⟨cw_mP_isPattern, List.forall_mem_cons.mpr ⟨cw_mP_fitsText, List.forall_mem_cons.mpr ⟨cw_mP_isDepth, List.forall_mem_cons.mpr ⟨cw_mG_cutSlices, List.forall_mem_cons.mpr ⟨cw_mT_matches, List.forall_mem_cons.mpr ⟨cw_mK_forgetUses, List.forall_mem_cons.mpr ⟨cw_mK_useKnown, List.forall_mem_cons.mpr ⟨cw_mP_findCycles, List.forall_mem_cons.mpr ⟨cw_mP_watches, List.forall_mem_cons.mpr ⟨cw_mP_breaks, List.forall_mem_cons.mpr ⟨cw_mG_linkSlices, List.forall_mem_cons.mpr ⟨cw_mG_headsCycle, List.forall_mem_cons.mpr ⟨cw_mU_clear, List.forall_mem_cons.mpr ⟨cw_mR_take, List.forall_mem_cons.mpr ⟨cw_mR_readConstants, List.forall_mem_cons.mpr ⟨cw_mR_checkNumbers, List.forall_mem_cons.mpr ⟨cw_mR_readParents, List.forall_mem_cons.mpr ⟨cw_mR_readFields, List.forall_mem_cons.mpr ⟨cw_mR_readMethods, List.forall_mem_cons.mpr ⟨cw_mR_tagOf, List.forall_mem_cons.mpr ⟨cw_mR_fail, List.forall_mem_cons.mpr ⟨cw_mR_isWord, List.forall_mem_cons.mpr ⟨cw_mT_isWord, List.forall_mem_cons.mpr ⟨cw_mT_isName, List.forall_mem_cons.mpr ⟨cw_mR_readConstant, List.forall_mem_cons.mpr ⟨cw_mR_readText, List.forall_mem_cons.mpr ⟨cw_mT_codeOf, List.forall_mem_cons.mpr ⟨cw_mT_withCode, List.forall_mem_cons.mpr ⟨cw_mR_isName, List.forall_mem_cons.mpr ⟨cw_mR_takeClass, List.forall_mem_cons.mpr ⟨cw_mR_lastText, List.forall_mem_cons.mpr ⟨cw_mU_addOccurrence, List.forall_mem_cons.mpr ⟨cw_mR_readInterfaces, List.forall_mem_cons.mpr ⟨cw_mU_addInterface, List.forall_mem_cons.mpr ⟨cw_mR_takeWord, List.forall_mem_cons.mpr ⟨cw_mU_addField, List.forall_mem_cons.mpr ⟨cw_mR_readMethod, List.forall_mem_cons.mpr ⟨cw_mU_addMethod, List.forall_mem_cons.mpr ⟨cw_mR_readInstruction, List.forall_mem_cons.mpr ⟨cw_mR_readStep, List.forall_mem_cons.mpr ⟨cw_mR_readSwitch, List.forall_mem_cons.mpr ⟨cw_mR_readWide, List.forall_mem_cons.mpr ⟨cw_mR_kindOf, List.forall_mem_cons.mpr ⟨cw_mR_readUse, List.forall_mem_cons.mpr ⟨cw_mR_useConstant, List.forall_mem_cons.mpr ⟨cw_mR_tagFor, List.forall_mem_cons.mpr ⟨cw_mG_numberOf, List.forall_mem_cons.mpr ⟨cw_mG_linkParents, List.forall_mem_cons.mpr ⟨cw_mG_isClass, List.forall_mem_cons.mpr ⟨cw_mG_isIn, List.forall_mem_cons.mpr ⟨cw_mG_with, List.forall_mem_cons.mpr ⟨cw_mG_follow, List.forall_mem_cons.mpr ⟨cw_mG_isCircular, List.forall_mem_cons.mpr ⟨cw_mG_methodFrom, List.forall_mem_cons.mpr ⟨cw_mG_fieldFrom, List.forall_mem_cons.mpr ⟨cw_mU_hasField, List.forall_mem_cons.mpr ⟨cw_mG_interfaceOf, List.forall_mem_cons.mpr ⟨cw_mU_hasMethod, List.forall_mem_cons.mpr ⟨cw_mG_faceFrom, List.forall_mem_cons.mpr ⟨cw_mT_firstWords, List.forall_mem_cons.mpr ⟨cw_mG_headOf, List.forall_mem_cons.mpr ⟨cw_mG_cutSlices, List.forall_mem_cons.mpr ⟨cw_mG_slicesNamedIn, List.forall_mem_cons.mpr ⟨cw_mQ_buffer, List.forall_mem_cons.mpr ⟨cw_mQ_bytesHere, List.forall_mem_cons.mpr ⟨cw_mQ_letter, List.forall_mem_cons.mpr ⟨cw_mQ_constant, List.forall_mem_cons.mpr ⟨cw_mQ_tag, fun _ h => absurd h List.not_mem_nil⟩⟩⟩⟩⟩⟩⟩⟩⟩⟩⟩⟩⟩⟩⟩⟩⟩⟩⟩⟩⟩⟩⟩⟩⟩⟩⟩⟩⟩⟩⟩⟩⟩⟩⟩⟩⟩⟩⟩⟩⟩⟩⟩⟩⟩⟩⟩⟩⟩⟩⟩⟩⟩⟩⟩⟩⟩⟩⟩⟩⟩⟩⟩⟩⟩⟩⟩⟩⟩⟩⟩⟩⟩⟩⟩⟩⟩⟩⟩⟩⟩⟩⟩⟩⟩⟩⟩⟩
set_option maxRecDepth 100000 in
theorem ax_mcb : ∀ e ∈ ax_mlLb, lw_tbl[e.2.2.2.2.2.1]? = some (Jvm.Cond.code e.2.1.2.1 e.2.1.2.2.1 e.2.1.2.2.2.1 e.2.1.2.2.2.2) := List.forall_mem_cons.mpr ⟨cw_mQ_worded, List.forall_mem_cons.mpr ⟨cw_mQ_fitting, List.forall_mem_cons.mpr ⟨cw_mQ_upTo, List.forall_mem_cons.mpr ⟨cw_mQ_number, List.forall_mem_cons.mpr ⟨cw_mQ_operand, List.forall_mem_cons.mpr ⟨cw_mQ_turn, List.forall_mem_cons.mpr ⟨cw_mQ_wide, List.forall_mem_cons.mpr ⟨cw_mQ_code, List.forall_mem_cons.mpr ⟨cw_mQ_several, List.forall_mem_cons.mpr ⟨cw_mQ_method, List.forall_mem_cons.mpr ⟨cw_mQ_readConstants, List.forall_mem_cons.mpr ⟨cw_mQ_checkConstants, List.forall_mem_cons.mpr ⟨cw_mQ_rest, List.forall_mem_cons.mpr ⟨cw_mQ_ownName, List.forall_mem_cons.mpr ⟨cw_mQ_indexOf, List.forall_mem_cons.mpr ⟨cw_mQ_constantAt, List.forall_mem_cons.mpr ⟨cw_mQ_sign, List.forall_mem_cons.mpr ⟨cw_mQ_textOf, List.forall_mem_cons.mpr ⟨cw_mQ_headOf, List.forall_mem_cons.mpr ⟨cw_mQ_nameOf, List.forall_mem_cons.mpr ⟨cw_mQ_occurrence, List.forall_mem_cons.mpr ⟨cw_mQ_names, List.forall_mem_cons.mpr ⟨cw_mQ_listCode, List.forall_mem_cons.mpr ⟨cw_mQ_isClass, List.forall_mem_cons.mpr ⟨cw_mQ_list, List.forall_mem_cons.mpr ⟨cw_mQ_parent, List.forall_mem_cons.mpr ⟨cw_mQ_close, List.forall_mem_cons.mpr ⟨cw_mQ_ancestors, List.forall_mem_cons.mpr ⟨cw_mQ_has, List.forall_mem_cons.mpr ⟨cw_mQ_search, List.forall_mem_cons.mpr ⟨cw_mQ_circular, List.forall_mem_cons.mpr ⟨cw_mQ_methodOf, List.forall_mem_cons.mpr ⟨cw_mQ_typeable, List.forall_mem_cons.mpr ⟨cw_mQ_spell, List.forall_mem_cons.mpr ⟨cw_mQ_fitsName, List.forall_mem_cons.mpr ⟨cw_mQ_fits, List.forall_mem_cons.mpr ⟨cw_mQ_targetOf, List.forall_mem_cons.mpr ⟨cw_mQ_slice, List.forall_mem_cons.mpr ⟨cw_mQ_least, List.forall_mem_cons.mpr ⟨cw_mQ_violates, List.forall_mem_cons.mpr ⟨cw_mQ_cycles, List.forall_mem_cons.mpr ⟨cw_mQ_gather, List.forall_mem_cons.mpr ⟨cw_mQ_isRule, List.forall_mem_cons.mpr ⟨cw_mQ_renew, List.forall_mem_cons.mpr ⟨cw_mQ_violations, List.forall_mem_cons.mpr ⟨cw_mQ_isOccurrence, List.forall_mem_cons.mpr ⟨cw_mT_codeAt, List.forall_mem_cons.mpr ⟨cw_mT_lengthOf, List.forall_mem_cons.mpr ⟨cw_mT_passStars, List.forall_mem_cons.mpr ⟨cw_mT_step, List.forall_mem_cons.mpr ⟨cw_mP_put, List.forall_mem_cons.mpr ⟨cw_mQ_put, List.forall_mem_cons.mpr ⟨cw_mP_bytes, List.forall_mem_cons.mpr ⟨cw_mQ_bytes, List.forall_mem_cons.mpr ⟨cw_mP_load, List.forall_mem_cons.mpr ⟨cw_mQ_load, List.forall_mem_cons.mpr ⟨cw_mP_type, List.forall_mem_cons.mpr ⟨cw_mQ_type, List.forall_mem_cons.mpr ⟨cw_mP_pattern, List.forall_mem_cons.mpr ⟨cw_mQ_pattern, List.forall_mem_cons.mpr ⟨cw_mP_rule, List.forall_mem_cons.mpr ⟨cw_mQ_rule, List.forall_mem_cons.mpr ⟨cw_mP_violations, List.forall_mem_cons.mpr ⟨cw_mQ_violations, List.forall_mem_cons.mpr ⟨cw_mP_violation, List.forall_mem_cons.mpr ⟨cw_mQ_violation, List.forall_mem_cons.mpr ⟨cw_mP_freeze, List.forall_mem_cons.mpr ⟨cw_mQ_freeze, List.forall_mem_cons.mpr ⟨cw_mP_classes, List.forall_mem_cons.mpr ⟨cw_mQ_classes, List.forall_mem_cons.mpr ⟨cw_mP_name, List.forall_mem_cons.mpr ⟨cw_mQ_name, List.forall_mem_cons.mpr ⟨cw_mP_occurrences, List.forall_mem_cons.mpr ⟨cw_mQ_occurrences, List.forall_mem_cons.mpr ⟨cw_mP_kind, List.forall_mem_cons.mpr ⟨cw_mQ_kind, List.forall_mem_cons.mpr ⟨cw_mP_line, List.forall_mem_cons.mpr ⟨cw_mQ_line, List.forall_mem_cons.mpr ⟨cw_mP_named, List.forall_mem_cons.mpr ⟨cw_mQ_named, List.forall_mem_cons.mpr ⟨cw_mP_target, List.forall_mem_cons.mpr ⟨cw_mQ_target, List.forall_mem_cons.mpr ⟨cw_mP_circular, List.forall_mem_cons.mpr ⟨cw_mQ_circular, List.forall_mem_cons.mpr ⟨cw_mP_fits, List.forall_mem_cons.mpr ⟨cw_mQ_fits, List.forall_mem_cons.mpr ⟨cw_mP_slices, List.forall_mem_cons.mpr ⟨cw_mQ_slices, fun _ h => absurd h List.not_mem_nil⟩⟩⟩⟩⟩⟩⟩⟩⟩⟩⟩⟩⟩⟩⟩⟩⟩⟩⟩⟩⟩⟩⟩⟩⟩⟩⟩⟩⟩⟩⟩⟩⟩⟩⟩⟩⟩⟩⟩⟩⟩⟩⟩⟩⟩⟩⟩⟩⟩⟩⟩⟩⟩⟩⟩⟩⟩⟩⟩⟩⟩⟩⟩⟩⟩⟩⟩⟩⟩⟩⟩⟩⟩⟩⟩⟩⟩⟩⟩⟩⟩⟩⟩⟩⟩⟩⟩⟩
end
section
/-! A plain machine over pictures: cells are numbered by their role, their contents are three functions (ints, longs, references) of role and place. -/
abbrev ax_H : Type := (Nat → Nat → Int32) × (Nat → Nat → Int64) × (Nat → Nat → Option Nat)
abbrev ax_L : Type := List (Option Value)
/-- the kinds of the roles: (0, class), (1, n) ints, (2, n) longs, (3, n) booleans, (4, n) units, (5, n) rules -/
abbrev ax_K : Type := List (Nat × Nat)
def ax_cv (q : Nat → Nat) (v : Value) : Value := match v with
  | .ref a => .ref (q a)
  | w => w
def ax_fv (h : ax_H) (ty : FieldType) (r k : Nat) : Value := match ty with
  | .long => .long (h.2.1 r k)
  | .object _ => va_rf (h.2.2 r k)
  | .array _ => va_rf (h.2.2 r k)
  | _ => .int (h.1 r k)
def ax_upI (h : ax_H) (r k : Nat) (x : Int32) : ax_H := (fun a b => if a = r ∧ b = k then x else h.1 a b, h.2.1, h.2.2)
def ax_upL (h : ax_H) (r k : Nat) (x : Int64) : ax_H := (h.1, fun a b => if a = r ∧ b = k then x else h.2.1 a b, h.2.2)
def ax_upR (h : ax_H) (r k : Nat) (x : Option Nat) : ax_H := (h.1, h.2.1, fun a b => if a = r ∧ b = k then x else h.2.2 a b)
def ax_fs (q : Nat → Nat) (h : ax_H) (ci r : Nat) : List Value := (List.range (ax_N ci)).map (fun k => ax_cv q (ax_fv h (ax_ty ci k) r k))
def ax_ce (q : Nat → Nat) (cA : Nat → ClassId) (h : ax_H) (r : Nat) (kd : Nat × Nat) : va_E := match kd.1 with
  | 0 => .inr (kd.2, ax_fs q h kd.2 r)
  | 1 => .inl (cA 1, kd.2, .inl (h.1 r))
  | 2 => .inl (cA 2, kd.2, .inr (.inl (h.2.1 r)))
  | 3 => .inl (cA 3, kd.2, .inl (h.1 r))
  | t + 4 => .inl (cA (t + 4), kd.2, .inr (.inr (.inr (.inr (fun j => (h.2.2 r j).map q)))))
def ax_ws (ks : ax_K) (q : Nat → Nat) (cA : Nat → ClassId) (h : ax_H) : va_W := ks.mapIdx (fun r kd => (q r, ax_ce q cA h r kd))
def ax_tys (cA : Nat → ClassId) : List (ClassId × FieldType) := [(cA 1, .int), (cA 2, .long), (cA 3, .boolean), (cA 4, .object "PackageRules$Unit"), (cA 5, .object "PackageRules$Rule")]
def ax_A (ks : ax_K) (q : Nat → Nat) : Nat → Prop := fun a => ∃ r, r < ks.length ∧ a = q r
def ax_tb : List Jvm.Cond := lw_tbl.filter goodWord
def ax_Ns (U : State) : Prop := ∀ (a : String) (i : Nat) (b n d g : String), Jvm.Cond.fieldLinkNest a i b n d g ∈ lw_tbl → va_Nw (.fieldLinkNest a i b n d g) U
def ax_W (ks : ax_K) (D : va_G) (cA : Nat → ClassId) (q : Nat → Nat) (h : ax_H) (U : State) : Prop :=
  va_P D ax_cl (ax_ws ks q cA h) U.heap ∧ va_K D ax_cl (ax_tys cA) U ∧ va_D (ax_A ks q) (ax_ws ks q cA h) ∧ ax_Ns U
theorem ax_Ns.warm {s U : State} (hW : s.WarmedH U.vm) (h : ax_Ns s) : ax_Ns U := fun a i b n d g hm => va_Nw.warmF hW (h a i b n d g hm)
theorem ax_Ns.same {s U : State} (hW : s.vm = U.vm) (h : ax_Ns s) : ax_Ns U := fun a i b n d g hm => va_Nw.same rfl hW (h a i b n d g hm)
theorem ax_cat (q : Nat → Nat) (v : Value) : (ax_cv q v).category = v.category := by cases v <;> rfl
theorem ax_cats (q : Nat → Nat) (st : List Value) : ((st.map (ax_cv q)).map fun v => v.category).sum = (st.map fun v => v.category).sum := by
  induction st with
  | nil => rfl
  | cons a l ih => simp only [List.map_cons, List.sum_cons, ih, ax_cat]
theorem ax_rf (q : Nat → Nat) (o : Option Nat) : ax_cv q (va_rf o) = va_rf (o.map q) := by cases o <;> rfl
theorem ax_upI_1 (h : ax_H) (r k : Nat) (x : Int32) (a b : Nat) : (ax_upI h r k x).1 a b = if a = r ∧ b = k then x else h.1 a b := rfl
theorem ax_upL_2 (h : ax_H) (r k : Nat) (x : Int64) (a b : Nat) : (ax_upL h r k x).2.1 a b = if a = r ∧ b = k then x else h.2.1 a b := rfl
theorem ax_upR_3 (h : ax_H) (r k : Nat) (x : Option Nat) (a b : Nat) : (ax_upR h r k x).2.2 a b = if a = r ∧ b = k then x else h.2.2 a b := rfl
/-! the world's cells -/
theorem ax_ws_at {ks : ax_K} {q : Nat → Nat} {cA : Nat → ClassId} {h : ax_H} {r : Nat} {kd : Nat × Nat} (hk : ks[r]? = some kd) : (ax_ws ks q cA h)[r]? = some (q r, ax_ce q cA h r kd) := by
  simp [ax_ws, hk]
theorem ax_ws_set {ks : ax_K} {q : Nat → Nat} {cA : Nat → ClassId} {h h' : ax_H} {r : Nat} {kd : Nat × Nat} {ce : va_E} (hk : ks[r]? = some kd) (hc : ce = ax_ce q cA h' r kd) (ho : ∀ a kd', a ≠ r → ax_ce q cA h a kd' = ax_ce q cA h' a kd') :
    (ax_ws ks q cA h).set r (q r, ce) = ax_ws ks q cA h' := by
  have hlt : r < ks.length := (List.getElem?_eq_some_iff.mp hk).1
  apply List.ext_getElem?
  intro i
  by_cases hi : i = r
  · subst hi
    rw [List.getElem?_set_self (by simp [ax_ws]; exact hlt), ax_ws_at hk, hc]
  · rw [List.getElem?_set_ne (Ne.symm hi)]
    simp only [ax_ws, List.getElem?_mapIdx]
    cases hks : ks[i]? with
    | none => rfl
    | some kd' => simp [ho i kd' hi]
theorem ax_ce_I {q : Nat → Nat} {cA : Nat → ClassId} {h : ax_H} {r k : Nat} {x : Int32} (a : Nat) (kd : Nat × Nat) (ha : a ≠ r) : ax_ce q cA h a kd = ax_ce q cA (ax_upI h r k x) a kd := by
  have e1 : (ax_upI h r k x).1 a = h.1 a := by funext b; simp [ax_upI, ha]
  have e2 : (ax_upI h r k x).2 = h.2 := rfl
  unfold ax_ce
  split
  · have : ax_fs q h kd.2 a = ax_fs q (ax_upI h r k x) kd.2 a := by
      unfold ax_fs ax_fv
      rw [e1, e2]
    rw [this]
  · rw [e1]
  · rw [e2]
  · rw [e1]
  · rw [e2]
theorem ax_ce_L {q : Nat → Nat} {cA : Nat → ClassId} {h : ax_H} {r k : Nat} {x : Int64} (a : Nat) (kd : Nat × Nat) (ha : a ≠ r) : ax_ce q cA h a kd = ax_ce q cA (ax_upL h r k x) a kd := by
  have e1 : (ax_upL h r k x).2.1 a = h.2.1 a := by funext b; simp [ax_upL, ha]
  have e2 : (ax_upL h r k x).1 = h.1 := rfl
  have e3 : (ax_upL h r k x).2.2 = h.2.2 := rfl
  unfold ax_ce
  split
  · have : ax_fs q h kd.2 a = ax_fs q (ax_upL h r k x) kd.2 a := by
      unfold ax_fs ax_fv
      rw [e1, e2, e3]
    rw [this]
  · rw [e2]
  · rw [e1]
  · rw [e2]
  · rw [e3]
theorem ax_ce_R {q : Nat → Nat} {cA : Nat → ClassId} {h : ax_H} {r k : Nat} {x : Option Nat} (a : Nat) (kd : Nat × Nat) (ha : a ≠ r) : ax_ce q cA h a kd = ax_ce q cA (ax_upR h r k x) a kd := by
  have e1 : (ax_upR h r k x).2.2 a = h.2.2 a := by funext b; simp [ax_upR, ha]
  have e2 : (ax_upR h r k x).1 = h.1 := rfl
  have e3 : (ax_upR h r k x).2.1 = h.2.1 := rfl
  unfold ax_ce
  split
  · have : ax_fs q h kd.2 a = ax_fs q (ax_upR h r k x) kd.2 a := by
      unfold ax_fs ax_fv
      rw [e1, e2, e3]
    rw [this]
  · rw [e2]
  · rw [e3]
  · rw [e2]
  · rw [e1]
theorem ax_fs_at {q : Nat → Nat} {h : ax_H} {ci r k : Nat} (hk : k < ax_N ci) : (ax_fs q h ci r)[k]? = some (ax_cv q (ax_fv h (ax_ty ci k) r k)) := by
  simp [ax_fs, hk]
theorem ax_fs_len {q : Nat → Nat} {h : ax_H} {ci r : Nat} : (ax_fs q h ci r).length = ax_N ci := by simp [ax_fs]
theorem ax_fs_set {q : Nat → Nat} {h h' : ax_H} {ci r k : Nat} {v : Value} (hk : k < ax_N ci) (hv : v = ax_cv q (ax_fv h' (ax_ty ci k) r k)) (ho : ∀ j, j ≠ k → ax_fv h (ax_ty ci j) r j = ax_fv h' (ax_ty ci j) r j) : (ax_fs q h ci r).set k v = ax_fs q h' ci r := by
  apply List.ext_getElem?
  intro i
  by_cases hi : i = k
  · subst hi
    rw [List.getElem?_set_self (by rw [ax_fs_len]; exact hk), ax_fs_at hk, hv]
  · rw [List.getElem?_set_ne (Ne.symm hi)]
    by_cases hl : i < ax_N ci
    · rw [ax_fs_at hl, ax_fs_at hl, ho i hi]
    · rw [List.getElem?_eq_none (by rw [ax_fs_len]; omega), List.getElem?_eq_none (by rw [ax_fs_len]; omega)]
/-! the locals -/
def ax_clr (x : Option Value) : Option Value := match x with
  | some (.long _) => none
  | some (.double _) => none
  | y => y
def ax_s1 : ax_L → Nat → Value → ax_L
  | [], _, _ => []
  | _ :: l, 0, v => some v :: l
  | [a], _ + 1, _ => [a]
  | a :: _ :: l, 1, v => ax_clr a :: some v :: l
  | a :: b :: l, i + 2, v => a :: ax_s1 (b :: l) (i + 1) v
def ax_s2 : ax_L → Nat → Value → ax_L
  | [], _, _ => []
  | [a], _, _ => [a]
  | _ :: _ :: l, 0, v => some v :: none :: l
  | [a, b], _ + 1, _ => [a, b]
  | a :: _ :: _ :: l, 1, v => ax_clr a :: some v :: none :: l
  | a :: b :: c :: l, i + 2, v => a :: ax_s2 (b :: c :: l) (i + 1) v
theorem ax_s1_len (v : Value) : ∀ (l : ax_L) (i : Nat), (ax_s1 l i v).length = l.length
  | [], _ => by simp [ax_s1]
  | _ :: l, 0 => by simp [ax_s1]
  | [a], _ + 1 => by simp [ax_s1]
  | a :: _ :: l, 1 => by simp [ax_s1]
  | a :: b :: l, i + 2 => by simp [ax_s1, ax_s1_len v (b :: l) (i + 1)]
theorem ax_s2_len (v : Value) : ∀ (l : ax_L) (i : Nat), (ax_s2 l i v).length = l.length
  | [], _ => by simp [ax_s2]
  | [a], _ => by simp [ax_s2]
  | _ :: _ :: l, 0 => by simp [ax_s2]
  | [a, b], _ + 1 => by simp [ax_s2]
  | a :: _ :: _ :: l, 1 => by simp [ax_s2]
  | a :: b :: c :: l, i + 2 => by simp [ax_s2, ax_s2_len v (b :: c :: l) (i + 1)]
theorem ax_clr_some {x : Option Value} {u : Value} (h : ax_clr x = some u) : x = some u ∧ u.category ≠ 2 := by
  unfold ax_clr at h
  split at h
  · cases h
  · cases h
  · subst h
    refine ⟨rfl, ?_⟩
    cases u <;> simp_all [Value.category]
/-- what stands in a place behind a store -/
theorem ax_s1_at (v : Value) : ∀ (l : ax_L) (i j : Nat) (u : Value), i < l.length → (ax_s1 l i v)[j]? = some (some u) → (j = i ∧ u = v) ∨ (j ≠ i ∧ l[j]? = some (some u) ∧ (j + 1 = i → u.category ≠ 2))
  | [], i, j, u, hi, _ => by simp at hi
  | x :: l, 0, j, u, _, h => by
    cases j with
    | zero => simp [ax_s1] at h; exact Or.inl ⟨rfl, h.symm⟩
    | succ j => simp [ax_s1] at h; exact Or.inr ⟨by omega, by simpa using h, by omega⟩
  | [a], i + 1, j, u, hi, _ => by simp at hi
  | a :: b :: l, 1, j, u, _, h => by
    match j, h with
    | 0, h => 
      simp [ax_s1] at h
      obtain ⟨h1, h2⟩ := ax_clr_some h
      exact Or.inr ⟨by omega, by simp [h1], fun _ => h2⟩
    | 1, h => simp [ax_s1] at h; exact Or.inl ⟨rfl, h.symm⟩
    | j + 2, h => simp [ax_s1] at h; exact Or.inr ⟨by omega, by simpa using h, by omega⟩
  | a :: b :: l, i + 2, j, u, hi, h => by
    cases j with
    | zero => simp [ax_s1] at h; exact Or.inr ⟨by omega, by simp [h], by omega⟩
    | succ j =>
      simp only [ax_s1, List.getElem?_cons_succ] at h
      rcases ax_s1_at v (b :: l) (i + 1) j u (by simpa using hi) h with ⟨h1, h2⟩ | ⟨h1, h2, h3⟩
      · exact Or.inl ⟨by omega, h2⟩
      · exact Or.inr ⟨by omega, by simpa using h2, fun e => h3 (by omega)⟩
theorem ax_s2_at (v : Value) : ∀ (l : ax_L) (i j : Nat) (u : Value), i + 1 < l.length → (ax_s2 l i v)[j]? = some (some u) → (j = i ∧ u = v) ∨ (j ≠ i ∧ j ≠ i + 1 ∧ l[j]? = some (some u) ∧ (j + 1 = i → u.category ≠ 2))
  | [], i, j, u, hi, _ => by simp at hi
  | [a], i, j, u, hi, _ => by simp at hi
  | x :: y :: l, 0, j, u, _, h => by
    match j, h with
    | 0, h => simp [ax_s2] at h; exact Or.inl ⟨rfl, h.symm⟩
    | 1, h => simp [ax_s2] at h
    | j + 2, h => simp [ax_s2] at h; exact Or.inr ⟨by omega, by omega, by simpa using h, by omega⟩
  | [a, b], i + 1, j, u, hi, _ => by simp at hi; omega
  | a :: b :: c :: l, 1, j, u, _, h => by
    match j, h with
    | 0, h => 
      simp [ax_s2] at h
      obtain ⟨h1, h2⟩ := ax_clr_some h
      exact Or.inr ⟨by omega, by omega, by simp [h1], fun _ => h2⟩
    | 1, h => simp [ax_s2] at h; exact Or.inl ⟨rfl, h.symm⟩
    | 2, h => simp [ax_s2] at h
    | j + 3, h => simp [ax_s2] at h; exact Or.inr ⟨by omega, by omega, by simpa using h, by omega⟩
  | a :: b :: c :: l, i + 2, j, u, hi, h => by
    cases j with
    | zero => simp [ax_s2] at h; exact Or.inr ⟨by omega, by omega, by simp [h], by omega⟩
    | succ j =>
      simp only [ax_s2, List.getElem?_cons_succ] at h
      rcases ax_s2_at v (b :: c :: l) (i + 1) j u (by simp at hi ⊢; omega) h with ⟨h1, h2⟩ | ⟨h1, h1', h2, h3⟩
      · exact Or.inl ⟨by omega, h2⟩
      · exact Or.inr ⟨by omega, by omega, by simpa using h2, fun e => h3 (by omega)⟩
def ax_pr (q : Nat → Nat) : Nat → ax_L → List (Nat × Value)
  | _, [] => []
  | i, none :: l => ax_pr q (i + 1) l
  | i, some v :: l => (i, ax_cv q v) :: ax_pr q (i + 1) l
theorem ax_pr_mem (q : Nat → Nat) : ∀ (l : ax_L) (i j : Nat) (v : Value), l[j]? = some (some v) → (i + j, ax_cv q v) ∈ ax_pr q i l
  | [], _, _, _, h => by simp at h
  | none :: l, i, j, v, h => by
    cases j with
    | zero => simp at h
    | succ j =>
      have := ax_pr_mem q l (i + 1) j v (by simpa using h)
      rw [show i + (j + 1) = i + 1 + j by omega]
      simpa [ax_pr] using this
  | some w :: l, i, j, v, h => by
    cases j with
    | zero => simp at h; simp [ax_pr, h]
    | succ j =>
      have := ax_pr_mem q l (i + 1) j v (by simpa using h)
      rw [show i + (j + 1) = i + 1 + j by omega]
      exact List.mem_cons_of_mem _ this
theorem ax_pr_of (q : Nat → Nat) : ∀ (l : ax_L) (i a : Nat) (w : Value), (a, w) ∈ ax_pr q i l → ∃ j v, a = i + j ∧ l[j]? = some (some v) ∧ w = ax_cv q v
  | [], _, _, _, h => by simp [ax_pr] at h
  | none :: l, i, a, w, h => by
    obtain ⟨j, v, h1, h2, h3⟩ := ax_pr_of q l (i + 1) a w (by simpa [ax_pr] using h)
    exact ⟨j + 1, v, by omega, by simpa using h2, h3⟩
  | some u :: l, i, a, w, h => by
    simp only [ax_pr, List.mem_cons] at h
    rcases h with h | h
    · cases h
      exact ⟨0, u, rfl, rfl, rfl⟩
    · obtain ⟨j, v, h1, h2, h3⟩ := ax_pr_of q l (i + 1) a w h
      exact ⟨j + 1, v, by omega, by simpa using h2, h3⟩
def ax_lr (q : Nat → Nat) (la : Array Slot) (nL : Nat) (ls : ax_L) : Prop := ls.length = nL ∧ lv_has la nL (ax_pr q 0 ls)
theorem ax_lr.at {q : Nat → Nat} {la : Array Slot} {nL : Nat} {ls : ax_L} (h : ax_lr q la nL ls) {i : Nat} {v : Value} (hi : ls[i]? = some (some v)) : la[i]? = some (.val (ax_cv q v)) := by
  have := h.2.2.2 (0 + i, ax_cv q v) (ax_pr_mem q ls 0 i v hi)
  simpa using this
theorem ax_lr.s1 {q : Nat → Nat} {la : Array Slot} {nL : Nat} {ls : ax_L} {i : Nat} {v : Value} (hn : ls.length = nL) (hi : i < nL) (h : lv_has la nL ((i, ax_cv q v) :: (ax_pr q 0 ls).filter (fun q => !(q.1 == i) && !(q.1 + 1 == i && q.2.category == 2)))) : ax_lr q la nL (ax_s1 ls i v) := by
  refine ⟨by rw [ax_s1_len]; exact hn, h.1, h.2.1, fun p hp => ?_⟩
  obtain ⟨a, w⟩ := p
  obtain ⟨j, u, h1, h2, h3⟩ := ax_pr_of q _ 0 a w hp
  refine h.2.2 (a, w) ?_
  rw [Nat.zero_add] at h1
  subst h1 h3
  rcases ax_s1_at v ls i a u (by rw [hn]; exact hi) h2 with ⟨rfl, rfl⟩ | ⟨g1, g2, g3⟩
  · exact List.mem_cons_self
  · refine List.mem_cons_of_mem _ (List.mem_filter.mpr ⟨by have := ax_pr_mem q ls 0 a u g2; simpa using this, ?_⟩)
    simp only [ax_cat]
    simp [g1]
    exact (Decidable.em (a + 1 = i)).elim (fun e => Or.inr (g3 e)) Or.inl
theorem ax_lr.s2 {q : Nat → Nat} {la : Array Slot} {nL : Nat} {ls : ax_L} {i : Nat} {v : Value} (hn : ls.length = nL) (hi : i + 1 < nL) (h : lv_has la nL ((i, ax_cv q v) :: (ax_pr q 0 ls).filter (fun q => !(q.1 == i) && (!(q.1 == i + 1) && !(q.1 + 1 == i && q.2.category == 2))))) : ax_lr q la nL (ax_s2 ls i v) := by
  refine ⟨by rw [ax_s2_len]; exact hn, h.1, h.2.1, fun p hp => ?_⟩
  obtain ⟨a, w⟩ := p
  obtain ⟨j, u, h1, h2, h3⟩ := ax_pr_of q _ 0 a w hp
  refine h.2.2 (a, w) ?_
  rw [Nat.zero_add] at h1
  subst h1 h3
  rcases ax_s2_at v ls i a u (by rw [hn]; exact hi) h2 with ⟨rfl, rfl⟩ | ⟨g1, g1', g2, g3⟩
  · exact List.mem_cons_self
  · refine List.mem_cons_of_mem _ (List.mem_filter.mpr ⟨by have := ax_pr_mem q ls 0 a u g2; simpa using this, ?_⟩)
    simp only [ax_cat]
    simp [g1, g1']
    exact (Decidable.em (a + 1 = i)).elim (fun e => Or.inr (g3 e)) Or.inl
/-! entry -/
def ax_fl (as : List Value) : ax_L := as.flatMap (fun v => if v.category = 2 then [some v, none] else [some v])
def ax_en (n : Nat) (as : List Value) : ax_L := ax_fl as ++ List.replicate (n - (ax_fl as).length) none
theorem ax_fl_len (q : Nat → Nat) (as : List Value) : (lg_sl (as.map (ax_cv q))).length = (ax_fl as).length := by
  induction as with
  | nil => rfl
  | cons a l ih =>
    simp only [lg_sl, ax_fl, List.map_cons, List.flatMap_cons, List.length_append, ax_cat] at ih ⊢
    rw [ih]
    split <;> rfl
theorem ax_pr_none (q : Nat → Nat) : ∀ (k i : Nat), ax_pr q i (List.replicate k none) = []
  | 0, _ => rfl
  | k + 1, i => by rw [List.replicate_succ]; exact ax_pr_none q k (i + 1)
theorem ax_pr_en (q : Nat → Nat) (k : Nat) : ∀ (as : List Value) (i : Nat), ax_pr q i (ax_fl as ++ List.replicate k none) = lv_args i (as.map (ax_cv q))
  | [], i => ax_pr_none q k i
  | a :: l, i => by
    by_cases hc : a.category = 2
    · have : ax_fl (a :: l) = some a :: none :: ax_fl l := by simp [ax_fl, hc]
      rw [this]
      simp only [List.cons_append, ax_pr, List.map_cons, lv_args, ax_cat, hc, if_true]
      rw [ax_pr_en q k l (i + 1 + 1)]
    · have : ax_fl (a :: l) = some a :: ax_fl l := by simp [ax_fl, hc]
      rw [this]
      simp only [List.cons_append, ax_pr, List.map_cons, lv_args, ax_cat, hc, if_false]
      rw [ax_pr_en q k l (i + 1)]
theorem ax_lr_en (q : Nat → Nat) (as : List Value) {n : Nat} (h : (ax_fl as).length ≤ n) : ax_lr q ((lg_sl (as.map (ax_cv q)) ++ List.replicate (n - (lg_sl (as.map (ax_cv q))).length) Slot.unset).toArray) n (ax_en n as) := by
  refine ⟨by simp [ax_en]; omega, ?_⟩
  have h1 := lv_entry (as.map (ax_cv q)) (n := n) (by rw [ax_fl_len]; exact h)
  unfold ax_en
  rw [ax_pr_en]
  exact h1
end
section
/-! one instruction of the plain machine -/
def ax_flk (o i : Nat) : Option (Nat × Nat × Bool × Nat) := if i < 1000 then ax_flL.lookup (o * 1000 + i) else none
def ax_mlk (o i : Nat) : Option (ax_M × Bool × Nat × Nat × Nat × Nat × Nat × Nat) := if i < 1000 then ax_mlL.lookup (o * 1000 + i) else none
abbrev ax_Re : Type := Option ((Nat × ax_L × List Value × ax_H) ⊕ Option Value ⊕ (ax_M × List Value × List Value))
def ax_go (pc : Nat) (ls : ax_L) (h : ax_H) (o : Option (List Value)) : ax_Re := o.map (fun st => .inl (pc, ls, st, h))
def ax_i1 (st : List Value) (f : Int32 → Option Value) : Option (List Value) := match st with
  | .int x :: r => (f x).map (fun v => v :: r)
  | _ => none
def ax_i2 (st : List Value) (f : Int32 → Int32 → Option Value) : Option (List Value) := match st with
  | .int y :: .int x :: r => (f x y).map (fun v => v :: r)
  | _ => none
def ax_l1 (st : List Value) (f : Int64 → Option Value) : Option (List Value) := match st with
  | .long x :: r => (f x).map (fun v => v :: r)
  | _ => none
def ax_l2 (st : List Value) (f : Int64 → Int64 → Option Value) : Option (List Value) := match st with
  | .long y :: .long x :: r => (f x y).map (fun v => v :: r)
  | _ => none
def ax_li (st : List Value) (f : Int64 → Int32 → Option Value) : Option (List Value) := match st with
  | .int y :: .long x :: r => (f x y).map (fun v => v :: r)
  | _ => none
def ax_ldi (ls : ax_L) (st : List Value) (i : Nat) : Option (List Value) := match ls[i]? with
  | some (some (.int x)) => some (.int x :: st)
  | _ => none
def ax_ldl (ls : ax_L) (st : List Value) (i : Nat) : Option (List Value) := match ls[i]? with
  | some (some (.long x)) => some (.long x :: st)
  | _ => none
def ax_lda (ls : ax_L) (st : List Value) (i : Nat) : Option (List Value) := match ls[i]? with
  | some (some (.ref x)) => some (.ref x :: st)
  | _ => none
def ax_sti (pc : Nat) (ls : ax_L) (st : List Value) (h : ax_H) (i : Nat) : ax_Re := match st with
  | .int x :: r => if i < ls.length then some (.inl (pc, ax_s1 ls i (.int x), r, h)) else none
  | _ => none
def ax_sta (pc : Nat) (ls : ax_L) (st : List Value) (h : ax_H) (i : Nat) : ax_Re := match st with
  | .ref x :: r => if i < ls.length then some (.inl (pc, ax_s1 ls i (.ref x), r, h)) else none
  | _ => none
def ax_stl (pc : Nat) (ls : ax_L) (st : List Value) (h : ax_H) (i : Nat) : ax_Re := match st with
  | .long x :: r => if i + 1 < ls.length then some (.inl (pc, ax_s2 ls i (.long x), r, h)) else none
  | _ => none
def ax_inc (pc : Nat) (ls : ax_L) (st : List Value) (h : ax_H) (i : Nat) (n : Int) : ax_Re := match ls[i]? with
  | some (some (.int x)) => some (.inl (pc, ax_s1 ls i (.int (x + Int32.ofInt n)), st, h))
  | _ => none
def ax_tg (pc : Nat) (off : Int) : Nat := ((pc : Int) + off).toNat
def ax_jm (pc : Nat) (off : Int) (ls : ax_L) (st : List Value) (h : ax_H) : ax_Re := if 0 ≤ (pc : Int) + off then some (.inl (ax_tg pc off, ls, st, h)) else none
def ax_cc (c : Jvm.ClassFile.Cond) (x y : Int32) : Bool := match c with
  | .eq => decide (x = y)
  | .ne => decide (¬ x = y)
  | .lt => decide (x < y)
  | .ge => decide (y ≤ x)
  | .gt => decide (y < x)
  | .le => decide (x ≤ y)
def ax_br1 (c : Jvm.ClassFile.Cond) (pc : Nat) (off : Int) (ls : ax_L) (st : List Value) (h : ax_H) : ax_Re := match st with
  | .int x :: r => if 0 ≤ (pc : Int) + off then some (.inl (if ax_cc c x 0 = true then ax_tg pc off else pc + 3, ls, r, h)) else none
  | _ => none
def ax_br2 (c : Jvm.ClassFile.Cond) (pc : Nat) (off : Int) (ls : ax_L) (st : List Value) (h : ax_H) : ax_Re := match st with
  | .int y :: .int x :: r => if 0 ≤ (pc : Int) + off then some (.inl (if ax_cc c x y = true then ax_tg pc off else pc + 3, ls, r, h)) else none
  | _ => none
def ax_lsw (pc : Nat) (d : Int) (ps : Array (Int × Int)) (ls : ax_L) (st : List Value) (h : ax_H) : ax_Re := match st with
  | .int x :: r => if (ps.toList.zip (ps.toList.drop 1)).all (fun (a, next) => a.1 < next.1) = true then ax_jm pc (Op.lookupswitch.offset ps.toList d x.toInt) ls r h else none
  | _ => none
def ax_tsw (pc : Nat) (d lo hi : Int) (offs : Array Int) (ls : ax_L) (st : List Value) (h : ax_H) : ax_Re := match st with
  | .int x :: r => if x.toInt < lo ∨ hi < x.toInt then ax_jm pc d ls r h else match offs[(x.toInt - lo).toNat]? with
    | some off => ax_jm pc off ls r h
    | none => none
  | _ => none
def ax_gf (ks : ax_K) (o i pc : Nat) (ls : ax_L) (st : List Value) (h : ax_H) : ax_Re := match st with
  | .ref r :: rest => match ax_flk o i with
    | some e => if ks[r]? = some (0, e.1) then some (.inl (pc + 3, ls, ax_fv h (ax_ty e.1 e.2.1) r e.2.1 :: rest, h)) else none
    | none => none
  | _ => none
/-- a value put into a place of a type -/
def ax_sv (ks : ax_K) (h : ax_H) (ty : FieldType) (r k : Nat) (v : Value) : Option ax_H := match ty, v with
  | .int, .int x => some (ax_upI h r k x)
  | .long, .long x => some (ax_upL h r k x)
  | .object _, .ref a => if a < ks.length then some (ax_upR h r k (some a)) else none
  | _, _ => none
def ax_pf (ks : ax_K) (o i pc : Nat) (ls : ax_L) (st : List Value) (h : ax_H) : ax_Re := match st with
  | v :: .ref r :: rest => match ax_flk o i with
    | some e => if ks[r]? = some (0, e.1) ∧ (ax_Tb e.1 e.2.1).2.2.2 = false then (ax_sv ks h (ax_ty e.1 e.2.1) r e.2.1 v).map (fun h' => .inl (pc + 3, ls, rest, h')) else none
    | none => none
  | _ => none
def ax_in (i : Int32) (n : Nat) : Bool := decide (0 ≤ i) && decide (i.toNatClampNeg < n)
/-- an element of an array: t its kind -/
def ax_al (ks : ax_K) (t : Nat) (pc : Nat) (ls : ax_L) (st : List Value) (h : ax_H) : ax_Re := match st with
  | .int i :: .ref r :: rest => match ks[r]? with
    | some (t', n) => if (t' = t ∨ (t = 4 ∧ t' = 5)) ∧ ax_in i n = true then some (.inl (pc + 1, ls, (match t with | 2 => .long (h.2.1 r i.toNatClampNeg) | 4 => va_rf (h.2.2 r i.toNatClampNeg) | _ => .int (h.1 r i.toNatClampNeg)) :: rest, h)) else none
    | none => none
  | _ => none
def ax_as (ks : ax_K) (t : Nat) (pc : Nat) (ls : ax_L) (st : List Value) (h : ax_H) : ax_Re := match st with
  | v :: .int i :: .ref r :: rest => match ks[r]? with
    | some (t', n) => if t' = t ∧ ax_in i n = true then (match t, v with
      | 1, .int x => some (.inl (pc + 1, ls, rest, ax_upI h r i.toNatClampNeg x))
      | 2, .long x => some (.inl (pc + 1, ls, rest, ax_upL h r i.toNatClampNeg x))
      | 3, .int x => some (.inl (pc + 1, ls, rest, ax_upI h r i.toNatClampNeg (vp_nar .boolean x)))
      | 4, .ref a => if ks[a]? = some (0, 3) then some (.inl (pc + 1, ls, rest, ax_upR h r i.toNatClampNeg (some a))) else none
      | _, _ => none) else none
    | none => none
  | _ => none
def ax_len (ks : ax_K) (pc : Nat) (ls : ax_L) (st : List Value) (h : ax_H) : ax_Re := match st with
  | .ref r :: rest => match ks[r]? with
    | some (t, n) => if 0 < t ∧ t < 6 then some (.inl (pc + 1, ls, .int (Int32.ofNat n) :: rest, h)) else none
    | none => none
  | _ => none
def ax_ct (st : List Value) : Nat := (st.map fun v => v.category).sum
def ax_iv (ks : ax_K) (o i : Nat) (st : List Value) : ax_Re := match ax_mlk o i with
  | some e => if e.2.1 = false ∧ e.2.2.1 ≤ st.length then (match st.drop e.2.2.1 with
    | .ref b :: rest => if ks[b]? = some (0, e.1.1) ∧ ax_ct rest ≤ 8 ∧ (ax_fl (.ref b :: (st.take e.2.2.1).reverse)).length ≤ e.1.2.2.2.1 then some (.inr (.inr (e.1, .ref b :: (st.take e.2.2.1).reverse, rest))) else none
    | _ => none) else none
  | none => none
def ax_is (o i : Nat) (st : List Value) : ax_Re := match ax_mlk o i with
  | some e => if e.2.1 = true ∧ e.2.2.1 ≤ st.length ∧ ax_ct (st.drop e.2.2.1) ≤ 8 ∧ (ax_fl (st.take e.2.2.1).reverse).length ≤ e.1.2.2.2.1 then some (.inr (.inr (e.1, (st.take e.2.2.1).reverse, st.drop e.2.2.1))) else none
  | none => none
def ax_mi (pc : Nat) (ls : ax_L) (st : List Value) (h : ax_H) : ax_Re := match st with
  | .int y :: .int x :: rest => if ax_ct rest ≤ 8 then some (.inl (pc + 3, ls, .int (if y < x then y else x) :: rest, h)) else none
  | _ => none
def ax_ri (ret : Option FieldType) (st : List Value) : ax_Re := match st with
  | [.int x] => if ret = some .int ∨ (ret = some .boolean ∧ (x = 0 ∨ x = 1)) then some (.inr (.inl (some (.int x)))) else none
  | _ => none
def ax_rl (ret : Option FieldType) (st : List Value) : ax_Re := match st with
  | [.long x] => if ret = some .long then some (.inr (.inl (some (.long x)))) else none
  | _ => none
def ax_rv (ret : Option FieldType) (st : List Value) : ax_Re := match st with
  | [] => if ret = none then some (.inr (.inl none)) else none
  | _ => none
def ax_du (st : List Value) : Option (List Value) := match st with
  | v :: r => if v.category = 1 then some (v :: v :: r) else none
  | _ => none
def ax_po (st : List Value) : Option (List Value) := match st with
  | v :: r => if v.category = 1 then some r else none
  | _ => none
def ax_d2 (st : List Value) : Option (List Value) := match st with
  | v :: w :: r => if v.category = 1 ∧ w.category = 1 then some (v :: w :: v :: w :: r) else none
  | _ => none
def ax_ex (ks : ax_K) (M : ax_M) (pc : Nat) (ls : ax_L) (st : List Value) (h : ax_H) (i : Instr) (len : Nat) : ax_Re := match i, len with
  | .iconst n, 1 => ax_go (pc + 1) ls h (some (.int (Int32.ofInt n) :: st))
  | .bipush n, 2 => ax_go (pc + 2) ls h (some (.int (Int8.ofInt n).toInt32 :: st))
  | .sipush n, 3 => ax_go (pc + 3) ls h (some (.int (Int16.ofInt n).toInt32 :: st))
  | .lconst n, 1 => ax_go (pc + 1) ls h (some (.long (Int64.ofNat (n : Nat)) :: st))
  | .ldc2_w j, 3 => if M.1 = 5 ∧ j = 165 then ax_go (pc + 3) ls h (some (.long 64 :: st)) else none
  | .iload_n k, 1 => ax_go (pc + 1) ls h (ax_ldi ls st k)
  | .iload k, 2 => ax_go (pc + 2) ls h (ax_ldi ls st k)
  | .lload_n k, 1 => ax_go (pc + 1) ls h (ax_ldl ls st k)
  | .lload k, 2 => ax_go (pc + 2) ls h (ax_ldl ls st k)
  | .aload_n k, 1 => ax_go (pc + 1) ls h (ax_lda ls st k)
  | .istore_n k, 1 => ax_sti (pc + 1) ls st h k
  | .istore k, 2 => ax_sti (pc + 2) ls st h k
  | .lstore_n k, 1 => ax_stl (pc + 1) ls st h k
  | .lstore k, 2 => ax_stl (pc + 2) ls st h k
  | .astore_n k, 1 => ax_sta (pc + 1) ls st h k
  | .iinc k n, 3 => ax_inc (pc + 3) ls st h k n
  | .iadd, 1 => ax_go (pc + 1) ls h (ax_i2 st (fun x y => some (.int (x + y))))
  | .isub, 1 => ax_go (pc + 1) ls h (ax_i2 st (fun x y => some (.int (x - y))))
  | .imul, 1 => ax_go (pc + 1) ls h (ax_i2 st (fun x y => some (.int (x * y))))
  | .iand, 1 => ax_go (pc + 1) ls h (ax_i2 st (fun x y => some (.int (x &&& y))))
  | .ior, 1 => ax_go (pc + 1) ls h (ax_i2 st (fun x y => some (.int (x ||| y))))
  | .idiv, 1 => ax_go (pc + 1) ls h (ax_i2 st (fun x y => if y = 0 then none else some (.int (x / y))))
  | .irem, 1 => ax_go (pc + 1) ls h (ax_i2 st (fun x y => if y = 0 then none else some (.int (x - x / y * y))))
  | .ishl, 1 => ax_go (pc + 1) ls h (ax_i2 st (fun x y => some (.int (x <<< (y &&& 31)))))
  | .ishr, 1 => ax_go (pc + 1) ls h (ax_i2 st (fun x y => some (.int (x >>> (y &&& 31)))))
  | .iushr, 1 => ax_go (pc + 1) ls h (ax_i2 st (fun x y => some (.int (x.toUInt32 >>> (y.toUInt32 &&& Int32.toUInt32 31)).toInt32)))
  | .ladd, 1 => ax_go (pc + 1) ls h (ax_l2 st (fun x y => some (.long (x + y))))
  | .lsub, 1 => ax_go (pc + 1) ls h (ax_l2 st (fun x y => some (.long (x - y))))
  | .lmul, 1 => ax_go (pc + 1) ls h (ax_l2 st (fun x y => some (.long (x * y))))
  | .land, 1 => ax_go (pc + 1) ls h (ax_l2 st (fun x y => some (.long (x &&& y))))
  | .lor, 1 => ax_go (pc + 1) ls h (ax_l2 st (fun x y => some (.long (x ||| y))))
  | .ldiv, 1 => ax_go (pc + 1) ls h (ax_l2 st (fun x y => if y = 0 then none else some (.long (x / y))))
  | .lrem, 1 => ax_go (pc + 1) ls h (ax_l2 st (fun x y => if y = 0 then none else some (.long (x - x / y * y))))
  | .lcmp, 1 => ax_go (pc + 1) ls h (ax_l2 st (fun x y => some (.int (lg_cmp x y))))
  | .lshl, 1 => ax_go (pc + 1) ls h (ax_li st (fun x y => some (.long (x <<< (y.toInt64 &&& 63)))))
  | .lushr, 1 => ax_go (pc + 1) ls h (ax_li st (fun x y => some (.long (x.toUInt64 >>> (y.toInt64.toUInt64 &&& Int64.toUInt64 63)).toInt64)))
  | .i2l, 1 => ax_go (pc + 1) ls h (ax_i1 st (fun x => some (.long x.toInt64)))
  | .l2i, 1 => ax_go (pc + 1) ls h (ax_l1 st (fun x => some (.int x.toInt32)))
  | .dup, 1 => ax_go (pc + 1) ls h (ax_du st)
  | .dup2, 1 => ax_go (pc + 1) ls h (ax_d2 st)
  | .pop, 1 => ax_go (pc + 1) ls h (ax_po st)
  | .ifCond c off, 3 => ax_br1 c pc off ls st h
  | .if_icmp c off, 3 => ax_br2 c pc off ls st h
  | .goto off, 3 => ax_jm pc off ls st h
  | .lookupswitch d ps, _ => ax_lsw pc d ps ls st h
  | .tableswitch d lo hi offs, _ => ax_tsw pc d lo hi offs ls st h
  | .getfield j, 3 => ax_gf ks M.1 j pc ls st h
  | .putfield j, 3 => ax_pf ks M.1 j pc ls st h
  | .iaload, 1 => ax_al ks 1 pc ls st h
  | .laload, 1 => ax_al ks 2 pc ls st h
  | .baload, 1 => ax_al ks 3 pc ls st h
  | .aaload, 1 => ax_al ks 4 pc ls st h
  | .iastore, 1 => ax_as ks 1 pc ls st h
  | .lastore, 1 => ax_as ks 2 pc ls st h
  | .bastore, 1 => ax_as ks 3 pc ls st h
  | .aastore, 1 => ax_as ks 4 pc ls st h
  | .arraylength, 1 => ax_len ks pc ls st h
  | .invokevirtual j, 3 => ax_iv ks M.1 j st
  | .invokestatic j, 3 => if M.1 = 1 ∧ j = 153 then ax_mi pc ls st h else ax_is M.1 j st
  | .ireturn, 1 => ax_ri M.2.2.2.2 st
  | .lreturn, 1 => ax_rl M.2.2.2.2 st
  | .return_, 1 => ax_rv M.2.2.2.2 st
  | _, _ => none
def ax_step (ks : ax_K) (M : ax_M) (pc : Nat) (ls : ax_L) (st : List Value) (h : ax_H) : ax_Re := match decode M.2.2.1 pc with
  | .ok (i, len) => ax_ex ks M pc ls st h i len
  | _ => none
def ax_run (ks : ax_K) : Nat → Nat → ax_M → Nat → ax_L → List Value → ax_H → Option (Option Value × ax_H)
  | 0, _, _, _, _, _, _ => none
  | n + 1, d, M, pc, ls, st, h => match ax_step ks M pc ls st h with
    | none => none
    | some (.inl x) => ax_run ks n d M x.1 x.2.1 x.2.2.1 x.2.2.2
    | some (.inr (.inl v)) => some (v, h)
    | some (.inr (.inr x)) => match d with
      | 0 => none
      | d' + 1 => match ax_run ks n d' x.1 0 (ax_en x.1.2.2.2.1 x.2.1) [] h with
        | none => none
        | some y => ax_run ks n (d' + 1) M (pc + 3) ls (y.1.toList ++ x.2.2) y.2
theorem ax_run_mono (ks : ax_K) : ∀ (n d : Nat) (M : ax_M) (pc : Nat) (ls : ax_L) (st : List Value) (h : ax_H) (y : Option Value × ax_H), ax_run ks n d M pc ls st h = some y → ax_run ks (n + 1) d M pc ls st h = some y
  | 0, _, _, _, _, _, _, _, hr => by simp [ax_run] at hr
  | n + 1, d, M, pc, ls, st, h, y, hr => by
    rw [ax_run] at hr ⊢
    split at hr
    · cases hr
    · rename_i x hs
      exact ax_run_mono ks n _ _ _ _ _ _ _ hr
    · exact hr
    · rename_i x hs
      cases d with
      | zero => cases hr
      | succ d' =>
        simp only at hr ⊢
        split at hr
        · cases hr
        · rename_i z hz
          rw [ax_run_mono ks n _ _ _ _ _ _ _ hz]
          exact ax_run_mono ks n _ _ _ _ _ _ _ hr
theorem ax_run_le (ks : ax_K) {n m d : Nat} {M : ax_M} {pc : Nat} {ls : ax_L} {st : List Value} {h : ax_H} {y : Option Value × ax_H} (hr : ax_run ks n d M pc ls st h = some y) (hm : n ≤ m) : ax_run ks m d M pc ls st h = some y := by
  induction m with
  | zero => have : n = 0 := by omega
            subst this; exact hr
  | succ m ih =>
    by_cases e : n = m + 1
    · subst e; exact hr
    · exact ax_run_mono ks _ _ _ _ _ _ _ _ (ih (by omega))
end
section
/-! one instruction of the plain machine is one of the machine -/
theorem ax_lookup_mem {α : Type} {k : Nat} {v : α} : ∀ (l : List (Nat × α)), l.lookup k = some v → (k, v) ∈ l
  | [], h => by simp at h
  | (a, b) :: l, h => by
    rw [List.lookup_cons] at h
    by_cases e : k = a
    · subst e
      simp at h
      subst h
      exact List.mem_cons_self
    · have : (k == a) = false := by simpa using e
      rw [this] at h
      exact List.mem_cons_of_mem _ (ax_lookup_mem l h)
theorem ax_cl_at {ci : Nat} (h : ci < 6) : ax_cl[ci]? = some (ax_own ci, ax_Tb ci, ax_N ci) := by
  match ci, h with
  | 0, _ => rfl
  | 1, _ => rfl
  | 2, _ => rfl
  | 3, _ => rfl
  | 4, _ => rfl
  | 5, _ => rfl
  | n + 6, h => exact absurd h (by omega)
theorem ax_nmA {ci : Nat} (h : ci < 6) : ∀ a, a < ax_N ci → ∀ b, b < ax_N ci → a ≠ b → (ax_Tb ci a).2.1 ≠ (ax_Tb ci b).2.1 := by
  match ci, h with
  | 0, _ => exact ax_nm0
  | 1, _ => exact ax_nm1
  | 2, _ => exact ax_nm2
  | 3, _ => exact ax_nm3
  | 4, _ => exact ax_nm4
  | 5, _ => exact ax_nm5
  | n + 6, h => exact absurd h (by omega)
theorem ax_tyA {ci : Nat} (h : ci < 6) : ∀ k, k < ax_N ci → parseFieldDescriptor (ax_Tb ci k).2.2.1 = some (ax_ty ci k) := by
  match ci, h with
  | 0, _ => exact ax_tyok0
  | 1, _ => exact ax_tyok1
  | 2, _ => exact ax_tyok2
  | 3, _ => exact ax_tyok3
  | 4, _ => exact ax_tyok4
  | 5, _ => exact ax_tyok5
  | n + 6, h => exact absurd h (by omega)
theorem ax_inA {ci : Nat} (h : ci < 6) : ∀ w ∈ u_ws (ax_own ci) (ax_Tb ci) (ax_N ci), w ∈ ax_tb := by
  intro w hw
  have h1 := List.all_eq_true.mp ax_usok ci (List.mem_range.mpr h)
  have h2 := List.all_eq_true.mp h1 w hw
  simp only [Bool.and_eq_true, decide_eq_true_eq] at h2
  exact List.mem_filter.mpr h2
theorem ax_key {o i : Nat} (hi : i < 1000) : (o * 1000 + i) / 1000 = o ∧ (o * 1000 + i) % 1000 = i := by omega
/-- what a field's link says -/
theorem ax_flk_spec {o i : Nat} {e : Nat × Nat × Bool × Nat} (h : ax_flk o i = some e) : e.1 < 6 ∧ e.2.1 < ax_N e.1 ∧ (ax_Tb e.1 e.2.1).1 = ax_own e.1 ∧
    ((e.2.2.1 = true ∧ Jvm.Cond.fieldLinkNest (ax_own o) i (ax_own e.1) (ax_Tb e.1 e.2.1).2.1 (ax_Tb e.1 e.2.1).2.2.1 "PackageRules" ∈ lw_tbl) ∨ (e.2.2.1 = false ∧ Jvm.Cond.fieldLink (ax_own o) i (ax_own e.1) (ax_Tb e.1 e.2.1).2.1 (ax_Tb e.1 e.2.1).2.2.1 ∈ ax_tb)) := by
  unfold ax_flk at h
  by_cases hi : i < 1000
  · rw [if_pos hi] at h
    have hk := ax_key (o := o) hi
    have h2 := List.all_eq_true.mp ax_flok _ (ax_lookup_mem _ h)
    simp only [ax_fok, Bool.and_eq_true, decide_eq_true_eq, hk.1, hk.2] at h2
    obtain ⟨⟨⟨a1, a2⟩, a3⟩, a4⟩ := h2
    refine ⟨a1, a2, a3, ?_⟩
    cases hb : e.2.2.1 with
    | true =>
      rw [hb, if_pos rfl] at a4
      exact Or.inl ⟨rfl, List.mem_of_getElem? a4⟩
    | false =>
      rw [hb, if_neg (by decide)] at a4
      exact Or.inr ⟨rfl, List.mem_filter.mpr ⟨List.mem_of_getElem? a4, rfl⟩⟩
  · rw [if_neg hi] at h
    cases h
/-- what a method's link says -/
theorem ax_mlk_spec {o i : Nat} {e : ax_M × Bool × Nat × Nat × Nat × Nat × Nat × Nat} (h : ax_mlk o i = some e) : Jvm.Cond.methodLink (ax_own o) i e.1.2.1 ∈ ax_tb ∧ Jvm.Cond.code e.1.2.1 e.1.2.2.1 e.1.2.2.2.1 e.1.2.2.2.2 ∈ ax_tb ∧ Jvm.Cond.initialized e.1.2.1.cls ∈ ax_tb ∧
    (e.2.1 = true → Jvm.Cond.static e.1.2.1 ∈ ax_tb) ∧ (e.2.1 = false → Jvm.Cond.instanceMethod e.1.2.1 ∈ ax_tb ∧ Jvm.Cond.selects e.1.2.1.cls e.1.2.1 e.1.2.1 ∈ ax_tb ∧ e.1.1 < 6) ∧ e.1.2.1.cls = ax_own e.1.1 ∧ plainName e.1.2.1.cls = true ∧
    (e.1.2.1.cls ≠ "java/lang/invoke/MethodHandle" ∧ e.1.2.1.cls ≠ "java/lang/invoke/VarHandle") ∧ (parseMethodDescriptor e.1.2.1.desc).map (fun d => d.parameters.length) = some e.2.2.1 ∧ e.1.2.2.2.1 ≤ 40 := by
  unfold ax_mlk at h
  by_cases hi : i < 1000
  · rw [if_pos hi] at h
    have hk := ax_key (o := o) hi
    have hm := ax_lookup_mem _ h
    have h2 : ax_mok (o * 1000 + i, e) = true := by
      rcases List.mem_append.mp hm with hm | hm
      · exact List.all_eq_true.mp ax_mloka _ hm
      · exact List.all_eq_true.mp ax_mlokb _ hm
    have h3 : lw_tbl[e.2.2.2.2.1]? = some (Jvm.Cond.code e.1.2.1 e.1.2.2.1 e.1.2.2.2.1 e.1.2.2.2.2) := by
      rcases List.mem_append.mp hm with hm | hm
      · exact ax_mca _ hm
      · exact ax_mcb _ hm
    simp only [ax_mok, Bool.and_eq_true, Bool.or_eq_true, decide_eq_true_eq, hk.1, hk.2] at h2
    obtain ⟨⟨⟨⟨⟨⟨⟨⟨⟨⟨a1, a2⟩, a3⟩, a4⟩, a5⟩, a6⟩, a7⟩, a8⟩, a9⟩, a10⟩, a11⟩ := h2
    refine ⟨List.mem_filter.mpr ⟨List.mem_of_getElem? a1, rfl⟩, List.mem_filter.mpr ⟨List.mem_of_getElem? h3, rfl⟩, List.mem_filter.mpr ⟨List.mem_of_getElem? a2, rfl⟩, fun hs => ?_, fun hs => ?_, a5, a7, ⟨a8, a9⟩, a10, a11⟩
    · rw [if_pos hs] at a3
      exact List.mem_filter.mpr ⟨List.mem_of_getElem? a3, rfl⟩
    · rw [if_neg (by rw [hs]; decide)] at a3
      rw [hs] at a4 a6
      exact ⟨List.mem_filter.mpr ⟨List.mem_of_getElem? a3, rfl⟩, List.mem_filter.mpr ⟨List.mem_of_getElem? (a4.resolve_left (by decide)), rfl⟩, a6.resolve_left (by decide)⟩
  · rw [if_neg hi] at h
    cases h
/-! inversions -/
theorem ax_go_inv {pc : Nat} {ls : ax_L} {h : ax_H} {o : Option (List Value)} {x : Nat × ax_L × List Value × ax_H} (hr : ax_go pc ls h o = some (.inl x)) : ∃ st, o = some st ∧ x = (pc, ls, st, h) := by
  unfold ax_go at hr
  cases o with
  | none => cases hr
  | some st => exact ⟨st, rfl, (Sum.inl.inj (Option.some.inj hr)).symm⟩
theorem ax_i1_inv {st st' : List Value} {f : Int32 → Option Value} (hr : ax_i1 st f = some st') : ∃ x v r, st = .int x :: r ∧ f x = some v ∧ st' = v :: r := by
  unfold ax_i1 at hr
  split at hr
  · rename_i x r
    cases hf : f x with
    | none => rw [hf] at hr; cases hr
    | some v => rw [hf] at hr; exact ⟨x, v, r, rfl, hf, (Option.some.inj hr).symm⟩
  · cases hr
theorem ax_l1_inv {st st' : List Value} {f : Int64 → Option Value} (hr : ax_l1 st f = some st') : ∃ x v r, st = .long x :: r ∧ f x = some v ∧ st' = v :: r := by
  unfold ax_l1 at hr
  split at hr
  · rename_i x r
    cases hf : f x with
    | none => rw [hf] at hr; cases hr
    | some v => rw [hf] at hr; exact ⟨x, v, r, rfl, hf, (Option.some.inj hr).symm⟩
  · cases hr
theorem ax_i2_inv {st st' : List Value} {f : Int32 → Int32 → Option Value} (hr : ax_i2 st f = some st') : ∃ x y v r, st = .int y :: .int x :: r ∧ f x y = some v ∧ st' = v :: r := by
  unfold ax_i2 at hr
  split at hr
  · rename_i y x r
    cases hf : f x y with
    | none => rw [hf] at hr; cases hr
    | some v => rw [hf] at hr; exact ⟨x, y, v, r, rfl, hf, (Option.some.inj hr).symm⟩
  · cases hr
theorem ax_l2_inv {st st' : List Value} {f : Int64 → Int64 → Option Value} (hr : ax_l2 st f = some st') : ∃ x y v r, st = .long y :: .long x :: r ∧ f x y = some v ∧ st' = v :: r := by
  unfold ax_l2 at hr
  split at hr
  · rename_i y x r
    cases hf : f x y with
    | none => rw [hf] at hr; cases hr
    | some v => rw [hf] at hr; exact ⟨x, y, v, r, rfl, hf, (Option.some.inj hr).symm⟩
  · cases hr
theorem ax_li_inv {st st' : List Value} {f : Int64 → Int32 → Option Value} (hr : ax_li st f = some st') : ∃ x y v r, st = .int y :: .long x :: r ∧ f x y = some v ∧ st' = v :: r := by
  unfold ax_li at hr
  split at hr
  · rename_i y x r
    cases hf : f x y with
    | none => rw [hf] at hr; cases hr
    | some v => rw [hf] at hr; exact ⟨x, y, v, r, rfl, hf, (Option.some.inj hr).symm⟩
  · cases hr
theorem ax_ldi_inv {ls : ax_L} {st st' : List Value} {i : Nat} (hr : ax_ldi ls st i = some st') : ∃ x, ls[i]? = some (some (.int x)) ∧ st' = .int x :: st := by
  unfold ax_ldi at hr
  split at hr
  · rename_i x hx; exact ⟨x, hx, (Option.some.inj hr).symm⟩
  · cases hr
theorem ax_ldl_inv {ls : ax_L} {st st' : List Value} {i : Nat} (hr : ax_ldl ls st i = some st') : ∃ x, ls[i]? = some (some (.long x)) ∧ st' = .long x :: st := by
  unfold ax_ldl at hr
  split at hr
  · rename_i x hx; exact ⟨x, hx, (Option.some.inj hr).symm⟩
  · cases hr
theorem ax_lda_inv {ls : ax_L} {st st' : List Value} {i : Nat} (hr : ax_lda ls st i = some st') : ∃ x, ls[i]? = some (some (.ref x)) ∧ st' = .ref x :: st := by
  unfold ax_lda at hr
  split at hr
  · rename_i x hx; exact ⟨x, hx, (Option.some.inj hr).symm⟩
  · cases hr
theorem ax_jm_inv {pc : Nat} {off : Int} {ls : ax_L} {st : List Value} {h : ax_H} {x : Nat × ax_L × List Value × ax_H} (hr : ax_jm pc off ls st h = some (.inl x)) : (pc : Int) + off = ((ax_tg pc off : Nat) : Int) ∧ x = (ax_tg pc off, ls, st, h) := by
  unfold ax_jm at hr
  by_cases h0 : 0 ≤ (pc : Int) + off
  · rw [if_pos h0] at hr
    exact ⟨(Int.toNat_of_nonneg h0).symm, (Sum.inl.inj (Option.some.inj hr)).symm⟩
  · rw [if_neg h0] at hr
    cases hr
theorem ax_in_vp {i : Int32} {n : Nat} (h : ax_in i n = true) : vp_in i n := by
  simp only [ax_in, Bool.and_eq_true, decide_eq_true_eq] at h
  intro hh
  rcases hh with hh | hh
  · exact absurd hh (Int32.not_lt.mpr h.1)
  · omega
theorem ax_iv_no {ks : ax_K} {o i : Nat} {st : List Value} {x : Nat × ax_L × List Value × ax_H} (hr : ax_iv ks o i st = some (.inl x)) : False := by
  unfold ax_iv at hr
  (repeat' split at hr) <;> cases hr
theorem ax_is_no {o i : Nat} {st : List Value} {x : Nat × ax_L × List Value × ax_H} (hr : ax_is o i st = some (.inl x)) : False := by
  unfold ax_is at hr
  (repeat' split at hr) <;> cases hr
theorem ax_ri_no {o : Option FieldType} {st : List Value} {x : Nat × ax_L × List Value × ax_H} (hr : ax_ri o st = some (.inl x)) : False := by
  unfold ax_ri at hr
  (repeat' split at hr) <;> cases hr
theorem ax_rl_no {o : Option FieldType} {st : List Value} {x : Nat × ax_L × List Value × ax_H} (hr : ax_rl o st = some (.inl x)) : False := by
  unfold ax_rl at hr
  (repeat' split at hr) <;> cases hr
theorem ax_rv_no {o : Option FieldType} {st : List Value} {x : Nat × ax_L × List Value × ax_H} (hr : ax_rv o st = some (.inl x)) : False := by
  unfold ax_rv at hr
  (repeat' split at hr) <;> cases hr
def ax_C (p : Program) (s : State) (m : MethodId) (args : Array Value) (meth : Method) (c : Code) (M : ax_M) : Prop :=
  p.tables.exec = Jvm.exec ∧ c.code = M.2.2.1 ∧ c.maxLocals = M.2.2.2.1 ∧ meth.sig.returnType = M.2.2.2.2 ∧ meth.locks = false ∧ s.vm.findClass (ax_own M.1) = some m.cls ∧ (∀ w ∈ ax_tb, w.before args s = true) ∧ ax_Ns s
def ax_V (ks : ax_K) (D : va_G) (cA : Nat → ClassId) (q : Nat → Nat) (h : ax_H) (s : State) (H : Heap) (locs : List Loc) : Prop :=
  va_P D ax_cl (ax_ws ks q cA h) H ∧ va_D (ax_A ks q) (ax_ws ks q cA h) ∧ va_S (ax_A ks q) s.heap H locs
section AXS
variable {p : Program} {l : Launch} {e : Env} {R : Room} {s : State} {m : MethodId} {args : Array Value} {below : List Frame} {meth : Method} {c : Code} {H : Heap} {locs : List Loc} {Q : State → Prop}
variable {ks : ax_K} {D : va_G} {cA : Nat → ClassId} {q : Nat → Nat} {h : ax_H} {M : ax_M} {pc : Nat} {la : Array Slot} {ls : ax_L} {st rest : List Value} {x : Nat × ax_L × List Value × ax_H}
theorem ax_if1 (hx : p.tables.exec = Jvm.exec) {cc : ByteArray} (hb : c.code = cc) {k : Jvm.ClassFile.Cond} {off : Int} {tgt : Nat} {y : Int32} (hd : decode cc pc = .ok (.ifCond k off, 3)) (ht : (pc : Int) + off = (tgt : Int))
    (kk : W p l e R s m args below meth c H locs 0 0 Q (F0 m (if ax_cc k y 0 = true then tgt else pc + 3) la rest)) : W p l e R s m args below meth c H locs 0 0 Q (F0 m pc la (.int y :: rest)) := by
  cases hc : ax_cc k y 0 with
  | true =>
    rw [hc, if_pos rfl] at kk
    cases k <;> simp only [ax_cc, decide_eq_true_eq] at hc
    · exact lv_if_eq hx hb hd ht (fun _ => kk) (fun n => absurd hc n)
    · exact lv_if_ne hx hb hd ht (fun _ => kk) (fun n => absurd n hc)
    · exact lv_if_lt hx hb hd ht (fun _ => kk) (fun n => absurd hc n)
    · exact lv_if_ge hx hb hd ht (fun _ => kk) (fun n => absurd hc n)
    · exact lv_if_gt hx hb hd ht (fun _ => kk) (fun n => absurd hc n)
    · exact lv_if_le hx hb hd ht (fun _ => kk) (fun n => absurd hc n)
  | false =>
    rw [hc, if_neg (by decide)] at kk
    cases k <;> simp only [ax_cc, decide_eq_false_iff_not] at hc
    · exact lv_if_eq hx hb hd ht (fun n => absurd n hc) (fun _ => kk)
    · exact lv_if_ne hx hb hd ht (fun n => absurd n hc) (fun _ => kk)
    · exact lv_if_lt hx hb hd ht (fun n => absurd n hc) (fun _ => kk)
    · exact lv_if_ge hx hb hd ht (fun n => absurd n hc) (fun _ => kk)
    · exact lv_if_gt hx hb hd ht (fun n => absurd n hc) (fun _ => kk)
    · exact lv_if_le hx hb hd ht (fun n => absurd n hc) (fun _ => kk)
theorem ax_if2 (hx : p.tables.exec = Jvm.exec) {cc : ByteArray} (hb : c.code = cc) {k : Jvm.ClassFile.Cond} {off : Int} {tgt : Nat} {y z : Int32} (hd : decode cc pc = .ok (.if_icmp k off, 3)) (ht : (pc : Int) + off = (tgt : Int))
    (kk : W p l e R s m args below meth c H locs 0 0 Q (F0 m (if ax_cc k y z = true then tgt else pc + 3) la rest)) : W p l e R s m args below meth c H locs 0 0 Q (F0 m pc la (.int z :: .int y :: rest)) := by
  cases hc : ax_cc k y z with
  | true =>
    rw [hc, if_pos rfl] at kk
    cases k <;> simp only [ax_cc, decide_eq_true_eq] at hc
    · exact lv_icmp_eq hx hb hd ht (fun _ => kk) (fun n => absurd hc n)
    · exact lv_icmp_ne hx hb hd ht (fun _ => kk) (fun n => absurd n hc)
    · exact lv_icmp_lt hx hb hd ht (fun _ => kk) (fun n => absurd hc n)
    · exact lv_icmp_ge hx hb hd ht (fun _ => kk) (fun n => absurd hc n)
    · exact lv_icmp_gt hx hb hd ht (fun _ => kk) (fun n => absurd hc n)
    · exact lv_icmp_le hx hb hd ht (fun _ => kk) (fun n => absurd hc n)
  | false =>
    rw [hc, if_neg (by decide)] at kk
    cases k <;> simp only [ax_cc, decide_eq_false_iff_not] at hc
    · exact lv_icmp_eq hx hb hd ht (fun n => absurd n hc) (fun _ => kk)
    · exact lv_icmp_ne hx hb hd ht (fun n => absurd n hc) (fun _ => kk)
    · exact lv_icmp_lt hx hb hd ht (fun n => absurd n hc) (fun _ => kk)
    · exact lv_icmp_ge hx hb hd ht (fun n => absurd n hc) (fun _ => kk)
    · exact lv_icmp_gt hx hb hd ht (fun n => absurd n hc) (fun _ => kk)
    · exact lv_icmp_le hx hb hd ht (fun n => absurd n hc) (fun _ => kk)
end AXS
end
section
/-! the instructions that read or write a cell -/
section AXH
variable {p : Program} {l : Launch} {e : Env} {R : Room} {s : State} {m : MethodId} {args : Array Value} {below : List Frame} {meth : Method} {c : Code} {H : Heap} {locs : List Loc} {Q : State → Prop}
variable {ks : ax_K} {D : va_G} {cA : Nat → ClassId} {q : Nat → Nat} {h : ax_H} {M : ax_M} {pc : Nat} {la : Array Slot} {ls : ax_L} {st rest : List Value} {x : Nat × ax_L × List Value × ax_H}
theorem ax_gfW (C : ax_C p s m args meth c M) (hK : va_K D ax_cl (ax_tys cA) s) (hV : ax_V ks D cA q h s H locs) {j : Nat} (hd : decode M.2.2.1 pc = .ok (.getfield j, 3)) (hr : ax_gf ks M.1 j pc ls st h = some (.inl x))
    (kk : x.2.2.2 = h → x.2.1 = ls → W p l e R s m args below meth c H locs 0 0 Q (F0 m x.1 la (x.2.2.1.map (ax_cv q)))) : W p l e R s m args below meth c H locs 0 0 Q (F0 m pc la (st.map (ax_cv q))) := by
  obtain ⟨hx, hb, -, -, -, hown, hts, hN⟩ := C
  unfold ax_gf at hr
  split at hr
  · rename_i r rest
    split at hr
    · rename_i e he
      split at hr
      · rename_i hk
        cases hr
        obtain ⟨a1, a2, a3, a4⟩ := ax_flk_spec he
        have hw : (ax_ws ks q cA h)[r]? = some (q r, .inr (e.1, ax_fs q h e.1 r)) := ax_ws_at hk
        have kk := kk rfl rfl
        rcases a4 with ⟨-, a4⟩ | ⟨-, a4⟩
        · exact va_getN (T := ax_Tb e.1) hx hb hts (ax_inA a1) hown hK hV.1 r hw (ax_cl_at a1) e.2.1 a2 (va_Nw.use rfl (hN _ _ _ _ _ _ a4)) (fun x hx => by rw [a3] at hx; exact hx) (ax_fs_at a2) hd kk
        · exact va_get (T := ax_Tb e.1) hx hb hts (ax_inA a1) hown hK hV.1 r hw (ax_cl_at a1) e.2.1 a2 (hts _ a4) (fun x hx => by rw [a3] at hx; exact hx) (ax_fs_at a2) hd kk
      · cases hr
    · cases hr
  · cases hr
/-- a place of an object gets a value of its type -/
theorem ax_svP {ci r k : Nat} {ty : FieldType} {v : Value} {h' : ax_H} (hk : ks[r]? = some (0, ci)) (hn : k < ax_N ci) (hty : ax_ty ci k = ty) (hs : ax_sv ks h ty r k v = some h') :
    (ax_ws ks q cA h).set r (q r, .inr (ci, (ax_fs q h ci r).set k (ax_cv q v))) = ax_ws ks q cA h' ∧ narrow ty (ax_cv q v) = ax_cv q v ∧ fits ty (ax_cv q v) = true := by
  have key : ∀ {ce : va_E} {h1 : ax_H}, (∀ a kd, a ≠ r → ax_ce q cA h a kd = ax_ce q cA h1 a kd) → ax_cv q v = ax_cv q (ax_fv h1 (ax_ty ci k) r k) → (∀ j, j ≠ k → ax_fv h (ax_ty ci j) r j = ax_fv h1 (ax_ty ci j) r j) →
      (ax_ws ks q cA h).set r (q r, .inr (ci, (ax_fs q h ci r).set k (ax_cv q v))) = ax_ws ks q cA h1 := fun ho hv hj => ax_ws_set hk (by rw [ax_fs_set hn hv hj]; rfl) ho
  unfold ax_sv at hs
  split at hs
  · cases hs
    refine ⟨key (ce := .inr (0, [])) (fun a kd ha => ax_ce_I a kd ha) ?_ (fun j hj => ?_), rfl, rfl⟩
    · rw [hty]; simp [ax_fv, ax_upI]
    · unfold ax_fv; split <;> simp [ax_upI, hj]
  · cases hs
    refine ⟨key (ce := .inr (0, [])) (fun a kd ha => ax_ce_L a kd ha) ?_ (fun j hj => ?_), rfl, rfl⟩
    · rw [hty]; simp [ax_fv, ax_upL]
    · unfold ax_fv; split <;> simp [ax_upL, hj]
  · split at hs
    · cases hs
      refine ⟨key (ce := .inr (0, [])) (fun a kd ha => ax_ce_R a kd ha) ?_ (fun j hj => ?_), rfl, rfl⟩
      · rw [hty]; simp [ax_fv, ax_upR, va_rf]
      · unfold ax_fv; split <;> simp [ax_upR, hj]
    · cases hs
  · cases hs
theorem ax_pfW (C : ax_C p s m args meth c M) (hK : va_K D ax_cl (ax_tys cA) s) (hV : ax_V ks D cA q h s H locs) {j : Nat} (hd : decode M.2.2.1 pc = .ok (.putfield j, 3)) (hr : ax_pf ks M.1 j pc ls st h = some (.inl x))
    (kk : ∀ H' locs', ax_V ks D cA q x.2.2.2 s H' locs' → x.2.1 = ls → W p l e R s m args below meth c H' locs' 0 0 Q (F0 m x.1 la (x.2.2.1.map (ax_cv q)))) : W p l e R s m args below meth c H locs 0 0 Q (F0 m pc la (st.map (ax_cv q))) := by
  obtain ⟨hx, hb, -, -, -, hown, hts, hN⟩ := C
  unfold ax_pf at hr
  split at hr
  · rename_i v r rest
    split at hr
    · rename_i e he
      split at hr
      · rename_i hk
        obtain ⟨hk, hfin⟩ := hk
        cases hsv : ax_sv ks h (ax_ty e.1 e.2.1) r e.2.1 v with
        | none => rw [hsv] at hr; cases hr
        | some h' =>
          rw [hsv] at hr
          cases hr
          obtain ⟨a1, a2, a3, a4⟩ := ax_flk_spec he
          obtain ⟨b1, b2, b3⟩ := ax_svP (q := q) (cA := cA) hk a2 rfl hsv
          have hw : (ax_ws ks q cA h)[r]? = some (q r, .inr (e.1, ax_fs q h e.1 r)) := ax_ws_at hk
          rcases a4 with ⟨-, a4⟩ | ⟨-, a4⟩
          · refine va_putN (T := ax_Tb e.1) hx hb hts (ax_inA a1) (ax_ty e.1) (ax_tyA a1) (ax_nmA a1) hown hK hV.1 hV.2.1 hV.2.2 r hw (ax_cl_at a1) e.2.1 a2 (va_Nw.use rfl (hN _ _ _ _ _ _ a4)) (fun x hx => by rw [a3] at hx; exact hx) hfin (ax_tyA a1 _ a2) b2 b3 (by rw [ax_fs_len]; exact a2) hd (fun H1 locs1 hP hD hS => ?_)
            rw [b1] at hP hD
            exact kk H1 locs1 ⟨hP, hD, hS⟩ rfl
          · refine va_put (T := ax_Tb e.1) hx hb hts (ax_inA a1) (ax_ty e.1) (ax_tyA a1) (ax_nmA a1) hown hK hV.1 hV.2.1 hV.2.2 r hw (ax_cl_at a1) e.2.1 a2 (hts _ a4) (fun x hx => by rw [a3] at hx; exact hx) hfin (ax_tyA a1 _ a2) b2 b3 (by rw [ax_fs_len]; exact a2) hd (fun H1 locs1 hP hD hS => ?_)
            rw [b1] at hP hD
            exact kk H1 locs1 ⟨hP, hD, hS⟩ rfl
      · cases hr
    · cases hr
  · cases hr
theorem ax_lenW (C : ax_C p s m args meth c M) (hK : va_K D ax_cl (ax_tys cA) s) (hV : ax_V ks D cA q h s H locs) (hd : decode M.2.2.1 pc = .ok (.arraylength, 1)) (hr : ax_len ks pc ls st h = some (.inl x))
    (kk : x.2.2.2 = h → x.2.1 = ls → W p l e R s m args below meth c H locs 0 0 Q (F0 m x.1 la (x.2.2.1.map (ax_cv q)))) : W p l e R s m args below meth c H locs 0 0 Q (F0 m pc la (st.map (ax_cv q))) := by
  obtain ⟨hx, hb, -, -, -, hown, hts, hN⟩ := C
  unfold ax_len at hr
  split at hr
  · rename_i r rest
    split at hr
    · rename_i t n hk
      split at hr
      · rename_i ht
        cases hr
        have hw := ax_ws_at (q := q) (cA := cA) (h := h) hk
        have kk := kk rfl rfl
        match t, ht, hw with
        | 1, _, hw => exact va_alen hx hb hK hV.1 r 0 hw (ty := .int) rfl rfl hd kk
        | 2, _, hw => exact va_alen hx hb hK hV.1 r 1 hw (ty := .long) rfl rfl hd kk
        | 3, _, hw => exact va_alen hx hb hK hV.1 r 2 hw (ty := .boolean) rfl rfl hd kk
        | 4, _, hw => exact va_alen hx hb hK hV.1 r 3 hw (ty := .object "PackageRules$Unit") rfl rfl hd kk
        | 5, _, hw => exact va_alen hx hb hK hV.1 r 4 hw (ty := .object "PackageRules$Rule") rfl rfl hd kk
        | 0, ht, _ => exact absurd ht.1 (by omega)
        | n + 6, ht, _ => exact absurd ht.2 (by omega)
      · cases hr
    · cases hr
  · cases hr
theorem ax_alW (C : ax_C p s m args meth c M) (hK : va_K D ax_cl (ax_tys cA) s) (hV : ax_V ks D cA q h s H locs) {t : Nat} {i : Instr} (hi : (t = 1 ∧ i = .iaload) ∨ (t = 2 ∧ i = .laload) ∨ (t = 3 ∧ i = .baload) ∨ (t = 4 ∧ i = .aaload)) (hd : decode M.2.2.1 pc = .ok (i, 1)) (hr : ax_al ks t pc ls st h = some (.inl x))
    (kk : x.2.2.2 = h → x.2.1 = ls → W p l e R s m args below meth c H locs 0 0 Q (F0 m x.1 la (x.2.2.1.map (ax_cv q)))) : W p l e R s m args below meth c H locs 0 0 Q (F0 m pc la (st.map (ax_cv q))) := by
  obtain ⟨hx, hb, -, -, -, hown, hts, hN⟩ := C
  unfold ax_al at hr
  split at hr
  · rename_i j r rest
    split at hr
    · rename_i t' n hk
      split at hr
      · rename_i ht
        obtain ⟨ht, hin⟩ := ht
        cases hr
        have hw := ax_ws_at (q := q) (cA := cA) (h := h) hk
        have hin := ax_in_vp hin
        have kk := kk rfl rfl
        rcases hi with ⟨rfl, rfl⟩ | ⟨rfl, rfl⟩ | ⟨rfl, rfl⟩ | ⟨rfl, rfl⟩
        · have ht : t' = 1 := by omega
          subst ht
          exact va_iald hx hb hK hV.1 r 0 hw rfl hin hd kk
        · have ht : t' = 2 := by omega
          subst ht
          exact va_lald hx hb hK hV.1 r 1 hw rfl hin hd kk
        · have ht : t' = 3 := by omega
          subst ht
          exact va_zald hx hb hK hV.1 r 2 hw rfl hin hd kk
        · have e1 : ax_cv q (va_rf (h.2.2 r j.toNatClampNeg)) = va_rf ((h.2.2 r j.toNatClampNeg).map q) := ax_rf q _
          have kk : W p l e R s m args below meth c H locs 0 0 Q (F0 m (pc + 1) la (va_rf ((h.2.2 r j.toNatClampNeg).map q) :: rest.map (ax_cv q))) := by rw [← e1]; exact kk
          rcases ht with ht | ⟨-, ht⟩
          · subst ht
            exact va_aldq hx hb hK hV.1 r 3 hw (C := "PackageRules$Unit") rfl hin hd kk
          · subst ht
            exact va_aldq hx hb hK hV.1 r 4 hw (C := "PackageRules$Rule") rfl hin hd kk
      · cases hr
    · cases hr
  · cases hr
theorem ax_asW (C : ax_C p s m args meth c M) (hK : va_K D ax_cl (ax_tys cA) s) (hV : ax_V ks D cA q h s H locs) {t : Nat} {i : Instr} (hi : (t = 1 ∧ i = .iastore) ∨ (t = 2 ∧ i = .lastore) ∨ (t = 3 ∧ i = .bastore) ∨ (t = 4 ∧ i = .aastore)) (hd : decode M.2.2.1 pc = .ok (i, 1)) (hr : ax_as ks t pc ls st h = some (.inl x))
    (kk : ∀ H' locs', ax_V ks D cA q x.2.2.2 s H' locs' → x.2.1 = ls → W p l e R s m args below meth c H' locs' 0 0 Q (F0 m x.1 la (x.2.2.1.map (ax_cv q)))) : W p l e R s m args below meth c H locs 0 0 Q (F0 m pc la (st.map (ax_cv q))) := by
  obtain ⟨hx, hb, -, -, -, hown, hts, hN⟩ := C
  unfold ax_as at hr
  split at hr
  · rename_i v j r rest
    split at hr
    · rename_i t' n hk
      split at hr
      · rename_i ht
        obtain ⟨ht, hin⟩ := ht
        subst ht
        have hw := ax_ws_at (q := q) (cA := cA) (h := h) hk
        have hin := ax_in_vp hin
        split at hr
        · rename_i y
          cases hr
          rcases hi with ⟨-, rfl⟩ | ⟨h0, -⟩ | ⟨h0, -⟩ | ⟨h0, -⟩
          · refine va_iast hx hb hK hV.1 hV.2.1 hV.2.2 r 0 hw rfl hin hd (fun H1 locs1 hP hD hS => ?_)
            have b1 : (ax_ws ks q cA h).set r (q r, .inl (cA 1, n, .inl (upd (h.1 r) j.toNatClampNeg y))) = ax_ws ks q cA (ax_upI h r j.toNatClampNeg y) := ax_ws_set hk (by
              show _ = Sum.inl (cA 1, n, Sum.inl ((ax_upI h r j.toNatClampNeg y).1 r))
              congr 4; funext b; simp [upd, ax_upI]) (fun a kd ha => ax_ce_I a kd ha)
            exact kk H1 locs1 ⟨by rw [← b1]; exact hP, by rw [← b1]; exact hD, hS⟩ rfl
          · cases h0
          · cases h0
          · cases h0
        · rename_i y
          cases hr
          rcases hi with ⟨h0, -⟩ | ⟨-, rfl⟩ | ⟨h0, -⟩ | ⟨h0, -⟩
          · cases h0
          · refine va_last hx hb hK hV.1 hV.2.1 hV.2.2 r 1 hw rfl hin hd (fun H1 locs1 hP hD hS => ?_)
            have b1 : (ax_ws ks q cA h).set r (q r, .inl (cA 2, n, .inr (.inl (vp_updL (h.2.1 r) j.toNatClampNeg y)))) = ax_ws ks q cA (ax_upL h r j.toNatClampNeg y) := ax_ws_set hk (by
              show _ = Sum.inl (cA 2, n, Sum.inr (Sum.inl ((ax_upL h r j.toNatClampNeg y).2.1 r)))
              congr 5; funext b; simp [vp_updL, ax_upL]) (fun a kd ha => ax_ce_L a kd ha)
            exact kk H1 locs1 ⟨by rw [← b1]; exact hP, by rw [← b1]; exact hD, hS⟩ rfl
          · cases h0
          · cases h0
        · rename_i y
          cases hr
          rcases hi with ⟨h0, -⟩ | ⟨h0, -⟩ | ⟨-, rfl⟩ | ⟨h0, -⟩
          · cases h0
          · cases h0
          · refine va_zast hx hb hK hV.1 hV.2.1 hV.2.2 r 2 hw rfl hin hd (fun H1 locs1 hP hD hS => ?_)
            have b1 : (ax_ws ks q cA h).set r (q r, .inl (cA 3, n, .inl (upd (h.1 r) j.toNatClampNeg (vp_nar .boolean y)))) = ax_ws ks q cA (ax_upI h r j.toNatClampNeg (vp_nar .boolean y)) := ax_ws_set hk (by
              show _ = Sum.inl (cA 3, n, Sum.inl ((ax_upI h r j.toNatClampNeg (vp_nar .boolean y)).1 r))
              congr 4; funext b; simp [upd, ax_upI]) (fun a kd ha => ax_ce_I a kd ha)
            exact kk H1 locs1 ⟨by rw [← b1]; exact hP, by rw [← b1]; exact hD, hS⟩ rfl
          · cases h0
        · rename_i a
          split at hr
          · rename_i ha
            cases hr
            rcases hi with ⟨h0, -⟩ | ⟨h0, -⟩ | ⟨h0, -⟩ | ⟨-, rfl⟩
            · cases h0
            · cases h0
            · cases h0
            · have hw2 := ax_ws_at (q := q) (cA := cA) (h := h) ha
              refine va_astq hx hb hK hV.1 hV.2.1 hV.2.2 r 3 a 3 hw rfl hw2 (ax_cl_at (ci := 3) (by omega)) hin hd (fun H1 locs1 hP hD hS => ?_)
              have b1 : (ax_ws ks q cA h).set r (q r, .inl (cA 4, n, .inr (.inr (.inr (.inr (va_up (fun k => (h.2.2 r k).map q) j.toNatClampNeg (some (q a)))))))) = ax_ws ks q cA (ax_upR h r j.toNatClampNeg (some a)) := ax_ws_set hk (by
                show _ = Sum.inl (cA 4, n, Sum.inr (Sum.inr (Sum.inr (Sum.inr (fun k => ((ax_upR h r j.toNatClampNeg (some a)).2.2 r k).map q)))))
                congr 7; funext b; by_cases hb : b = j.toNatClampNeg <;> simp [va_up, ax_upR, hb]) (fun a kd ha => ax_ce_R a kd ha)
              exact kk H1 locs1 ⟨by rw [← b1]; exact hP, by rw [← b1]; exact hD, hS⟩ rfl
          · cases hr
        · cases hr
      · cases hr
    · cases hr
  · cases hr
end AXH
end
section
/-! every instruction -/
section AXT
variable {p : Program} {l : Launch} {e : Env} {R : Room} {s : State} {m : MethodId} {args : Array Value} {below : List Frame} {meth : Method} {c : Code} {H : Heap} {locs : List Loc} {Q : State → Prop}
variable {ks : ax_K} {D : va_G} {cA : Nat → ClassId} {q : Nat → Nat} {h : ax_H} {M : ax_M} {pc : Nat} {la : Array Slot} {ls : ax_L} {st rest : List Value} {x : Nat × ax_L × List Value × ax_H}
theorem ax_const_mem : Jvm.Cond.constantLong "PackageRulesModel" 165 64 ∈ ax_tb := List.mem_filter.mpr ⟨List.mem_of_getElem? (i := 914) (by decide +kernel), rfl⟩
theorem ax_min_mem : Jvm.Cond.methodLink "PackageRules$UnitReader" 153 Lib.Math.min.name ∈ ax_tb ∧ Jvm.Cond.static Lib.Math.min.name ∈ ax_tb ∧ Jvm.Cond.initialized "java/lang/Math" ∈ ax_tb ∧ Jvm.Cond.code Lib.Math.min.name Lib.Math.min.code 2 (some .int) ∈ ax_tb :=
  ⟨List.mem_filter.mpr ⟨List.mem_of_getElem? (i := 448) (by decide +kernel), rfl⟩, List.mem_filter.mpr ⟨List.mem_of_getElem? (i := 449) (by decide +kernel), rfl⟩, List.mem_filter.mpr ⟨List.mem_of_getElem? (i := 92) (by decide +kernel), rfl⟩, List.mem_filter.mpr ⟨List.mem_of_getElem? (i := 450) (by decide +kernel), rfl⟩⟩
set_option maxHeartbeats 4000000 in
theorem ax_stepW (C : ax_C p s m args meth c M) (hK : va_K D ax_cl (ax_tys cA) s) (hR : 1 ≤ R.frames ∧ 32 ≤ R.locals) (hV : ax_V ks D cA q h s H locs) (hl : ax_lr q la M.2.2.2.1 ls) {i : Instr} {len : Nat} (hd : decode M.2.2.1 pc = .ok (i, len)) (hr : ax_ex ks M pc ls st h i len = some (.inl x))
    (kk : ∀ H' locs' la', ax_V ks D cA q x.2.2.2 s H' locs' → ax_lr q la' M.2.2.2.1 x.2.1 → W p l e R s m args below meth c H' locs' 0 0 Q (F0 m x.1 la' (x.2.2.1.map (ax_cv q)))) : W p l e R s m args below meth c H locs 0 0 Q (F0 m pc la (st.map (ax_cv q))) := by
  have C0 := C
  obtain ⟨hx, hb, hml, hret, hlocks, hown, hts, hN⟩ := C
  unfold ax_ex at hr
  split at hr
  · obtain ⟨st1, h1, rfl⟩ := ax_go_inv hr
    cases h1
    refine lv_iconst hx hb hd rfl ?_
    exact kk H locs la hV hl
  · obtain ⟨st1, h1, rfl⟩ := ax_go_inv hr
    cases h1
    refine lv_bipush hx hb hd rfl ?_
    exact kk H locs la hV hl
  · obtain ⟨st1, h1, rfl⟩ := ax_go_inv hr
    cases h1
    refine lv_sipush hx hb hd rfl ?_
    exact kk H locs la hV hl
  · obtain ⟨st1, h1, rfl⟩ := ax_go_inv hr
    cases h1
    refine lv_lconst hx hb hd rfl ?_
    exact kk H locs la hV hl
  · split at hr
    · rename_i hc
      obtain ⟨st1, h1, rfl⟩ := ax_go_inv hr
      cases h1
      obtain ⟨h5, rfl⟩ := hc
      rw [h5] at hown
      refine lv_ldc2 hx hb hown (hts _ ax_const_mem) hd ?_
      exact kk H locs la hV hl
    · cases hr
  · obtain ⟨st1, h1, rfl⟩ := ax_go_inv hr
    obtain ⟨y, h2, rfl⟩ := ax_ldi_inv h1
    refine lv_iload_n hx hb hd rfl (hl.at h2) ?_
    exact kk H locs la hV hl
  · obtain ⟨st1, h1, rfl⟩ := ax_go_inv hr
    obtain ⟨y, h2, rfl⟩ := ax_ldi_inv h1
    refine lv_iload hx hb hd (hl.at h2) ?_
    exact kk H locs la hV hl
  · obtain ⟨st1, h1, rfl⟩ := ax_go_inv hr
    obtain ⟨y, h2, rfl⟩ := ax_ldl_inv h1
    refine lv_lload_n hx hb hd rfl (hl.at h2) ?_
    exact kk H locs la hV hl
  · obtain ⟨st1, h1, rfl⟩ := ax_go_inv hr
    obtain ⟨y, h2, rfl⟩ := ax_ldl_inv h1
    refine lv_lload hx hb hd (hl.at h2) ?_
    exact kk H locs la hV hl
  · obtain ⟨st1, h1, rfl⟩ := ax_go_inv hr
    obtain ⟨y, h2, rfl⟩ := ax_lda_inv h1
    refine lv_aload_n hx hb hd rfl (hl.at h2) ?_
    exact kk H locs la hV hl
  · unfold ax_sti at hr
    split at hr
    · split at hr
      · rename_i hi
        cases hr
        rw [hl.1] at hi
        refine lv_istore_n hx hb hd rfl hl.2 hi rfl (fun la1 h1 => ?_)
        exact kk H locs la1 hV (ax_lr.s1 hl.1 hi h1)
      · cases hr
    · cases hr
  · unfold ax_sti at hr
    split at hr
    · split at hr
      · rename_i hi
        cases hr
        rw [hl.1] at hi
        refine lv_istore hx hb hd hl.2 hi rfl (fun la1 h1 => ?_)
        exact kk H locs la1 hV (ax_lr.s1 hl.1 hi h1)
      · cases hr
    · cases hr
  · unfold ax_stl at hr
    split at hr
    · split at hr
      · rename_i hi
        cases hr
        rw [hl.1] at hi
        refine lv_lstore_n hx hb hd rfl hl.2 hi rfl (fun la1 h1 => ?_)
        exact kk H locs la1 hV (ax_lr.s2 hl.1 hi h1)
      · cases hr
    · cases hr
  · unfold ax_stl at hr
    split at hr
    · split at hr
      · rename_i hi
        cases hr
        rw [hl.1] at hi
        refine lv_lstore hx hb hd hl.2 hi rfl (fun la1 h1 => ?_)
        exact kk H locs la1 hV (ax_lr.s2 hl.1 hi h1)
      · cases hr
    · cases hr
  · unfold ax_sta at hr
    split at hr
    · split at hr
      · rename_i hi
        cases hr
        rw [hl.1] at hi
        refine lv_astore_n hx hb hd rfl hl.2 hi rfl (fun la1 h1 => ?_)
        exact kk H locs la1 hV (ax_lr.s1 hl.1 hi h1)
      · cases hr
    · cases hr
  · unfold ax_inc at hr
    split at hr
    · rename_i y hy
      cases hr
      have hi := (List.getElem?_eq_some_iff.mp hy).1
      rw [hl.1] at hi
      obtain ⟨k, hk⟩ := List.getElem?_of_mem (ax_pr_mem q ls 0 _ _ hy)
      rw [Nat.zero_add] at hk
      refine lv_iinc hx hb hd hl.2 hk rfl hi rfl (fun la1 h1 => ?_)
      exact kk H locs la1 hV (ax_lr.s1 hl.1 hi h1)
    · cases hr
  · obtain ⟨st1, h1, rfl⟩ := ax_go_inv hr
    obtain ⟨y, z, v, r, rfl, h2, rfl⟩ := ax_i2_inv h1
    cases h2
    refine lv_iadd hx hb hd ?_
    exact kk H locs la hV hl
  · obtain ⟨st1, h1, rfl⟩ := ax_go_inv hr
    obtain ⟨y, z, v, r, rfl, h2, rfl⟩ := ax_i2_inv h1
    cases h2
    refine lv_isub hx hb hd ?_
    exact kk H locs la hV hl
  · obtain ⟨st1, h1, rfl⟩ := ax_go_inv hr
    obtain ⟨y, z, v, r, rfl, h2, rfl⟩ := ax_i2_inv h1
    cases h2
    refine lv_imul hx hb hd ?_
    exact kk H locs la hV hl
  · obtain ⟨st1, h1, rfl⟩ := ax_go_inv hr
    obtain ⟨y, z, v, r, rfl, h2, rfl⟩ := ax_i2_inv h1
    cases h2
    refine lv_iand hx hb hd ?_
    exact kk H locs la hV hl
  · obtain ⟨st1, h1, rfl⟩ := ax_go_inv hr
    obtain ⟨y, z, v, r, rfl, h2, rfl⟩ := ax_i2_inv h1
    cases h2
    refine lv_ior hx hb hd ?_
    exact kk H locs la hV hl
  · obtain ⟨st1, h1, rfl⟩ := ax_go_inv hr
    obtain ⟨y, z, v, r, rfl, h2, rfl⟩ := ax_i2_inv h1
    split at h2
    · cases h2
    · rename_i hne
      cases h2
      refine lv_idiv hx hb hd hne ?_
      exact kk H locs la hV hl
  · obtain ⟨st1, h1, rfl⟩ := ax_go_inv hr
    obtain ⟨y, z, v, r, rfl, h2, rfl⟩ := ax_i2_inv h1
    split at h2
    · cases h2
    · rename_i hne
      cases h2
      refine lv_irem hx hb hd hne ?_
      exact kk H locs la hV hl
  · obtain ⟨st1, h1, rfl⟩ := ax_go_inv hr
    obtain ⟨y, z, v, r, rfl, h2, rfl⟩ := ax_i2_inv h1
    cases h2
    refine lv_ishl hx hb hd ?_
    exact kk H locs la hV hl
  · obtain ⟨st1, h1, rfl⟩ := ax_go_inv hr
    obtain ⟨y, z, v, r, rfl, h2, rfl⟩ := ax_i2_inv h1
    cases h2
    refine lv_ishr hx hb hd ?_
    exact kk H locs la hV hl
  · obtain ⟨st1, h1, rfl⟩ := ax_go_inv hr
    obtain ⟨y, z, v, r, rfl, h2, rfl⟩ := ax_i2_inv h1
    cases h2
    refine lv_iushr hx hb hd rfl ?_
    exact kk H locs la hV hl
  · obtain ⟨st1, h1, rfl⟩ := ax_go_inv hr
    obtain ⟨y, z, v, r, rfl, h2, rfl⟩ := ax_l2_inv h1
    cases h2
    refine lv_ladd hx hb hd ?_
    exact kk H locs la hV hl
  · obtain ⟨st1, h1, rfl⟩ := ax_go_inv hr
    obtain ⟨y, z, v, r, rfl, h2, rfl⟩ := ax_l2_inv h1
    cases h2
    refine lv_lsub hx hb hd ?_
    exact kk H locs la hV hl
  · obtain ⟨st1, h1, rfl⟩ := ax_go_inv hr
    obtain ⟨y, z, v, r, rfl, h2, rfl⟩ := ax_l2_inv h1
    cases h2
    refine lv_lmul hx hb hd ?_
    exact kk H locs la hV hl
  · obtain ⟨st1, h1, rfl⟩ := ax_go_inv hr
    obtain ⟨y, z, v, r, rfl, h2, rfl⟩ := ax_l2_inv h1
    cases h2
    refine lv_land hx hb hd ?_
    exact kk H locs la hV hl
  · obtain ⟨st1, h1, rfl⟩ := ax_go_inv hr
    obtain ⟨y, z, v, r, rfl, h2, rfl⟩ := ax_l2_inv h1
    cases h2
    refine lv_lor hx hb hd ?_
    exact kk H locs la hV hl
  · obtain ⟨st1, h1, rfl⟩ := ax_go_inv hr
    obtain ⟨y, z, v, r, rfl, h2, rfl⟩ := ax_l2_inv h1
    split at h2
    · cases h2
    · rename_i hne
      cases h2
      refine lv_ldiv hx hb hd hne ?_
      exact kk H locs la hV hl
  · obtain ⟨st1, h1, rfl⟩ := ax_go_inv hr
    obtain ⟨y, z, v, r, rfl, h2, rfl⟩ := ax_l2_inv h1
    split at h2
    · cases h2
    · rename_i hne
      cases h2
      refine lv_lrem hx hb hd hne ?_
      exact kk H locs la hV hl
  · obtain ⟨st1, h1, rfl⟩ := ax_go_inv hr
    obtain ⟨y, z, v, r, rfl, h2, rfl⟩ := ax_l2_inv h1
    cases h2
    refine W.lcmp hx hb hd ?_
    exact kk H locs la hV hl
  · obtain ⟨st1, h1, rfl⟩ := ax_go_inv hr
    obtain ⟨y, z, v, r, rfl, h2, rfl⟩ := ax_li_inv h1
    cases h2
    refine lv_lshl hx hb hd rfl ?_
    exact kk H locs la hV hl
  · obtain ⟨st1, h1, rfl⟩ := ax_go_inv hr
    obtain ⟨y, z, v, r, rfl, h2, rfl⟩ := ax_li_inv h1
    cases h2
    refine lv_lushr hx hb hd rfl ?_
    exact kk H locs la hV hl
  · obtain ⟨st1, h1, rfl⟩ := ax_go_inv hr
    obtain ⟨y, v, r, rfl, h2, rfl⟩ := ax_i1_inv h1
    cases h2
    refine lv_i2l hx hb hd rfl ?_
    exact kk H locs la hV hl
  · obtain ⟨st1, h1, rfl⟩ := ax_go_inv hr
    obtain ⟨y, v, r, rfl, h2, rfl⟩ := ax_l1_inv h1
    cases h2
    refine lv_l2i hx hb hd rfl ?_
    exact kk H locs la hV hl
  · obtain ⟨st1, h1, rfl⟩ := ax_go_inv hr
    unfold ax_du at h1
    split at h1
    · split at h1
      · rename_i hc
        cases h1
        refine lv_dup hx hb hd (by rw [ax_cat]; exact hc) ?_
        exact kk H locs la hV hl
      · cases h1
    · cases h1
  · obtain ⟨st1, h1, rfl⟩ := ax_go_inv hr
    unfold ax_d2 at h1
    split at h1
    · split at h1
      · rename_i hc
        cases h1
        refine lv_dup2_11 hx hb hd (by rw [ax_cat]; exact hc.1) (by rw [ax_cat]; exact hc.2) ?_
        exact kk H locs la hV hl
      · cases h1
    · cases h1
  · obtain ⟨st1, h1, rfl⟩ := ax_go_inv hr
    unfold ax_po at h1
    split at h1
    · split at h1
      · rename_i hc
        cases h1
        refine lv_pop hx hb hd (by rw [ax_cat]; exact hc) ?_
        exact kk H locs la hV hl
      · cases h1
    · cases h1
  · unfold ax_br1 at hr
    split at hr
    · split at hr
      · rename_i h0
        cases hr
        refine ax_if1 hx hb hd (Int.toNat_of_nonneg h0).symm ?_
        exact kk H locs la hV hl
      · cases hr
    · cases hr
  · unfold ax_br2 at hr
    split at hr
    · split at hr
      · rename_i h0
        cases hr
        refine ax_if2 hx hb hd (Int.toNat_of_nonneg h0).symm ?_
        exact kk H locs la hV hl
      · cases hr
    · cases hr
  · obtain ⟨ht, rfl⟩ := ax_jm_inv hr
    exact lv_goto hx hb hd ht (kk H locs la hV hl)
  · unfold ax_lsw at hr
    split at hr
    · split at hr
      · rename_i hp
        obtain ⟨ht, rfl⟩ := ax_jm_inv hr
        exact lv_lookup hx hb hd hp rfl ht (kk H locs la hV hl)
      · cases hr
    · cases hr
  · unfold ax_tsw at hr
    split at hr
    · split at hr
      · rename_i ho
        obtain ⟨ht, rfl⟩ := ax_jm_inv hr
        exact lv_tableOut hx hb hd ho ht (kk H locs la hV hl)
      · rename_i ho
        split at hr
        · rename_i off hoff
          obtain ⟨ht, rfl⟩ := ax_jm_inv hr
          exact lv_tableIn hx hb hd (fun n => ho (Or.inl n)) (fun n => ho (Or.inr n)) hoff ht (kk H locs la hV hl)
        · cases hr
    · cases hr
  · exact ax_gfW C0 hK hV hd hr (fun e1 e2 => kk H locs la (by rw [e1]; exact hV) (by rw [e2]; exact hl))
  · exact ax_pfW C0 hK hV hd hr (fun H1 locs1 hV1 e2 => kk H1 locs1 la hV1 (by rw [e2]; exact hl))
  · exact ax_alW C0 hK hV (Or.inl ⟨rfl, rfl⟩) hd hr (fun e1 e2 => kk H locs la (by rw [e1]; exact hV) (by rw [e2]; exact hl))
  · exact ax_alW C0 hK hV (Or.inr (Or.inl ⟨rfl, rfl⟩)) hd hr (fun e1 e2 => kk H locs la (by rw [e1]; exact hV) (by rw [e2]; exact hl))
  · exact ax_alW C0 hK hV (Or.inr (Or.inr (Or.inl ⟨rfl, rfl⟩))) hd hr (fun e1 e2 => kk H locs la (by rw [e1]; exact hV) (by rw [e2]; exact hl))
  · exact ax_alW C0 hK hV (Or.inr (Or.inr (Or.inr ⟨rfl, rfl⟩))) hd hr (fun e1 e2 => kk H locs la (by rw [e1]; exact hV) (by rw [e2]; exact hl))
  · exact ax_asW C0 hK hV (Or.inl ⟨rfl, rfl⟩) hd hr (fun H1 locs1 hV1 e2 => kk H1 locs1 la hV1 (by rw [e2]; exact hl))
  · exact ax_asW C0 hK hV (Or.inr (Or.inl ⟨rfl, rfl⟩)) hd hr (fun H1 locs1 hV1 e2 => kk H1 locs1 la hV1 (by rw [e2]; exact hl))
  · exact ax_asW C0 hK hV (Or.inr (Or.inr (Or.inl ⟨rfl, rfl⟩))) hd hr (fun H1 locs1 hV1 e2 => kk H1 locs1 la hV1 (by rw [e2]; exact hl))
  · exact ax_asW C0 hK hV (Or.inr (Or.inr (Or.inr ⟨rfl, rfl⟩))) hd hr (fun H1 locs1 hV1 e2 => kk H1 locs1 la hV1 (by rw [e2]; exact hl))
  · exact ax_lenW C0 hK hV hd hr (fun e1 e2 => kk H locs la (by rw [e1]; exact hV) (by rw [e2]; exact hl))
  · exact (ax_iv_no hr).elim
  · split at hr
    · rename_i hm
      obtain ⟨h5, rfl⟩ := hm
      rw [h5] at hown
      unfold ax_mi at hr
      split at hr
      · split at hr
        · rename_i hc
          cases hr
          exact va_mmin hx hb (hml.trans (hl.2.1.symm)) hown (hts _ ax_min_mem.1) (hts _ ax_min_mem.2.1) (hts _ ax_min_mem.2.2.1) (hts _ ax_min_mem.2.2.2) hR.1 (by rw [ax_cats]; unfold ax_ct at hc; omega) (Nat.zero_le _) (Nat.zero_le _) hd (kk H locs la hV hl)
        · cases hr
      · cases hr
    · exact (ax_is_no hr).elim
  · exact (ax_ri_no hr).elim
  · exact (ax_rl_no hr).elim
  · exact (ax_rv_no hr).elim
  · cases hr
end AXT
end
section
/-! a run of the plain machine is a run of the machine; a method's contract out of a run -/
def ax_room (d : Nat) : Room := { frames := d + 1, cells := 0, slots := 0, locals := 64 * (d + 1) }
def ax_wM (M : ax_M) : List Jvm.Cond := Jvm.Cond.code M.2.1 M.2.2.1 M.2.2.2.1 M.2.2.2.2 :: ax_tb
def ax_okM (M : ax_M) : Prop := Jvm.Cond.code M.2.1 M.2.2.1 M.2.2.2.1 M.2.2.2.2 ∈ ax_tb ∧ M.2.1.cls = ax_own M.1 ∧ plainName M.2.1.cls = true
def ax_Q (ks : ax_K) (D : va_G) (cA : Nat → ClassId) (q : Nat → Nat) (v : Option Value) (h : ax_H) : Array Value → State → Outcome → State → Prop := fun _ st oc t => oc = .returned (v.map (ax_cv q)) ∧ ax_W ks D cA q h t ∧ va_F (ax_A ks q) st t
def ax_Sim (l : Launch) (ks : ax_K) (D : va_G) (cA : Nat → ClassId) (q : Nat → Nat) (n : Nat) : Prop :=
  ∀ (d : Nat) (M : ax_M) (pc : Nat) (ls : ax_L) (st : List Value) (h : ax_H) (v : Option Value) (h' : ax_H), ax_run ks n d M pc ls st h = some (v, h') → ∀ (p : Program) (e : Env) (s : State) (m : MethodId) (args : Array Value) (below : List Frame) (meth : Method) (c : Code) (H : Heap) (locs : List Loc) (la : Array Slot),
    ax_C p s m args meth c M → va_K D ax_cl (ax_tys cA) s → ax_V ks D cA q h s H locs → ax_lr q la M.2.2.2.1 ls →
    W p l e (ax_room d) s m args below meth c H locs 0 0 (MQ below (ax_Q ks D cA q v h') args s 0 0 (ax_A ks q)) (F0 m pc la (st.map (ax_cv q)))
theorem ax_blind {ks : ax_K} {D : va_G} {cA : Nat → ClassId} {q : Nat → Nat} {h : ax_H} {av : List Value} : FrameBlind (va_Pc av (ax_W ks D cA q h)) := by
  intro a U g mk hq
  obtain ⟨q0, qP, qK, qD, qN⟩ := hq
  exact ⟨q0, qP, va_K.moved (u := U) (U := U.calling g mk a) (Vm.Alike.refl U.vm) qK, qD, ax_Ns.same rfl qN⟩
theorem ax_goodT (ws : List Jvm.Cond) (h : ∀ w ∈ ws, w ∈ ax_tb) : GoodIn ax_tb ws := fun w hw => ⟨h w hw, good_of_word (List.mem_filter.mp (h w hw)).2⟩
/-- the contract of a method out of a run of it -/
theorem ax_met_of {l : Launch} {ks : ax_K} {D : va_G} {cA : Nat → ClassId} {q : Nat → Nat} {n : Nat} (IH : ax_Sim l ks D cA q n) {d : Nat} {M : ax_M} (hM : ax_okM M) {as : List Value} (ha : (ax_fl as).length ≤ M.2.2.2.1) {h h' : ax_H} {v : Option Value} (hr : ax_run ks n d M 0 (ax_en M.2.2.2.1 as) [] h = some (v, h')) :
    Met l M.2.1 (ax_wM M) (ax_room d) (va_Pc (as.map (ax_cv q)) (ax_W ks D cA q h)) (ax_Q ks D cA q v h') 0 0 (ax_A ks q) := by
  refine Met.ofW (cc := M.2.2.1) (maxL := M.2.2.2.1) (ret := M.2.2.2.2) hM.2.2 rfl ?_
  intro p e s m args below meth c s₁ B hml hv
  obtain ⟨rfl, hP, hK, hD, hN⟩ := hv
  have hts := atoms_spec (ws := ax_wM M) B.pre
  have hown : s.vm.findClass M.2.1.cls = some m.cls := findClass_of_methodNamed B.named
  rw [hM.2.1] at hown
  rw [lg_entry_eq]
  exact IH d M 0 _ [] h v h' hr p e s m _ below meth c s.heap [] _ ⟨B.exec, B.bytes, hml, B.returns, B.notSynchronized, hown, fun w hw => hts w (List.mem_cons_of_mem _ hw), hN⟩ hK ⟨hP, hD, va_S.rf⟩ (ax_lr_en q as ha)
section AXR
variable {p : Program} {l : Launch} {e : Env} {R : Room} {s : State} {m : MethodId} {args : Array Value} {below : List Frame} {meth : Method} {c : Code} {H : Heap} {locs : List Loc} {Q : State → Prop}
variable {ks : ax_K} {D : va_G} {cA : Nat → ClassId} {q : Nat → Nat} {h h' : ax_H} {pc : Nat} {la : Array Slot} {st0 rest : List Value} {v : Option Value} {a : Array Value}
/-- behind a call -/
theorem ax_call (hr : va_Run p l e R s m args below meth c H locs 0 0 0 0 (F0 m pc la st0) rest (ax_Q ks D cA q v h' a) (ax_A ks q)) (hS : va_S (ax_A ks q) s.heap H locs)
    (kk : ∀ (H1 : Heap) (locs1 : List Loc), ax_V ks D cA q h' s H1 locs1 → W p l e R s m args below meth c H1 locs1 0 0 Q (F0 m (pc + 3) la ((v.map (ax_cv q)).toList ++ rest))) : W p l e R s m args below meth c H locs 0 0 Q (F0 m pc la st0) := by
  intro T hT X
  obtain ⟨v', st₀, t, T', L, h0, X', hL, e1, e2, ⟨hv, hw, hz, hk⟩, stp⟩ := hr T hT X
  cases hv
  rw [h0] at hz hk
  obtain ⟨t2, a1, b1⟩ := kk T'.heap (locs ++ L) ⟨by rw [e1]; exact hw.1, hw.2.2.1, Nat.le_trans hS.1 (by rw [e1]; exact hz), fun q h1 h2 => by rw [e1, hk q (Nat.lt_of_lt_of_le h1 hS.1) h2]; exact hS.2.1 q h1 h2, fun q hq => by
      rcases List.mem_append.mp hq with h | h
      · exact hS.2.2 q h
      · exact hL q h⟩ T' rfl X'
  exact ⟨t2, stp t2 a1, b1⟩
end AXR
theorem ax_iv_inv {ks : ax_K} {o i : Nat} {st : List Value} {y : ax_M × List Value × List Value} (hr : ax_iv ks o i st = some (.inr (.inr y))) : ∃ e b as rest, ax_mlk o i = some e ∧ e.2.1 = false ∧ as.length = e.2.2.1 ∧ st = as.reverse ++ .ref b :: rest ∧ ks[b]? = some (0, e.1.1) ∧ ax_ct rest ≤ 8 ∧ (ax_fl (.ref b :: as)).length ≤ e.1.2.2.2.1 ∧ y = (e.1, .ref b :: as, rest) := by
  unfold ax_iv at hr
  split at hr
  · rename_i e he
    split at hr
    · rename_i hc
      split at hr
      · rename_i b rest hdr
        split at hr
        · rename_i h2
          cases hr
          refine ⟨e, b, (st.take e.2.2.1).reverse, rest, he, hc.1, by simp; omega, ?_, h2.1, h2.2.1, h2.2.2, rfl⟩
          rw [List.reverse_reverse, ← hdr, List.take_append_drop]
        · cases hr
      · cases hr
    · cases hr
  · cases hr
theorem ax_is_inv {o i : Nat} {st : List Value} {y : ax_M × List Value × List Value} (hr : ax_is o i st = some (.inr (.inr y))) : ∃ e as rest, ax_mlk o i = some e ∧ e.2.1 = true ∧ as.length = e.2.2.1 ∧ st = as.reverse ++ rest ∧ ax_ct rest ≤ 8 ∧ (ax_fl as).length ≤ e.1.2.2.2.1 ∧ y = (e.1, as, rest) := by
  unfold ax_is at hr
  split at hr
  · rename_i e he
    split at hr
    · rename_i hc
      cases hr
      refine ⟨e, (st.take e.2.2.1).reverse, st.drop e.2.2.1, he, hc.1, by simp; omega, ?_, hc.2.2.1, hc.2.2.2, rfl⟩
      rw [List.reverse_reverse, List.take_append_drop]
    · cases hr
  · cases hr
theorem ax_go_nl (pc : Nat) (ls : ax_L) (h : ax_H) (o : Option (List Value)) (z : Option Value ⊕ (ax_M × List Value × List Value)) : ax_go pc ls h o ≠ some (.inr z) := by
  cases o <;> simp [ax_go]
theorem ax_sti_nl (pc : Nat) (ls : ax_L) (st : List Value) (h : ax_H) (i : Nat) (z : Option Value ⊕ (ax_M × List Value × List Value)) : ax_sti pc ls st h i ≠ some (.inr z) := by
  unfold ax_sti; (repeat' split) <;> simp
theorem ax_sta_nl (pc : Nat) (ls : ax_L) (st : List Value) (h : ax_H) (i : Nat) (z : Option Value ⊕ (ax_M × List Value × List Value)) : ax_sta pc ls st h i ≠ some (.inr z) := by
  unfold ax_sta; (repeat' split) <;> simp
theorem ax_stl_nl (pc : Nat) (ls : ax_L) (st : List Value) (h : ax_H) (i : Nat) (z : Option Value ⊕ (ax_M × List Value × List Value)) : ax_stl pc ls st h i ≠ some (.inr z) := by
  unfold ax_stl; (repeat' split) <;> simp
theorem ax_inc_nl (pc : Nat) (ls : ax_L) (st : List Value) (h : ax_H) (i : Nat) (n : Int) (z : Option Value ⊕ (ax_M × List Value × List Value)) : ax_inc pc ls st h i n ≠ some (.inr z) := by
  unfold ax_inc; (repeat' split) <;> simp
theorem ax_jm_nl (pc : Nat) (off : Int) (ls : ax_L) (st : List Value) (h : ax_H) (z : Option Value ⊕ (ax_M × List Value × List Value)) : ax_jm pc off ls st h ≠ some (.inr z) := by
  unfold ax_jm; (repeat' split) <;> simp
theorem ax_br1_nl (c : Jvm.ClassFile.Cond) (pc : Nat) (off : Int) (ls : ax_L) (st : List Value) (h : ax_H) (z : Option Value ⊕ (ax_M × List Value × List Value)) : ax_br1 c pc off ls st h ≠ some (.inr z) := by
  unfold ax_br1; (repeat' split) <;> simp
theorem ax_br2_nl (c : Jvm.ClassFile.Cond) (pc : Nat) (off : Int) (ls : ax_L) (st : List Value) (h : ax_H) (z : Option Value ⊕ (ax_M × List Value × List Value)) : ax_br2 c pc off ls st h ≠ some (.inr z) := by
  unfold ax_br2; (repeat' split) <;> simp
theorem ax_lsw_nl (pc : Nat) (d : Int) (ps : Array (Int × Int)) (ls : ax_L) (st : List Value) (h : ax_H) (z : Option Value ⊕ (ax_M × List Value × List Value)) : ax_lsw pc d ps ls st h ≠ some (.inr z) := by
  unfold ax_lsw; (repeat' split) <;> first | exact ax_jm_nl _ _ _ _ _ z | simp
theorem ax_tsw_nl (pc : Nat) (d lo hi : Int) (ps : Array Int) (ls : ax_L) (st : List Value) (h : ax_H) (z : Option Value ⊕ (ax_M × List Value × List Value)) : ax_tsw pc d lo hi ps ls st h ≠ some (.inr z) := by
  unfold ax_tsw; (repeat' split) <;> first | exact ax_jm_nl _ _ _ _ _ z | simp
theorem ax_gf_nl (ks : ax_K) (o i pc : Nat) (ls : ax_L) (st : List Value) (h : ax_H) (z : Option Value ⊕ (ax_M × List Value × List Value)) : ax_gf ks o i pc ls st h ≠ some (.inr z) := by
  unfold ax_gf; (repeat' split) <;> simp
theorem ax_pf_nl (ks : ax_K) (o i pc : Nat) (ls : ax_L) (st : List Value) (h : ax_H) (z : Option Value ⊕ (ax_M × List Value × List Value)) : ax_pf ks o i pc ls st h ≠ some (.inr z) := by
  unfold ax_pf; (repeat' split) <;> simp [Option.map_eq_some_iff]
theorem ax_al_nl (ks : ax_K) (t pc : Nat) (ls : ax_L) (st : List Value) (h : ax_H) (z : Option Value ⊕ (ax_M × List Value × List Value)) : ax_al ks t pc ls st h ≠ some (.inr z) := by
  unfold ax_al; (repeat' split) <;> simp
theorem ax_as_nl (ks : ax_K) (t pc : Nat) (ls : ax_L) (st : List Value) (h : ax_H) (z : Option Value ⊕ (ax_M × List Value × List Value)) : ax_as ks t pc ls st h ≠ some (.inr z) := by
  unfold ax_as; (repeat' split) <;> simp
theorem ax_len_nl (ks : ax_K) (pc : Nat) (ls : ax_L) (st : List Value) (h : ax_H) (z : Option Value ⊕ (ax_M × List Value × List Value)) : ax_len ks pc ls st h ≠ some (.inr z) := by
  unfold ax_len; (repeat' split) <;> simp
theorem ax_mi_nl (pc : Nat) (ls : ax_L) (st : List Value) (h : ax_H) (z : Option Value ⊕ (ax_M × List Value × List Value)) : ax_mi pc ls st h ≠ some (.inr z) := by
  unfold ax_mi; (repeat' split) <;> simp
/-- which instructions end a step in a call, which in a return -/
theorem ax_ex_call {ks : ax_K} {M : ax_M} {pc : Nat} {ls : ax_L} {st : List Value} {h : ax_H} {i : Instr} {len : Nat} {y : ax_M × List Value × List Value} (hr : ax_ex ks M pc ls st h i len = some (.inr (.inr y))) :
    (∃ j, i = .invokevirtual j ∧ len = 3 ∧ ax_iv ks M.1 j st = some (.inr (.inr y))) ∨ (∃ j, i = .invokestatic j ∧ len = 3 ∧ ax_is M.1 j st = some (.inr (.inr y))) := by
  unfold ax_ex at hr
  split at hr
  all_goals first | exact Or.inl ⟨_, rfl, rfl, hr⟩ | exact absurd hr (ax_go_nl _ _ _ _ _) | exact absurd hr (ax_sti_nl _ _ _ _ _ _) | exact absurd hr (ax_sta_nl _ _ _ _ _ _) | exact absurd hr (ax_stl_nl _ _ _ _ _ _) | exact absurd hr (ax_inc_nl _ _ _ _ _ _ _) | exact absurd hr (ax_jm_nl _ _ _ _ _ _) | exact absurd hr (ax_br1_nl _ _ _ _ _ _ _) | exact absurd hr (ax_br2_nl _ _ _ _ _ _ _) | exact absurd hr (ax_lsw_nl _ _ _ _ _ _ _) | exact absurd hr (ax_tsw_nl _ _ _ _ _ _ _ _ _) | exact absurd hr (ax_gf_nl _ _ _ _ _ _ _ _) | exact absurd hr (ax_pf_nl _ _ _ _ _ _ _ _) | exact absurd hr (ax_al_nl _ _ _ _ _ _ _) | exact absurd hr (ax_as_nl _ _ _ _ _ _ _) | exact absurd hr (ax_len_nl _ _ _ _ _ _) | exact absurd hr (ax_mi_nl _ _ _ _ _) | (cases hr; done) | skip
  · split at hr
    · exact absurd hr (ax_go_nl _ _ _ _ _)
    · cases hr
  · split at hr
    · exact absurd hr (ax_mi_nl _ _ _ _ _)
    · exact Or.inr ⟨_, rfl, rfl, hr⟩
  all_goals (exfalso; revert hr; first | unfold ax_ri | unfold ax_rl | unfold ax_rv)
  all_goals ((repeat' split) <;> simp)
theorem ax_ex_ret {ks : ax_K} {M : ax_M} {pc : Nat} {ls : ax_L} {st : List Value} {h : ax_H} {i : Instr} {len : Nat} {v : Option Value} (hr : ax_ex ks M pc ls st h i len = some (.inr (.inl v))) :
    (i = .ireturn ∧ len = 1 ∧ ax_ri M.2.2.2.2 st = some (.inr (.inl v))) ∨ (i = .lreturn ∧ len = 1 ∧ ax_rl M.2.2.2.2 st = some (.inr (.inl v))) ∨ (i = .return_ ∧ len = 1 ∧ ax_rv M.2.2.2.2 st = some (.inr (.inl v))) := by
  unfold ax_ex at hr
  split at hr
  all_goals first | exact Or.inl ⟨rfl, rfl, hr⟩ | exact Or.inr (Or.inl ⟨rfl, rfl, hr⟩) | exact Or.inr (Or.inr ⟨rfl, rfl, hr⟩) | exact absurd hr (ax_go_nl _ _ _ _ _) | exact absurd hr (ax_sti_nl _ _ _ _ _ _) | exact absurd hr (ax_sta_nl _ _ _ _ _ _) | exact absurd hr (ax_stl_nl _ _ _ _ _ _) | exact absurd hr (ax_inc_nl _ _ _ _ _ _ _) | exact absurd hr (ax_jm_nl _ _ _ _ _ _) | exact absurd hr (ax_br1_nl _ _ _ _ _ _ _) | exact absurd hr (ax_br2_nl _ _ _ _ _ _ _) | exact absurd hr (ax_lsw_nl _ _ _ _ _ _ _) | exact absurd hr (ax_tsw_nl _ _ _ _ _ _ _ _ _) | exact absurd hr (ax_gf_nl _ _ _ _ _ _ _ _) | exact absurd hr (ax_pf_nl _ _ _ _ _ _ _ _) | exact absurd hr (ax_al_nl _ _ _ _ _ _ _) | exact absurd hr (ax_as_nl _ _ _ _ _ _ _) | exact absurd hr (ax_len_nl _ _ _ _ _ _) | exact absurd hr (ax_mi_nl _ _ _ _ _) | (cases hr; done) | skip
  · split at hr
    · exact absurd hr (ax_go_nl _ _ _ _ _)
    · cases hr
  · exfalso; revert hr; unfold ax_iv; (repeat' split) <;> simp
  · split at hr
    · exact absurd hr (ax_mi_nl _ _ _ _ _)
    · exfalso; revert hr; unfold ax_is; (repeat' split) <;> simp
theorem ax_sim (l : Launch) (ks : ax_K) (D : va_G) (cA : Nat → ClassId) (q : Nat → Nat) : ∀ n, ax_Sim l ks D cA q n
  | 0 => fun d M pc ls st h v h' hr => by simp [ax_run] at hr
  | n + 1 => by
    have IH := ax_sim l ks D cA q n
    intro d M pc ls st h v h' hr p e s m args below meth c H locs la C hK hV hl
    rw [ax_run] at hr
    have hst : ∃ i len, decode M.2.2.1 pc = .ok (i, len) ∧ ax_step ks M pc ls st h = ax_ex ks M pc ls st h i len := by
      cases hd : decode M.2.2.1 pc with
      | error z => simp [ax_step, hd] at hr
      | ok z => exact ⟨z.1, z.2, rfl, by simp [ax_step, hd]⟩
    obtain ⟨i, len, hd, hse⟩ := hst
    rw [hse] at hr
    split at hr
    · cases hr
    · rename_i x hs
      exact ax_stepW C hK ⟨by show 1 ≤ d + 1; omega, by show 32 ≤ 64 * (d + 1); omega⟩ hV hl hd hs (fun H1 locs1 la1 hV1 hl1 => IH d M x.1 x.2.1 x.2.2.1 x.2.2.2 v h' hr p e s m args below meth c H1 locs1 la1 C hK hV1 hl1)
    · rename_i w hs
      cases hr
      obtain ⟨hx, hb, hml, hret, hlocks, hown, hts, hN⟩ := C
      have hq : ∀ t : State, t.heap = H → s.WarmedH t.vm → ax_Q ks D cA q v h args s (.returned (v.map (ax_cv q))) t := fun t ht hW => ⟨rfl, ⟨by rw [ht]; exact hV.1, va_K.moved hW.alike hK, hV.2.1, ax_Ns.warm hW hN⟩, hV.2.2.F ht⟩
      rcases ax_ex_ret hs with ⟨rfl, rfl, h1⟩ | ⟨rfl, rfl, h1⟩ | ⟨rfl, rfl, h1⟩
      · unfold ax_ri at h1
        split at h1
        · split at h1
          · rename_i x hc
            cases h1
            rcases hc with hc | ⟨hc, hc2⟩
            · exact W.iret hx hb (hret.trans hc) hq hV.2.2.2.2 hd
            · exact W.zret hx hb (hret.trans hc) (by rcases hc2 with rfl | rfl <;> decide) hq hV.2.2.2.2 hd
          · cases h1
        · cases h1
      · unfold ax_rl at h1
        split at h1
        · split at h1
          · rename_i x hc
            cases h1
            exact W.lret hx hb (hret.trans hc) hq hV.2.2.2.2 hd
          · cases h1
        · cases h1
      · unfold ax_rv at h1
        split at h1
        · split at h1
          · rename_i hc
            cases h1
            exact W.vret hx hb (hret.trans hc) hq hV.2.2.2.2 hd
          · cases h1
        · cases h1
    · rename_i y hs
      cases d with
      | zero => cases hr
      | succ d' =>
        simp only at hr
        split at hr
        · cases hr
        · rename_i z hz
          have C0 := C
          obtain ⟨hx, hb, hml, hret, hlocks, hown, hts, hN⟩ := C
          have hpre : ∀ (as : List Value) (U : State), U.heap = H → s.WarmedH U.vm → va_Pc (as.map (ax_cv q)) (ax_W ks D cA q h) (as.map (ax_cv q)).toArray U := fun as U hU hW => ⟨rfl, by rw [hU]; exact hV.1, va_K.moved hW.alike hK, hV.2.1, ax_Ns.warm hW hN⟩
          have hgo : ∀ (H1 : Heap) (locs1 : List Loc), ax_V ks D cA q z.2 s H1 locs1 → W p l e (ax_room (d' + 1)) s m args below meth c H1 locs1 0 0 (MQ below (ax_Q ks D cA q v h') args s 0 0 (ax_A ks q)) (F0 m (pc + 3) la ((z.1.map (ax_cv q)).toList ++ y.2.2.map (ax_cv q))) := fun H1 locs1 hV1 => by
            have h9 := IH (d' + 1) M (pc + 3) ls (z.1.toList ++ y.2.2) z.2 v h' hr p e s m args below meth c H1 locs1 la C0 hK hV1 hl
            rw [List.map_append] at h9
            have e9 : z.1.toList.map (ax_cv q) = (z.1.map (ax_cv q)).toList := by cases z.1 <;> rfl
            rw [e9] at h9
            exact h9
          rcases ax_ex_call hs with ⟨j, rfl, rfl, h1⟩ | ⟨j, rfl, rfl, h1⟩
          · obtain ⟨eE, b, as, rest, he, hf, hlen, rfl, hkb, hct, hfl, rfl⟩ := ax_iv_inv h1
            obtain ⟨w1, w2, w3, -, w4, w5, w6, w7, w8, w9⟩ := ax_mlk_spec he
            obtain ⟨w4, w10, w11⟩ := w4 hf
            have hM := ax_met_of IH (M := eE.1) ⟨w2, w5, w6⟩ hfl hz
            have hrec : ∃ cellB : Cell, H[q b]? = some cellB ∧ cellB.vm.isStatics = false ∧ s.vm.findClass eE.1.2.1.cls = some cellB.cls := by
              rw [w5]
              exact va_recv hK hV.1 (ax_cl_at w11) (ax_ws_at hkb)
            have hcw : CallW (ax_room (d' + 1)) s args (ax_own M.1) eE.1.2.1.cls j eE.1.2.1 eE.1.2.2.1 eE.1.2.2.2.1 eE.1.2.2.2.2 (ax_wM eE.1) (ax_room d') 0 0 eE.2.2.1 :=
              ⟨callB_of eE.2.2.1 hts (ax_goodT _ (List.forall_mem_cons.mpr ⟨w2, fun w hw => hw⟩)) rfl rfl rfl (hts _ w3) (hts _ w1) ⟨w7.1, w7.2, w8⟩ ⟨by show d' + 1 + 1 ≤ d' + 1 + 1; omega, by show 8 + (eE.1.2.2.2.1 + 11) + 64 * (d' + 1) ≤ 64 * (d' + 1 + 1); omega⟩, hts _ w4, hts _ w10⟩
            have hrun := va_runV (e := e) (below := below) (meth := meth) (locs := locs) (g := F0 m pc la ((as.reverse ++ Value.ref b :: rest).map (ax_cv q))) (As := as.map (ax_cv q)) (rest := rest.map (ax_cv q)) ⟨hx, hb, hml, hown, hts⟩ hM hcw ⟨ax_blind, hrec, hpre (.ref b :: as)⟩ rfl (by simp [hlen]) hl.2.1 (by simp [ax_cv]) (lv_room (by rw [ax_cats]; exact hct)) hd ⟨Nat.le_refl _, Nat.le_refl _⟩
            exact ax_call hrun hV.2.2 hgo
          · obtain ⟨eE, as, rest, he, hf, hlen, rfl, hct, hfl, rfl⟩ := ax_is_inv h1
            obtain ⟨w1, w2, w3, w4, -, w5, w6, w7, w8, w9⟩ := ax_mlk_spec he
            have w4 := w4 hf
            have hM := ax_met_of IH (M := eE.1) ⟨w2, w5, w6⟩ hfl hz
            have hcw : CallB (ax_room (d' + 1)) s args (ax_own M.1) j eE.1.2.1 eE.1.2.2.1 eE.1.2.2.2.1 eE.1.2.2.2.2 (ax_wM eE.1) (ax_room d') 0 0 eE.2.2.1 ∧ (Jvm.Cond.static eE.1.2.1).before args s = true :=
              ⟨callB_of eE.2.2.1 hts (ax_goodT _ (List.forall_mem_cons.mpr ⟨w2, fun w hw => hw⟩)) rfl rfl rfl (hts _ w3) (hts _ w1) ⟨w7.1, w7.2, w8⟩ ⟨by show d' + 1 + 1 ≤ d' + 1 + 1; omega, by show 8 + (eE.1.2.2.2.1 + 11) + 64 * (d' + 1) ≤ 64 * (d' + 1 + 1); omega⟩, hts _ w4⟩
            have hrun := va_runS (e := e) (below := below) (meth := meth) (locs := locs) (g := F0 m pc la ((as.reverse ++ rest).map (ax_cv q))) (As := as.map (ax_cv q)) (rest := rest.map (ax_cv q)) ⟨hx, hb, hml, hown, hts⟩ hM hcw ⟨ax_blind, hpre as⟩ rfl (by simp [hlen]) hl.2.1 (by simp) (lv_room (by rw [ax_cats]; exact hct)) hd ⟨Nat.le_refl _, Nat.le_refl _⟩
            exact ax_call hrun hV.2.2 hgo
end
section
/-! the plain machine, opcode by opcode -/
section AXE
variable {ks : ax_K} {M : ax_M} {pc : Nat} {ls : ax_L} {st : List Value} {h : ax_H}
theorem ex_iconst (n : Int) : ax_ex ks M pc ls st h (.iconst n) 1 = ax_go (pc + 1) ls h (some (.int (Int32.ofInt n) :: st)) := rfl
theorem ex_bipush (n : Int) : ax_ex ks M pc ls st h (.bipush n) 2 = ax_go (pc + 2) ls h (some (.int (Int8.ofInt n).toInt32 :: st)) := rfl
theorem ex_sipush (n : Int) : ax_ex ks M pc ls st h (.sipush n) 3 = ax_go (pc + 3) ls h (some (.int (Int16.ofInt n).toInt32 :: st)) := rfl
theorem ex_lconst (n : Fin 2) : ax_ex ks M pc ls st h (.lconst n) 1 = ax_go (pc + 1) ls h (some (.long (Int64.ofNat (n : Nat)) :: st)) := rfl
theorem ex_ldc2_w (j : Nat) : ax_ex ks M pc ls st h (.ldc2_w j) 3 = if M.1 = 5 ∧ j = 165 then ax_go (pc + 3) ls h (some (.long 64 :: st)) else none := rfl
theorem ex_iload_n (k : Fin 4) : ax_ex ks M pc ls st h (.iload_n k) 1 = ax_go (pc + 1) ls h (ax_ldi ls st k) := rfl
theorem ex_iload (k : Nat) : ax_ex ks M pc ls st h (.iload k) 2 = ax_go (pc + 2) ls h (ax_ldi ls st k) := rfl
theorem ex_lload_n (k : Fin 4) : ax_ex ks M pc ls st h (.lload_n k) 1 = ax_go (pc + 1) ls h (ax_ldl ls st k) := rfl
theorem ex_lload (k : Nat) : ax_ex ks M pc ls st h (.lload k) 2 = ax_go (pc + 2) ls h (ax_ldl ls st k) := rfl
theorem ex_aload_n (k : Fin 4) : ax_ex ks M pc ls st h (.aload_n k) 1 = ax_go (pc + 1) ls h (ax_lda ls st k) := rfl
theorem ex_istore_n (k : Fin 4) : ax_ex ks M pc ls st h (.istore_n k) 1 = ax_sti (pc + 1) ls st h k := rfl
theorem ex_istore (k : Nat) : ax_ex ks M pc ls st h (.istore k) 2 = ax_sti (pc + 2) ls st h k := rfl
theorem ex_lstore_n (k : Fin 4) : ax_ex ks M pc ls st h (.lstore_n k) 1 = ax_stl (pc + 1) ls st h k := rfl
theorem ex_lstore (k : Nat) : ax_ex ks M pc ls st h (.lstore k) 2 = ax_stl (pc + 2) ls st h k := rfl
theorem ex_astore_n (k : Fin 4) : ax_ex ks M pc ls st h (.astore_n k) 1 = ax_sta (pc + 1) ls st h k := rfl
theorem ex_iinc (k : Nat) (n : Int) : ax_ex ks M pc ls st h (.iinc k n) 3 = ax_inc (pc + 3) ls st h k n := rfl
theorem ex_iadd  : ax_ex ks M pc ls st h (.iadd) 1 = ax_go (pc + 1) ls h (ax_i2 st (fun x y => some (.int (x + y)))) := rfl
theorem ex_isub  : ax_ex ks M pc ls st h (.isub) 1 = ax_go (pc + 1) ls h (ax_i2 st (fun x y => some (.int (x - y)))) := rfl
theorem ex_imul  : ax_ex ks M pc ls st h (.imul) 1 = ax_go (pc + 1) ls h (ax_i2 st (fun x y => some (.int (x * y)))) := rfl
theorem ex_iand  : ax_ex ks M pc ls st h (.iand) 1 = ax_go (pc + 1) ls h (ax_i2 st (fun x y => some (.int (x &&& y)))) := rfl
theorem ex_ior  : ax_ex ks M pc ls st h (.ior) 1 = ax_go (pc + 1) ls h (ax_i2 st (fun x y => some (.int (x ||| y)))) := rfl
theorem ex_idiv  : ax_ex ks M pc ls st h (.idiv) 1 = ax_go (pc + 1) ls h (ax_i2 st (fun x y => if y = 0 then none else some (.int (x / y)))) := rfl
theorem ex_irem  : ax_ex ks M pc ls st h (.irem) 1 = ax_go (pc + 1) ls h (ax_i2 st (fun x y => if y = 0 then none else some (.int (x - x / y * y)))) := rfl
theorem ex_ishl  : ax_ex ks M pc ls st h (.ishl) 1 = ax_go (pc + 1) ls h (ax_i2 st (fun x y => some (.int (x <<< (y &&& 31))))) := rfl
theorem ex_ishr  : ax_ex ks M pc ls st h (.ishr) 1 = ax_go (pc + 1) ls h (ax_i2 st (fun x y => some (.int (x >>> (y &&& 31))))) := rfl
theorem ex_iushr  : ax_ex ks M pc ls st h (.iushr) 1 = ax_go (pc + 1) ls h (ax_i2 st (fun x y => some (.int (x.toUInt32 >>> (y.toUInt32 &&& Int32.toUInt32 31)).toInt32))) := rfl
theorem ex_ladd  : ax_ex ks M pc ls st h (.ladd) 1 = ax_go (pc + 1) ls h (ax_l2 st (fun x y => some (.long (x + y)))) := rfl
theorem ex_lsub  : ax_ex ks M pc ls st h (.lsub) 1 = ax_go (pc + 1) ls h (ax_l2 st (fun x y => some (.long (x - y)))) := rfl
theorem ex_lmul  : ax_ex ks M pc ls st h (.lmul) 1 = ax_go (pc + 1) ls h (ax_l2 st (fun x y => some (.long (x * y)))) := rfl
theorem ex_land  : ax_ex ks M pc ls st h (.land) 1 = ax_go (pc + 1) ls h (ax_l2 st (fun x y => some (.long (x &&& y)))) := rfl
theorem ex_lor  : ax_ex ks M pc ls st h (.lor) 1 = ax_go (pc + 1) ls h (ax_l2 st (fun x y => some (.long (x ||| y)))) := rfl
theorem ex_ldiv  : ax_ex ks M pc ls st h (.ldiv) 1 = ax_go (pc + 1) ls h (ax_l2 st (fun x y => if y = 0 then none else some (.long (x / y)))) := rfl
theorem ex_lrem  : ax_ex ks M pc ls st h (.lrem) 1 = ax_go (pc + 1) ls h (ax_l2 st (fun x y => if y = 0 then none else some (.long (x - x / y * y)))) := rfl
theorem ex_lcmp  : ax_ex ks M pc ls st h (.lcmp) 1 = ax_go (pc + 1) ls h (ax_l2 st (fun x y => some (.int (lg_cmp x y)))) := rfl
theorem ex_lshl  : ax_ex ks M pc ls st h (.lshl) 1 = ax_go (pc + 1) ls h (ax_li st (fun x y => some (.long (x <<< (y.toInt64 &&& 63))))) := rfl
theorem ex_lushr  : ax_ex ks M pc ls st h (.lushr) 1 = ax_go (pc + 1) ls h (ax_li st (fun x y => some (.long (x.toUInt64 >>> (y.toInt64.toUInt64 &&& Int64.toUInt64 63)).toInt64))) := rfl
theorem ex_i2l  : ax_ex ks M pc ls st h (.i2l) 1 = ax_go (pc + 1) ls h (ax_i1 st (fun x => some (.long x.toInt64))) := rfl
theorem ex_l2i  : ax_ex ks M pc ls st h (.l2i) 1 = ax_go (pc + 1) ls h (ax_l1 st (fun x => some (.int x.toInt32))) := rfl
theorem ex_dup  : ax_ex ks M pc ls st h (.dup) 1 = ax_go (pc + 1) ls h (ax_du st) := rfl
theorem ex_dup2  : ax_ex ks M pc ls st h (.dup2) 1 = ax_go (pc + 1) ls h (ax_d2 st) := rfl
theorem ex_pop  : ax_ex ks M pc ls st h (.pop) 1 = ax_go (pc + 1) ls h (ax_po st) := rfl
theorem ex_ifCond (c : Jvm.ClassFile.Cond) (off : Int) : ax_ex ks M pc ls st h (.ifCond c off) 3 = ax_br1 c pc off ls st h := rfl
theorem ex_if_icmp (c : Jvm.ClassFile.Cond) (off : Int) : ax_ex ks M pc ls st h (.if_icmp c off) 3 = ax_br2 c pc off ls st h := rfl
theorem ex_goto (off : Int) : ax_ex ks M pc ls st h (.goto off) 3 = ax_jm pc off ls st h := rfl
theorem ex_lookupswitch (len : Nat) (d : Int) (ps : Array (Int × Int)) : ax_ex ks M pc ls st h (.lookupswitch d ps) len = ax_lsw pc d ps ls st h := rfl
theorem ex_tableswitch (len : Nat) (d : Int) (lo : Int) (hi : Int) (offs : Array Int) : ax_ex ks M pc ls st h (.tableswitch d lo hi offs) len = ax_tsw pc d lo hi offs ls st h := rfl
theorem ex_getfield (j : Nat) : ax_ex ks M pc ls st h (.getfield j) 3 = ax_gf ks M.1 j pc ls st h := rfl
theorem ex_putfield (j : Nat) : ax_ex ks M pc ls st h (.putfield j) 3 = ax_pf ks M.1 j pc ls st h := rfl
theorem ex_iaload  : ax_ex ks M pc ls st h (.iaload) 1 = ax_al ks 1 pc ls st h := rfl
theorem ex_laload  : ax_ex ks M pc ls st h (.laload) 1 = ax_al ks 2 pc ls st h := rfl
theorem ex_baload  : ax_ex ks M pc ls st h (.baload) 1 = ax_al ks 3 pc ls st h := rfl
theorem ex_aaload  : ax_ex ks M pc ls st h (.aaload) 1 = ax_al ks 4 pc ls st h := rfl
theorem ex_iastore  : ax_ex ks M pc ls st h (.iastore) 1 = ax_as ks 1 pc ls st h := rfl
theorem ex_lastore  : ax_ex ks M pc ls st h (.lastore) 1 = ax_as ks 2 pc ls st h := rfl
theorem ex_bastore  : ax_ex ks M pc ls st h (.bastore) 1 = ax_as ks 3 pc ls st h := rfl
theorem ex_aastore  : ax_ex ks M pc ls st h (.aastore) 1 = ax_as ks 4 pc ls st h := rfl
theorem ex_arraylength  : ax_ex ks M pc ls st h (.arraylength) 1 = ax_len ks pc ls st h := rfl
theorem ex_invokevirtual (j : Nat) : ax_ex ks M pc ls st h (.invokevirtual j) 3 = ax_iv ks M.1 j st := rfl
theorem ex_invokestatic (j : Nat) : ax_ex ks M pc ls st h (.invokestatic j) 3 = if M.1 = 1 ∧ j = 153 then ax_mi pc ls st h else ax_is M.1 j st := rfl
theorem ex_ireturn  : ax_ex ks M pc ls st h (.ireturn) 1 = ax_ri M.2.2.2.2 st := rfl
theorem ex_lreturn  : ax_ex ks M pc ls st h (.lreturn) 1 = ax_rl M.2.2.2.2 st := rfl
theorem ex_return_  : ax_ex ks M pc ls st h (.return_) 1 = ax_rv M.2.2.2.2 st := rfl
end AXE
end
section
/-! what a run comes to: by equations, an instruction each -/
def ax_wp (ks : ax_K) (d : Nat) (M : ax_M) (pc : Nat) (ls : ax_L) (st : List Value) (h : ax_H) (Q : Option Value → ax_H → Prop) : Prop := ∃ n v h', ax_run ks n d M pc ls st h = some (v, h') ∧ Q v h'
def ax_kd (ks : ax_K) (r : Nat) : Nat × Nat := (ks[r]?).getD (9, 0)
section AXWP
variable {ks : ax_K} {d : Nat} {M : ax_M} {pc pc' : Nat} {ls ls' : ax_L} {st st' : List Value} {h h' : ax_H} {Q Q' : Option Value → ax_H → Prop} {i : Instr} {len r : Nat}
theorem wp_stp (hd : decode M.2.2.1 pc = .ok (i, len)) : ax_step ks M pc ls st h = ax_ex ks M pc ls st h i len := by simp [ax_step, hd]
theorem wp_mono (hq : ∀ v h', Q v h' → Q' v h') (hw : ax_wp ks d M pc ls st h Q) : ax_wp ks d M pc ls st h Q' := by
  obtain ⟨n, v, h', h1, h2⟩ := hw
  exact ⟨n, v, h', h1, hq v h' h2⟩
theorem wp_n (hd : decode M.2.2.1 pc = .ok (i, len)) (he : ax_ex ks M pc ls st h i len = some (.inl (pc', ls', st', h'))) : ax_wp ks d M pc ls st h Q = ax_wp ks d M pc' ls' st' h' Q := by
  apply propext
  constructor
  · intro ⟨n, v, h1, hr, hq⟩
    cases n with
    | zero => simp [ax_run] at hr
    | succ n =>
      rw [ax_run, wp_stp hd, he] at hr
      exact ⟨n, v, h1, hr, hq⟩
  · intro ⟨n, v, h1, hr, hq⟩
    refine ⟨n + 1, v, h1, ?_, hq⟩
    rw [ax_run, wp_stp hd, he]
    exact hr
theorem wp_0 (hd : decode M.2.2.1 pc = .ok (i, len)) (he : ax_ex ks M pc ls st h i len = none) : ax_wp ks d M pc ls st h Q = False := by
  apply propext
  constructor
  · intro ⟨n, v, h1, hr, hq⟩
    cases n with
    | zero => simp [ax_run] at hr
    | succ n =>
      rw [ax_run, wp_stp hd, he] at hr
      cases hr
  · exact False.elim
theorem wp_r {v : Option Value} (hd : decode M.2.2.1 pc = .ok (i, len)) (he : ax_ex ks M pc ls st h i len = some (.inr (.inl v))) : ax_wp ks d M pc ls st h Q = Q v h := by
  apply propext
  constructor
  · intro ⟨n, w, h1, hr, hq⟩
    cases n with
    | zero => simp [ax_run] at hr
    | succ n =>
      rw [ax_run, wp_stp hd, he] at hr
      cases hr
      exact hq
  · intro hq
    refine ⟨1, v, h, ?_, hq⟩
    rw [ax_run, wp_stp hd, he]
theorem wp_k {M' : ax_M} {as rest : List Value} (hd : decode M.2.2.1 pc = .ok (i, len)) (he : ax_ex ks M pc ls st h i len = some (.inr (.inr (M', as, rest)))) :
    ax_wp ks (d + 1) M pc ls st h Q = ax_wp ks d M' 0 (ax_en M'.2.2.2.1 as) [] h (fun v h1 => ax_wp ks (d + 1) M (pc + 3) ls (v.toList ++ rest) h1 Q) := by
  apply propext
  constructor
  · intro ⟨n, w, h1, hr, hq⟩
    cases n with
    | zero => simp [ax_run] at hr
    | succ n =>
      rw [ax_run, wp_stp hd, he] at hr
      simp only at hr
      split at hr
      · cases hr
      · rename_i z hz
        exact ⟨n, z.1, z.2, hz, n, w, h1, hr, hq⟩
  · intro ⟨n, v, h2, hr, n2, w, h3, hr2, hq⟩
    refine ⟨n + n2 + 1, w, h3, ?_, hq⟩
    rw [ax_run, wp_stp hd, he]
    simp only
    rw [ax_run_le ks hr (by omega)]
    exact ax_run_le ks hr2 (by omega)
/-- with a condition -/
theorem wp_if {P : Prop} (hd : decode M.2.2.1 pc = .ok (i, len)) (he : P → ax_ex ks M pc ls st h i len = some (.inl (pc', ls', st', h'))) (hn : ¬ P → ax_ex ks M pc ls st h i len = none) : ax_wp ks d M pc ls st h Q = (P ∧ ax_wp ks d M pc' ls' st' h' Q) := by
  by_cases hP : P
  · rw [wp_n hd (he hP)]
    simp [hP]
  · rw [wp_0 hd (hn hP)]
    simp [hP]
theorem kd_some {t n : Nat} (ht : t ≠ 9) : ks[r]? = some (t, n) ↔ ax_kd ks r = (t, n) := by
  unfold ax_kd
  cases ks[r]? with
  | none => simp; intro h1; exact absurd h1.symm ht
  | some z => simp
variable {e : Nat × Nat × Bool × Nat} {j : Nat}
theorem wp_gfI (hd : decode M.2.2.1 pc = .ok (.getfield j, 3)) (hf : ax_flk M.1 j = some e) (ht : ax_ty e.1 e.2.1 = .int) : ax_wp ks d M pc ls (.ref r :: st) h Q = (ax_kd ks r = (0, e.1) ∧ ax_wp ks d M (pc + 3) ls (.int (h.1 r e.2.1) :: st) h Q) := by
  refine wp_if hd (fun hP => ?_) (fun hP => ?_)
  · rw [ex_getfield]
    simp [ax_gf, hf, (kd_some (by decide)).mpr hP, ht, ax_fv]
  · rw [ex_getfield]
    have hQ : ¬ ks[r]? = some (0, e.1) := fun h1 => hP ((kd_some (by decide)).mp h1)
    simp [ax_gf, hf, hQ]
theorem wp_gfL (hd : decode M.2.2.1 pc = .ok (.getfield j, 3)) (hf : ax_flk M.1 j = some e) (ht : ax_ty e.1 e.2.1 = .long) : ax_wp ks d M pc ls (.ref r :: st) h Q = (ax_kd ks r = (0, e.1) ∧ ax_wp ks d M (pc + 3) ls (.long (h.2.1 r e.2.1) :: st) h Q) := by
  refine wp_if hd (fun hP => ?_) (fun hP => ?_)
  · rw [ex_getfield]
    simp [ax_gf, hf, (kd_some (by decide)).mpr hP, ht, ax_fv]
  · rw [ex_getfield]
    have hQ : ¬ ks[r]? = some (0, e.1) := fun h1 => hP ((kd_some (by decide)).mp h1)
    simp [ax_gf, hf, hQ]
theorem wp_gfR (hd : decode M.2.2.1 pc = .ok (.getfield j, 3)) (hf : ax_flk M.1 j = some e) (ht : (∃ n, ax_ty e.1 e.2.1 = .object n) ∨ ∃ n, ax_ty e.1 e.2.1 = .array n) : ax_wp ks d M pc ls (.ref r :: st) h Q = (ax_kd ks r = (0, e.1) ∧ ax_wp ks d M (pc + 3) ls (va_rf (h.2.2 r e.2.1) :: st) h Q) := by
  refine wp_if hd (fun hP => ?_) (fun hP => ?_)
  · rw [ex_getfield]
    rcases ht with ⟨n, ht⟩ | ⟨n, ht⟩ <;> simp [ax_gf, hf, (kd_some (by decide)).mpr hP, ht, ax_fv]
  · rw [ex_getfield]
    have hQ : ¬ ks[r]? = some (0, e.1) := fun h1 => hP ((kd_some (by decide)).mp h1)
    simp [ax_gf, hf, hQ]
theorem wp_pfI {x : Int32} (hd : decode M.2.2.1 pc = .ok (.putfield j, 3)) (hf : ax_flk M.1 j = some e) (ht : ax_ty e.1 e.2.1 = .int) (hF : (ax_Tb e.1 e.2.1).2.2.2 = false) : ax_wp ks d M pc ls (.int x :: .ref r :: st) h Q = (ax_kd ks r = (0, e.1) ∧ ax_wp ks d M (pc + 3) ls st (ax_upI h r e.2.1 x) Q) := by
  refine wp_if hd (fun hP => ?_) (fun hP => ?_)
  · rw [ex_putfield]
    simp [ax_pf, hf, (kd_some (by decide)).mpr hP, ht, ax_sv, hF]
  · rw [ex_putfield]
    have hQ : ¬ ks[r]? = some (0, e.1) := fun h1 => hP ((kd_some (by decide)).mp h1)
    simp [ax_pf, hf, hQ]
theorem wp_pfL {x : Int64} (hd : decode M.2.2.1 pc = .ok (.putfield j, 3)) (hf : ax_flk M.1 j = some e) (ht : ax_ty e.1 e.2.1 = .long) (hF : (ax_Tb e.1 e.2.1).2.2.2 = false) : ax_wp ks d M pc ls (.long x :: .ref r :: st) h Q = (ax_kd ks r = (0, e.1) ∧ ax_wp ks d M (pc + 3) ls st (ax_upL h r e.2.1 x) Q) := by
  refine wp_if hd (fun hP => ?_) (fun hP => ?_)
  · rw [ex_putfield]
    simp [ax_pf, hf, (kd_some (by decide)).mpr hP, ht, ax_sv, hF]
  · rw [ex_putfield]
    have hQ : ¬ ks[r]? = some (0, e.1) := fun h1 => hP ((kd_some (by decide)).mp h1)
    simp [ax_pf, hf, hQ]
theorem wp_pfR {x : Nat} (hd : decode M.2.2.1 pc = .ok (.putfield j, 3)) (hf : ax_flk M.1 j = some e) (ht : ∃ n, ax_ty e.1 e.2.1 = .object n) (hF : (ax_Tb e.1 e.2.1).2.2.2 = false) : ax_wp ks d M pc ls (.ref x :: .ref r :: st) h Q = ((ax_kd ks r = (0, e.1) ∧ x < ks.length) ∧ ax_wp ks d M (pc + 3) ls st (ax_upR h r e.2.1 (some x)) Q) := by
  obtain ⟨n, ht⟩ := ht
  refine wp_if hd (fun hP => ?_) (fun hP => ?_)
  · rw [ex_putfield]
    simp [ax_pf, hf, (kd_some (by decide)).mpr hP.1, ht, ax_sv, hF, hP.2]
  · rw [ex_putfield]
    by_cases h1 : ks[r]? = some (0, e.1)
    · simp [ax_pf, hf, h1, ht, ax_sv, hF]
      exact Nat.not_lt.mp fun h2 => hP ⟨(kd_some (by decide)).mp h1, h2⟩
    · simp [ax_pf, hf, h1]
theorem wp_iald {x : Int32} (hd : decode M.2.2.1 pc = .ok (.iaload, 1)) : ax_wp ks d M pc ls (.int x :: .ref r :: st) h Q = (((ax_kd ks r).1 = 1 ∧ ax_in x (ax_kd ks r).2 = true) ∧ ax_wp ks d M (pc + 1) ls (.int (h.1 r x.toNatClampNeg) :: st) h Q) := by
  refine wp_if hd (fun hP => ?_) (fun hP => ?_) <;> rw [ex_iaload] <;> unfold ax_kd at hP <;> cases hk : ks[r]? with
  | none => simp [hk] at hP <;> simp [ax_al, hk]
  | some z => simp [hk] at hP <;> simp [ax_al, hk] <;> simpa using hP
theorem wp_lald {x : Int32} (hd : decode M.2.2.1 pc = .ok (.laload, 1)) : ax_wp ks d M pc ls (.int x :: .ref r :: st) h Q = (((ax_kd ks r).1 = 2 ∧ ax_in x (ax_kd ks r).2 = true) ∧ ax_wp ks d M (pc + 1) ls (.long (h.2.1 r x.toNatClampNeg) :: st) h Q) := by
  refine wp_if hd (fun hP => ?_) (fun hP => ?_) <;> rw [ex_laload] <;> unfold ax_kd at hP <;> cases hk : ks[r]? with
  | none => simp [hk] at hP <;> simp [ax_al, hk]
  | some z => simp [hk] at hP <;> simp [ax_al, hk] <;> simpa using hP
theorem wp_bald {x : Int32} (hd : decode M.2.2.1 pc = .ok (.baload, 1)) : ax_wp ks d M pc ls (.int x :: .ref r :: st) h Q = (((ax_kd ks r).1 = 3 ∧ ax_in x (ax_kd ks r).2 = true) ∧ ax_wp ks d M (pc + 1) ls (.int (h.1 r x.toNatClampNeg) :: st) h Q) := by
  refine wp_if hd (fun hP => ?_) (fun hP => ?_) <;> rw [ex_baload] <;> unfold ax_kd at hP <;> cases hk : ks[r]? with
  | none => simp [hk] at hP <;> simp [ax_al, hk]
  | some z => simp [hk] at hP <;> simp [ax_al, hk] <;> simpa using hP
theorem wp_aald {x : Int32} (hd : decode M.2.2.1 pc = .ok (.aaload, 1)) : ax_wp ks d M pc ls (.int x :: .ref r :: st) h Q = ((((ax_kd ks r).1 = 4 ∨ (ax_kd ks r).1 = 5) ∧ ax_in x (ax_kd ks r).2 = true) ∧ ax_wp ks d M (pc + 1) ls (va_rf (h.2.2 r x.toNatClampNeg) :: st) h Q) := by
  refine wp_if hd (fun hP => ?_) (fun hP => ?_) <;> rw [ex_aaload] <;> unfold ax_kd at hP <;> cases hk : ks[r]? with
  | none => simp [hk] at hP <;> simp [ax_al, hk]
  | some z => simp [hk] at hP <;> simp [ax_al, hk] <;> simpa using hP
theorem wp_iast {x y : Int32} (hd : decode M.2.2.1 pc = .ok (.iastore, 1)) : ax_wp ks d M pc ls (.int y :: .int x :: .ref r :: st) h Q = (((ax_kd ks r).1 = 1 ∧ ax_in x (ax_kd ks r).2 = true) ∧ ax_wp ks d M (pc + 1) ls st (ax_upI h r x.toNatClampNeg y) Q) := by
  refine wp_if hd (fun hP => ?_) (fun hP => ?_) <;> rw [ex_iastore] <;> unfold ax_kd at hP <;> cases hk : ks[r]? with
  | none => simp [hk] at hP <;> simp [ax_as, hk]
  | some z => simp [hk] at hP <;> simp [ax_as, hk] <;> simpa using hP
theorem wp_last {x : Int32} {y : Int64} (hd : decode M.2.2.1 pc = .ok (.lastore, 1)) : ax_wp ks d M pc ls (.long y :: .int x :: .ref r :: st) h Q = (((ax_kd ks r).1 = 2 ∧ ax_in x (ax_kd ks r).2 = true) ∧ ax_wp ks d M (pc + 1) ls st (ax_upL h r x.toNatClampNeg y) Q) := by
  refine wp_if hd (fun hP => ?_) (fun hP => ?_) <;> rw [ex_lastore] <;> unfold ax_kd at hP <;> cases hk : ks[r]? with
  | none => simp [hk] at hP <;> simp [ax_as, hk]
  | some z => simp [hk] at hP <;> simp [ax_as, hk] <;> simpa using hP
theorem wp_bast {x y : Int32} (hd : decode M.2.2.1 pc = .ok (.bastore, 1)) : ax_wp ks d M pc ls (.int y :: .int x :: .ref r :: st) h Q = (((ax_kd ks r).1 = 3 ∧ ax_in x (ax_kd ks r).2 = true) ∧ ax_wp ks d M (pc + 1) ls st (ax_upI h r x.toNatClampNeg (vp_nar .boolean y)) Q) := by
  refine wp_if hd (fun hP => ?_) (fun hP => ?_) <;> rw [ex_bastore] <;> unfold ax_kd at hP <;> cases hk : ks[r]? with
  | none => simp [hk] at hP <;> simp [ax_as, hk]
  | some z => simp [hk] at hP <;> simp [ax_as, hk] <;> simpa using hP
theorem wp_aast {x : Int32} {y : Nat} (hd : decode M.2.2.1 pc = .ok (.aastore, 1)) : ax_wp ks d M pc ls (.ref y :: .int x :: .ref r :: st) h Q = ((((ax_kd ks r).1 = 4 ∧ ax_in x (ax_kd ks r).2 = true) ∧ ax_kd ks y = (0, 3)) ∧ ax_wp ks d M (pc + 1) ls st (ax_upR h r x.toNatClampNeg (some y)) Q) := by
  rw [show (ax_kd ks y = (0, 3)) = (ks[y]? = some (0, 3)) from propext (kd_some (by decide)).symm]
  refine wp_if hd (fun hP => ?_) (fun hP => ?_) <;> rw [ex_aastore] <;> unfold ax_kd at hP <;> cases hk : ks[r]? with
  | none => simp [hk] at hP <;> simp [ax_as, hk]
  | some z => simp [hk] at hP <;> simp [ax_as, hk] <;> simpa using hP
theorem wp_alen (hd : decode M.2.2.1 pc = .ok (.arraylength, 1)) : ax_wp ks d M pc ls (.ref r :: st) h Q = ((0 < (ax_kd ks r).1 ∧ (ax_kd ks r).1 < 6) ∧ ax_wp ks d M (pc + 1) ls (.int (nI (ax_kd ks r).2) :: st) h Q) := by
  refine wp_if hd (fun hP => ?_) (fun hP => ?_) <;> rw [ex_arraylength] <;> unfold ax_kd at hP <;> cases hk : ks[r]? with
  | none => simp [hk] at hP <;> simp [ax_len, hk]
  | some z => simp [hk] at hP <;> simp [ax_len, hk, nI, ax_kd] <;> simpa using hP
theorem wp_iconst {n : Int} {v : Int32} (hd : decode M.2.2.1 pc = .ok (.iconst n, 1)) (hv : Int32.ofInt n = v) : ax_wp ks d M pc ls (st) h Q = ax_wp ks d M (pc + 1) ls (.int v :: st) h Q := by subst hv; exact wp_n hd rfl
theorem wp_bipush {n : Int} {v : Int32} (hd : decode M.2.2.1 pc = .ok (.bipush n, 2)) (hv : (Int8.ofInt n).toInt32 = v) : ax_wp ks d M pc ls (st) h Q = ax_wp ks d M (pc + 2) ls (.int v :: st) h Q := by subst hv; exact wp_n hd rfl
theorem wp_sipush {n : Int} {v : Int32} (hd : decode M.2.2.1 pc = .ok (.sipush n, 3)) (hv : (Int16.ofInt n).toInt32 = v) : ax_wp ks d M pc ls (st) h Q = ax_wp ks d M (pc + 3) ls (.int v :: st) h Q := by subst hv; exact wp_n hd rfl
theorem wp_lconst {n : Fin 2} {v : Int64} (hd : decode M.2.2.1 pc = .ok (.lconst n, 1)) (hv : Int64.ofNat (n : Nat) = v) : ax_wp ks d M pc ls (st) h Q = ax_wp ks d M (pc + 1) ls (.long v :: st) h Q := by subst hv; exact wp_n hd rfl
theorem wp_ldc2 {M1 : M.1 = 5} (hd : decode M.2.2.1 pc = .ok (.ldc2_w 165, 3)) : ax_wp ks d M pc ls (st) h Q = ax_wp ks d M (pc + 3) ls (.long 64 :: st) h Q := wp_n hd (by rw [ex_ldc2_w, if_pos ⟨M1, rfl⟩]; rfl)
theorem wp_iload_n {k : Fin 4} {x : Int32} (hd : decode M.2.2.1 pc = .ok (.iload_n k, 1)) (hi : ls[(k : Nat)]? = some (some (.int x))) : ax_wp ks d M pc ls (st) h Q = ax_wp ks d M (pc + 1) ls (.int x :: st) h Q := wp_n hd (by rw [ex_iload_n]; simp [ax_ldi, hi, ax_go])
theorem wp_iload {k : Nat} {x : Int32} (hd : decode M.2.2.1 pc = .ok (.iload k, 2)) (hi : ls[k]? = some (some (.int x))) : ax_wp ks d M pc ls (st) h Q = ax_wp ks d M (pc + 2) ls (.int x :: st) h Q := wp_n hd (by rw [ex_iload]; simp [ax_ldi, hi, ax_go])
theorem wp_lload_n {k : Fin 4} {x : Int64} (hd : decode M.2.2.1 pc = .ok (.lload_n k, 1)) (hi : ls[(k : Nat)]? = some (some (.long x))) : ax_wp ks d M pc ls (st) h Q = ax_wp ks d M (pc + 1) ls (.long x :: st) h Q := wp_n hd (by rw [ex_lload_n]; simp [ax_ldl, hi, ax_go])
theorem wp_lload {k : Nat} {x : Int64} (hd : decode M.2.2.1 pc = .ok (.lload k, 2)) (hi : ls[k]? = some (some (.long x))) : ax_wp ks d M pc ls (st) h Q = ax_wp ks d M (pc + 2) ls (.long x :: st) h Q := wp_n hd (by rw [ex_lload]; simp [ax_ldl, hi, ax_go])
theorem wp_aload_n {k : Fin 4} {x : Nat} (hd : decode M.2.2.1 pc = .ok (.aload_n k, 1)) (hi : ls[(k : Nat)]? = some (some (.ref x))) : ax_wp ks d M pc ls (st) h Q = ax_wp ks d M (pc + 1) ls (.ref x :: st) h Q := wp_n hd (by rw [ex_aload_n]; simp [ax_lda, hi, ax_go])
theorem wp_istore_n {k : Fin 4} {x : Int32} (hd : decode M.2.2.1 pc = .ok (.istore_n k, 1)) (hi : (k : Nat) < ls.length) (hl : ax_s1 ls k (.int x) = ls') : ax_wp ks d M pc ls (.int x :: st) h Q = ax_wp ks d M (pc + 1) ls' st h Q := by subst hl; exact wp_n hd (by rw [ex_istore_n]; simp [ax_sti, hi])
theorem wp_istore {k : Nat} {x : Int32} (hd : decode M.2.2.1 pc = .ok (.istore k, 2)) (hi : k < ls.length) (hl : ax_s1 ls k (.int x) = ls') : ax_wp ks d M pc ls (.int x :: st) h Q = ax_wp ks d M (pc + 2) ls' st h Q := by subst hl; exact wp_n hd (by rw [ex_istore]; simp [ax_sti, hi])
theorem wp_lstore_n {k : Fin 4} {x : Int64} (hd : decode M.2.2.1 pc = .ok (.lstore_n k, 1)) (hi : (k : Nat) + 1 < ls.length) (hl : ax_s2 ls k (.long x) = ls') : ax_wp ks d M pc ls (.long x :: st) h Q = ax_wp ks d M (pc + 1) ls' st h Q := by subst hl; exact wp_n hd (by rw [ex_lstore_n]; simp [ax_stl, hi])
theorem wp_lstore {k : Nat} {x : Int64} (hd : decode M.2.2.1 pc = .ok (.lstore k, 2)) (hi : k + 1 < ls.length) (hl : ax_s2 ls k (.long x) = ls') : ax_wp ks d M pc ls (.long x :: st) h Q = ax_wp ks d M (pc + 2) ls' st h Q := by subst hl; exact wp_n hd (by rw [ex_lstore]; simp [ax_stl, hi])
theorem wp_astore_n {k : Fin 4} {x : Nat} (hd : decode M.2.2.1 pc = .ok (.astore_n k, 1)) (hi : (k : Nat) < ls.length) (hl : ax_s1 ls k (.ref x) = ls') : ax_wp ks d M pc ls (.ref x :: st) h Q = ax_wp ks d M (pc + 1) ls' st h Q := by subst hl; exact wp_n hd (by rw [ex_astore_n]; simp [ax_sta, hi])
theorem wp_iinc {k : Nat} {n : Int} {v x : Int32} (hd : decode M.2.2.1 pc = .ok (.iinc k n, 3)) (hv : Int32.ofInt n = v) (hi : ls[k]? = some (some (.int x))) (hl : ax_s1 ls k (.int (x + v)) = ls') : ax_wp ks d M pc ls st h Q = ax_wp ks d M (pc + 3) ls' st h Q := by subst hl; subst hv; exact wp_n hd (by rw [ex_iinc]; simp [ax_inc, hi])
theorem wp_iadd {x y : Int32} (hd : decode M.2.2.1 pc = .ok (.iadd, 1)) : ax_wp ks d M pc ls (.int y :: .int x :: st) h Q = ax_wp ks d M (pc + 1) ls (.int (x + y) :: st) h Q := wp_n hd rfl
theorem wp_isub {x y : Int32} (hd : decode M.2.2.1 pc = .ok (.isub, 1)) : ax_wp ks d M pc ls (.int y :: .int x :: st) h Q = ax_wp ks d M (pc + 1) ls (.int (x - y) :: st) h Q := wp_n hd rfl
theorem wp_imul {x y : Int32} (hd : decode M.2.2.1 pc = .ok (.imul, 1)) : ax_wp ks d M pc ls (.int y :: .int x :: st) h Q = ax_wp ks d M (pc + 1) ls (.int (x * y) :: st) h Q := wp_n hd rfl
theorem wp_iand {x y : Int32} (hd : decode M.2.2.1 pc = .ok (.iand, 1)) : ax_wp ks d M pc ls (.int y :: .int x :: st) h Q = ax_wp ks d M (pc + 1) ls (.int (x &&& y) :: st) h Q := wp_n hd rfl
theorem wp_ior {x y : Int32} (hd : decode M.2.2.1 pc = .ok (.ior, 1)) : ax_wp ks d M pc ls (.int y :: .int x :: st) h Q = ax_wp ks d M (pc + 1) ls (.int (x ||| y) :: st) h Q := wp_n hd rfl
theorem wp_ishl {x y : Int32} (hd : decode M.2.2.1 pc = .ok (.ishl, 1)) : ax_wp ks d M pc ls (.int y :: .int x :: st) h Q = ax_wp ks d M (pc + 1) ls (.int (x <<< (y &&& 31)) :: st) h Q := wp_n hd rfl
theorem wp_ishr {x y : Int32} (hd : decode M.2.2.1 pc = .ok (.ishr, 1)) : ax_wp ks d M pc ls (.int y :: .int x :: st) h Q = ax_wp ks d M (pc + 1) ls (.int (x >>> (y &&& 31)) :: st) h Q := wp_n hd rfl
theorem wp_iushr {x y : Int32} (hd : decode M.2.2.1 pc = .ok (.iushr, 1)) : ax_wp ks d M pc ls (.int y :: .int x :: st) h Q = ax_wp ks d M (pc + 1) ls (.int ((x.toUInt32 >>> (y.toUInt32 &&& Int32.toUInt32 31)).toInt32) :: st) h Q := wp_n hd rfl
theorem wp_ladd {x y : Int64} (hd : decode M.2.2.1 pc = .ok (.ladd, 1)) : ax_wp ks d M pc ls (.long y :: .long x :: st) h Q = ax_wp ks d M (pc + 1) ls (.long (x + y) :: st) h Q := wp_n hd rfl
theorem wp_lsub {x y : Int64} (hd : decode M.2.2.1 pc = .ok (.lsub, 1)) : ax_wp ks d M pc ls (.long y :: .long x :: st) h Q = ax_wp ks d M (pc + 1) ls (.long (x - y) :: st) h Q := wp_n hd rfl
theorem wp_lmul {x y : Int64} (hd : decode M.2.2.1 pc = .ok (.lmul, 1)) : ax_wp ks d M pc ls (.long y :: .long x :: st) h Q = ax_wp ks d M (pc + 1) ls (.long (x * y) :: st) h Q := wp_n hd rfl
theorem wp_land {x y : Int64} (hd : decode M.2.2.1 pc = .ok (.land, 1)) : ax_wp ks d M pc ls (.long y :: .long x :: st) h Q = ax_wp ks d M (pc + 1) ls (.long (x &&& y) :: st) h Q := wp_n hd rfl
theorem wp_lor {x y : Int64} (hd : decode M.2.2.1 pc = .ok (.lor, 1)) : ax_wp ks d M pc ls (.long y :: .long x :: st) h Q = ax_wp ks d M (pc + 1) ls (.long (x ||| y) :: st) h Q := wp_n hd rfl
theorem wp_lcmp {x y : Int64} (hd : decode M.2.2.1 pc = .ok (.lcmp, 1)) : ax_wp ks d M pc ls (.long y :: .long x :: st) h Q = ax_wp ks d M (pc + 1) ls (.int (lg_cmp x y) :: st) h Q := wp_n hd rfl
theorem wp_lshl {x : Int64} {y : Int32} (hd : decode M.2.2.1 pc = .ok (.lshl, 1)) : ax_wp ks d M pc ls (.int y :: .long x :: st) h Q = ax_wp ks d M (pc + 1) ls (.long (x <<< (y.toInt64 &&& 63)) :: st) h Q := wp_n hd rfl
theorem wp_lushr {x : Int64} {y : Int32} (hd : decode M.2.2.1 pc = .ok (.lushr, 1)) : ax_wp ks d M pc ls (.int y :: .long x :: st) h Q = ax_wp ks d M (pc + 1) ls (.long (x.toUInt64 >>> (y.toInt64.toUInt64 &&& Int64.toUInt64 63)).toInt64 :: st) h Q := wp_n hd rfl
theorem wp_i2l {x : Int32} (hd : decode M.2.2.1 pc = .ok (.i2l, 1)) : ax_wp ks d M pc ls (.int x :: st) h Q = ax_wp ks d M (pc + 1) ls (.long x.toInt64 :: st) h Q := wp_n hd rfl
theorem wp_l2i {x : Int64} (hd : decode M.2.2.1 pc = .ok (.l2i, 1)) : ax_wp ks d M pc ls (.long x :: st) h Q = ax_wp ks d M (pc + 1) ls (.int x.toInt32 :: st) h Q := wp_n hd rfl
theorem wp_idiv {x y : Int32} (hd : decode M.2.2.1 pc = .ok (.idiv, 1)) : ax_wp ks d M pc ls (.int y :: .int x :: st) h Q = (¬ y = 0 ∧ ax_wp ks d M (pc + 1) ls (.int (x / y) :: st) h Q) := wp_if hd (fun hP => by rw [ex_idiv]; simp [ax_i2, ax_go, hP]) (fun hP => by rw [ex_idiv]; simp at hP; simp [ax_i2, ax_go, hP])
theorem wp_irem {x y : Int32} (hd : decode M.2.2.1 pc = .ok (.irem, 1)) : ax_wp ks d M pc ls (.int y :: .int x :: st) h Q = (¬ y = 0 ∧ ax_wp ks d M (pc + 1) ls (.int (x - x / y * y) :: st) h Q) := wp_if hd (fun hP => by rw [ex_irem]; simp [ax_i2, ax_go, hP]) (fun hP => by rw [ex_irem]; simp at hP; simp [ax_i2, ax_go, hP])
theorem wp_ldiv {x y : Int64} (hd : decode M.2.2.1 pc = .ok (.ldiv, 1)) : ax_wp ks d M pc ls (.long y :: .long x :: st) h Q = (¬ y = 0 ∧ ax_wp ks d M (pc + 1) ls (.long (x / y) :: st) h Q) := wp_if hd (fun hP => by rw [ex_ldiv]; simp [ax_l2, ax_go, hP]) (fun hP => by rw [ex_ldiv]; simp at hP; simp [ax_l2, ax_go, hP])
theorem wp_lrem {x y : Int64} (hd : decode M.2.2.1 pc = .ok (.lrem, 1)) : ax_wp ks d M pc ls (.long y :: .long x :: st) h Q = (¬ y = 0 ∧ ax_wp ks d M (pc + 1) ls (.long (x - x / y * y) :: st) h Q) := wp_if hd (fun hP => by rw [ex_lrem]; simp [ax_l2, ax_go, hP]) (fun hP => by rw [ex_lrem]; simp at hP; simp [ax_l2, ax_go, hP])
theorem wp_dup_int {x : Int32} (hd : decode M.2.2.1 pc = .ok (.dup, 1)) : ax_wp ks d M pc ls (.int x :: st) h Q = ax_wp ks d M (pc + 1) ls (.int x :: .int x :: st) h Q := wp_n hd rfl
theorem wp_pop_int {x : Int32} (hd : decode M.2.2.1 pc = .ok (.pop, 1)) : ax_wp ks d M pc ls (.int x :: st) h Q = ax_wp ks d M (pc + 1) ls st h Q := wp_n hd rfl
theorem wp_dup_ref {x : Nat} (hd : decode M.2.2.1 pc = .ok (.dup, 1)) : ax_wp ks d M pc ls (.ref x :: st) h Q = ax_wp ks d M (pc + 1) ls (.ref x :: .ref x :: st) h Q := wp_n hd rfl
theorem wp_pop_ref {x : Nat} (hd : decode M.2.2.1 pc = .ok (.pop, 1)) : ax_wp ks d M pc ls (.ref x :: st) h Q = ax_wp ks d M (pc + 1) ls st h Q := wp_n hd rfl
theorem wp_dup2 {x : Int32} {y : Nat} (hd : decode M.2.2.1 pc = .ok (.dup2, 1)) : ax_wp ks d M pc ls (.int x :: .ref y :: st) h Q = ax_wp ks d M (pc + 1) ls (.int x :: .ref y :: .int x :: .ref y :: st) h Q := wp_n hd rfl
theorem wp_if_eq {x : Int32} {off : Int} {tgt : Nat} (hd : decode M.2.2.1 pc = .ok (.ifCond .eq off, 3)) (ht : (pc : Int) + off = (tgt : Int)) : ax_wp ks d M pc ls (.int x :: st) h Q = (if x = 0 then ax_wp ks d M tgt ls st h Q else ax_wp ks d M (pc + 3) ls st h Q) := by
  have ht2 : ax_tg pc off = tgt := by unfold ax_tg; rw [ht]; rfl
  have h0 : 0 ≤ (pc : Int) + off := by rw [ht]; omega
  rw [wp_n (pc' := if ax_cc .eq x 0 = true then tgt else pc + 3) (ls' := ls) (st' := st) (h' := h) hd (by rw [ex_ifCond]; simp [ax_br1, h0, ht2])]
  by_cases hc : x = 0 <;> simp [ax_cc, hc]
theorem wp_ic_eq {x y : Int32} {off : Int} {tgt : Nat} (hd : decode M.2.2.1 pc = .ok (.if_icmp .eq off, 3)) (ht : (pc : Int) + off = (tgt : Int)) : ax_wp ks d M pc ls (.int y :: .int x :: st) h Q = (if x = y then ax_wp ks d M tgt ls st h Q else ax_wp ks d M (pc + 3) ls st h Q) := by
  have ht2 : ax_tg pc off = tgt := by unfold ax_tg; rw [ht]; rfl
  have h0 : 0 ≤ (pc : Int) + off := by rw [ht]; omega
  rw [wp_n (pc' := if ax_cc .eq x y = true then tgt else pc + 3) (ls' := ls) (st' := st) (h' := h) hd (by rw [ex_if_icmp]; simp [ax_br2, h0, ht2])]
  by_cases hc : x = y <;> simp [ax_cc, hc]
theorem wp_if_ne {x : Int32} {off : Int} {tgt : Nat} (hd : decode M.2.2.1 pc = .ok (.ifCond .ne off, 3)) (ht : (pc : Int) + off = (tgt : Int)) : ax_wp ks d M pc ls (.int x :: st) h Q = (if x = 0 then ax_wp ks d M (pc + 3) ls st h Q else ax_wp ks d M tgt ls st h Q) := by
  have ht2 : ax_tg pc off = tgt := by unfold ax_tg; rw [ht]; rfl
  have h0 : 0 ≤ (pc : Int) + off := by rw [ht]; omega
  rw [wp_n (pc' := if ax_cc .ne x 0 = true then tgt else pc + 3) (ls' := ls) (st' := st) (h' := h) hd (by rw [ex_ifCond]; simp [ax_br1, h0, ht2])]
  by_cases hc : x = 0 <;> simp [ax_cc, hc]
theorem wp_ic_ne {x y : Int32} {off : Int} {tgt : Nat} (hd : decode M.2.2.1 pc = .ok (.if_icmp .ne off, 3)) (ht : (pc : Int) + off = (tgt : Int)) : ax_wp ks d M pc ls (.int y :: .int x :: st) h Q = (if x = y then ax_wp ks d M (pc + 3) ls st h Q else ax_wp ks d M tgt ls st h Q) := by
  have ht2 : ax_tg pc off = tgt := by unfold ax_tg; rw [ht]; rfl
  have h0 : 0 ≤ (pc : Int) + off := by rw [ht]; omega
  rw [wp_n (pc' := if ax_cc .ne x y = true then tgt else pc + 3) (ls' := ls) (st' := st) (h' := h) hd (by rw [ex_if_icmp]; simp [ax_br2, h0, ht2])]
  by_cases hc : x = y <;> simp [ax_cc, hc]
theorem wp_if_lt {x : Int32} {off : Int} {tgt : Nat} (hd : decode M.2.2.1 pc = .ok (.ifCond .lt off, 3)) (ht : (pc : Int) + off = (tgt : Int)) : ax_wp ks d M pc ls (.int x :: st) h Q = (if x < 0 then ax_wp ks d M tgt ls st h Q else ax_wp ks d M (pc + 3) ls st h Q) := by
  have ht2 : ax_tg pc off = tgt := by unfold ax_tg; rw [ht]; rfl
  have h0 : 0 ≤ (pc : Int) + off := by rw [ht]; omega
  rw [wp_n (pc' := if ax_cc .lt x 0 = true then tgt else pc + 3) (ls' := ls) (st' := st) (h' := h) hd (by rw [ex_ifCond]; simp [ax_br1, h0, ht2])]
  by_cases hc : x < 0 <;> simp [ax_cc, hc]
theorem wp_ic_lt {x y : Int32} {off : Int} {tgt : Nat} (hd : decode M.2.2.1 pc = .ok (.if_icmp .lt off, 3)) (ht : (pc : Int) + off = (tgt : Int)) : ax_wp ks d M pc ls (.int y :: .int x :: st) h Q = (if x < y then ax_wp ks d M tgt ls st h Q else ax_wp ks d M (pc + 3) ls st h Q) := by
  have ht2 : ax_tg pc off = tgt := by unfold ax_tg; rw [ht]; rfl
  have h0 : 0 ≤ (pc : Int) + off := by rw [ht]; omega
  rw [wp_n (pc' := if ax_cc .lt x y = true then tgt else pc + 3) (ls' := ls) (st' := st) (h' := h) hd (by rw [ex_if_icmp]; simp [ax_br2, h0, ht2])]
  by_cases hc : x < y <;> simp [ax_cc, hc]
theorem wp_if_ge {x : Int32} {off : Int} {tgt : Nat} (hd : decode M.2.2.1 pc = .ok (.ifCond .ge off, 3)) (ht : (pc : Int) + off = (tgt : Int)) : ax_wp ks d M pc ls (.int x :: st) h Q = (if 0 ≤ x then ax_wp ks d M tgt ls st h Q else ax_wp ks d M (pc + 3) ls st h Q) := by
  have ht2 : ax_tg pc off = tgt := by unfold ax_tg; rw [ht]; rfl
  have h0 : 0 ≤ (pc : Int) + off := by rw [ht]; omega
  rw [wp_n (pc' := if ax_cc .ge x 0 = true then tgt else pc + 3) (ls' := ls) (st' := st) (h' := h) hd (by rw [ex_ifCond]; simp [ax_br1, h0, ht2])]
  by_cases hc : 0 ≤ x <;> simp [ax_cc, hc]
theorem wp_ic_ge {x y : Int32} {off : Int} {tgt : Nat} (hd : decode M.2.2.1 pc = .ok (.if_icmp .ge off, 3)) (ht : (pc : Int) + off = (tgt : Int)) : ax_wp ks d M pc ls (.int y :: .int x :: st) h Q = (if y ≤ x then ax_wp ks d M tgt ls st h Q else ax_wp ks d M (pc + 3) ls st h Q) := by
  have ht2 : ax_tg pc off = tgt := by unfold ax_tg; rw [ht]; rfl
  have h0 : 0 ≤ (pc : Int) + off := by rw [ht]; omega
  rw [wp_n (pc' := if ax_cc .ge x y = true then tgt else pc + 3) (ls' := ls) (st' := st) (h' := h) hd (by rw [ex_if_icmp]; simp [ax_br2, h0, ht2])]
  by_cases hc : y ≤ x <;> simp [ax_cc, hc]
theorem wp_if_gt {x : Int32} {off : Int} {tgt : Nat} (hd : decode M.2.2.1 pc = .ok (.ifCond .gt off, 3)) (ht : (pc : Int) + off = (tgt : Int)) : ax_wp ks d M pc ls (.int x :: st) h Q = (if 0 < x then ax_wp ks d M tgt ls st h Q else ax_wp ks d M (pc + 3) ls st h Q) := by
  have ht2 : ax_tg pc off = tgt := by unfold ax_tg; rw [ht]; rfl
  have h0 : 0 ≤ (pc : Int) + off := by rw [ht]; omega
  rw [wp_n (pc' := if ax_cc .gt x 0 = true then tgt else pc + 3) (ls' := ls) (st' := st) (h' := h) hd (by rw [ex_ifCond]; simp [ax_br1, h0, ht2])]
  by_cases hc : 0 < x <;> simp [ax_cc, hc]
theorem wp_ic_gt {x y : Int32} {off : Int} {tgt : Nat} (hd : decode M.2.2.1 pc = .ok (.if_icmp .gt off, 3)) (ht : (pc : Int) + off = (tgt : Int)) : ax_wp ks d M pc ls (.int y :: .int x :: st) h Q = (if y < x then ax_wp ks d M tgt ls st h Q else ax_wp ks d M (pc + 3) ls st h Q) := by
  have ht2 : ax_tg pc off = tgt := by unfold ax_tg; rw [ht]; rfl
  have h0 : 0 ≤ (pc : Int) + off := by rw [ht]; omega
  rw [wp_n (pc' := if ax_cc .gt x y = true then tgt else pc + 3) (ls' := ls) (st' := st) (h' := h) hd (by rw [ex_if_icmp]; simp [ax_br2, h0, ht2])]
  by_cases hc : y < x <;> simp [ax_cc, hc]
theorem wp_if_le {x : Int32} {off : Int} {tgt : Nat} (hd : decode M.2.2.1 pc = .ok (.ifCond .le off, 3)) (ht : (pc : Int) + off = (tgt : Int)) : ax_wp ks d M pc ls (.int x :: st) h Q = (if x ≤ 0 then ax_wp ks d M tgt ls st h Q else ax_wp ks d M (pc + 3) ls st h Q) := by
  have ht2 : ax_tg pc off = tgt := by unfold ax_tg; rw [ht]; rfl
  have h0 : 0 ≤ (pc : Int) + off := by rw [ht]; omega
  rw [wp_n (pc' := if ax_cc .le x 0 = true then tgt else pc + 3) (ls' := ls) (st' := st) (h' := h) hd (by rw [ex_ifCond]; simp [ax_br1, h0, ht2])]
  by_cases hc : x ≤ 0 <;> simp [ax_cc, hc]
theorem wp_ic_le {x y : Int32} {off : Int} {tgt : Nat} (hd : decode M.2.2.1 pc = .ok (.if_icmp .le off, 3)) (ht : (pc : Int) + off = (tgt : Int)) : ax_wp ks d M pc ls (.int y :: .int x :: st) h Q = (if x ≤ y then ax_wp ks d M tgt ls st h Q else ax_wp ks d M (pc + 3) ls st h Q) := by
  have ht2 : ax_tg pc off = tgt := by unfold ax_tg; rw [ht]; rfl
  have h0 : 0 ≤ (pc : Int) + off := by rw [ht]; omega
  rw [wp_n (pc' := if ax_cc .le x y = true then tgt else pc + 3) (ls' := ls) (st' := st) (h' := h) hd (by rw [ex_if_icmp]; simp [ax_br2, h0, ht2])]
  by_cases hc : x ≤ y <;> simp [ax_cc, hc]
theorem wp_goto {off : Int} {tgt : Nat} (hd : decode M.2.2.1 pc = .ok (.goto off, 3)) (ht : (pc : Int) + off = (tgt : Int)) : ax_wp ks d M pc ls st h Q = ax_wp ks d M tgt ls st h Q := by
  have ht2 : ax_tg pc off = tgt := by unfold ax_tg; rw [ht]; rfl
  have h0 : 0 ≤ (pc : Int) + off := by rw [ht]; omega
  exact wp_n hd (by rw [ex_goto]; simp [ax_jm, h0, ht2])
theorem wp_ireti {x : Int32} (hd : decode M.2.2.1 pc = .ok (.ireturn, 1)) (hr : M.2.2.2.2 = some .int) : ax_wp ks d M pc ls [.int x] h Q = Q (some (.int x)) h := wp_r hd (by rw [ex_ireturn]; simp [ax_ri, hr])
theorem wp_iretz {x : Int32} (hd : decode M.2.2.1 pc = .ok (.ireturn, 1)) (hr : M.2.2.2.2 = some .boolean) : ax_wp ks d M pc ls [.int x] h Q = ((x = 0 ∨ x = 1) ∧ Q (some (.int x)) h) := by
  by_cases hx : x = 0 ∨ x = 1
  · rw [wp_r (v := some (.int x)) hd (by rw [ex_ireturn]; simp [ax_ri, hr, hx])]; simp [hx]
  · rw [wp_0 hd (by rw [ex_ireturn]; simp [ax_ri, hr, hx])]; simp [hx]
theorem wp_lret {x : Int64} (hd : decode M.2.2.1 pc = .ok (.lreturn, 1)) (hr : M.2.2.2.2 = some .long) : ax_wp ks d M pc ls [.long x] h Q = Q (some (.long x)) h := wp_r hd (by rw [ex_lreturn]; simp [ax_rl, hr])
theorem wp_vret (hd : decode M.2.2.1 pc = .ok (.return_, 1)) (hr : M.2.2.2.2 = none) : ax_wp ks d M pc ls [] h Q = Q none h := wp_r hd (by rw [ex_return_]; simp [ax_rv, hr])
theorem wp_min {x y : Int32} (hd : decode M.2.2.1 pc = .ok (.invokestatic 153, 3)) (h1 : M.1 = 1) (hc : ax_ct st ≤ 8) : ax_wp ks d M pc ls (.int y :: .int x :: st) h Q = ax_wp ks d M (pc + 3) ls (.int (if y < x then y else x) :: st) h Q := wp_n hd (by rw [ex_invokestatic, if_pos ⟨h1, rfl⟩]; simp [ax_mi, hc])
theorem wp_lsw {dd : Int} {ps : Array (Int × Int)} {n tgt : Nat} {x : Int32} (hd : decode M.2.2.1 pc = .ok (.lookupswitch dd ps, n)) (hp : (ps.toList.zip (ps.toList.drop 1)).all (fun (a, next) => a.1 < next.1) = true) (ht : (pc : Int) + Op.lookupswitch.offset ps.toList dd x.toInt = (tgt : Int)) : ax_wp ks d M pc ls (.int x :: st) h Q = ax_wp ks d M tgt ls st h Q := by
  have ht2 : ax_tg pc (Op.lookupswitch.offset ps.toList dd x.toInt) = tgt := by unfold ax_tg; rw [ht]; rfl
  have h0 : 0 ≤ (pc : Int) + Op.lookupswitch.offset ps.toList dd x.toInt := by rw [ht]; omega
  exact wp_n hd (by rw [ex_lookupswitch]; unfold ax_lsw; simp only [hp, if_true]; simp [ax_jm, h0, ht2])
theorem wp_tswO {dd lo hi : Int} {os : Array Int} {n tgt : Nat} {x : Int32} (hd : decode M.2.2.1 pc = .ok (.tableswitch dd lo hi os, n)) (ho : x.toInt < lo ∨ hi < x.toInt) (ht : (pc : Int) + dd = (tgt : Int)) : ax_wp ks d M pc ls (.int x :: st) h Q = ax_wp ks d M tgt ls st h Q := by
  have ht2 : ax_tg pc dd = tgt := by unfold ax_tg; rw [ht]; rfl
  have h0 : 0 ≤ (pc : Int) + dd := by rw [ht]; omega
  exact wp_n hd (by rw [ex_tableswitch]; simp [ax_tsw, ho, ax_jm, h0, ht2])
theorem wp_tswI {dd lo hi off : Int} {os : Array Int} {n tgt : Nat} {x : Int32} (hd : decode M.2.2.1 pc = .ok (.tableswitch dd lo hi os, n)) (ho : ¬ (x.toInt < lo ∨ hi < x.toInt)) (hi : os[(x.toInt - lo).toNat]? = some off) (ht : (pc : Int) + off = (tgt : Int)) : ax_wp ks d M pc ls (.int x :: st) h Q = ax_wp ks d M tgt ls st h Q := by
  have ht2 : ax_tg pc off = tgt := by unfold ax_tg; rw [ht]; rfl
  have h0 : 0 ≤ (pc : Int) + off := by rw [ht]; omega
  exact wp_n hd (by rw [ex_tableswitch]; unfold ax_tsw; simp only [ho, if_false, hi]; simp [ax_jm, h0, ht2])
theorem wp_ivc {j b : Nat} {as rest : List Value} {e : ax_M × Bool × Nat × Nat × Nat × Nat × Nat × Nat} (hd : decode M.2.2.1 pc = .ok (.invokevirtual j, 3)) (hm : ax_mlk M.1 j = some e) (hs : e.2.1 = false) (hn : as.length = e.2.2.1) (hst : st = as.reverse ++ .ref b :: rest) (hf : (ax_fl (.ref b :: as)).length ≤ e.1.2.2.2.1) (hen : ax_en e.1.2.2.2.1 (.ref b :: as) = ls') : ax_wp ks (d + 1) M pc ls st h Q = ((ax_kd ks b = (0, e.1.1) ∧ ax_ct rest ≤ 8) ∧ ax_wp ks d e.1 0 ls' [] h (fun v h1 => ax_wp ks (d + 1) M (pc + 3) ls (v.toList ++ rest) h1 Q)) := by
  subst hen hst
  have e1 : (as.reverse ++ Value.ref b :: rest).drop e.2.2.1 = .ref b :: rest := by rw [← hn, ← List.length_reverse (as := as), List.drop_left]
  have e2 : (as.reverse ++ Value.ref b :: rest).take e.2.2.1 = as.reverse := by rw [← hn, ← List.length_reverse (as := as), List.take_left]
  have e3 : e.2.2.1 ≤ (as.reverse ++ Value.ref b :: rest).length := by rw [← hn]; simp
  by_cases hP : ax_kd ks b = (0, e.1.1) ∧ ax_ct rest ≤ 8
  · rw [wp_k (M' := e.1) (as := .ref b :: as) (rest := rest) hd (by rw [ex_invokevirtual]; unfold ax_iv; simp only [hm, hs, e1, e2, List.reverse_reverse]; rw [if_pos ⟨trivial, e3⟩, if_pos ⟨(kd_some (by decide)).mpr hP.1, hP.2, hf⟩])]
    simp [hP]
  · rw [wp_0 hd (by rw [ex_invokevirtual]; unfold ax_iv; simp only [hm, hs, e1, e2, List.reverse_reverse]; rw [if_pos ⟨trivial, e3⟩, if_neg (fun hh => hP ⟨(kd_some (by decide)).mp hh.1, hh.2.1⟩)])]
    simp [hP]
theorem wp_isc {j : Nat} {as rest : List Value} {e : ax_M × Bool × Nat × Nat × Nat × Nat × Nat × Nat} (hd : decode M.2.2.1 pc = .ok (.invokestatic j, 3)) (h1 : ¬ (M.1 = 1 ∧ j = 153)) (hm : ax_mlk M.1 j = some e) (hs : e.2.1 = true) (hn : as.length = e.2.2.1) (hst : st = as.reverse ++ rest) (hf : (ax_fl as).length ≤ e.1.2.2.2.1) (hen : ax_en e.1.2.2.2.1 as = ls') : ax_wp ks (d + 1) M pc ls st h Q = (ax_ct rest ≤ 8 ∧ ax_wp ks d e.1 0 ls' [] h (fun v h1 => ax_wp ks (d + 1) M (pc + 3) ls (v.toList ++ rest) h1 Q)) := by
  subst hen hst
  have e1 : (as.reverse ++ rest).drop e.2.2.1 = rest := by rw [← hn, ← List.length_reverse (as := as), List.drop_left]
  have e2 : (as.reverse ++ rest).take e.2.2.1 = as.reverse := by rw [← hn, ← List.length_reverse (as := as), List.take_left]
  have e3 : e.2.2.1 ≤ (as.reverse ++ rest).length := by rw [← hn]; simp
  by_cases hP : ax_ct rest ≤ 8
  · rw [wp_k (M' := e.1) (as := as) (rest := rest) hd (by rw [ex_invokestatic, if_neg h1]; unfold ax_is; simp only [hm, hs, e1, e2, List.reverse_reverse]; rw [if_pos ⟨trivial, e3, hP, hf⟩])]
    simp [hP]
  · rw [wp_0 hd (by rw [ex_invokestatic, if_neg h1]; unfold ax_is; simp only [hm, hs, e1, e2, List.reverse_reverse]; rw [if_neg (fun hh => hP hh.2.2.1)])]
    simp [hP]
end AXWP
end
